abbrev w_X6_guard (G : XG) (ko : Nat) (ad : Nat → Nat) (w h la tp : Nat) (ft tr : Int32) (mv : Nat → Int32) (S mk : Nat → Int32) (vs : Nat → Int32) : va_W := [oC ko 6 [.ref (ad 0), .ref (ad 1), .int (nI w), .int (nI h), .int (nI la), .ref (ad 2), .int (mv 0), .int (mv 1), .int (mv 2), .int (mv 3), .int (mv 4), .int (mv 5), .int (mv 6), .ref (ad 3), .int (nI tp), .int (mv 7), .int (mv 8), .int (mv 9), .int (mv 10), .int ft, .int (mv 11), .ref (ad 4), .ref (ad 5), .ref (ad 6), .ref (ad 7), .ref (ad 8), .ref (ad 9), .ref (ad 10), .int tr], iA G (ad 0) 255 S, iA G (ad 4) 16 mk, iA G (ad 6) 160 vs]
abbrev Q_X6_guard (G : XG) (sz : Nat) (ko : Nat) (ad : Nat → Nat) (w h la tp : Nat) (ft tr : Int32) (mv : Nat → Int32) (S mk : Nat → Int32) (nc : Nat) (vs : Nat → Int32) (d a : Int32) : Array Value → State → Outcome → State → Prop := (va_Qi (fun (r : Int32) (u : (Nat → Int32) × (Nat → Int32)) => r = (if inR d (la + 1) ∧ inR a 2 then (if a = 0 then (swF (fun s => decide (uniF (fun x => sgM w h S nc x (tn d)) s (w * h) = nI (2 ^ (w * h) - 1))) (2 ^ (w * h))).1 else (swF (fun s => decide (uniF (fun x => sgM w h S nc x (tn d)) s (w * h) = nI (2 ^ (w * h) - 1))) (2 ^ (w * h))).2) else (-1))) (xWb G sz (w_X6_guard G ko ad w h la tp ft tr mv S mk vs) (fun u : (Nat → Int32) × (Nat → Int32) => [oC ko 6 [.ref (ad 0), .ref (ad 1), .int (nI w), .int (nI h), .int (nI la), .ref (ad 2), .int (mv 0), .int (mv 1), .int (mv 2), .int (mv 3), .int (mv 4), .int (mv 5), .int (mv 6), .ref (ad 3), .int (nI tp), .int (mv 7), .int (mv 8), .int (mv 9), .int (mv 10), .int ft, .int (mv 11), .ref (ad 4), .ref (ad 5), .ref (ad 6), .ref (ad 7), .ref (ad 8), .ref (ad 9), .ref (ad 10), .int tr], iA G (ad 0) 255 S, iA G (ad 4) 16 u.1, iA G (ad 6) 160 u.2])) (va_A (w_X6_guard G ko ad w h la tp ft tr mv S mk vs) sz))
set_option maxHeartbeats 4000000 in
set_option maxRecDepth 100000 in
theorem c_X6_guard (l : Launch) (G : XG) (sz : Nat) (ko : Nat) (ad : Nat → Nat) (w h la tp : Nat) (ft tr : Int32) (mv : Nat → Int32) (S mk : Nat → Int32) (nc : Nat) (vs : Nat → Int32) (d a : Int32) (hw : 1 ≤ w) (hwb : w ≤ 16) (hhb : h ≤ 16) (hwh1 : 1 ≤ w * h) (hwh : w * h ≤ 16) (hla : la ≤ 9) (hs16 : S 16 = nI nc) (hnc : nc ≤ 10) : Met l yX6_guard wsX6_guard ({ frames := 4, cells := 0, slots := 0, locals := 89 } : Room) (va_Pc [.ref ko, .int d, .int a] (xWp G sz (w_X6_guard G ko ad w h la tp ft tr mv S mk vs))) (Q_X6_guard G sz ko ad w h la tp ft tr mv S mk nc vs d a) 0 0 (va_A (w_X6_guard G ko ad w h la tp ft tr mv S mk vs) sz) := by
  refine Met.ofW (cc := cX6_guard) (maxL := 10) (ret := (some .int)) (by decide) rfl ?_
  intro pp ee ss mm aa below mt cd s₁ BB hml hv
  obtain ⟨rfl, hsz, hP, hK, hD0⟩ := hv
  have hx := BB.exec
  have hb := BB.bytes
  have hr := BB.returns
  have hts := atoms_spec (ws := wsX6_guard) BB.pre
  have hown : ss.vm.findClass RX6 = some mm.cls := findClass_of_methodNamed BB.named
  have hlocks := BB.notSynchronized
  subst hsz
  have hD := hD0.self (sz := ss.heap.size)
  have hA : ∀ q : Nat, ss.heap.size ≤ q → va_A (w_X6_guard G ko ad w h la tp ft tr mv S mk vs) ss.heap.size q := fun q h => Or.inr h
  have hS : va_S (va_A (w_X6_guard G ko ad w h la tp ft tr mv S mk vs) ss.heap.size) ss.heap ss.heap [] := va_S.rf
  replace hD : va_D (va_A (w_X6_guard G ko ad w h la tp ft tr mv S mk vs) ss.heap.size) [oC ko 6 [.ref (ad 0), .ref (ad 1), .int (nI w), .int (nI h), .int (nI la), .ref (ad 2), .int (mv 0), .int (mv 1), .int (mv 2), .int (mv 3), .int (mv 4), .int (mv 5), .int (mv 6), .ref (ad 3), .int (nI tp), .int (mv 7), .int (mv 8), .int (mv 9), .int (mv 10), .int ft, .int (mv 11), .ref (ad 4), .ref (ad 5), .ref (ad 6), .ref (ad 7), .ref (ad 8), .ref (ad 9), .ref (ad 10), .int tr], iA G (ad 0) 255 S, iA G (ad 4) 16 mk, iA G (ad 6) 160 vs] := hD
  replace hP : xP G [oC ko 6 [.ref (ad 0), .ref (ad 1), .int (nI w), .int (nI h), .int (nI la), .ref (ad 2), .int (mv 0), .int (mv 1), .int (mv 2), .int (mv 3), .int (mv 4), .int (mv 5), .int (mv 6), .ref (ad 3), .int (nI tp), .int (mv 7), .int (mv 8), .int (mv 9), .int (mv 10), .int ft, .int (mv 11), .ref (ad 4), .ref (ad 5), .ref (ad 6), .ref (ad 7), .ref (ad 8), .ref (ad 9), .ref (ad 10), .int tr], iA G (ad 0) 255 S, iA G (ad 4) 16 mk, iA G (ad 6) 160 vs] ss.heap := hP
  have hin6 : ∀ w ∈ u_ws RX6 TX6 29, w ∈ wsX6_guard := fun w h => List.mem_cons_of_mem _ (List.mem_append_right _ h)
  have hl := lv_entry ([.ref ko, .int d, .int a]) (n := 10) (Nat.le_of_ble_eq_true rfl)
  rw [lg_entry_eq]
  generalize (lg_sl ([.ref ko, .int d, .int a]) ++ List.replicate (10 - (lg_sl ([.ref ko, .int d, .int a])).length) Slot.unset).toArray = ls at hl ⊢
  replace hl : lv_has ls 10 [(0, .ref ko), (1, .int d), (2, .int a)] := hl
  refine lv_aload_n hx hb dX6_guard_0 rfl (lv_at hl 0 rfl) ?_
  refine lv_iload_n hx hb dX6_guard_1 rfl (lv_at hl 1 rfl) ?_
  refine xr_i (As := [.int d]) (rest := []) ⟨hx, hb, hml, hown, hts⟩ (c_X6_isDay l G ko ad w h la tp ft tr mv d (by first | assumption | omega)) (cwV 1 hts gX6_guard_X6_isDay rfl rfl rfl (by decide +kernel) ⟨Nat.le_of_ble_eq_true rfl, Nat.le_of_ble_eq_true rfl⟩) hK hP hS [0] rfl rfl rfl rfl hl.1 rfl (Nat.le_of_ble_eq_true rfl) dX6_guard_2 ⟨Nat.zero_le _, Nat.zero_le _⟩ (fun r2 H locs hp2 hP hS => ?_)
  rw [show r2 = _ from hp2]
  refine xb_if_eq (tgt := 15) hx hb dX6_guard_5 rfl (fun b5 => ?_) (fun b5 => ?_)
  · skip
    refine lv_iconst (v := (-1)) hx hb dX6_guard_15 (by decide) ?_
    have hP := hP.sub (ws' := [oC ko 6 [.ref (ad 0), .ref (ad 1), .int (nI w), .int (nI h), .int (nI la), .ref (ad 2), .int (mv 0), .int (mv 1), .int (mv 2), .int (mv 3), .int (mv 4), .int (mv 5), .int (mv 6), .ref (ad 3), .int (nI tp), .int (mv 7), .int (mv 8), .int (mv 9), .int (mv 10), .int ft, .int (mv 11), .ref (ad 4), .ref (ad 5), .ref (ad 6), .ref (ad 7), .ref (ad 8), .ref (ad 9), .ref (ad 10), .int tr], iA G (ad 0) 255 S, iA G (ad 4) 16 mk, iA G (ad 6) 160 vs]) [0, 1, 2, 3] rfl
    have hD := hD.sub (ws' := [oC ko 6 [.ref (ad 0), .ref (ad 1), .int (nI w), .int (nI h), .int (nI la), .ref (ad 2), .int (mv 0), .int (mv 1), .int (mv 2), .int (mv 3), .int (mv 4), .int (mv 5), .int (mv 6), .ref (ad 3), .int (nI tp), .int (mv 7), .int (mv 8), .int (mv 9), .int (mv 10), .int ft, .int (mv 11), .ref (ad 4), .ref (ad 5), .ref (ad 6), .ref (ad 7), .ref (ad 8), .ref (ad 9), .ref (ad 10), .int tr], iA G (ad 0) 255 S, iA G (ad 4) 16 mk, iA G (ad 6) 160 vs]) [0, 1, 2, 3] (by decide) rfl
    refine W.iret (v := (-1)) hx hb hr (fun t ht hW => ⟨⟨(-1), (mk, vs), rfl, ?_, by rw [ht]; exact hP, hD⟩, hS.F ht⟩) hS.2.2 dX6_guard_16
    try dsimp only
    first | exact (if_neg (fun q => b5 q.1)).symm | exact (if_neg (fun q => b12 q.2)).symm | (rw [if_pos ⟨inR_nI hd0 (by omega), b12⟩, tn_nI (by omega), show swF (fun s => decide (uniF (fun x => sgM w h S nc x d0) s (w * h) = nI (2 ^ (w * h) - 1))) (2 ^ (w * h)) = (fw, fo) from (by rw [hsw, show s = 2 ^ (w * h) by omega])]; first | exact (if_pos b168).symm | exact (if_neg b168).symm)
  · skip
    refine lv_iload_n hx hb dX6_guard_8 rfl (lv_at hl 2 rfl) ?_
    refine xs_i (As := [.int a]) (rest := []) ⟨hx, hb, hml, hown, hts⟩ (c_X6_isPart l G a ) (va_cwS 1 hts gX6_guard_X6_isPart rfl rfl rfl (by decide +kernel) ⟨Nat.le_of_ble_eq_true rfl, Nat.le_of_ble_eq_true rfl⟩) hP hS rfl hl.1 rfl (Nat.le_of_ble_eq_true rfl) dX6_guard_9 ⟨Nat.zero_le _, Nat.zero_le _⟩ (fun r9 H locs hp9 hP hS => ?_)
    rw [show r9 = _ from hp9]
    refine xb_if_ne (tgt := 17) hx hb dX6_guard_12 rfl (fun b12 => ?_) (fun b12 => ?_)
    · skip
      obtain ⟨d0, hd0, rfl⟩ := inR_nat b5
      obtain ⟨hp1, hp2, hp3⟩ := xs_pow hwh
      refine lv_aload_n hx hb dX6_guard_17 rfl (lv_at hl 0 rfl) ?_
      refine xw_v (As := []) (rest := []) (wr := []) ⟨hx, hb, hml, hown, hts⟩ (c_X6_findViews l G H.size ko ad w h la tp ft tr mv S mk nc vs (by first | assumption | omega) (by first | assumption | omega) (by first | assumption | omega) (by first | assumption | omega) (by first | assumption | omega) (by first | assumption | omega) (by first | assumption | omega) (by first | assumption | omega)) (cwV 0 hts gX6_guard_X6_findViews rfl rfl rfl (by decide +kernel) ⟨Nat.le_of_ble_eq_true rfl, Nat.le_of_ble_eq_true rfl⟩) hK hP hD hS hA [0, 1, 2, 3] [] rfl rfl (by decide) (by decide) (by decide) rfl rfl rfl hl.1 rfl (Nat.le_of_ble_eq_true rfl) dX6_guard_18 ⟨Nat.le_of_ble_eq_true rfl, Nat.le_of_ble_eq_true rfl⟩ (fun u H locs hp18 hP hD hS => ?_)
      obtain ⟨mk2_18, vs2_18⟩ := u
      try dsimp only at hp18 hP hD
      have he18 := hp18
      replace hP : xP G [oC ko 6 [.ref (ad 0), .ref (ad 1), .int (nI w), .int (nI h), .int (nI la), .ref (ad 2), .int (mv 0), .int (mv 1), .int (mv 2), .int (mv 3), .int (mv 4), .int (mv 5), .int (mv 6), .ref (ad 3), .int (nI tp), .int (mv 7), .int (mv 8), .int (mv 9), .int (mv 10), .int ft, .int (mv 11), .ref (ad 4), .ref (ad 5), .ref (ad 6), .ref (ad 7), .ref (ad 8), .ref (ad 9), .ref (ad 10), .int tr], iA G (ad 0) 255 S, iA G (ad 4) 16 mk2_18, iA G (ad 6) 160 vs2_18] H := hP
      replace hD : va_D (va_A (w_X6_guard G ko ad w h la tp ft tr mv S mk vs) ss.heap.size) [oC ko 6 [.ref (ad 0), .ref (ad 1), .int (nI w), .int (nI h), .int (nI la), .ref (ad 2), .int (mv 0), .int (mv 1), .int (mv 2), .int (mv 3), .int (mv 4), .int (mv 5), .int (mv 6), .ref (ad 3), .int (nI tp), .int (mv 7), .int (mv 8), .int (mv 9), .int (mv 10), .int ft, .int (mv 11), .ref (ad 4), .ref (ad 5), .ref (ad 6), .ref (ad 7), .ref (ad 8), .ref (ad 9), .ref (ad 10), .int tr], iA G (ad 0) 255 S, iA G (ad 4) 16 mk2_18, iA G (ad 6) 160 vs2_18] := hD
      refine lv_iconst (v := nI 1) hx hb dX6_guard_21 (by decide) ?_
      refine lv_aload_n hx hb dX6_guard_22 rfl (lv_at hl 0 rfl) ?_
      refine xr_i (As := []) (rest := [.int (nI 1)]) ⟨hx, hb, hml, hown, hts⟩ (c_X6_cellsNow l G ko ad w h la tp ft tr mv ) (cwV 0 hts gX6_guard_X6_cellsNow rfl rfl rfl (by decide +kernel) ⟨Nat.le_of_ble_eq_true rfl, Nat.le_of_ble_eq_true rfl⟩) hK hP hS [0] rfl rfl rfl rfl hl.1 rfl (Nat.le_of_ble_eq_true rfl) dX6_guard_23 ⟨Nat.zero_le _, Nat.zero_le _⟩ (fun r23 H locs hp23 hP hS => ?_)
      rw [show r23 = _ from hp23]
      refine lv_ishl hx hb dX6_guard_26 ?_
      refine xn_top hp1 ?_
      refine lv_iconst (v := nI 1) hx hb dX6_guard_27 (by decide) ?_
      refine xn_isub hx hb (by omega) dX6_guard_28 ?_
      refine lv_istore_n (lv' := [(3, .int (nI ((2 ^ (w * h)) - 1))), (0, .ref ko), (1, .int (nI d0)), (2, .int a)]) hx hb dX6_guard_29 rfl hl (by decide) rfl (fun ls hl => ?_)
      refine lv_ldc (v := nI 1000000) hx hb hown (hts (.constant RX6 246 (nI 1000000)) (List.mem_of_getElem? (i := 1) rfl)) dX6_guard_30 ?_
      refine lv_istore (lv' := [(4, .int (nI 1000000)), (3, .int (nI ((2 ^ (w * h)) - 1))), (0, .ref ko), (1, .int (nI d0)), (2, .int a)]) hx hb dX6_guard_32 hl (by decide) rfl (fun ls hl => ?_)
      refine lv_iconst (v := nI 0) hx hb dX6_guard_34 (by decide) ?_
      refine lv_istore (lv' := [(5, .int (nI 0)), (4, .int (nI 1000000)), (3, .int (nI ((2 ^ (w * h)) - 1))), (0, .ref ko), (1, .int (nI d0)), (2, .int a)]) hx hb dX6_guard_35 hl (by decide) rfl (fun ls hl => ?_)
      refine lv_iconst (v := nI 0) hx hb dX6_guard_37 (by decide) ?_
      refine lv_istore (lv' := [(6, .int (nI 0)), (5, .int (nI 0)), (4, .int (nI 1000000)), (3, .int (nI ((2 ^ (w * h)) - 1))), (0, .ref ko), (1, .int (nI d0)), (2, .int a)]) hx hb dX6_guard_38 hl (by decide) rfl (fun ls hl => ?_)
      have hL40 : ∀ k : Nat, ∀ (s : Nat) (fw : Int32) (fo : Int32) (ls : Array Slot) (H : Heap) (locs : List Loc), 2 ^ (w * h) - s = k → (s ≤ 2 ^ (w * h)) → ((fw, fo) = swF (fun s => decide (uniF (fun x => sgM w h S nc x d0) s (w * h) = nI (2 ^ (w * h) - 1))) s) → lv_has ls 10 [(0, .ref ko), (1, .int (nI d0)), (2, .int a), (3, .int (nI ((2 ^ (w * h)) - 1))), (4, .int fw), (5, .int fo), (6, .int (nI s))] → xP G [iA G (ad 0) 255 S, iA G (ad 4) 16 mk2_18, iA G (ad 6) 160 vs2_18, oC ko 6 [.ref (ad 0), .ref (ad 1), .int (nI w), .int (nI h), .int (nI la), .ref (ad 2), .int (mv 0), .int (mv 1), .int (mv 2), .int (mv 3), .int (mv 4), .int (mv 5), .int (mv 6), .ref (ad 3), .int (nI tp), .int (mv 7), .int (mv 8), .int (mv 9), .int (mv 10), .int ft, .int (mv 11), .ref (ad 4), .ref (ad 5), .ref (ad 6), .ref (ad 7), .ref (ad 8), .ref (ad 9), .ref (ad 10), .int tr]] H → va_D (va_A (w_X6_guard G ko ad w h la tp ft tr mv S mk vs) ss.heap.size) [iA G (ad 0) 255 S, iA G (ad 4) 16 mk2_18, iA G (ad 6) 160 vs2_18, oC ko 6 [.ref (ad 0), .ref (ad 1), .int (nI w), .int (nI h), .int (nI la), .ref (ad 2), .int (mv 0), .int (mv 1), .int (mv 2), .int (mv 3), .int (mv 4), .int (mv 5), .int (mv 6), .ref (ad 3), .int (nI tp), .int (mv 7), .int (mv 8), .int (mv 9), .int (mv 10), .int ft, .int (mv 11), .ref (ad 4), .ref (ad 5), .ref (ad 6), .ref (ad 7), .ref (ad 8), .ref (ad 9), .ref (ad 10), .int tr]] → va_S (va_A (w_X6_guard G ko ad w h la tp ft tr mv S mk vs) ss.heap.size) ss.heap H locs → W pp l ee ({ frames := 4, cells := 0, slots := 0, locals := 89 } : Room) ss mm ([.ref ko, .int (nI d0), .int a] : List Value).toArray below mt cd H locs 0 0 (MQ below (Q_X6_guard G ss.heap.size ko ad w h la tp ft tr mv S mk nc vs (nI d0) a) ([.ref ko, .int (nI d0), .int a] : List Value).toArray ss 0 0 (va_A (w_X6_guard G ko ad w h la tp ft tr mv S mk vs) ss.heap.size)) (F0 mm 40 ls []) := by
        intro k
        induction k using Nat.strongRecOn with
        | _ k ih40 =>
        intro s fw fo ls H locs hm40 hsi hsw hl hP hD hS
        refine lv_iload hx hb dX6_guard_40 (lv_at hl 6 rfl) ?_
        refine lv_iload_n hx hb dX6_guard_42 rfl (lv_at hl 3 rfl) ?_
        refine xn_icmp_gt (tgt := 167) hx hb (by omega) (by omega) dX6_guard_43 rfl (fun b43 => ?_) (fun b43 => ?_)
        · skip
          refine lv_iload_n hx hb dX6_guard_167 rfl (lv_at hl 2 rfl) ?_
          refine lv_if_ne (tgt := 176) hx hb dX6_guard_168 rfl (fun b168 => ?_) (fun b168 => ?_)
          · skip
            refine lv_iload hx hb dX6_guard_176 (lv_at hl 5 rfl) ?_
            have hP := hP.sub (ws' := [oC ko 6 [.ref (ad 0), .ref (ad 1), .int (nI w), .int (nI h), .int (nI la), .ref (ad 2), .int (mv 0), .int (mv 1), .int (mv 2), .int (mv 3), .int (mv 4), .int (mv 5), .int (mv 6), .ref (ad 3), .int (nI tp), .int (mv 7), .int (mv 8), .int (mv 9), .int (mv 10), .int ft, .int (mv 11), .ref (ad 4), .ref (ad 5), .ref (ad 6), .ref (ad 7), .ref (ad 8), .ref (ad 9), .ref (ad 10), .int tr], iA G (ad 0) 255 S, iA G (ad 4) 16 mk2_18, iA G (ad 6) 160 vs2_18]) [3, 0, 1, 2] rfl
            have hD := hD.sub (ws' := [oC ko 6 [.ref (ad 0), .ref (ad 1), .int (nI w), .int (nI h), .int (nI la), .ref (ad 2), .int (mv 0), .int (mv 1), .int (mv 2), .int (mv 3), .int (mv 4), .int (mv 5), .int (mv 6), .ref (ad 3), .int (nI tp), .int (mv 7), .int (mv 8), .int (mv 9), .int (mv 10), .int ft, .int (mv 11), .ref (ad 4), .ref (ad 5), .ref (ad 6), .ref (ad 7), .ref (ad 8), .ref (ad 9), .ref (ad 10), .int tr], iA G (ad 0) 255 S, iA G (ad 4) 16 mk2_18, iA G (ad 6) 160 vs2_18]) [3, 0, 1, 2] (by decide) rfl
            refine W.iret (v := fo) hx hb hr (fun t ht hW => ⟨⟨fo, (mk2_18, vs2_18), rfl, ?_, by rw [ht]; exact hP, hD⟩, hS.F ht⟩) hS.2.2 dX6_guard_178
            try dsimp only
            first | exact (if_neg (fun q => b5 q.1)).symm | exact (if_neg (fun q => b12 q.2)).symm | (rw [if_pos ⟨inR_nI hd0 (by omega), b12⟩, tn_nI (by omega), show swF (fun s => decide (uniF (fun x => sgM w h S nc x d0) s (w * h) = nI (2 ^ (w * h) - 1))) (2 ^ (w * h)) = (fw, fo) from (by rw [hsw, show s = 2 ^ (w * h) by omega])]; first | exact (if_pos b168).symm | exact (if_neg b168).symm)
          · skip
            refine lv_iload hx hb dX6_guard_171 (lv_at hl 4 rfl) ?_
            refine lv_goto (tgt := 178) hx hb dX6_guard_173 rfl ?_
            have hP := hP.sub (ws' := [oC ko 6 [.ref (ad 0), .ref (ad 1), .int (nI w), .int (nI h), .int (nI la), .ref (ad 2), .int (mv 0), .int (mv 1), .int (mv 2), .int (mv 3), .int (mv 4), .int (mv 5), .int (mv 6), .ref (ad 3), .int (nI tp), .int (mv 7), .int (mv 8), .int (mv 9), .int (mv 10), .int ft, .int (mv 11), .ref (ad 4), .ref (ad 5), .ref (ad 6), .ref (ad 7), .ref (ad 8), .ref (ad 9), .ref (ad 10), .int tr], iA G (ad 0) 255 S, iA G (ad 4) 16 mk2_18, iA G (ad 6) 160 vs2_18]) [3, 0, 1, 2] rfl
            have hD := hD.sub (ws' := [oC ko 6 [.ref (ad 0), .ref (ad 1), .int (nI w), .int (nI h), .int (nI la), .ref (ad 2), .int (mv 0), .int (mv 1), .int (mv 2), .int (mv 3), .int (mv 4), .int (mv 5), .int (mv 6), .ref (ad 3), .int (nI tp), .int (mv 7), .int (mv 8), .int (mv 9), .int (mv 10), .int ft, .int (mv 11), .ref (ad 4), .ref (ad 5), .ref (ad 6), .ref (ad 7), .ref (ad 8), .ref (ad 9), .ref (ad 10), .int tr], iA G (ad 0) 255 S, iA G (ad 4) 16 mk2_18, iA G (ad 6) 160 vs2_18]) [3, 0, 1, 2] (by decide) rfl
            refine W.iret (v := fw) hx hb hr (fun t ht hW => ⟨⟨fw, (mk2_18, vs2_18), rfl, ?_, by rw [ht]; exact hP, hD⟩, hS.F ht⟩) hS.2.2 dX6_guard_178
            try dsimp only
            first | exact (if_neg (fun q => b5 q.1)).symm | exact (if_neg (fun q => b12 q.2)).symm | (rw [if_pos ⟨inR_nI hd0 (by omega), b12⟩, tn_nI (by omega), show swF (fun s => decide (uniF (fun x => sgM w h S nc x d0) s (w * h) = nI (2 ^ (w * h) - 1))) (2 ^ (w * h)) = (fw, fo) from (by rw [hsw, show s = 2 ^ (w * h) by omega])]; first | exact (if_pos b168).symm | exact (if_neg b168).symm)
        · skip
          refine lv_iload hx hb dX6_guard_46 (lv_at hl 6 rfl) ?_
          refine xs_i (As := [.int (nI s)]) (rest := []) ⟨hx, hb, hml, hown, hts⟩ (c_X6_bitsOf l G (nI s) ) (va_cwS 1 hts gX6_guard_X6_bitsOf rfl rfl rfl (by decide +kernel) ⟨Nat.le_of_ble_eq_true rfl, Nat.le_of_ble_eq_true rfl⟩) hP hS rfl hl.1 rfl (Nat.le_of_ble_eq_true rfl) dX6_guard_48 ⟨Nat.zero_le _, Nat.zero_le _⟩ (fun r48 H locs hp48 hP hS => ?_)
          rw [show r48 = _ from hp48]
          refine lv_istore (lv' := [(7, .int (bcM (nI s) 16)), (0, .ref ko), (1, .int (nI d0)), (2, .int a), (3, .int (nI ((2 ^ (w * h)) - 1))), (4, .int fw), (5, .int fo), (6, .int (nI s))]) hx hb dX6_guard_51 hl (by decide) rfl (fun ls hl => ?_)
          refine lv_iconst (v := nI 0) hx hb dX6_guard_53 (by decide) ?_
          refine lv_istore (lv' := [(8, .int (nI 0)), (7, .int (bcM (nI s) 16)), (0, .ref ko), (1, .int (nI d0)), (2, .int a), (3, .int (nI ((2 ^ (w * h)) - 1))), (4, .int fw), (5, .int fo), (6, .int (nI s))]) hx hb dX6_guard_54 hl (by decide) rfl (fun ls hl => ?_)
          refine lv_iconst (v := nI 0) hx hb dX6_guard_56 (by decide) ?_
          refine lv_istore (lv' := [(9, .int (nI 0)), (8, .int (nI 0)), (7, .int (bcM (nI s) 16)), (0, .ref ko), (1, .int (nI d0)), (2, .int a), (3, .int (nI ((2 ^ (w * h)) - 1))), (4, .int fw), (5, .int fo), (6, .int (nI s))]) hx hb dX6_guard_57 hl (by decide) rfl (fun ls hl => ?_)
          have hL59 : ∀ k : Nat, ∀ (x : Nat) (al : Int32) (ls : Array Slot) (H : Heap) (locs : List Loc), w * h - x = k → (x ≤ w * h) → (al = uniF (fun x => sgM w h S nc x d0) (nI s) x) → lv_has ls 10 [(0, .ref ko), (1, .int (nI d0)), (2, .int a), (3, .int (nI ((2 ^ (w * h)) - 1))), (4, .int fw), (5, .int fo), (6, .int (nI s)), (7, .int (bcM (nI s) 16)), (8, .int al), (9, .int (nI x))] → xP G [iA G (ad 0) 255 S, iA G (ad 4) 16 mk2_18, iA G (ad 6) 160 vs2_18, oC ko 6 [.ref (ad 0), .ref (ad 1), .int (nI w), .int (nI h), .int (nI la), .ref (ad 2), .int (mv 0), .int (mv 1), .int (mv 2), .int (mv 3), .int (mv 4), .int (mv 5), .int (mv 6), .ref (ad 3), .int (nI tp), .int (mv 7), .int (mv 8), .int (mv 9), .int (mv 10), .int ft, .int (mv 11), .ref (ad 4), .ref (ad 5), .ref (ad 6), .ref (ad 7), .ref (ad 8), .ref (ad 9), .ref (ad 10), .int tr]] H → va_D (va_A (w_X6_guard G ko ad w h la tp ft tr mv S mk vs) ss.heap.size) [iA G (ad 0) 255 S, iA G (ad 4) 16 mk2_18, iA G (ad 6) 160 vs2_18, oC ko 6 [.ref (ad 0), .ref (ad 1), .int (nI w), .int (nI h), .int (nI la), .ref (ad 2), .int (mv 0), .int (mv 1), .int (mv 2), .int (mv 3), .int (mv 4), .int (mv 5), .int (mv 6), .ref (ad 3), .int (nI tp), .int (mv 7), .int (mv 8), .int (mv 9), .int (mv 10), .int ft, .int (mv 11), .ref (ad 4), .ref (ad 5), .ref (ad 6), .ref (ad 7), .ref (ad 8), .ref (ad 9), .ref (ad 10), .int tr]] → va_S (va_A (w_X6_guard G ko ad w h la tp ft tr mv S mk vs) ss.heap.size) ss.heap H locs → W pp l ee ({ frames := 4, cells := 0, slots := 0, locals := 89 } : Room) ss mm ([.ref ko, .int (nI d0), .int a] : List Value).toArray below mt cd H locs 0 0 (MQ below (Q_X6_guard G ss.heap.size ko ad w h la tp ft tr mv S mk nc vs (nI d0) a) ([.ref ko, .int (nI d0), .int a] : List Value).toArray ss 0 0 (va_A (w_X6_guard G ko ad w h la tp ft tr mv S mk vs) ss.heap.size)) (F0 mm 59 ls []) := by
            intro k
            induction k using Nat.strongRecOn with
            | _ k ih59 =>
            intro x al ls H locs hm59 hxi hal hl hP hD hS
            refine lv_iload hx hb dX6_guard_59 (lv_at hl 9 rfl) ?_
            refine lv_aload_n hx hb dX6_guard_61 rfl (lv_at hl 0 rfl) ?_
            refine xr_i (As := []) (rest := [.int (nI x)]) ⟨hx, hb, hml, hown, hts⟩ (c_X6_cellsNow l G ko ad w h la tp ft tr mv ) (cwV 0 hts gX6_guard_X6_cellsNow rfl rfl rfl (by decide +kernel) ⟨Nat.le_of_ble_eq_true rfl, Nat.le_of_ble_eq_true rfl⟩) hK hP hS [3] rfl rfl rfl rfl hl.1 rfl (Nat.le_of_ble_eq_true rfl) dX6_guard_62 ⟨Nat.zero_le _, Nat.zero_le _⟩ (fun r62 H locs hp62 hP hS => ?_)
            rw [show r62 = _ from hp62]
            refine xn_icmp_ge (tgt := 113) hx hb (by omega) (by omega) dX6_guard_65 rfl (fun b65 => ?_) (fun b65 => ?_)
            · skip
              refine lv_iload hx hb dX6_guard_113 (lv_at hl 7 rfl) ?_
              refine lv_iload hx hb dX6_guard_115 (lv_at hl 4 rfl) ?_
              refine xi_icmp_ge (tgt := 130) hx hb dX6_guard_117 rfl (fun b117 => ?_) (fun b117 => ?_)
              · skip
                have hlt := (show ¬ (bcM (nI s) 16).toInt < fw.toInt by omega)
                refine lv_iconst (v := nI 0) hx hb dX6_guard_130 (by decide) ?_
                refine lv_istore (lv' := [(9, .int (nI 0)), (0, .ref ko), (1, .int (nI d0)), (2, .int a), (3, .int (nI ((2 ^ (w * h)) - 1))), (4, .int fw), (5, .int fo), (6, .int (nI s)), (7, .int (bcM (nI s) 16)), (8, .int al)]) hx hb dX6_guard_131 hl (by decide) rfl (fun ls hl => ?_)
                refine lv_iload hx hb dX6_guard_133 (lv_at hl 0 rfl) ?_
                refine xn_if_eq (tgt := 143) hx hb (by omega) dX6_guard_135 rfl (fun _ => ?_) (fun b135 => absurd b135 (by omega))
                refine lv_iload hx hb dX6_guard_143 (lv_at hl 6 rfl) ?_
                refine lv_istore (lv' := [(5, .int fo), (9, .int (nI 0)), (0, .ref ko), (1, .int (nI d0)), (2, .int a), (3, .int (nI ((2 ^ (w * h)) - 1))), (4, .int fw), (6, .int (nI s)), (7, .int (bcM (nI s) 16)), (8, .int al)]) hx hb dX6_guard_145 hl (by decide) rfl (fun ls hl => ?_)
                refine lv_iload hx hb dX6_guard_147 (lv_at hl 1 rfl) ?_
                refine xn_if_eq (tgt := 157) hx hb (by omega) dX6_guard_149 rfl (fun _ => ?_) (fun b149 => absurd b149 (by omega))
                refine lv_iload hx hb dX6_guard_157 (lv_at hl 6 rfl) ?_
                refine lv_istore (lv' := [(4, .int fw), (5, .int fo), (9, .int (nI 0)), (0, .ref ko), (1, .int (nI d0)), (2, .int a), (3, .int (nI ((2 ^ (w * h)) - 1))), (6, .int (nI s)), (7, .int (bcM (nI s) 16)), (8, .int al)]) hx hb dX6_guard_159 hl (by decide) rfl (fun ls hl => ?_)
                refine lv_iinc (k := 7) (v := nI (s + 1)) (lv' := [(6, .int (nI (s + 1))), (4, .int fw), (5, .int fo), (9, .int (nI 0)), (0, .ref ko), (1, .int (nI d0)), (2, .int a), (3, .int (nI ((2 ^ (w * h)) - 1))), (7, .int (bcM (nI s) 16)), (8, .int al)]) hx hb dX6_guard_161 hl rfl (xn_inc s 1) (by decide) rfl (fun ls hl => ?_)
                refine lv_goto (tgt := 40) hx hb dX6_guard_164 rfl ?_
                have hl := lv_sub hl (l' := [(0, .ref ko), (1, .int (nI d0)), (2, .int a), (3, .int (nI ((2 ^ (w * h)) - 1))), (4, .int fw), (5, .int fo), (6, .int (nI (s + 1)))]) [4, 5, 6, 7, 1, 2, 0] rfl
                exact ih40 (2 ^ (w * h) - (s + 1)) (by omega) (s + 1) fw fo ls H locs rfl (by omega) (by first | exact swF_y hsw hlt hall | exact swF_n1 hsw hlt | exact swF_n2 hsw hall) hl hP hD hS
              · skip
                have hlt := (show (bcM (nI s) 16).toInt < fw.toInt by omega)
                have hx0 : x = w * h := (by omega)
                refine lv_iload hx hb dX6_guard_120 (lv_at hl 8 rfl) ?_
                refine lv_iload_n hx hb dX6_guard_122 rfl (lv_at hl 3 rfl) ?_
                refine lv_icmp_ne (tgt := 130) hx hb dX6_guard_123 rfl (fun b123 => ?_) (fun b123 => ?_)
                · skip
                  have hall : (fun s => decide (uniF (fun x => sgM w h S nc x d0) s (w * h) = nI (2 ^ (w * h) - 1))) (nI s) = false := decide_eq_false (fun q => b123 (by rw [hal, hx0]; exact q))
                  refine lv_iconst (v := nI 0) hx hb dX6_guard_130 (by decide) ?_
                  refine lv_istore (lv' := [(9, .int (nI 0)), (0, .ref ko), (1, .int (nI d0)), (2, .int a), (3, .int (nI ((2 ^ (w * h)) - 1))), (4, .int fw), (5, .int fo), (6, .int (nI s)), (7, .int (bcM (nI s) 16)), (8, .int al)]) hx hb dX6_guard_131 hl (by decide) rfl (fun ls hl => ?_)
                  refine lv_iload hx hb dX6_guard_133 (lv_at hl 0 rfl) ?_
                  refine xn_if_eq (tgt := 143) hx hb (by omega) dX6_guard_135 rfl (fun _ => ?_) (fun b135 => absurd b135 (by omega))
                  refine lv_iload hx hb dX6_guard_143 (lv_at hl 6 rfl) ?_
                  refine lv_istore (lv' := [(5, .int fo), (9, .int (nI 0)), (0, .ref ko), (1, .int (nI d0)), (2, .int a), (3, .int (nI ((2 ^ (w * h)) - 1))), (4, .int fw), (6, .int (nI s)), (7, .int (bcM (nI s) 16)), (8, .int al)]) hx hb dX6_guard_145 hl (by decide) rfl (fun ls hl => ?_)
                  refine lv_iload hx hb dX6_guard_147 (lv_at hl 1 rfl) ?_
                  refine xn_if_eq (tgt := 157) hx hb (by omega) dX6_guard_149 rfl (fun _ => ?_) (fun b149 => absurd b149 (by omega))
                  refine lv_iload hx hb dX6_guard_157 (lv_at hl 6 rfl) ?_
                  refine lv_istore (lv' := [(4, .int fw), (5, .int fo), (9, .int (nI 0)), (0, .ref ko), (1, .int (nI d0)), (2, .int a), (3, .int (nI ((2 ^ (w * h)) - 1))), (6, .int (nI s)), (7, .int (bcM (nI s) 16)), (8, .int al)]) hx hb dX6_guard_159 hl (by decide) rfl (fun ls hl => ?_)
                  refine lv_iinc (k := 7) (v := nI (s + 1)) (lv' := [(6, .int (nI (s + 1))), (4, .int fw), (5, .int fo), (9, .int (nI 0)), (0, .ref ko), (1, .int (nI d0)), (2, .int a), (3, .int (nI ((2 ^ (w * h)) - 1))), (7, .int (bcM (nI s) 16)), (8, .int al)]) hx hb dX6_guard_161 hl rfl (xn_inc s 1) (by decide) rfl (fun ls hl => ?_)
                  refine lv_goto (tgt := 40) hx hb dX6_guard_164 rfl ?_
                  have hl := lv_sub hl (l' := [(0, .ref ko), (1, .int (nI d0)), (2, .int a), (3, .int (nI ((2 ^ (w * h)) - 1))), (4, .int fw), (5, .int fo), (6, .int (nI (s + 1)))]) [4, 5, 6, 7, 1, 2, 0] rfl
                  exact ih40 (2 ^ (w * h) - (s + 1)) (by omega) (s + 1) fw fo ls H locs rfl (by omega) (by first | exact swF_y hsw hlt hall | exact swF_n1 hsw hlt | exact swF_n2 hsw hall) hl hP hD hS
                · skip
                  have hall : (fun s => decide (uniF (fun x => sgM w h S nc x d0) s (w * h) = nI (2 ^ (w * h) - 1))) (nI s) = true := decide_eq_true (by rw [hx0] at hal; rw [← hal]; exact b123)
                  refine lv_iconst (v := nI 1) hx hb dX6_guard_126 (by decide) ?_
                  refine lv_goto (tgt := 131) hx hb dX6_guard_127 rfl ?_
                  refine lv_istore (lv' := [(9, .int (nI 1)), (0, .ref ko), (1, .int (nI d0)), (2, .int a), (3, .int (nI ((2 ^ (w * h)) - 1))), (4, .int fw), (5, .int fo), (6, .int (nI s)), (7, .int (bcM (nI s) 16)), (8, .int al)]) hx hb dX6_guard_131 hl (by decide) rfl (fun ls hl => ?_)
                  refine lv_iload hx hb dX6_guard_133 (lv_at hl 0 rfl) ?_
                  refine xn_if_eq (tgt := 143) hx hb (by omega) dX6_guard_135 rfl (fun b135 => absurd b135 (by omega)) (fun _ => ?_)
                  refine lv_iload hx hb dX6_guard_138 (lv_at hl 7 rfl) ?_
                  refine lv_goto (tgt := 145) hx hb dX6_guard_140 rfl ?_
                  refine lv_istore (lv' := [(5, .int (nI s)), (9, .int (nI 1)), (0, .ref ko), (1, .int (nI d0)), (2, .int a), (3, .int (nI ((2 ^ (w * h)) - 1))), (4, .int fw), (6, .int (nI s)), (7, .int (bcM (nI s) 16)), (8, .int al)]) hx hb dX6_guard_145 hl (by decide) rfl (fun ls hl => ?_)
                  refine lv_iload hx hb dX6_guard_147 (lv_at hl 1 rfl) ?_
                  refine xn_if_eq (tgt := 157) hx hb (by omega) dX6_guard_149 rfl (fun b149 => absurd b149 (by omega)) (fun _ => ?_)
                  refine lv_iload hx hb dX6_guard_152 (lv_at hl 8 rfl) ?_
                  refine lv_goto (tgt := 159) hx hb dX6_guard_154 rfl ?_
                  refine lv_istore (lv' := [(4, .int (bcM (nI s) 16)), (5, .int (nI s)), (9, .int (nI 1)), (0, .ref ko), (1, .int (nI d0)), (2, .int a), (3, .int (nI ((2 ^ (w * h)) - 1))), (6, .int (nI s)), (7, .int (bcM (nI s) 16)), (8, .int al)]) hx hb dX6_guard_159 hl (by decide) rfl (fun ls hl => ?_)
                  refine lv_iinc (k := 7) (v := nI (s + 1)) (lv' := [(6, .int (nI (s + 1))), (4, .int (bcM (nI s) 16)), (5, .int (nI s)), (9, .int (nI 1)), (0, .ref ko), (1, .int (nI d0)), (2, .int a), (3, .int (nI ((2 ^ (w * h)) - 1))), (7, .int (bcM (nI s) 16)), (8, .int al)]) hx hb dX6_guard_161 hl rfl (xn_inc s 1) (by decide) rfl (fun ls hl => ?_)
                  refine lv_goto (tgt := 40) hx hb dX6_guard_164 rfl ?_
                  have hl := lv_sub hl (l' := [(0, .ref ko), (1, .int (nI d0)), (2, .int a), (3, .int (nI ((2 ^ (w * h)) - 1))), (4, .int (bcM (nI s) 16)), (5, .int (nI s)), (6, .int (nI (s + 1)))]) [4, 5, 6, 7, 1, 2, 0] rfl
                  exact ih40 (2 ^ (w * h) - (s + 1)) (by omega) (s + 1) (bcM (nI s) 16) (nI s) ls H locs rfl (by omega) (by first | exact swF_y hsw hlt hall | exact swF_n1 hsw hlt | exact swF_n2 hsw hall) hl hP hD hS
            · skip
              refine lv_iload hx hb dX6_guard_68 (lv_at hl 7 rfl) ?_
              refine lv_iload hx hb dX6_guard_70 (lv_at hl 4 rfl) ?_
              refine xi_icmp_ge (tgt := 113) hx hb dX6_guard_72 rfl (fun b72 => ?_) (fun b72 => ?_)
              · skip
                refine lv_iload hx hb dX6_guard_113 (lv_at hl 7 rfl) ?_
                refine lv_iload hx hb dX6_guard_115 (lv_at hl 4 rfl) ?_
                refine xi_icmp_ge (tgt := 130) hx hb dX6_guard_117 rfl (fun b117 => ?_) (fun b117 => ?_)
                · skip
                  have hlt := (show ¬ (bcM (nI s) 16).toInt < fw.toInt by omega)
                  refine lv_iconst (v := nI 0) hx hb dX6_guard_130 (by decide) ?_
                  refine lv_istore (lv' := [(9, .int (nI 0)), (0, .ref ko), (1, .int (nI d0)), (2, .int a), (3, .int (nI ((2 ^ (w * h)) - 1))), (4, .int fw), (5, .int fo), (6, .int (nI s)), (7, .int (bcM (nI s) 16)), (8, .int al)]) hx hb dX6_guard_131 hl (by decide) rfl (fun ls hl => ?_)
                  refine lv_iload hx hb dX6_guard_133 (lv_at hl 0 rfl) ?_
                  refine xn_if_eq (tgt := 143) hx hb (by omega) dX6_guard_135 rfl (fun _ => ?_) (fun b135 => absurd b135 (by omega))
                  refine lv_iload hx hb dX6_guard_143 (lv_at hl 6 rfl) ?_
                  refine lv_istore (lv' := [(5, .int fo), (9, .int (nI 0)), (0, .ref ko), (1, .int (nI d0)), (2, .int a), (3, .int (nI ((2 ^ (w * h)) - 1))), (4, .int fw), (6, .int (nI s)), (7, .int (bcM (nI s) 16)), (8, .int al)]) hx hb dX6_guard_145 hl (by decide) rfl (fun ls hl => ?_)
                  refine lv_iload hx hb dX6_guard_147 (lv_at hl 1 rfl) ?_
                  refine xn_if_eq (tgt := 157) hx hb (by omega) dX6_guard_149 rfl (fun _ => ?_) (fun b149 => absurd b149 (by omega))
                  refine lv_iload hx hb dX6_guard_157 (lv_at hl 6 rfl) ?_
                  refine lv_istore (lv' := [(4, .int fw), (5, .int fo), (9, .int (nI 0)), (0, .ref ko), (1, .int (nI d0)), (2, .int a), (3, .int (nI ((2 ^ (w * h)) - 1))), (6, .int (nI s)), (7, .int (bcM (nI s) 16)), (8, .int al)]) hx hb dX6_guard_159 hl (by decide) rfl (fun ls hl => ?_)
                  refine lv_iinc (k := 7) (v := nI (s + 1)) (lv' := [(6, .int (nI (s + 1))), (4, .int fw), (5, .int fo), (9, .int (nI 0)), (0, .ref ko), (1, .int (nI d0)), (2, .int a), (3, .int (nI ((2 ^ (w * h)) - 1))), (7, .int (bcM (nI s) 16)), (8, .int al)]) hx hb dX6_guard_161 hl rfl (xn_inc s 1) (by decide) rfl (fun ls hl => ?_)
                  refine lv_goto (tgt := 40) hx hb dX6_guard_164 rfl ?_
                  have hl := lv_sub hl (l' := [(0, .ref ko), (1, .int (nI d0)), (2, .int a), (3, .int (nI ((2 ^ (w * h)) - 1))), (4, .int fw), (5, .int fo), (6, .int (nI (s + 1)))]) [4, 5, 6, 7, 1, 2, 0] rfl
                  exact ih40 (2 ^ (w * h) - (s + 1)) (by omega) (s + 1) fw fo ls H locs rfl (by omega) (by first | exact swF_y hsw hlt hall | exact swF_n1 hsw hlt | exact swF_n2 hsw hall) hl hP hD hS
                · skip
                  have hlt := (show (bcM (nI s) 16).toInt < fw.toInt by omega)
                  have hx0 : x = w * h := (by omega)
                  refine lv_iload hx hb dX6_guard_120 (lv_at hl 8 rfl) ?_
                  refine lv_iload_n hx hb dX6_guard_122 rfl (lv_at hl 3 rfl) ?_
                  refine lv_icmp_ne (tgt := 130) hx hb dX6_guard_123 rfl (fun b123 => ?_) (fun b123 => ?_)
                  · skip
                    have hall : (fun s => decide (uniF (fun x => sgM w h S nc x d0) s (w * h) = nI (2 ^ (w * h) - 1))) (nI s) = false := decide_eq_false (fun q => b123 (by rw [hal, hx0]; exact q))
                    refine lv_iconst (v := nI 0) hx hb dX6_guard_130 (by decide) ?_
                    refine lv_istore (lv' := [(9, .int (nI 0)), (0, .ref ko), (1, .int (nI d0)), (2, .int a), (3, .int (nI ((2 ^ (w * h)) - 1))), (4, .int fw), (5, .int fo), (6, .int (nI s)), (7, .int (bcM (nI s) 16)), (8, .int al)]) hx hb dX6_guard_131 hl (by decide) rfl (fun ls hl => ?_)
                    refine lv_iload hx hb dX6_guard_133 (lv_at hl 0 rfl) ?_
                    refine xn_if_eq (tgt := 143) hx hb (by omega) dX6_guard_135 rfl (fun _ => ?_) (fun b135 => absurd b135 (by omega))
                    refine lv_iload hx hb dX6_guard_143 (lv_at hl 6 rfl) ?_
                    refine lv_istore (lv' := [(5, .int fo), (9, .int (nI 0)), (0, .ref ko), (1, .int (nI d0)), (2, .int a), (3, .int (nI ((2 ^ (w * h)) - 1))), (4, .int fw), (6, .int (nI s)), (7, .int (bcM (nI s) 16)), (8, .int al)]) hx hb dX6_guard_145 hl (by decide) rfl (fun ls hl => ?_)
                    refine lv_iload hx hb dX6_guard_147 (lv_at hl 1 rfl) ?_
                    refine xn_if_eq (tgt := 157) hx hb (by omega) dX6_guard_149 rfl (fun _ => ?_) (fun b149 => absurd b149 (by omega))
                    refine lv_iload hx hb dX6_guard_157 (lv_at hl 6 rfl) ?_
                    refine lv_istore (lv' := [(4, .int fw), (5, .int fo), (9, .int (nI 0)), (0, .ref ko), (1, .int (nI d0)), (2, .int a), (3, .int (nI ((2 ^ (w * h)) - 1))), (6, .int (nI s)), (7, .int (bcM (nI s) 16)), (8, .int al)]) hx hb dX6_guard_159 hl (by decide) rfl (fun ls hl => ?_)
                    refine lv_iinc (k := 7) (v := nI (s + 1)) (lv' := [(6, .int (nI (s + 1))), (4, .int fw), (5, .int fo), (9, .int (nI 0)), (0, .ref ko), (1, .int (nI d0)), (2, .int a), (3, .int (nI ((2 ^ (w * h)) - 1))), (7, .int (bcM (nI s) 16)), (8, .int al)]) hx hb dX6_guard_161 hl rfl (xn_inc s 1) (by decide) rfl (fun ls hl => ?_)
                    refine lv_goto (tgt := 40) hx hb dX6_guard_164 rfl ?_
                    have hl := lv_sub hl (l' := [(0, .ref ko), (1, .int (nI d0)), (2, .int a), (3, .int (nI ((2 ^ (w * h)) - 1))), (4, .int fw), (5, .int fo), (6, .int (nI (s + 1)))]) [4, 5, 6, 7, 1, 2, 0] rfl
                    exact ih40 (2 ^ (w * h) - (s + 1)) (by omega) (s + 1) fw fo ls H locs rfl (by omega) (by first | exact swF_y hsw hlt hall | exact swF_n1 hsw hlt | exact swF_n2 hsw hall) hl hP hD hS
                  · skip
                    have hall : (fun s => decide (uniF (fun x => sgM w h S nc x d0) s (w * h) = nI (2 ^ (w * h) - 1))) (nI s) = true := decide_eq_true (by rw [hx0] at hal; rw [← hal]; exact b123)
                    refine lv_iconst (v := nI 1) hx hb dX6_guard_126 (by decide) ?_
                    refine lv_goto (tgt := 131) hx hb dX6_guard_127 rfl ?_
                    refine lv_istore (lv' := [(9, .int (nI 1)), (0, .ref ko), (1, .int (nI d0)), (2, .int a), (3, .int (nI ((2 ^ (w * h)) - 1))), (4, .int fw), (5, .int fo), (6, .int (nI s)), (7, .int (bcM (nI s) 16)), (8, .int al)]) hx hb dX6_guard_131 hl (by decide) rfl (fun ls hl => ?_)
                    refine lv_iload hx hb dX6_guard_133 (lv_at hl 0 rfl) ?_
                    refine xn_if_eq (tgt := 143) hx hb (by omega) dX6_guard_135 rfl (fun b135 => absurd b135 (by omega)) (fun _ => ?_)
                    refine lv_iload hx hb dX6_guard_138 (lv_at hl 7 rfl) ?_
                    refine lv_goto (tgt := 145) hx hb dX6_guard_140 rfl ?_
                    refine lv_istore (lv' := [(5, .int (nI s)), (9, .int (nI 1)), (0, .ref ko), (1, .int (nI d0)), (2, .int a), (3, .int (nI ((2 ^ (w * h)) - 1))), (4, .int fw), (6, .int (nI s)), (7, .int (bcM (nI s) 16)), (8, .int al)]) hx hb dX6_guard_145 hl (by decide) rfl (fun ls hl => ?_)
                    refine lv_iload hx hb dX6_guard_147 (lv_at hl 1 rfl) ?_
                    refine xn_if_eq (tgt := 157) hx hb (by omega) dX6_guard_149 rfl (fun b149 => absurd b149 (by omega)) (fun _ => ?_)
                    refine lv_iload hx hb dX6_guard_152 (lv_at hl 8 rfl) ?_
                    refine lv_goto (tgt := 159) hx hb dX6_guard_154 rfl ?_
                    refine lv_istore (lv' := [(4, .int (bcM (nI s) 16)), (5, .int (nI s)), (9, .int (nI 1)), (0, .ref ko), (1, .int (nI d0)), (2, .int a), (3, .int (nI ((2 ^ (w * h)) - 1))), (6, .int (nI s)), (7, .int (bcM (nI s) 16)), (8, .int al)]) hx hb dX6_guard_159 hl (by decide) rfl (fun ls hl => ?_)
                    refine lv_iinc (k := 7) (v := nI (s + 1)) (lv' := [(6, .int (nI (s + 1))), (4, .int (bcM (nI s) 16)), (5, .int (nI s)), (9, .int (nI 1)), (0, .ref ko), (1, .int (nI d0)), (2, .int a), (3, .int (nI ((2 ^ (w * h)) - 1))), (7, .int (bcM (nI s) 16)), (8, .int al)]) hx hb dX6_guard_161 hl rfl (xn_inc s 1) (by decide) rfl (fun ls hl => ?_)
                    refine lv_goto (tgt := 40) hx hb dX6_guard_164 rfl ?_
                    have hl := lv_sub hl (l' := [(0, .ref ko), (1, .int (nI d0)), (2, .int a), (3, .int (nI ((2 ^ (w * h)) - 1))), (4, .int (bcM (nI s) 16)), (5, .int (nI s)), (6, .int (nI (s + 1)))]) [4, 5, 6, 7, 1, 2, 0] rfl
                    exact ih40 (2 ^ (w * h) - (s + 1)) (by omega) (s + 1) (bcM (nI s) 16) (nI s) ls H locs rfl (by omega) (by first | exact swF_y hsw hlt hall | exact swF_n1 hsw hlt | exact swF_n2 hsw hall) hl hP hD hS
              · skip
                refine lv_iload hx hb dX6_guard_75 (lv_at hl 8 rfl) ?_
                refine lv_iload hx hb dX6_guard_77 (lv_at hl 6 rfl) ?_
                refine lv_iload hx hb dX6_guard_79 (lv_at hl 9 rfl) ?_
                refine lv_ishr hx hb dX6_guard_81 ?_
                refine lv_iconst (v := nI 1) hx hb dX6_guard_82 (by decide) ?_
                refine lv_iand hx hb dX6_guard_83 ?_
                refine lv_iconst (v := nI 1) hx hb dX6_guard_84 (by decide) ?_
                refine lv_icmp_ne (tgt := 103) hx hb dX6_guard_85 rfl (fun b85 => ?_) (fun b85 => ?_)
                · skip
                  refine lv_iconst (v := nI 0) hx hb dX6_guard_103 (by decide) ?_
                  refine lv_ior hx hb dX6_guard_104 ?_
                  refine lv_istore (lv' := [(8, .int (al ||| (nI 0))), (0, .ref ko), (1, .int (nI d0)), (2, .int a), (3, .int (nI ((2 ^ (w * h)) - 1))), (4, .int fw), (5, .int fo), (6, .int (nI s)), (7, .int (bcM (nI s) 16)), (9, .int (nI x))]) hx hb dX6_guard_105 hl (by decide) rfl (fun ls hl => ?_)
                  refine lv_iinc (k := 9) (v := nI (x + 1)) (lv' := [(9, .int (nI (x + 1))), (8, .int (al ||| (nI 0))), (0, .ref ko), (1, .int (nI d0)), (2, .int a), (3, .int (nI ((2 ^ (w * h)) - 1))), (4, .int fw), (5, .int fo), (6, .int (nI s)), (7, .int (bcM (nI s) 16))]) hx hb dX6_guard_107 hl rfl (xn_inc x 1) (by decide) rfl (fun ls hl => ?_)
                  refine lv_goto (tgt := 59) hx hb dX6_guard_110 rfl ?_
                  have hl := lv_sub hl (l' := [(0, .ref ko), (1, .int (nI d0)), (2, .int a), (3, .int (nI ((2 ^ (w * h)) - 1))), (4, .int fw), (5, .int fo), (6, .int (nI s)), (7, .int (bcM (nI s) 16)), (8, .int (al ||| (nI 0))), (9, .int (nI (x + 1)))]) [2, 3, 4, 5, 6, 7, 8, 9, 1, 0] rfl
                  exact ih59 (w * h - (x + 1)) (by omega) (x + 1) (al ||| (nI 0)) ls H locs rfl (by omega) (by rw [uniF, ← hal]; first | (rw [if_pos b85]) | (rw [if_neg b85])) hl hP hD hS
                · skip
                  refine lv_aload_n hx hb dX6_guard_88 rfl (lv_at hl 0 rfl) ?_
                  refine va_get (D := G.1) (ci := 6) (v := .ref (ad 6)) (C := RX6) (T := TX6) (N := 29) hx hb hts hin6 hown hK.1 hP 3 rfl rfl 23 (by decide) (hts (.fieldLink RX6 29 "BackLensesModel" "views" "[I") (List.mem_of_getElem? (i := 2) rfl)) (fun _ h9 => h9) rfl dX6_guard_89 ?_
                  refine lv_bipush (v := nI 16) hx hb dX6_guard_92 (by decide) ?_
                  refine lv_iload_n hx hb dX6_guard_94 rfl (lv_at hl 1 rfl) ?_
                  refine xn_imul hx hb dX6_guard_95 ?_
                  refine lv_iload hx hb dX6_guard_96 (lv_at hl 9 rfl) ?_
                  refine xn_iadd hx hb dX6_guard_98 ?_
                  refine xn_iald hx hb hK hP 2 rfl (by omega) (by omega) dX6_guard_99 ?_
                  refine xn_top (he18 d0 x (by omega) (by omega)) ?_
                  refine lv_goto (tgt := 104) hx hb dX6_guard_100 rfl ?_
                  refine lv_ior hx hb dX6_guard_104 ?_
                  refine lv_istore (lv' := [(8, .int (al ||| (sgM w h S nc x d0))), (0, .ref ko), (1, .int (nI d0)), (2, .int a), (3, .int (nI ((2 ^ (w * h)) - 1))), (4, .int fw), (5, .int fo), (6, .int (nI s)), (7, .int (bcM (nI s) 16)), (9, .int (nI x))]) hx hb dX6_guard_105 hl (by decide) rfl (fun ls hl => ?_)
                  refine lv_iinc (k := 9) (v := nI (x + 1)) (lv' := [(9, .int (nI (x + 1))), (8, .int (al ||| (sgM w h S nc x d0))), (0, .ref ko), (1, .int (nI d0)), (2, .int a), (3, .int (nI ((2 ^ (w * h)) - 1))), (4, .int fw), (5, .int fo), (6, .int (nI s)), (7, .int (bcM (nI s) 16))]) hx hb dX6_guard_107 hl rfl (xn_inc x 1) (by decide) rfl (fun ls hl => ?_)
                  refine lv_goto (tgt := 59) hx hb dX6_guard_110 rfl ?_
                  have hl := lv_sub hl (l' := [(0, .ref ko), (1, .int (nI d0)), (2, .int a), (3, .int (nI ((2 ^ (w * h)) - 1))), (4, .int fw), (5, .int fo), (6, .int (nI s)), (7, .int (bcM (nI s) 16)), (8, .int (al ||| (sgM w h S nc x d0))), (9, .int (nI (x + 1)))]) [2, 3, 4, 5, 6, 7, 8, 9, 1, 0] rfl
                  exact ih59 (w * h - (x + 1)) (by omega) (x + 1) (al ||| (sgM w h S nc x d0)) ls H locs rfl (by omega) (by rw [uniF, ← hal]; first | (rw [if_pos b85]) | (rw [if_neg b85])) hl hP hD hS
          have hl := lv_sub hl (l' := [(0, .ref ko), (1, .int (nI d0)), (2, .int a), (3, .int (nI ((2 ^ (w * h)) - 1))), (4, .int fw), (5, .int fo), (6, .int (nI s)), (7, .int (bcM (nI s) 16)), (8, .int (nI 0)), (9, .int (nI 0))]) [3, 4, 5, 6, 7, 8, 9, 2, 1, 0] rfl
          exact hL59 (w * h - 0) 0 (nI 0) ls H locs rfl (by omega) (by rfl) hl hP hD hS
      have hl := lv_sub hl (l' := [(0, .ref ko), (1, .int (nI d0)), (2, .int a), (3, .int (nI ((2 ^ (w * h)) - 1))), (4, .int (nI 1000000)), (5, .int (nI 0)), (6, .int (nI 0))]) [4, 5, 6, 3, 2, 1, 0] rfl
      have hP := hP.sub (ws' := [iA G (ad 0) 255 S, iA G (ad 4) 16 mk2_18, iA G (ad 6) 160 vs2_18, oC ko 6 [.ref (ad 0), .ref (ad 1), .int (nI w), .int (nI h), .int (nI la), .ref (ad 2), .int (mv 0), .int (mv 1), .int (mv 2), .int (mv 3), .int (mv 4), .int (mv 5), .int (mv 6), .ref (ad 3), .int (nI tp), .int (mv 7), .int (mv 8), .int (mv 9), .int (mv 10), .int ft, .int (mv 11), .ref (ad 4), .ref (ad 5), .ref (ad 6), .ref (ad 7), .ref (ad 8), .ref (ad 9), .ref (ad 10), .int tr]]) [1, 2, 3, 0] rfl
      have hD := hD.sub (ws' := [iA G (ad 0) 255 S, iA G (ad 4) 16 mk2_18, iA G (ad 6) 160 vs2_18, oC ko 6 [.ref (ad 0), .ref (ad 1), .int (nI w), .int (nI h), .int (nI la), .ref (ad 2), .int (mv 0), .int (mv 1), .int (mv 2), .int (mv 3), .int (mv 4), .int (mv 5), .int (mv 6), .ref (ad 3), .int (nI tp), .int (mv 7), .int (mv 8), .int (mv 9), .int (mv 10), .int ft, .int (mv 11), .ref (ad 4), .ref (ad 5), .ref (ad 6), .ref (ad 7), .ref (ad 8), .ref (ad 9), .ref (ad 10), .int tr]]) [1, 2, 3, 0] (by decide) rfl
      exact hL40 (2 ^ (w * h) - 0) 0 (nI 1000000) (nI 0) ls H locs rfl (by omega) (by rfl) hl hP hD hS
    · skip
      refine lv_iconst (v := (-1)) hx hb dX6_guard_15 (by decide) ?_
      have hP := hP.sub (ws' := [oC ko 6 [.ref (ad 0), .ref (ad 1), .int (nI w), .int (nI h), .int (nI la), .ref (ad 2), .int (mv 0), .int (mv 1), .int (mv 2), .int (mv 3), .int (mv 4), .int (mv 5), .int (mv 6), .ref (ad 3), .int (nI tp), .int (mv 7), .int (mv 8), .int (mv 9), .int (mv 10), .int ft, .int (mv 11), .ref (ad 4), .ref (ad 5), .ref (ad 6), .ref (ad 7), .ref (ad 8), .ref (ad 9), .ref (ad 10), .int tr], iA G (ad 0) 255 S, iA G (ad 4) 16 mk, iA G (ad 6) 160 vs]) [0, 1, 2, 3] rfl
      have hD := hD.sub (ws' := [oC ko 6 [.ref (ad 0), .ref (ad 1), .int (nI w), .int (nI h), .int (nI la), .ref (ad 2), .int (mv 0), .int (mv 1), .int (mv 2), .int (mv 3), .int (mv 4), .int (mv 5), .int (mv 6), .ref (ad 3), .int (nI tp), .int (mv 7), .int (mv 8), .int (mv 9), .int (mv 10), .int ft, .int (mv 11), .ref (ad 4), .ref (ad 5), .ref (ad 6), .ref (ad 7), .ref (ad 8), .ref (ad 9), .ref (ad 10), .int tr], iA G (ad 0) 255 S, iA G (ad 4) 16 mk, iA G (ad 6) 160 vs]) [0, 1, 2, 3] (by decide) rfl
      refine W.iret (v := (-1)) hx hb hr (fun t ht hW => ⟨⟨(-1), (mk, vs), rfl, ?_, by rw [ht]; exact hP, hD⟩, hS.F ht⟩) hS.2.2 dX6_guard_16
      try dsimp only
      first | exact (if_neg (fun q => b5 q.1)).symm | exact (if_neg (fun q => b12 q.2)).symm | (rw [if_pos ⟨inR_nI hd0 (by omega), b12⟩, tn_nI (by omega), show swF (fun s => decide (uniF (fun x => sgM w h S nc x d0) s (w * h) = nI (2 ^ (w * h) - 1))) (2 ^ (w * h)) = (fw, fo) from (by rw [hsw, show s = 2 ^ (w * h) by omega])]; first | exact (if_pos b168).symm | exact (if_neg b168).symm)

abbrev w_X6_best (G : XG) (ko : Nat) (ad : Nat → Nat) (w h la tp : Nat) (ft tr : Int32) (mv : Nat → Int32) (S mk : Nat → Int32) : va_W := [oC ko 6 [.ref (ad 0), .ref (ad 1), .int (nI w), .int (nI h), .int (nI la), .ref (ad 2), .int (mv 0), .int (mv 1), .int (mv 2), .int (mv 3), .int (mv 4), .int (mv 5), .int (mv 6), .ref (ad 3), .int (nI tp), .int (mv 7), .int (mv 8), .int (mv 9), .int (mv 10), .int ft, .int (mv 11), .ref (ad 4), .ref (ad 5), .ref (ad 6), .ref (ad 7), .ref (ad 8), .ref (ad 9), .ref (ad 10), .int tr], iA G (ad 0) 255 S, iA G (ad 4) 16 mk]
abbrev Q_X6_best (G : XG) (sz : Nat) (ko : Nat) (ad : Nat → Nat) (w h la tp : Nat) (ft tr : Int32) (mv : Nat → Int32) (S mk : Nat → Int32) (nc : Nat) (nl : Nat) (a : Int32) : Array Value → State → Outcome → State → Prop := (va_Qi (fun (r : Int32) (u : (Nat → Int32)) => r = (if inR a 2 then (if nl = 0 then (-2) else if a = 0 then (bsM (fun x => orF (fun l => shM w h S nc l x) nl) (w * h)).2 else (bsM (fun x => orF (fun l => shM w h S nc l x) nl) (w * h)).1) else (-1))) (xWb G sz (w_X6_best G ko ad w h la tp ft tr mv S mk) (fun u : (Nat → Int32) => [oC ko 6 [.ref (ad 0), .ref (ad 1), .int (nI w), .int (nI h), .int (nI la), .ref (ad 2), .int (mv 0), .int (mv 1), .int (mv 2), .int (mv 3), .int (mv 4), .int (mv 5), .int (mv 6), .ref (ad 3), .int (nI tp), .int (mv 7), .int (mv 8), .int (mv 9), .int (mv 10), .int ft, .int (mv 11), .ref (ad 4), .ref (ad 5), .ref (ad 6), .ref (ad 7), .ref (ad 8), .ref (ad 9), .ref (ad 10), .int tr], iA G (ad 0) 255 S, iA G (ad 4) 16 u])) (va_A (w_X6_best G ko ad w h la tp ft tr mv S mk) sz))
set_option maxHeartbeats 4000000 in
set_option maxRecDepth 100000 in
theorem c_X6_best (l : Launch) (G : XG) (sz : Nat) (ko : Nat) (ad : Nat → Nat) (w h la tp : Nat) (ft tr : Int32) (mv : Nat → Int32) (S mk : Nat → Int32) (nc : Nat) (nl : Nat) (a : Int32) (hw : 1 ≤ w) (hwb : w ≤ 16) (hhb : h ≤ 16) (hwh1 : 1 ≤ w * h) (hwh : w * h ≤ 16) (hla : la ≤ 9) (hs16 : S 16 = nI nc) (hnc : nc ≤ 10) (hs47 : S 47 = nI nl) (hnl : nl ≤ 6) (hlens : ∀ i, i < nl → inR (S (48 + 2 * i)) (la + 1)) : Met l yX6_best wsX6_best ({ frames := 5, cells := 0, slots := 0, locals := 111 } : Room) (va_Pc [.ref ko, .int a] (xWp G sz (w_X6_best G ko ad w h la tp ft tr mv S mk))) (Q_X6_best G sz ko ad w h la tp ft tr mv S mk nc nl a) 0 0 (va_A (w_X6_best G ko ad w h la tp ft tr mv S mk) sz) := by
  refine Met.ofW (cc := cX6_best) (maxL := 7) (ret := (some .int)) (by decide) rfl ?_
  intro pp ee ss mm aa below mt cd s₁ BB hml hv
  obtain ⟨rfl, hsz, hP, hK, hD0⟩ := hv
  have hx := BB.exec
  have hb := BB.bytes
  have hr := BB.returns
  have hts := atoms_spec (ws := wsX6_best) BB.pre
  have hown : ss.vm.findClass RX6 = some mm.cls := findClass_of_methodNamed BB.named
  have hlocks := BB.notSynchronized
  subst hsz
  have hD := hD0.self (sz := ss.heap.size)
  have hA : ∀ q : Nat, ss.heap.size ≤ q → va_A (w_X6_best G ko ad w h la tp ft tr mv S mk) ss.heap.size q := fun q h => Or.inr h
  have hS : va_S (va_A (w_X6_best G ko ad w h la tp ft tr mv S mk) ss.heap.size) ss.heap ss.heap [] := va_S.rf
  replace hD : va_D (va_A (w_X6_best G ko ad w h la tp ft tr mv S mk) ss.heap.size) [oC ko 6 [.ref (ad 0), .ref (ad 1), .int (nI w), .int (nI h), .int (nI la), .ref (ad 2), .int (mv 0), .int (mv 1), .int (mv 2), .int (mv 3), .int (mv 4), .int (mv 5), .int (mv 6), .ref (ad 3), .int (nI tp), .int (mv 7), .int (mv 8), .int (mv 9), .int (mv 10), .int ft, .int (mv 11), .ref (ad 4), .ref (ad 5), .ref (ad 6), .ref (ad 7), .ref (ad 8), .ref (ad 9), .ref (ad 10), .int tr], iA G (ad 0) 255 S, iA G (ad 4) 16 mk] := hD
  replace hP : xP G [oC ko 6 [.ref (ad 0), .ref (ad 1), .int (nI w), .int (nI h), .int (nI la), .ref (ad 2), .int (mv 0), .int (mv 1), .int (mv 2), .int (mv 3), .int (mv 4), .int (mv 5), .int (mv 6), .ref (ad 3), .int (nI tp), .int (mv 7), .int (mv 8), .int (mv 9), .int (mv 10), .int ft, .int (mv 11), .ref (ad 4), .ref (ad 5), .ref (ad 6), .ref (ad 7), .ref (ad 8), .ref (ad 9), .ref (ad 10), .int tr], iA G (ad 0) 255 S, iA G (ad 4) 16 mk] ss.heap := hP
  have hin6 : ∀ w ∈ u_ws RX6 TX6 29, w ∈ wsX6_best := fun w h => List.mem_cons_of_mem _ (List.mem_append_right _ h)
  have hl := lv_entry ([.ref ko, .int a]) (n := 7) (Nat.le_of_ble_eq_true rfl)
  rw [lg_entry_eq]
  generalize (lg_sl ([.ref ko, .int a]) ++ List.replicate (7 - (lg_sl ([.ref ko, .int a])).length) Slot.unset).toArray = ls at hl ⊢
  replace hl : lv_has ls 7 [(0, .ref ko), (1, .int a)] := hl
  refine lv_iload_n hx hb dX6_best_0 rfl (lv_at hl 1 rfl) ?_
  refine xs_i (As := [.int a]) (rest := []) ⟨hx, hb, hml, hown, hts⟩ (c_X6_isPart l G a ) (va_cwS 1 hts gX6_best_X6_isPart rfl rfl rfl (by decide +kernel) ⟨Nat.le_of_ble_eq_true rfl, Nat.le_of_ble_eq_true rfl⟩) hP hS rfl hl.1 rfl (Nat.le_of_ble_eq_true rfl) dX6_best_1 ⟨Nat.zero_le _, Nat.zero_le _⟩ (fun r1 H locs hp1 hP hS => ?_)
  rw [show r1 = _ from hp1]
  refine xb_if_ne (tgt := 9) hx hb dX6_best_4 rfl (fun b4 => ?_) (fun b4 => ?_)
  · skip
    refine lv_aload_n hx hb dX6_best_9 rfl (lv_at hl 0 rfl) ?_
    refine va_get (D := G.1) (ci := 6) (v := .ref (ad 0)) (C := RX6) (T := TX6) (N := 29) hx hb hts hin6 hown hK.1 hP 0 rfl rfl 0 (by decide) (hts (.fieldLink RX6 7 "BackLensesModel" "st" "[I") (List.mem_of_getElem? (i := 1) rfl)) (fun _ h9 => h9) rfl dX6_best_10 ?_
    refine lv_bipush (v := nI 47) hx hb dX6_best_13 (by decide) ?_
    refine xn_iald hx hb hK hP 1 rfl (by omega) (by omega) dX6_best_15 ?_
    refine xn_top (y := nI nl) (by exact hs47) ?_
    refine xn_if_ne (tgt := 22) hx hb (by omega) dX6_best_16 rfl (fun b16 => ?_) (fun b16 => ?_)
    · skip
      refine lv_iconst (v := (-1)) hx hb dX6_best_22 (by decide) ?_
      refine lv_istore_n (lv' := [(2, .int (-1)), (0, .ref ko), (1, .int a)]) hx hb dX6_best_23 rfl hl (by decide) rfl (fun ls hl => ?_)
      refine lv_iconst (v := nI 0) hx hb dX6_best_24 (by decide) ?_
      refine lv_istore_n (lv' := [(3, .int (nI 0)), (2, .int (-1)), (0, .ref ko), (1, .int a)]) hx hb dX6_best_25 rfl hl (by decide) rfl (fun ls hl => ?_)
      refine lv_iconst (v := nI 0) hx hb dX6_best_26 (by decide) ?_
      refine lv_istore (lv' := [(4, .int (nI 0)), (3, .int (nI 0)), (2, .int (-1)), (0, .ref ko), (1, .int a)]) hx hb dX6_best_27 hl (by decide) rfl (fun ls hl => ?_)
      have hL29 : ∀ k : Nat, ∀ (x : Nat) (mo : Int32) (wh : Int32) (mk3 : Nat → Int32) (ls : Array Slot) (H : Heap) (locs : List Loc), w * h - x = k → (x ≤ w * h) → ((mo, wh) = bsM (fun x => orF (fun l => shM w h S nc l x) nl) x) → lv_has ls 7 [(0, .ref ko), (1, .int a), (2, .int mo), (3, .int wh), (4, .int (nI x))] → xP G [iA G (ad 0) 255 S, iA G (ad 4) 16 mk3, oC ko 6 [.ref (ad 0), .ref (ad 1), .int (nI w), .int (nI h), .int (nI la), .ref (ad 2), .int (mv 0), .int (mv 1), .int (mv 2), .int (mv 3), .int (mv 4), .int (mv 5), .int (mv 6), .ref (ad 3), .int (nI tp), .int (mv 7), .int (mv 8), .int (mv 9), .int (mv 10), .int ft, .int (mv 11), .ref (ad 4), .ref (ad 5), .ref (ad 6), .ref (ad 7), .ref (ad 8), .ref (ad 9), .ref (ad 10), .int tr]] H → va_D (va_A (w_X6_best G ko ad w h la tp ft tr mv S mk) ss.heap.size) [iA G (ad 0) 255 S, iA G (ad 4) 16 mk3, oC ko 6 [.ref (ad 0), .ref (ad 1), .int (nI w), .int (nI h), .int (nI la), .ref (ad 2), .int (mv 0), .int (mv 1), .int (mv 2), .int (mv 3), .int (mv 4), .int (mv 5), .int (mv 6), .ref (ad 3), .int (nI tp), .int (mv 7), .int (mv 8), .int (mv 9), .int (mv 10), .int ft, .int (mv 11), .ref (ad 4), .ref (ad 5), .ref (ad 6), .ref (ad 7), .ref (ad 8), .ref (ad 9), .ref (ad 10), .int tr]] → va_S (va_A (w_X6_best G ko ad w h la tp ft tr mv S mk) ss.heap.size) ss.heap H locs → W pp l ee ({ frames := 5, cells := 0, slots := 0, locals := 111 } : Room) ss mm ([.ref ko, .int a] : List Value).toArray below mt cd H locs 0 0 (MQ below (Q_X6_best G ss.heap.size ko ad w h la tp ft tr mv S mk nc nl a) ([.ref ko, .int a] : List Value).toArray ss 0 0 (va_A (w_X6_best G ko ad w h la tp ft tr mv S mk) ss.heap.size)) (F0 mm 29 ls []) := by
        intro k
        induction k using Nat.strongRecOn with
        | _ k ih29 =>
        intro x mo wh mk3 ls H locs hm29 hxi hbs hl hP hD hS
        refine lv_iload hx hb dX6_best_29 (lv_at hl 4 rfl) ?_
        refine lv_aload_n hx hb dX6_best_31 rfl (lv_at hl 0 rfl) ?_
        refine xr_i (As := []) (rest := [.int (nI x)]) ⟨hx, hb, hml, hown, hts⟩ (c_X6_cellsNow l G ko ad w h la tp ft tr mv ) (cwV 0 hts gX6_best_X6_cellsNow rfl rfl rfl (by decide +kernel) ⟨Nat.le_of_ble_eq_true rfl, Nat.le_of_ble_eq_true rfl⟩) hK hP hS [2] rfl rfl rfl rfl hl.1 rfl (Nat.le_of_ble_eq_true rfl) dX6_best_32 ⟨Nat.zero_le _, Nat.zero_le _⟩ (fun r32 H locs hp32 hP hS => ?_)
        rw [show r32 = _ from hp32]
        refine xn_icmp_ge (tgt := 116) hx hb (by omega) (by omega) dX6_best_35 rfl (fun b35 => ?_) (fun b35 => ?_)
        · skip
          refine lv_iload_n hx hb dX6_best_116 rfl (lv_at hl 1 rfl) ?_
          refine lv_if_ne (tgt := 124) hx hb dX6_best_117 rfl (fun b117 => ?_) (fun b117 => ?_)
          · skip
            refine lv_iload_n hx hb dX6_best_124 rfl (lv_at hl 2 rfl) ?_
            have hP := hP.sub (ws' := [oC ko 6 [.ref (ad 0), .ref (ad 1), .int (nI w), .int (nI h), .int (nI la), .ref (ad 2), .int (mv 0), .int (mv 1), .int (mv 2), .int (mv 3), .int (mv 4), .int (mv 5), .int (mv 6), .ref (ad 3), .int (nI tp), .int (mv 7), .int (mv 8), .int (mv 9), .int (mv 10), .int ft, .int (mv 11), .ref (ad 4), .ref (ad 5), .ref (ad 6), .ref (ad 7), .ref (ad 8), .ref (ad 9), .ref (ad 10), .int tr], iA G (ad 0) 255 S, iA G (ad 4) 16 mk3]) [2, 0, 1] rfl
            have hD := hD.sub (ws' := [oC ko 6 [.ref (ad 0), .ref (ad 1), .int (nI w), .int (nI h), .int (nI la), .ref (ad 2), .int (mv 0), .int (mv 1), .int (mv 2), .int (mv 3), .int (mv 4), .int (mv 5), .int (mv 6), .ref (ad 3), .int (nI tp), .int (mv 7), .int (mv 8), .int (mv 9), .int (mv 10), .int ft, .int (mv 11), .ref (ad 4), .ref (ad 5), .ref (ad 6), .ref (ad 7), .ref (ad 8), .ref (ad 9), .ref (ad 10), .int tr], iA G (ad 0) 255 S, iA G (ad 4) 16 mk3]) [2, 0, 1] (by decide) rfl
            refine W.iret (v := mo) hx hb hr (fun t ht hW => ⟨⟨mo, (mk3), rfl, ?_, by rw [ht]; exact hP, hD⟩, hS.F ht⟩) hS.2.2 dX6_best_125
            first | exact (if_neg b4).symm | (rw [if_pos b4]; first | exact (if_pos b16).symm | (rw [if_neg b16, show bsM (fun x => orF (fun l => shM w h S nc l x) nl) (w * h) = (mo, wh) from (by rw [hbs, show x = w * h by omega])]; first | exact (if_pos b117).symm | exact (if_neg b117).symm))
          · skip
            refine lv_iload_n hx hb dX6_best_120 rfl (lv_at hl 3 rfl) ?_
            refine lv_goto (tgt := 125) hx hb dX6_best_121 rfl ?_
            have hP := hP.sub (ws' := [oC ko 6 [.ref (ad 0), .ref (ad 1), .int (nI w), .int (nI h), .int (nI la), .ref (ad 2), .int (mv 0), .int (mv 1), .int (mv 2), .int (mv 3), .int (mv 4), .int (mv 5), .int (mv 6), .ref (ad 3), .int (nI tp), .int (mv 7), .int (mv 8), .int (mv 9), .int (mv 10), .int ft, .int (mv 11), .ref (ad 4), .ref (ad 5), .ref (ad 6), .ref (ad 7), .ref (ad 8), .ref (ad 9), .ref (ad 10), .int tr], iA G (ad 0) 255 S, iA G (ad 4) 16 mk3]) [2, 0, 1] rfl
            have hD := hD.sub (ws' := [oC ko 6 [.ref (ad 0), .ref (ad 1), .int (nI w), .int (nI h), .int (nI la), .ref (ad 2), .int (mv 0), .int (mv 1), .int (mv 2), .int (mv 3), .int (mv 4), .int (mv 5), .int (mv 6), .ref (ad 3), .int (nI tp), .int (mv 7), .int (mv 8), .int (mv 9), .int (mv 10), .int ft, .int (mv 11), .ref (ad 4), .ref (ad 5), .ref (ad 6), .ref (ad 7), .ref (ad 8), .ref (ad 9), .ref (ad 10), .int tr], iA G (ad 0) 255 S, iA G (ad 4) 16 mk3]) [2, 0, 1] (by decide) rfl
            refine W.iret (v := wh) hx hb hr (fun t ht hW => ⟨⟨wh, (mk3), rfl, ?_, by rw [ht]; exact hP, hD⟩, hS.F ht⟩) hS.2.2 dX6_best_125
            first | exact (if_neg b4).symm | (rw [if_pos b4]; first | exact (if_pos b16).symm | (rw [if_neg b16, show bsM (fun x => orF (fun l => shM w h S nc l x) nl) (w * h) = (mo, wh) from (by rw [hbs, show x = w * h by omega])]; first | exact (if_pos b117).symm | exact (if_neg b117).symm))
        · skip
          refine lv_iconst (v := nI 0) hx hb dX6_best_38 (by decide) ?_
          refine lv_istore (lv' := [(5, .int (nI 0)), (0, .ref ko), (1, .int a), (2, .int mo), (3, .int wh), (4, .int (nI x))]) hx hb dX6_best_39 hl (by decide) rfl (fun ls hl => ?_)
          refine lv_iconst (v := nI 0) hx hb dX6_best_41 (by decide) ?_
          refine lv_istore (lv' := [(6, .int (nI 0)), (5, .int (nI 0)), (0, .ref ko), (1, .int a), (2, .int mo), (3, .int wh), (4, .int (nI x))]) hx hb dX6_best_42 hl (by decide) rfl (fun ls hl => ?_)
          have hL44 : ∀ k : Nat, ∀ (i : Nat) (bits : Int32) (mk4 : Nat → Int32) (ls : Array Slot) (H : Heap) (locs : List Loc), nl - i = k → (i ≤ nl) → (bits = orF (fun l => shM w h S nc l x) i) → lv_has ls 7 [(0, .ref ko), (1, .int a), (2, .int mo), (3, .int wh), (4, .int (nI x)), (5, .int bits), (6, .int (nI i))] → xP G [iA G (ad 0) 255 S, iA G (ad 4) 16 mk4, oC ko 6 [.ref (ad 0), .ref (ad 1), .int (nI w), .int (nI h), .int (nI la), .ref (ad 2), .int (mv 0), .int (mv 1), .int (mv 2), .int (mv 3), .int (mv 4), .int (mv 5), .int (mv 6), .ref (ad 3), .int (nI tp), .int (mv 7), .int (mv 8), .int (mv 9), .int (mv 10), .int ft, .int (mv 11), .ref (ad 4), .ref (ad 5), .ref (ad 6), .ref (ad 7), .ref (ad 8), .ref (ad 9), .ref (ad 10), .int tr]] H → va_D (va_A (w_X6_best G ko ad w h la tp ft tr mv S mk) ss.heap.size) [iA G (ad 0) 255 S, iA G (ad 4) 16 mk4, oC ko 6 [.ref (ad 0), .ref (ad 1), .int (nI w), .int (nI h), .int (nI la), .ref (ad 2), .int (mv 0), .int (mv 1), .int (mv 2), .int (mv 3), .int (mv 4), .int (mv 5), .int (mv 6), .ref (ad 3), .int (nI tp), .int (mv 7), .int (mv 8), .int (mv 9), .int (mv 10), .int ft, .int (mv 11), .ref (ad 4), .ref (ad 5), .ref (ad 6), .ref (ad 7), .ref (ad 8), .ref (ad 9), .ref (ad 10), .int tr]] → va_S (va_A (w_X6_best G ko ad w h la tp ft tr mv S mk) ss.heap.size) ss.heap H locs → W pp l ee ({ frames := 5, cells := 0, slots := 0, locals := 111 } : Room) ss mm ([.ref ko, .int a] : List Value).toArray below mt cd H locs 0 0 (MQ below (Q_X6_best G ss.heap.size ko ad w h la tp ft tr mv S mk nc nl a) ([.ref ko, .int a] : List Value).toArray ss 0 0 (va_A (w_X6_best G ko ad w h la tp ft tr mv S mk) ss.heap.size)) (F0 mm 44 ls []) := by
            intro k
            induction k using Nat.strongRecOn with
            | _ k ih44 =>
            intro i bits mk4 ls H locs hm44 hi hbits hl hP hD hS
            refine lv_iload hx hb dX6_best_44 (lv_at hl 6 rfl) ?_
            refine lv_aload_n hx hb dX6_best_46 rfl (lv_at hl 0 rfl) ?_
            refine va_get (D := G.1) (ci := 6) (v := .ref (ad 0)) (C := RX6) (T := TX6) (N := 29) hx hb hts hin6 hown hK.1 hP 2 rfl rfl 0 (by decide) (hts (.fieldLink RX6 7 "BackLensesModel" "st" "[I") (List.mem_of_getElem? (i := 1) rfl)) (fun _ h9 => h9) rfl dX6_best_47 ?_
            refine lv_bipush (v := nI 47) hx hb dX6_best_50 (by decide) ?_
            refine xn_iald hx hb hK hP 0 rfl (by omega) (by omega) dX6_best_52 ?_
            refine xn_top (y := nI nl) (by exact hs47) ?_
            refine xn_icmp_ge (tgt := 75) hx hb (by omega) (by omega) dX6_best_53 rfl (fun b53 => ?_) (fun b53 => ?_)
            · skip
              refine lv_iload hx hb dX6_best_75 (lv_at hl 5 rfl) ?_
              refine xs_i (As := [.int bits]) (rest := []) ⟨hx, hb, hml, hown, hts⟩ (c_X6_bitsOf l G bits ) (va_cwS 1 hts gX6_best_X6_bitsOf rfl rfl rfl (by decide +kernel) ⟨Nat.le_of_ble_eq_true rfl, Nat.le_of_ble_eq_true rfl⟩) hP hS rfl hl.1 rfl (Nat.le_of_ble_eq_true rfl) dX6_best_77 ⟨Nat.zero_le _, Nat.zero_le _⟩ (fun r77 H locs hp77 hP hS => ?_)
              rw [show r77 = _ from hp77]
              refine lv_iload_n hx hb dX6_best_80 rfl (lv_at hl 2 rfl) ?_
              refine xi_icmp_le (tgt := 89) hx hb dX6_best_81 rfl (fun b81 => ?_) (fun b81 => ?_)
              · skip
                refine lv_iload_n hx hb dX6_best_89 rfl (lv_at hl 3 rfl) ?_
                refine lv_istore_n (lv' := [(3, .int wh), (0, .ref ko), (1, .int a), (2, .int mo), (4, .int (nI x)), (5, .int bits), (6, .int (nI i))]) hx hb dX6_best_90 rfl hl (by decide) rfl (fun ls hl => ?_)
                refine lv_iload hx hb dX6_best_91 (lv_at hl 5 rfl) ?_
                refine xs_i (As := [.int bits]) (rest := []) ⟨hx, hb, hml, hown, hts⟩ (c_X6_bitsOf l G bits ) (va_cwS 1 hts gX6_best_X6_bitsOf rfl rfl rfl (by decide +kernel) ⟨Nat.le_of_ble_eq_true rfl, Nat.le_of_ble_eq_true rfl⟩) hP hS rfl hl.1 rfl (Nat.le_of_ble_eq_true rfl) dX6_best_93 ⟨Nat.zero_le _, Nat.zero_le _⟩ (fun r93 H locs hp93 hP hS => ?_)
                rw [show r93 = _ from hp93]
                refine lv_iload_n hx hb dX6_best_96 rfl (lv_at hl 3 rfl) ?_
                refine xi_icmp_le (tgt := 108) hx hb dX6_best_97 rfl (fun b97 => ?_) (fun b97 => ?_)
                · skip
                  refine lv_iload_n hx hb dX6_best_108 rfl (lv_at hl 3 rfl) ?_
                  refine lv_istore_n (lv' := [(2, .int mo), (3, .int wh), (0, .ref ko), (1, .int a), (4, .int (nI x)), (5, .int bits), (6, .int (nI i))]) hx hb dX6_best_109 rfl hl (by decide) rfl (fun ls hl => ?_)
                  refine lv_iinc (k := 4) (v := nI (x + 1)) (lv' := [(4, .int (nI (x + 1))), (2, .int mo), (3, .int wh), (0, .ref ko), (1, .int a), (5, .int bits), (6, .int (nI i))]) hx hb dX6_best_110 hl rfl (xn_inc x 1) (by decide) rfl (fun ls hl => ?_)
                  refine lv_goto (tgt := 29) hx hb dX6_best_113 rfl ?_
                  have hl := lv_sub hl (l' := [(0, .ref ko), (1, .int a), (2, .int mo), (3, .int wh), (4, .int (nI (x + 1)))]) [3, 4, 1, 2, 0] rfl
                  exact ih29 (w * h - (x + 1)) (by omega) (x + 1) mo wh mk4 ls H locs rfl (by omega) (by rw [bsM, ← hbs]; first | (rw [if_pos (by rw [hbits, show i = nl by omega] at b81; exact b81)]) | (rw [if_neg (by rw [hbits, show i = nl by omega] at b81; exact b81), hbits, show i = nl by omega])) hl hP hD hS
                · skip
                  exact absurd b81 b97
              · skip
                refine lv_iload hx hb dX6_best_84 (lv_at hl 4 rfl) ?_
                refine lv_goto (tgt := 90) hx hb dX6_best_86 rfl ?_
                refine lv_istore_n (lv' := [(3, .int (nI x)), (0, .ref ko), (1, .int a), (2, .int mo), (4, .int (nI x)), (5, .int bits), (6, .int (nI i))]) hx hb dX6_best_90 rfl hl (by decide) rfl (fun ls hl => ?_)
                refine lv_iload hx hb dX6_best_91 (lv_at hl 5 rfl) ?_
                refine xs_i (As := [.int bits]) (rest := []) ⟨hx, hb, hml, hown, hts⟩ (c_X6_bitsOf l G bits ) (va_cwS 1 hts gX6_best_X6_bitsOf rfl rfl rfl (by decide +kernel) ⟨Nat.le_of_ble_eq_true rfl, Nat.le_of_ble_eq_true rfl⟩) hP hS rfl hl.1 rfl (Nat.le_of_ble_eq_true rfl) dX6_best_93 ⟨Nat.zero_le _, Nat.zero_le _⟩ (fun r93 H locs hp93 hP hS => ?_)
                rw [show r93 = _ from hp93]
                refine lv_iload_n hx hb dX6_best_96 rfl (lv_at hl 3 rfl) ?_
                refine xi_icmp_le (tgt := 108) hx hb dX6_best_97 rfl (fun b97 => ?_) (fun b97 => ?_)
                · skip
                  exact absurd b97 b81
                · skip
                  refine lv_iload hx hb dX6_best_100 (lv_at hl 5 rfl) ?_
                  refine xs_i (As := [.int bits]) (rest := []) ⟨hx, hb, hml, hown, hts⟩ (c_X6_bitsOf l G bits ) (va_cwS 1 hts gX6_best_X6_bitsOf rfl rfl rfl (by decide +kernel) ⟨Nat.le_of_ble_eq_true rfl, Nat.le_of_ble_eq_true rfl⟩) hP hS rfl hl.1 rfl (Nat.le_of_ble_eq_true rfl) dX6_best_102 ⟨Nat.zero_le _, Nat.zero_le _⟩ (fun r102 H locs hp102 hP hS => ?_)
                  rw [show r102 = _ from hp102]
                  refine lv_goto (tgt := 109) hx hb dX6_best_105 rfl ?_
                  refine lv_istore_n (lv' := [(2, .int (bcM bits 16)), (3, .int (nI x)), (0, .ref ko), (1, .int a), (4, .int (nI x)), (5, .int bits), (6, .int (nI i))]) hx hb dX6_best_109 rfl hl (by decide) rfl (fun ls hl => ?_)
                  refine lv_iinc (k := 4) (v := nI (x + 1)) (lv' := [(4, .int (nI (x + 1))), (2, .int (bcM bits 16)), (3, .int (nI x)), (0, .ref ko), (1, .int a), (5, .int bits), (6, .int (nI i))]) hx hb dX6_best_110 hl rfl (xn_inc x 1) (by decide) rfl (fun ls hl => ?_)
                  refine lv_goto (tgt := 29) hx hb dX6_best_113 rfl ?_
                  have hl := lv_sub hl (l' := [(0, .ref ko), (1, .int a), (2, .int (bcM bits 16)), (3, .int (nI x)), (4, .int (nI (x + 1)))]) [3, 4, 1, 2, 0] rfl
                  exact ih29 (w * h - (x + 1)) (by omega) (x + 1) (bcM bits 16) (nI x) mk4 ls H locs rfl (by omega) (by rw [bsM, ← hbs]; first | (rw [if_pos (by rw [hbits, show i = nl by omega] at b81; exact b81)]) | (rw [if_neg (by rw [hbits, show i = nl by omega] at b81; exact b81), hbits, show i = nl by omega])) hl hP hD hS
            · skip
              refine lv_iload hx hb dX6_best_56 (lv_at hl 5 rfl) ?_
              refine lv_aload_n hx hb dX6_best_58 rfl (lv_at hl 0 rfl) ?_
              refine lv_iload hx hb dX6_best_59 (lv_at hl 6 rfl) ?_
              refine lv_iload hx hb dX6_best_61 (lv_at hl 4 rfl) ?_
              refine xw_i (As := [.int (nI i), .int (nI x)]) (rest := [.int bits]) (wr := []) ⟨hx, hb, hml, hown, hts⟩ (c_X6_shownBy l G H.size ko ad w h la tp ft tr mv S mk4 nc nl i x (by first | assumption | omega) (by first | assumption | omega) (by first | assumption | omega) (by first | assumption | omega) (by first | assumption | omega) (by first | assumption | omega) (by first | assumption | omega) (by first | assumption | omega) (by first | assumption | omega) (by first | assumption | omega) (by first | assumption | omega) (by first | assumption | omega) (by first | assumption | omega)) (cwV 2 hts gX6_best_X6_shownBy rfl rfl rfl (by decide +kernel) ⟨Nat.le_of_ble_eq_true rfl, Nat.le_of_ble_eq_true rfl⟩) hK hP hD hS hA [2, 0, 1] [] rfl rfl (by decide) (by decide) (by decide) rfl rfl rfl hl.1 rfl (Nat.le_of_ble_eq_true rfl) dX6_best_63 ⟨Nat.le_of_ble_eq_true rfl, Nat.le_of_ble_eq_true rfl⟩ (fun r63 u H locs hp63 hP hD hS => ?_)
              obtain ⟨mk2_63, rfl⟩ : ∃ z, z = u := ⟨_, rfl⟩
              try dsimp only at hp63 hP hD
              obtain rfl := hp63
              replace hP : xP G [oC ko 6 [.ref (ad 0), .ref (ad 1), .int (nI w), .int (nI h), .int (nI la), .ref (ad 2), .int (mv 0), .int (mv 1), .int (mv 2), .int (mv 3), .int (mv 4), .int (mv 5), .int (mv 6), .ref (ad 3), .int (nI tp), .int (mv 7), .int (mv 8), .int (mv 9), .int (mv 10), .int ft, .int (mv 11), .ref (ad 4), .ref (ad 5), .ref (ad 6), .ref (ad 7), .ref (ad 8), .ref (ad 9), .ref (ad 10), .int tr], iA G (ad 0) 255 S, iA G (ad 4) 16 mk2_63] H := hP
              replace hD : va_D (va_A (w_X6_best G ko ad w h la tp ft tr mv S mk) ss.heap.size) [oC ko 6 [.ref (ad 0), .ref (ad 1), .int (nI w), .int (nI h), .int (nI la), .ref (ad 2), .int (mv 0), .int (mv 1), .int (mv 2), .int (mv 3), .int (mv 4), .int (mv 5), .int (mv 6), .ref (ad 3), .int (nI tp), .int (mv 7), .int (mv 8), .int (mv 9), .int (mv 10), .int ft, .int (mv 11), .ref (ad 4), .ref (ad 5), .ref (ad 6), .ref (ad 7), .ref (ad 8), .ref (ad 9), .ref (ad 10), .int tr], iA G (ad 0) 255 S, iA G (ad 4) 16 mk2_63] := hD
              refine lv_ior hx hb dX6_best_66 ?_
              refine lv_istore (lv' := [(5, .int (bits ||| (shM w h S nc i x))), (0, .ref ko), (1, .int a), (2, .int mo), (3, .int wh), (4, .int (nI x)), (6, .int (nI i))]) hx hb dX6_best_67 hl (by decide) rfl (fun ls hl => ?_)
              refine lv_iinc (k := 6) (v := nI (i + 1)) (lv' := [(6, .int (nI (i + 1))), (5, .int (bits ||| (shM w h S nc i x))), (0, .ref ko), (1, .int a), (2, .int mo), (3, .int wh), (4, .int (nI x))]) hx hb dX6_best_69 hl rfl (xn_inc i 1) (by decide) rfl (fun ls hl => ?_)
              refine lv_goto (tgt := 44) hx hb dX6_best_72 rfl ?_
              have hl := lv_sub hl (l' := [(0, .ref ko), (1, .int a), (2, .int mo), (3, .int wh), (4, .int (nI x)), (5, .int (bits ||| (shM w h S nc i x))), (6, .int (nI (i + 1)))]) [2, 3, 4, 5, 6, 1, 0] rfl
              have hP := hP.sub (ws' := [iA G (ad 0) 255 S, iA G (ad 4) 16 mk2_63, oC ko 6 [.ref (ad 0), .ref (ad 1), .int (nI w), .int (nI h), .int (nI la), .ref (ad 2), .int (mv 0), .int (mv 1), .int (mv 2), .int (mv 3), .int (mv 4), .int (mv 5), .int (mv 6), .ref (ad 3), .int (nI tp), .int (mv 7), .int (mv 8), .int (mv 9), .int (mv 10), .int ft, .int (mv 11), .ref (ad 4), .ref (ad 5), .ref (ad 6), .ref (ad 7), .ref (ad 8), .ref (ad 9), .ref (ad 10), .int tr]]) [1, 2, 0] rfl
              have hD := hD.sub (ws' := [iA G (ad 0) 255 S, iA G (ad 4) 16 mk2_63, oC ko 6 [.ref (ad 0), .ref (ad 1), .int (nI w), .int (nI h), .int (nI la), .ref (ad 2), .int (mv 0), .int (mv 1), .int (mv 2), .int (mv 3), .int (mv 4), .int (mv 5), .int (mv 6), .ref (ad 3), .int (nI tp), .int (mv 7), .int (mv 8), .int (mv 9), .int (mv 10), .int ft, .int (mv 11), .ref (ad 4), .ref (ad 5), .ref (ad 6), .ref (ad 7), .ref (ad 8), .ref (ad 9), .ref (ad 10), .int tr]]) [1, 2, 0] (by decide) rfl
              exact ih44 (nl - (i + 1)) (by omega) (i + 1) (bits ||| (shM w h S nc i x)) mk2_63 ls H locs rfl (by omega) (by rw [hbits]; rfl) hl hP hD hS
          have hl := lv_sub hl (l' := [(0, .ref ko), (1, .int a), (2, .int mo), (3, .int wh), (4, .int (nI x)), (5, .int (nI 0)), (6, .int (nI 0))]) [2, 3, 4, 5, 6, 1, 0] rfl
          exact hL44 (nl - 0) 0 (nI 0) mk3 ls H locs rfl (by omega) (by rfl) hl hP hD hS
      have hl := lv_sub hl (l' := [(0, .ref ko), (1, .int a), (2, .int (-1)), (3, .int (nI 0)), (4, .int (nI 0))]) [3, 4, 2, 1, 0] rfl
      have hP := hP.sub (ws' := [iA G (ad 0) 255 S, iA G (ad 4) 16 mk, oC ko 6 [.ref (ad 0), .ref (ad 1), .int (nI w), .int (nI h), .int (nI la), .ref (ad 2), .int (mv 0), .int (mv 1), .int (mv 2), .int (mv 3), .int (mv 4), .int (mv 5), .int (mv 6), .ref (ad 3), .int (nI tp), .int (mv 7), .int (mv 8), .int (mv 9), .int (mv 10), .int ft, .int (mv 11), .ref (ad 4), .ref (ad 5), .ref (ad 6), .ref (ad 7), .ref (ad 8), .ref (ad 9), .ref (ad 10), .int tr]]) [1, 2, 0] rfl
      have hD := hD.sub (ws' := [iA G (ad 0) 255 S, iA G (ad 4) 16 mk, oC ko 6 [.ref (ad 0), .ref (ad 1), .int (nI w), .int (nI h), .int (nI la), .ref (ad 2), .int (mv 0), .int (mv 1), .int (mv 2), .int (mv 3), .int (mv 4), .int (mv 5), .int (mv 6), .ref (ad 3), .int (nI tp), .int (mv 7), .int (mv 8), .int (mv 9), .int (mv 10), .int ft, .int (mv 11), .ref (ad 4), .ref (ad 5), .ref (ad 6), .ref (ad 7), .ref (ad 8), .ref (ad 9), .ref (ad 10), .int tr]]) [1, 2, 0] (by decide) rfl
      exact hL29 (w * h - 0) 0 (-1) (nI 0) mk ls H locs rfl (by omega) (by rfl) hl hP hD hS
    · skip
      refine lv_bipush (v := (-2)) hx hb dX6_best_19 (by decide) ?_
      have hP := hP.sub (ws' := [oC ko 6 [.ref (ad 0), .ref (ad 1), .int (nI w), .int (nI h), .int (nI la), .ref (ad 2), .int (mv 0), .int (mv 1), .int (mv 2), .int (mv 3), .int (mv 4), .int (mv 5), .int (mv 6), .ref (ad 3), .int (nI tp), .int (mv 7), .int (mv 8), .int (mv 9), .int (mv 10), .int ft, .int (mv 11), .ref (ad 4), .ref (ad 5), .ref (ad 6), .ref (ad 7), .ref (ad 8), .ref (ad 9), .ref (ad 10), .int tr], iA G (ad 0) 255 S, iA G (ad 4) 16 mk]) [0, 1, 2] rfl
      have hD := hD.sub (ws' := [oC ko 6 [.ref (ad 0), .ref (ad 1), .int (nI w), .int (nI h), .int (nI la), .ref (ad 2), .int (mv 0), .int (mv 1), .int (mv 2), .int (mv 3), .int (mv 4), .int (mv 5), .int (mv 6), .ref (ad 3), .int (nI tp), .int (mv 7), .int (mv 8), .int (mv 9), .int (mv 10), .int ft, .int (mv 11), .ref (ad 4), .ref (ad 5), .ref (ad 6), .ref (ad 7), .ref (ad 8), .ref (ad 9), .ref (ad 10), .int tr], iA G (ad 0) 255 S, iA G (ad 4) 16 mk]) [0, 1, 2] (by decide) rfl
      refine W.iret (v := (-2)) hx hb hr (fun t ht hW => ⟨⟨(-2), (mk), rfl, ?_, by rw [ht]; exact hP, hD⟩, hS.F ht⟩) hS.2.2 dX6_best_21
      first | exact (if_neg b4).symm | (rw [if_pos b4]; first | exact (if_pos b16).symm | (rw [if_neg b16, show bsM (fun x => orF (fun l => shM w h S nc l x) nl) (w * h) = (mo, wh) from (by rw [hbs, show x = w * h by omega])]; first | exact (if_pos b117).symm | exact (if_neg b117).symm))
  · skip
    refine lv_iconst (v := (-1)) hx hb dX6_best_7 (by decide) ?_
    have hP := hP.sub (ws' := [oC ko 6 [.ref (ad 0), .ref (ad 1), .int (nI w), .int (nI h), .int (nI la), .ref (ad 2), .int (mv 0), .int (mv 1), .int (mv 2), .int (mv 3), .int (mv 4), .int (mv 5), .int (mv 6), .ref (ad 3), .int (nI tp), .int (mv 7), .int (mv 8), .int (mv 9), .int (mv 10), .int ft, .int (mv 11), .ref (ad 4), .ref (ad 5), .ref (ad 6), .ref (ad 7), .ref (ad 8), .ref (ad 9), .ref (ad 10), .int tr], iA G (ad 0) 255 S, iA G (ad 4) 16 mk]) [0, 1, 2] rfl
    have hD := hD.sub (ws' := [oC ko 6 [.ref (ad 0), .ref (ad 1), .int (nI w), .int (nI h), .int (nI la), .ref (ad 2), .int (mv 0), .int (mv 1), .int (mv 2), .int (mv 3), .int (mv 4), .int (mv 5), .int (mv 6), .ref (ad 3), .int (nI tp), .int (mv 7), .int (mv 8), .int (mv 9), .int (mv 10), .int ft, .int (mv 11), .ref (ad 4), .ref (ad 5), .ref (ad 6), .ref (ad 7), .ref (ad 8), .ref (ad 9), .ref (ad 10), .int tr], iA G (ad 0) 255 S, iA G (ad 4) 16 mk]) [0, 1, 2] (by decide) rfl
    refine W.iret (v := (-1)) hx hb hr (fun t ht hW => ⟨⟨(-1), (mk), rfl, ?_, by rw [ht]; exact hP, hD⟩, hS.F ht⟩) hS.2.2 dX6_best_8
    first | exact (if_neg b4).symm | (rw [if_pos b4]; first | exact (if_pos b16).symm | (rw [if_neg b16, show bsM (fun x => orF (fun l => shM w h S nc l x) nl) (w * h) = (mo, wh) from (by rw [hbs, show x = w * h by omega])]; first | exact (if_pos b117).symm | exact (if_neg b117).symm))

abbrev w_X6_worstOf (G : XG) (ko : Nat) (ad : Nat → Nat) (w h la tp : Nat) (ft tr : Int32) (mv : Nat → Int32) (S mk : Nat → Int32) (gr : Nat → Int32) : va_W := [oC ko 6 [.ref (ad 0), .ref (ad 1), .int (nI w), .int (nI h), .int (nI la), .ref (ad 2), .int (mv 0), .int (mv 1), .int (mv 2), .int (mv 3), .int (mv 4), .int (mv 5), .int (mv 6), .ref (ad 3), .int (nI tp), .int (mv 7), .int (mv 8), .int (mv 9), .int (mv 10), .int ft, .int (mv 11), .ref (ad 4), .ref (ad 5), .ref (ad 6), .ref (ad 7), .ref (ad 8), .ref (ad 9), .ref (ad 10), .int tr], iA G (ad 0) 255 S, iA G (ad 4) 16 mk, iA G (ad 5) 7 gr]
abbrev Q_X6_worstOf (G : XG) (sz : Nat) (ko : Nat) (ad : Nat → Nat) (w h la tp : Nat) (ft tr : Int32) (mv : Nat → Int32) (S mk : Nat → Int32) (nc : Nat) (gr : Nat → Int32) (x c : Nat) (sm : Int32) : Array Value → State → Outcome → State → Prop := (va_Qi (fun (r : Int32) (u : (Nat → Int32) × (Nat → Int32)) => r = nI (wsM w h la S nc x c sm)) (xWb G sz (w_X6_worstOf G ko ad w h la tp ft tr mv S mk gr) (fun u : (Nat → Int32) × (Nat → Int32) => [oC ko 6 [.ref (ad 0), .ref (ad 1), .int (nI w), .int (nI h), .int (nI la), .ref (ad 2), .int (mv 0), .int (mv 1), .int (mv 2), .int (mv 3), .int (mv 4), .int (mv 5), .int (mv 6), .ref (ad 3), .int (nI tp), .int (mv 7), .int (mv 8), .int (mv 9), .int (mv 10), .int ft, .int (mv 11), .ref (ad 4), .ref (ad 5), .ref (ad 6), .ref (ad 7), .ref (ad 8), .ref (ad 9), .ref (ad 10), .int tr], iA G (ad 0) 255 S, iA G (ad 4) 16 u.1, iA G (ad 5) 7 u.2])) (va_A (w_X6_worstOf G ko ad w h la tp ft tr mv S mk gr) sz))
set_option maxHeartbeats 4000000 in
set_option maxRecDepth 100000 in
theorem c_X6_worstOf (l : Launch) (G : XG) (sz : Nat) (ko : Nat) (ad : Nat → Nat) (w h la tp : Nat) (ft tr : Int32) (mv : Nat → Int32) (S mk : Nat → Int32) (nc : Nat) (gr : Nat → Int32) (x c : Nat) (sm : Int32) (hw : 1 ≤ w) (hwb : w ≤ 16) (hhb : h ≤ 16) (hwh1 : 1 ≤ w * h) (hwh : w * h ≤ 16) (hla : la ≤ 9) (hs16 : S 16 = nI nc) (hnc : nc ≤ 10) (hmk : ∀ c d, c < 16 → d ≤ la → inR (mkM S nc c d) 6) (hxx : x < w * h) (hcc : c < w * h) : Met l yX6_worstOf wsX6_worstOf ({ frames := 4, cells := 0, slots := 0, locals := 89 } : Room) (va_Pc [.ref ko, .int (nI x), .int (nI c), .int sm] (xWp G sz (w_X6_worstOf G ko ad w h la tp ft tr mv S mk gr))) (Q_X6_worstOf G sz ko ad w h la tp ft tr mv S mk nc gr x c sm) 0 0 (va_A (w_X6_worstOf G ko ad w h la tp ft tr mv S mk gr) sz) := by
  refine Met.ofW (cc := cX6_worstOf) (maxL := 8) (ret := (some .int)) (by decide) rfl ?_
  intro pp ee ss mm aa below mt cd s₁ BB hml hv
  obtain ⟨rfl, hsz, hP, hK, hD0⟩ := hv
  have hx := BB.exec
  have hb := BB.bytes
  have hr := BB.returns
  have hts := atoms_spec (ws := wsX6_worstOf) BB.pre
  have hown : ss.vm.findClass RX6 = some mm.cls := findClass_of_methodNamed BB.named
  have hlocks := BB.notSynchronized
  subst hsz
  have hD := hD0.self (sz := ss.heap.size)
  have hA : ∀ q : Nat, ss.heap.size ≤ q → va_A (w_X6_worstOf G ko ad w h la tp ft tr mv S mk gr) ss.heap.size q := fun q h => Or.inr h
  have hS : va_S (va_A (w_X6_worstOf G ko ad w h la tp ft tr mv S mk gr) ss.heap.size) ss.heap ss.heap [] := va_S.rf
  replace hD : va_D (va_A (w_X6_worstOf G ko ad w h la tp ft tr mv S mk gr) ss.heap.size) [oC ko 6 [.ref (ad 0), .ref (ad 1), .int (nI w), .int (nI h), .int (nI la), .ref (ad 2), .int (mv 0), .int (mv 1), .int (mv 2), .int (mv 3), .int (mv 4), .int (mv 5), .int (mv 6), .ref (ad 3), .int (nI tp), .int (mv 7), .int (mv 8), .int (mv 9), .int (mv 10), .int ft, .int (mv 11), .ref (ad 4), .ref (ad 5), .ref (ad 6), .ref (ad 7), .ref (ad 8), .ref (ad 9), .ref (ad 10), .int tr], iA G (ad 0) 255 S, iA G (ad 4) 16 mk, iA G (ad 5) 7 gr] := hD
  replace hP : xP G [oC ko 6 [.ref (ad 0), .ref (ad 1), .int (nI w), .int (nI h), .int (nI la), .ref (ad 2), .int (mv 0), .int (mv 1), .int (mv 2), .int (mv 3), .int (mv 4), .int (mv 5), .int (mv 6), .ref (ad 3), .int (nI tp), .int (mv 7), .int (mv 8), .int (mv 9), .int (mv 10), .int ft, .int (mv 11), .ref (ad 4), .ref (ad 5), .ref (ad 6), .ref (ad 7), .ref (ad 8), .ref (ad 9), .ref (ad 10), .int tr], iA G (ad 0) 255 S, iA G (ad 4) 16 mk, iA G (ad 5) 7 gr] ss.heap := hP
  have hin6 : ∀ w ∈ u_ws RX6 TX6 29, w ∈ wsX6_worstOf := fun w h => List.mem_cons_of_mem _ (List.mem_append_right _ h)
  have hl := lv_entry ([.ref ko, .int (nI x), .int (nI c), .int sm]) (n := 8) (Nat.le_of_ble_eq_true rfl)
  rw [lg_entry_eq]
  generalize (lg_sl ([.ref ko, .int (nI x), .int (nI c), .int sm]) ++ List.replicate (8 - (lg_sl ([.ref ko, .int (nI x), .int (nI c), .int sm])).length) Slot.unset).toArray = ls at hl ⊢
  replace hl : lv_has ls 8 [(0, .ref ko), (1, .int (nI x)), (2, .int (nI c)), (3, .int sm)] := hl
  refine lv_iconst (v := nI 0) hx hb dX6_worstOf_0 (by decide) ?_
  refine lv_istore (lv' := [(4, .int (nI 0)), (0, .ref ko), (1, .int (nI x)), (2, .int (nI c)), (3, .int sm)]) hx hb dX6_worstOf_1 hl (by decide) rfl (fun ls hl => ?_)
  have hL3 : ∀ k : Nat, ∀ (k1 : Nat) (gr3 : Nat → Int32) (ls : Array Slot) (H : Heap) (locs : List Loc), 7 - k1 = k → (k1 ≤ 7) → (∀ i, i < k1 → gr3 i = nI 0) → lv_has ls 8 [(0, .ref ko), (1, .int (nI x)), (2, .int (nI c)), (3, .int sm), (4, .int (nI k1))] → xP G [iA G (ad 0) 255 S, iA G (ad 4) 16 mk, iA G (ad 5) 7 gr3, oC ko 6 [.ref (ad 0), .ref (ad 1), .int (nI w), .int (nI h), .int (nI la), .ref (ad 2), .int (mv 0), .int (mv 1), .int (mv 2), .int (mv 3), .int (mv 4), .int (mv 5), .int (mv 6), .ref (ad 3), .int (nI tp), .int (mv 7), .int (mv 8), .int (mv 9), .int (mv 10), .int ft, .int (mv 11), .ref (ad 4), .ref (ad 5), .ref (ad 6), .ref (ad 7), .ref (ad 8), .ref (ad 9), .ref (ad 10), .int tr]] H → va_D (va_A (w_X6_worstOf G ko ad w h la tp ft tr mv S mk gr) ss.heap.size) [iA G (ad 0) 255 S, iA G (ad 4) 16 mk, iA G (ad 5) 7 gr3, oC ko 6 [.ref (ad 0), .ref (ad 1), .int (nI w), .int (nI h), .int (nI la), .ref (ad 2), .int (mv 0), .int (mv 1), .int (mv 2), .int (mv 3), .int (mv 4), .int (mv 5), .int (mv 6), .ref (ad 3), .int (nI tp), .int (mv 7), .int (mv 8), .int (mv 9), .int (mv 10), .int ft, .int (mv 11), .ref (ad 4), .ref (ad 5), .ref (ad 6), .ref (ad 7), .ref (ad 8), .ref (ad 9), .ref (ad 10), .int tr]] → va_S (va_A (w_X6_worstOf G ko ad w h la tp ft tr mv S mk gr) ss.heap.size) ss.heap H locs → W pp l ee ({ frames := 4, cells := 0, slots := 0, locals := 89 } : Room) ss mm ([.ref ko, .int (nI x), .int (nI c), .int sm] : List Value).toArray below mt cd H locs 0 0 (MQ below (Q_X6_worstOf G ss.heap.size ko ad w h la tp ft tr mv S mk nc gr x c sm) ([.ref ko, .int (nI x), .int (nI c), .int sm] : List Value).toArray ss 0 0 (va_A (w_X6_worstOf G ko ad w h la tp ft tr mv S mk gr) ss.heap.size)) (F0 mm 3 ls []) := by
    intro k
    induction k using Nat.strongRecOn with
    | _ k ih3 =>
    intro k1 gr3 ls H locs hm3 hk1 hg3 hl hP hD hS
    refine lv_iload hx hb dX6_worstOf_3 (lv_at hl 4 rfl) ?_
    refine lv_bipush (v := nI 7) hx hb dX6_worstOf_5 (by decide) ?_
    refine xn_icmp_ge (tgt := 24) hx hb (by omega) (by omega) dX6_worstOf_7 rfl (fun b7 => ?_) (fun b7 => ?_)
    · skip
      refine lv_iconst (v := nI 0) hx hb dX6_worstOf_24 (by decide) ?_
      refine lv_istore (lv' := [(4, .int (nI 0)), (0, .ref ko), (1, .int (nI x)), (2, .int (nI c)), (3, .int sm)]) hx hb dX6_worstOf_25 hl (by decide) rfl (fun ls hl => ?_)
      refine lv_iconst (v := nI 0) hx hb dX6_worstOf_27 (by decide) ?_
      refine lv_istore (lv' := [(5, .int (nI 0)), (4, .int (nI 0)), (0, .ref ko), (1, .int (nI x)), (2, .int (nI c)), (3, .int sm)]) hx hb dX6_worstOf_28 hl (by decide) rfl (fun ls hl => ?_)
      have hL30 : ∀ k : Nat, ∀ (d : Nat) (wo : Nat) (mk3 : Nat → Int32) (ty3 : Nat → Int32) (ls : Array Slot) (H : Heap) (locs : List Loc), la + 1 - d = k → (d ≤ la + 1) → (wo = woF (slM w h S nc x c) (fun d => bitB sm d) d) → (∀ k, k < 7 → ty3 k = nI (tlF (slM w h S nc x c) (fun d => bitB sm d) d k)) → lv_has ls 8 [(0, .ref ko), (1, .int (nI x)), (2, .int (nI c)), (3, .int sm), (4, .int (nI wo)), (5, .int (nI d))] → xP G [iA G (ad 0) 255 S, iA G (ad 4) 16 mk3, iA G (ad 5) 7 ty3, oC ko 6 [.ref (ad 0), .ref (ad 1), .int (nI w), .int (nI h), .int (nI la), .ref (ad 2), .int (mv 0), .int (mv 1), .int (mv 2), .int (mv 3), .int (mv 4), .int (mv 5), .int (mv 6), .ref (ad 3), .int (nI tp), .int (mv 7), .int (mv 8), .int (mv 9), .int (mv 10), .int ft, .int (mv 11), .ref (ad 4), .ref (ad 5), .ref (ad 6), .ref (ad 7), .ref (ad 8), .ref (ad 9), .ref (ad 10), .int tr]] H → va_D (va_A (w_X6_worstOf G ko ad w h la tp ft tr mv S mk gr) ss.heap.size) [iA G (ad 0) 255 S, iA G (ad 4) 16 mk3, iA G (ad 5) 7 ty3, oC ko 6 [.ref (ad 0), .ref (ad 1), .int (nI w), .int (nI h), .int (nI la), .ref (ad 2), .int (mv 0), .int (mv 1), .int (mv 2), .int (mv 3), .int (mv 4), .int (mv 5), .int (mv 6), .ref (ad 3), .int (nI tp), .int (mv 7), .int (mv 8), .int (mv 9), .int (mv 10), .int ft, .int (mv 11), .ref (ad 4), .ref (ad 5), .ref (ad 6), .ref (ad 7), .ref (ad 8), .ref (ad 9), .ref (ad 10), .int tr]] → va_S (va_A (w_X6_worstOf G ko ad w h la tp ft tr mv S mk gr) ss.heap.size) ss.heap H locs → W pp l ee ({ frames := 4, cells := 0, slots := 0, locals := 89 } : Room) ss mm ([.ref ko, .int (nI x), .int (nI c), .int sm] : List Value).toArray below mt cd H locs 0 0 (MQ below (Q_X6_worstOf G ss.heap.size ko ad w h la tp ft tr mv S mk nc gr x c sm) ([.ref ko, .int (nI x), .int (nI c), .int sm] : List Value).toArray ss 0 0 (va_A (w_X6_worstOf G ko ad w h la tp ft tr mv S mk gr) ss.heap.size)) (F0 mm 30 ls []) := by
        intro k
        induction k using Nat.strongRecOn with
        | _ k ih30 =>
        intro d wo mk3 ty3 ls H locs hm30 hd hwo hty hl hP hD hS
        refine lv_iload hx hb dX6_worstOf_30 (lv_at hl 5 rfl) ?_
        refine lv_aload_n hx hb dX6_worstOf_32 rfl (lv_at hl 0 rfl) ?_
        refine va_get (D := G.1) (ci := 6) (v := .int (nI la)) (C := RX6) (T := TX6) (N := 29) hx hb hts hin6 hown hK.1 hP 3 rfl rfl 4 (by decide) (hts (.fieldLink RX6 78 "BackLensesModel" "last" "I") (List.mem_of_getElem? (i := 2) rfl)) (fun _ h9 => h9) rfl dX6_worstOf_33 ?_
        refine xn_icmp_gt (tgt := 122) hx hb (by omega) (by omega) dX6_worstOf_36 rfl (fun b36 => ?_) (fun b36 => ?_)
        · skip
          refine lv_iload hx hb dX6_worstOf_122 (lv_at hl 4 rfl) ?_
          have hP := hP.sub (ws' := [oC ko 6 [.ref (ad 0), .ref (ad 1), .int (nI w), .int (nI h), .int (nI la), .ref (ad 2), .int (mv 0), .int (mv 1), .int (mv 2), .int (mv 3), .int (mv 4), .int (mv 5), .int (mv 6), .ref (ad 3), .int (nI tp), .int (mv 7), .int (mv 8), .int (mv 9), .int (mv 10), .int ft, .int (mv 11), .ref (ad 4), .ref (ad 5), .ref (ad 6), .ref (ad 7), .ref (ad 8), .ref (ad 9), .ref (ad 10), .int tr], iA G (ad 0) 255 S, iA G (ad 4) 16 mk3, iA G (ad 5) 7 ty3]) [3, 0, 1, 2] rfl
          have hD := hD.sub (ws' := [oC ko 6 [.ref (ad 0), .ref (ad 1), .int (nI w), .int (nI h), .int (nI la), .ref (ad 2), .int (mv 0), .int (mv 1), .int (mv 2), .int (mv 3), .int (mv 4), .int (mv 5), .int (mv 6), .ref (ad 3), .int (nI tp), .int (mv 7), .int (mv 8), .int (mv 9), .int (mv 10), .int ft, .int (mv 11), .ref (ad 4), .ref (ad 5), .ref (ad 6), .ref (ad 7), .ref (ad 8), .ref (ad 9), .ref (ad 10), .int tr], iA G (ad 0) 255 S, iA G (ad 4) 16 mk3, iA G (ad 5) 7 ty3]) [3, 0, 1, 2] (by decide) rfl
          refine W.iret (v := nI wo) hx hb hr (fun t ht hW => ⟨⟨nI wo, (mk3, ty3), rfl, ?_, by rw [ht]; exact hP, hD⟩, hS.F ht⟩) hS.2.2 dX6_worstOf_124
          try dsimp only
          rw [hwo, show d = la + 1 by omega]
        · skip
          refine lv_iload_n hx hb dX6_worstOf_39 rfl (lv_at hl 3 rfl) ?_
          refine lv_iload hx hb dX6_worstOf_40 (lv_at hl 5 rfl) ?_
          refine lv_ishr hx hb dX6_worstOf_42 ?_
          refine lv_iconst (v := nI 1) hx hb dX6_worstOf_43 (by decide) ?_
          refine lv_iand hx hb dX6_worstOf_44 ?_
          refine lv_iconst (v := nI 1) hx hb dX6_worstOf_45 (by decide) ?_
          refine lv_icmp_ne (tgt := 116) hx hb dX6_worstOf_46 rfl (fun b46 => ?_) (fun b46 => ?_)
          · skip
            have hfb : (fun d => bitB sm d) d = false := (by simp only [bitB, decide_eq_true (Decidable.not_not.mp (fun q => b46 (bit1.mpr q)))]; rfl)
            refine lv_iinc (k := 5) (v := nI (d + 1)) (lv' := [(5, .int (nI (d + 1))), (0, .ref ko), (1, .int (nI x)), (2, .int (nI c)), (3, .int sm), (4, .int (nI wo))]) hx hb dX6_worstOf_116 hl rfl (xn_inc d 1) (by decide) rfl (fun ls hl => ?_)
            refine lv_goto (tgt := 30) hx hb dX6_worstOf_119 rfl ?_
            have hl := lv_sub hl (l' := [(0, .ref ko), (1, .int (nI x)), (2, .int (nI c)), (3, .int sm), (4, .int (nI wo)), (5, .int (nI (d + 1)))]) [1, 2, 3, 4, 5, 0] rfl
            exact ih30 (la + 1 - (d + 1)) (by omega) (d + 1) wo mk3 ty3 ls H locs rfl (by omega) (by first | exact woF_skip hfb hwo | exact wo_gt hfb hsk hwo (hty sk hs7) (by omega) hgt | exact wo_le hfb hsk hwo hgt) (by intro k hk; first | exact tlF_skip hfb (hty k hk) | exact tl_step hfb hsk hty hk) hl hP hD hS
          · skip
            have hfb : (fun d => bitB sm d) d = true := (by simp only [bitB, decide_eq_false (bit1.mp b46)]; rfl)
            refine lv_aload_n hx hb dX6_worstOf_49 rfl (lv_at hl 0 rfl) ?_
            refine lv_iload hx hb dX6_worstOf_50 (lv_at hl 5 rfl) ?_
            refine xw_v (As := [.int (nI d)]) (rest := []) (wr := [iA G (ad 5) 7 ty3]) ⟨hx, hb, hml, hown, hts⟩ (c_X6_shiftTo l G H.size ko ad w h la tp ft tr mv S mk3 nc d (by first | assumption | omega) (by first | assumption | omega) (by first | assumption | omega)) (cwV 1 hts gX6_worstOf_X6_shiftTo rfl rfl rfl (by decide +kernel) ⟨Nat.le_of_ble_eq_true rfl, Nat.le_of_ble_eq_true rfl⟩) hK hP hD hS hA [3, 0, 1] [2] rfl rfl (by decide) (by decide) (by decide) rfl rfl rfl hl.1 rfl (Nat.le_of_ble_eq_true rfl) dX6_worstOf_52 ⟨Nat.le_of_ble_eq_true rfl, Nat.le_of_ble_eq_true rfl⟩ (fun u H locs hp52 hP hD hS => ?_)
            obtain ⟨mk2_52, rfl⟩ : ∃ z, z = u := ⟨_, rfl⟩
            try dsimp only at hp52 hP hD
            have he52 := hp52
            replace hP : xP G [iA G (ad 5) 7 ty3, oC ko 6 [.ref (ad 0), .ref (ad 1), .int (nI w), .int (nI h), .int (nI la), .ref (ad 2), .int (mv 0), .int (mv 1), .int (mv 2), .int (mv 3), .int (mv 4), .int (mv 5), .int (mv 6), .ref (ad 3), .int (nI tp), .int (mv 7), .int (mv 8), .int (mv 9), .int (mv 10), .int ft, .int (mv 11), .ref (ad 4), .ref (ad 5), .ref (ad 6), .ref (ad 7), .ref (ad 8), .ref (ad 9), .ref (ad 10), .int tr], iA G (ad 0) 255 S, iA G (ad 4) 16 mk2_52] H := hP
            replace hD : va_D (va_A (w_X6_worstOf G ko ad w h la tp ft tr mv S mk gr) ss.heap.size) [iA G (ad 5) 7 ty3, oC ko 6 [.ref (ad 0), .ref (ad 1), .int (nI w), .int (nI h), .int (nI la), .ref (ad 2), .int (mv 0), .int (mv 1), .int (mv 2), .int (mv 3), .int (mv 4), .int (mv 5), .int (mv 6), .ref (ad 3), .int (nI tp), .int (mv 7), .int (mv 8), .int (mv 9), .int (mv 10), .int ft, .int (mv 11), .ref (ad 4), .ref (ad 5), .ref (ad 6), .ref (ad 7), .ref (ad 8), .ref (ad 9), .ref (ad 10), .int tr], iA G (ad 0) 255 S, iA G (ad 4) 16 mk2_52] := hD
            refine lv_aload_n hx hb dX6_worstOf_55 rfl (lv_at hl 0 rfl) ?_
            refine lv_iload_n hx hb dX6_worstOf_56 rfl (lv_at hl 1 rfl) ?_
            refine lv_iload_n hx hb dX6_worstOf_57 rfl (lv_at hl 2 rfl) ?_
            refine xr_i (As := [.int (nI x), .int (nI c)]) (rest := []) ⟨hx, hb, hml, hown, hts⟩ (c_X6_seenAs l G ko ad w h la tp ft tr mv mk2_52 x c (by first | assumption | omega) (by first | assumption | omega) (by first | assumption | omega) (by first | assumption | omega) (by first | assumption | omega) (by first | assumption | omega) (by first | assumption | omega)) (cwV 2 hts gX6_worstOf_X6_seenAs rfl rfl rfl (by decide +kernel) ⟨Nat.le_of_ble_eq_true rfl, Nat.le_of_ble_eq_true rfl⟩) hK hP hS [1, 3] rfl rfl rfl rfl hl.1 rfl (Nat.le_of_ble_eq_true rfl) dX6_worstOf_58 ⟨Nat.zero_le _, Nat.zero_le _⟩ (fun r58 H locs hp58 hP hS => ?_)
            rw [show r58 = _ from hp58]
            refine xn_top (show (if (sgF w h mk2_52 x >>> (nI c &&& 31)) &&& nI 1 = nI 1 then mk2_52 c else (-4)) = anM w h S nc x c d from (by rw [he52 c (by omega), sgF_congr (row := mk2_52) (row' := fun c => mkM S nc c d) (by omega) (by omega) (fun c q => he52 c (by omega))])) ?_
            refine lv_istore (lv' := [(6, .int (anM w h S nc x c d)), (0, .ref ko), (1, .int (nI x)), (2, .int (nI c)), (3, .int sm), (4, .int (nI wo)), (5, .int (nI d))]) hx hb dX6_worstOf_61 hl (by decide) rfl (fun ls hl => ?_)
            refine lv_iload hx hb dX6_worstOf_63 (lv_at hl 0 rfl) ?_
            refine lv_bipush (v := (-4)) hx hb dX6_worstOf_65 (by decide) ?_
            refine lv_icmp_ne (tgt := 75) hx hb dX6_worstOf_67 rfl (fun b67 => ?_) (fun b67 => ?_)
            · skip
              obtain ⟨k0, hk0, ek0⟩ := inR_nat (anm_in (hmk c d (by omega) (by omega)) b67)
              obtain ⟨sk, esk, hsk, hs7⟩ : ∃ z, z = k0 ∧ z = (slM w h S nc x c) d ∧ z < 7 := ⟨k0, rfl, (by simp only [slM, slA, if_neg b67]; rw [ek0, tn_nI (by omega)]), by omega⟩
              rw [ek0] at hl
              refine lv_iload hx hb dX6_worstOf_75 (lv_at hl 0 rfl) ?_
              refine xn_top (y := nI sk) (by rw [esk]) ?_
              have hw1 := woF_le (slM w h S nc x c) (fun d => bitB sm d) d
              have hw2 := tlF_le (slM w h S nc x c) (fun d => bitB sm d) d sk
              refine lv_istore (lv' := [(7, .int (nI sk)), (6, .int (nI k0)), (0, .ref ko), (1, .int (nI x)), (2, .int (nI c)), (3, .int sm), (4, .int (nI wo)), (5, .int (nI d))]) hx hb dX6_worstOf_77 hl (by decide) rfl (fun ls hl => ?_)
              refine lv_aload_n hx hb dX6_worstOf_79 rfl (lv_at hl 2 rfl) ?_
              refine va_get (D := G.1) (ci := 6) (v := .ref (ad 5)) (C := RX6) (T := TX6) (N := 29) hx hb hts hin6 hown hK.1 hP 1 rfl rfl 22 (by decide) (hts (.fieldLink RX6 26 "BackLensesModel" "groups" "[I") (List.mem_of_getElem? (i := 1) rfl)) (fun _ h9 => h9) rfl dX6_worstOf_80 ?_
              refine lv_iload hx hb dX6_worstOf_83 (lv_at hl 0 rfl) ?_
              refine lv_dup2_11 hx hb dX6_worstOf_85 rfl rfl ?_
              refine xn_iald hx hb hK hP 0 rfl (by omega) (by omega) dX6_worstOf_86 ?_
              refine lv_iconst (v := nI 1) hx hb dX6_worstOf_87 (by decide) ?_
              refine lv_iadd hx hb dX6_worstOf_88 ?_
              refine xn_iast hx hb hK hP hD hS 0 rfl (by omega) (by omega) dX6_worstOf_89 (fun H locs hP hD hS => ?_)
              replace hP : xP G [iA G (ad 5) 7 (upd ty3 sk ((ty3 sk) + (nI 1))), oC ko 6 [.ref (ad 0), .ref (ad 1), .int (nI w), .int (nI h), .int (nI la), .ref (ad 2), .int (mv 0), .int (mv 1), .int (mv 2), .int (mv 3), .int (mv 4), .int (mv 5), .int (mv 6), .ref (ad 3), .int (nI tp), .int (mv 7), .int (mv 8), .int (mv 9), .int (mv 10), .int ft, .int (mv 11), .ref (ad 4), .ref (ad 5), .ref (ad 6), .ref (ad 7), .ref (ad 8), .ref (ad 9), .ref (ad 10), .int tr], iA G (ad 0) 255 S, iA G (ad 4) 16 mk2_52] H := hP
              replace hD : va_D (va_A (w_X6_worstOf G ko ad w h la tp ft tr mv S mk gr) ss.heap.size) [iA G (ad 5) 7 (upd ty3 sk ((ty3 sk) + (nI 1))), oC ko 6 [.ref (ad 0), .ref (ad 1), .int (nI w), .int (nI h), .int (nI la), .ref (ad 2), .int (mv 0), .int (mv 1), .int (mv 2), .int (mv 3), .int (mv 4), .int (mv 5), .int (mv 6), .ref (ad 3), .int (nI tp), .int (mv 7), .int (mv 8), .int (mv 9), .int (mv 10), .int ft, .int (mv 11), .ref (ad 4), .ref (ad 5), .ref (ad 6), .ref (ad 7), .ref (ad 8), .ref (ad 9), .ref (ad 10), .int tr], iA G (ad 0) 255 S, iA G (ad 4) 16 mk2_52] := hD
              refine lv_aload_n hx hb dX6_worstOf_90 rfl (lv_at hl 2 rfl) ?_
              refine va_get (D := G.1) (ci := 6) (v := .ref (ad 5)) (C := RX6) (T := TX6) (N := 29) hx hb hts hin6 hown hK.1 hP 1 rfl rfl 22 (by decide) (hts (.fieldLink RX6 26 "BackLensesModel" "groups" "[I") (List.mem_of_getElem? (i := 1) rfl)) (fun _ h9 => h9) rfl dX6_worstOf_91 ?_
              refine lv_iload hx hb dX6_worstOf_94 (lv_at hl 0 rfl) ?_
              refine xn_iald hx hb hK hP 0 rfl (by omega) (by omega) dX6_worstOf_96 ?_
              refine xn_top (y := nI (tlF (slM w h S nc x c) (fun d => bitB sm d) d sk + 1)) (by rw [upd_eq, hty sk hs7, nI_add]) ?_
              refine lv_iload hx hb dX6_worstOf_97 (lv_at hl 6 rfl) ?_
              refine xn_icmp_le (tgt := 112) hx hb (by omega) (by omega) dX6_worstOf_99 rfl (fun b99 => ?_) (fun b99 => ?_)
              · skip
                have hgt : ¬ wo < tlF (slM w h S nc x c) (fun d => bitB sm d) d sk + 1 := (by omega)
                refine lv_iload hx hb dX6_worstOf_112 (lv_at hl 6 rfl) ?_
                refine lv_istore (lv' := [(4, .int (nI wo)), (7, .int (nI sk)), (6, .int (nI k0)), (0, .ref ko), (1, .int (nI x)), (2, .int (nI c)), (3, .int sm), (5, .int (nI d))]) hx hb dX6_worstOf_114 hl (by decide) rfl (fun ls hl => ?_)
                refine lv_iinc (k := 7) (v := nI (d + 1)) (lv' := [(5, .int (nI (d + 1))), (4, .int (nI wo)), (7, .int (nI sk)), (6, .int (nI k0)), (0, .ref ko), (1, .int (nI x)), (2, .int (nI c)), (3, .int sm)]) hx hb dX6_worstOf_116 hl rfl (xn_inc d 1) (by decide) rfl (fun ls hl => ?_)
                refine lv_goto (tgt := 30) hx hb dX6_worstOf_119 rfl ?_
                have hl := lv_sub hl (l' := [(0, .ref ko), (1, .int (nI x)), (2, .int (nI c)), (3, .int sm), (4, .int (nI wo)), (5, .int (nI (d + 1)))]) [4, 5, 6, 7, 1, 0] rfl
                have hP := hP.sub (ws' := [iA G (ad 0) 255 S, iA G (ad 4) 16 mk2_52, iA G (ad 5) 7 (upd ty3 sk ((ty3 sk) + (nI 1))), oC ko 6 [.ref (ad 0), .ref (ad 1), .int (nI w), .int (nI h), .int (nI la), .ref (ad 2), .int (mv 0), .int (mv 1), .int (mv 2), .int (mv 3), .int (mv 4), .int (mv 5), .int (mv 6), .ref (ad 3), .int (nI tp), .int (mv 7), .int (mv 8), .int (mv 9), .int (mv 10), .int ft, .int (mv 11), .ref (ad 4), .ref (ad 5), .ref (ad 6), .ref (ad 7), .ref (ad 8), .ref (ad 9), .ref (ad 10), .int tr]]) [2, 3, 0, 1] rfl
                have hD := hD.sub (ws' := [iA G (ad 0) 255 S, iA G (ad 4) 16 mk2_52, iA G (ad 5) 7 (upd ty3 sk ((ty3 sk) + (nI 1))), oC ko 6 [.ref (ad 0), .ref (ad 1), .int (nI w), .int (nI h), .int (nI la), .ref (ad 2), .int (mv 0), .int (mv 1), .int (mv 2), .int (mv 3), .int (mv 4), .int (mv 5), .int (mv 6), .ref (ad 3), .int (nI tp), .int (mv 7), .int (mv 8), .int (mv 9), .int (mv 10), .int ft, .int (mv 11), .ref (ad 4), .ref (ad 5), .ref (ad 6), .ref (ad 7), .ref (ad 8), .ref (ad 9), .ref (ad 10), .int tr]]) [2, 3, 0, 1] (by decide) rfl
                exact ih30 (la + 1 - (d + 1)) (by omega) (d + 1) wo mk2_52 (upd ty3 sk ((ty3 sk) + (nI 1))) ls H locs rfl (by omega) (by first | exact woF_skip hfb hwo | exact wo_gt hfb hsk hwo (hty sk hs7) (by omega) hgt | exact wo_le hfb hsk hwo hgt) (by intro k hk; first | exact tlF_skip hfb (hty k hk) | exact tl_step hfb hsk hty hk) hl hP hD hS
              · skip
                have hgt : wo < tlF (slM w h S nc x c) (fun d => bitB sm d) d sk + 1 := (by omega)
                refine lv_aload_n hx hb dX6_worstOf_102 rfl (lv_at hl 2 rfl) ?_
                refine va_get (D := G.1) (ci := 6) (v := .ref (ad 5)) (C := RX6) (T := TX6) (N := 29) hx hb hts hin6 hown hK.1 hP 1 rfl rfl 22 (by decide) (hts (.fieldLink RX6 26 "BackLensesModel" "groups" "[I") (List.mem_of_getElem? (i := 1) rfl)) (fun _ h9 => h9) rfl dX6_worstOf_103 ?_
                refine lv_iload hx hb dX6_worstOf_106 (lv_at hl 0 rfl) ?_
                refine xn_iald hx hb hK hP 0 rfl (by omega) (by omega) dX6_worstOf_108 ?_
                refine xn_top (y := nI (tlF (slM w h S nc x c) (fun d => bitB sm d) d sk + 1)) (by rw [upd_eq, hty sk hs7, nI_add]) ?_
                refine lv_goto (tgt := 114) hx hb dX6_worstOf_109 rfl ?_
                refine lv_istore (lv' := [(4, .int (nI (tlF (slM w h S nc x c) (fun d => bitB sm d) d sk + 1))), (7, .int (nI sk)), (6, .int (nI k0)), (0, .ref ko), (1, .int (nI x)), (2, .int (nI c)), (3, .int sm), (5, .int (nI d))]) hx hb dX6_worstOf_114 hl (by decide) rfl (fun ls hl => ?_)
                refine lv_iinc (k := 7) (v := nI (d + 1)) (lv' := [(5, .int (nI (d + 1))), (4, .int (nI (tlF (slM w h S nc x c) (fun d => bitB sm d) d sk + 1))), (7, .int (nI sk)), (6, .int (nI k0)), (0, .ref ko), (1, .int (nI x)), (2, .int (nI c)), (3, .int sm)]) hx hb dX6_worstOf_116 hl rfl (xn_inc d 1) (by decide) rfl (fun ls hl => ?_)
                refine lv_goto (tgt := 30) hx hb dX6_worstOf_119 rfl ?_
                have hl := lv_sub hl (l' := [(0, .ref ko), (1, .int (nI x)), (2, .int (nI c)), (3, .int sm), (4, .int (nI (tlF (slM w h S nc x c) (fun d => bitB sm d) d sk + 1))), (5, .int (nI (d + 1)))]) [4, 5, 6, 7, 1, 0] rfl
                have hP := hP.sub (ws' := [iA G (ad 0) 255 S, iA G (ad 4) 16 mk2_52, iA G (ad 5) 7 (upd ty3 sk ((ty3 sk) + (nI 1))), oC ko 6 [.ref (ad 0), .ref (ad 1), .int (nI w), .int (nI h), .int (nI la), .ref (ad 2), .int (mv 0), .int (mv 1), .int (mv 2), .int (mv 3), .int (mv 4), .int (mv 5), .int (mv 6), .ref (ad 3), .int (nI tp), .int (mv 7), .int (mv 8), .int (mv 9), .int (mv 10), .int ft, .int (mv 11), .ref (ad 4), .ref (ad 5), .ref (ad 6), .ref (ad 7), .ref (ad 8), .ref (ad 9), .ref (ad 10), .int tr]]) [2, 3, 0, 1] rfl
                have hD := hD.sub (ws' := [iA G (ad 0) 255 S, iA G (ad 4) 16 mk2_52, iA G (ad 5) 7 (upd ty3 sk ((ty3 sk) + (nI 1))), oC ko 6 [.ref (ad 0), .ref (ad 1), .int (nI w), .int (nI h), .int (nI la), .ref (ad 2), .int (mv 0), .int (mv 1), .int (mv 2), .int (mv 3), .int (mv 4), .int (mv 5), .int (mv 6), .ref (ad 3), .int (nI tp), .int (mv 7), .int (mv 8), .int (mv 9), .int (mv 10), .int ft, .int (mv 11), .ref (ad 4), .ref (ad 5), .ref (ad 6), .ref (ad 7), .ref (ad 8), .ref (ad 9), .ref (ad 10), .int tr]]) [2, 3, 0, 1] (by decide) rfl
                exact ih30 (la + 1 - (d + 1)) (by omega) (d + 1) (tlF (slM w h S nc x c) (fun d => bitB sm d) d sk + 1) mk2_52 (upd ty3 sk ((ty3 sk) + (nI 1))) ls H locs rfl (by omega) (by first | exact woF_skip hfb hwo | exact wo_gt hfb hsk hwo (hty sk hs7) (by omega) hgt | exact wo_le hfb hsk hwo hgt) (by intro k hk; first | exact tlF_skip hfb (hty k hk) | exact tl_step hfb hsk hty hk) hl hP hD hS
            · skip
              obtain ⟨sk, esk, hsk, hs7⟩ : ∃ z, z = 6 ∧ z = (slM w h S nc x c) d ∧ z < 7 := ⟨6, rfl, (by simp only [slM, slA, if_pos b67]), by omega⟩
              refine lv_bipush (v := nI 6) hx hb dX6_worstOf_70 (by decide) ?_
              refine lv_goto (tgt := 77) hx hb dX6_worstOf_72 rfl ?_
              refine xn_top (y := nI sk) (by rw [esk]) ?_
              have hw1 := woF_le (slM w h S nc x c) (fun d => bitB sm d) d
              have hw2 := tlF_le (slM w h S nc x c) (fun d => bitB sm d) d sk
              refine lv_istore (lv' := [(7, .int (nI sk)), (6, .int (anM w h S nc x c d)), (0, .ref ko), (1, .int (nI x)), (2, .int (nI c)), (3, .int sm), (4, .int (nI wo)), (5, .int (nI d))]) hx hb dX6_worstOf_77 hl (by decide) rfl (fun ls hl => ?_)
              refine lv_aload_n hx hb dX6_worstOf_79 rfl (lv_at hl 2 rfl) ?_
              refine va_get (D := G.1) (ci := 6) (v := .ref (ad 5)) (C := RX6) (T := TX6) (N := 29) hx hb hts hin6 hown hK.1 hP 1 rfl rfl 22 (by decide) (hts (.fieldLink RX6 26 "BackLensesModel" "groups" "[I") (List.mem_of_getElem? (i := 1) rfl)) (fun _ h9 => h9) rfl dX6_worstOf_80 ?_
              refine lv_iload hx hb dX6_worstOf_83 (lv_at hl 0 rfl) ?_
              refine lv_dup2_11 hx hb dX6_worstOf_85 rfl rfl ?_
              refine xn_iald hx hb hK hP 0 rfl (by omega) (by omega) dX6_worstOf_86 ?_
              refine lv_iconst (v := nI 1) hx hb dX6_worstOf_87 (by decide) ?_
              refine lv_iadd hx hb dX6_worstOf_88 ?_
              refine xn_iast hx hb hK hP hD hS 0 rfl (by omega) (by omega) dX6_worstOf_89 (fun H locs hP hD hS => ?_)
              replace hP : xP G [iA G (ad 5) 7 (upd ty3 sk ((ty3 sk) + (nI 1))), oC ko 6 [.ref (ad 0), .ref (ad 1), .int (nI w), .int (nI h), .int (nI la), .ref (ad 2), .int (mv 0), .int (mv 1), .int (mv 2), .int (mv 3), .int (mv 4), .int (mv 5), .int (mv 6), .ref (ad 3), .int (nI tp), .int (mv 7), .int (mv 8), .int (mv 9), .int (mv 10), .int ft, .int (mv 11), .ref (ad 4), .ref (ad 5), .ref (ad 6), .ref (ad 7), .ref (ad 8), .ref (ad 9), .ref (ad 10), .int tr], iA G (ad 0) 255 S, iA G (ad 4) 16 mk2_52] H := hP
              replace hD : va_D (va_A (w_X6_worstOf G ko ad w h la tp ft tr mv S mk gr) ss.heap.size) [iA G (ad 5) 7 (upd ty3 sk ((ty3 sk) + (nI 1))), oC ko 6 [.ref (ad 0), .ref (ad 1), .int (nI w), .int (nI h), .int (nI la), .ref (ad 2), .int (mv 0), .int (mv 1), .int (mv 2), .int (mv 3), .int (mv 4), .int (mv 5), .int (mv 6), .ref (ad 3), .int (nI tp), .int (mv 7), .int (mv 8), .int (mv 9), .int (mv 10), .int ft, .int (mv 11), .ref (ad 4), .ref (ad 5), .ref (ad 6), .ref (ad 7), .ref (ad 8), .ref (ad 9), .ref (ad 10), .int tr], iA G (ad 0) 255 S, iA G (ad 4) 16 mk2_52] := hD
              refine lv_aload_n hx hb dX6_worstOf_90 rfl (lv_at hl 2 rfl) ?_
              refine va_get (D := G.1) (ci := 6) (v := .ref (ad 5)) (C := RX6) (T := TX6) (N := 29) hx hb hts hin6 hown hK.1 hP 1 rfl rfl 22 (by decide) (hts (.fieldLink RX6 26 "BackLensesModel" "groups" "[I") (List.mem_of_getElem? (i := 1) rfl)) (fun _ h9 => h9) rfl dX6_worstOf_91 ?_
              refine lv_iload hx hb dX6_worstOf_94 (lv_at hl 0 rfl) ?_
              refine xn_iald hx hb hK hP 0 rfl (by omega) (by omega) dX6_worstOf_96 ?_
              refine xn_top (y := nI (tlF (slM w h S nc x c) (fun d => bitB sm d) d sk + 1)) (by rw [upd_eq, hty sk hs7, nI_add]) ?_
              refine lv_iload hx hb dX6_worstOf_97 (lv_at hl 6 rfl) ?_
              refine xn_icmp_le (tgt := 112) hx hb (by omega) (by omega) dX6_worstOf_99 rfl (fun b99 => ?_) (fun b99 => ?_)
              · skip
                have hgt : ¬ wo < tlF (slM w h S nc x c) (fun d => bitB sm d) d sk + 1 := (by omega)
                refine lv_iload hx hb dX6_worstOf_112 (lv_at hl 6 rfl) ?_
                refine lv_istore (lv' := [(4, .int (nI wo)), (7, .int (nI sk)), (6, .int (anM w h S nc x c d)), (0, .ref ko), (1, .int (nI x)), (2, .int (nI c)), (3, .int sm), (5, .int (nI d))]) hx hb dX6_worstOf_114 hl (by decide) rfl (fun ls hl => ?_)
                refine lv_iinc (k := 7) (v := nI (d + 1)) (lv' := [(5, .int (nI (d + 1))), (4, .int (nI wo)), (7, .int (nI sk)), (6, .int (anM w h S nc x c d)), (0, .ref ko), (1, .int (nI x)), (2, .int (nI c)), (3, .int sm)]) hx hb dX6_worstOf_116 hl rfl (xn_inc d 1) (by decide) rfl (fun ls hl => ?_)
                refine lv_goto (tgt := 30) hx hb dX6_worstOf_119 rfl ?_
                have hl := lv_sub hl (l' := [(0, .ref ko), (1, .int (nI x)), (2, .int (nI c)), (3, .int sm), (4, .int (nI wo)), (5, .int (nI (d + 1)))]) [4, 5, 6, 7, 1, 0] rfl
                have hP := hP.sub (ws' := [iA G (ad 0) 255 S, iA G (ad 4) 16 mk2_52, iA G (ad 5) 7 (upd ty3 sk ((ty3 sk) + (nI 1))), oC ko 6 [.ref (ad 0), .ref (ad 1), .int (nI w), .int (nI h), .int (nI la), .ref (ad 2), .int (mv 0), .int (mv 1), .int (mv 2), .int (mv 3), .int (mv 4), .int (mv 5), .int (mv 6), .ref (ad 3), .int (nI tp), .int (mv 7), .int (mv 8), .int (mv 9), .int (mv 10), .int ft, .int (mv 11), .ref (ad 4), .ref (ad 5), .ref (ad 6), .ref (ad 7), .ref (ad 8), .ref (ad 9), .ref (ad 10), .int tr]]) [2, 3, 0, 1] rfl
                have hD := hD.sub (ws' := [iA G (ad 0) 255 S, iA G (ad 4) 16 mk2_52, iA G (ad 5) 7 (upd ty3 sk ((ty3 sk) + (nI 1))), oC ko 6 [.ref (ad 0), .ref (ad 1), .int (nI w), .int (nI h), .int (nI la), .ref (ad 2), .int (mv 0), .int (mv 1), .int (mv 2), .int (mv 3), .int (mv 4), .int (mv 5), .int (mv 6), .ref (ad 3), .int (nI tp), .int (mv 7), .int (mv 8), .int (mv 9), .int (mv 10), .int ft, .int (mv 11), .ref (ad 4), .ref (ad 5), .ref (ad 6), .ref (ad 7), .ref (ad 8), .ref (ad 9), .ref (ad 10), .int tr]]) [2, 3, 0, 1] (by decide) rfl
                exact ih30 (la + 1 - (d + 1)) (by omega) (d + 1) wo mk2_52 (upd ty3 sk ((ty3 sk) + (nI 1))) ls H locs rfl (by omega) (by first | exact woF_skip hfb hwo | exact wo_gt hfb hsk hwo (hty sk hs7) (by omega) hgt | exact wo_le hfb hsk hwo hgt) (by intro k hk; first | exact tlF_skip hfb (hty k hk) | exact tl_step hfb hsk hty hk) hl hP hD hS
              · skip
                have hgt : wo < tlF (slM w h S nc x c) (fun d => bitB sm d) d sk + 1 := (by omega)
                refine lv_aload_n hx hb dX6_worstOf_102 rfl (lv_at hl 2 rfl) ?_
                refine va_get (D := G.1) (ci := 6) (v := .ref (ad 5)) (C := RX6) (T := TX6) (N := 29) hx hb hts hin6 hown hK.1 hP 1 rfl rfl 22 (by decide) (hts (.fieldLink RX6 26 "BackLensesModel" "groups" "[I") (List.mem_of_getElem? (i := 1) rfl)) (fun _ h9 => h9) rfl dX6_worstOf_103 ?_
                refine lv_iload hx hb dX6_worstOf_106 (lv_at hl 0 rfl) ?_
                refine xn_iald hx hb hK hP 0 rfl (by omega) (by omega) dX6_worstOf_108 ?_
                refine xn_top (y := nI (tlF (slM w h S nc x c) (fun d => bitB sm d) d sk + 1)) (by rw [upd_eq, hty sk hs7, nI_add]) ?_
                refine lv_goto (tgt := 114) hx hb dX6_worstOf_109 rfl ?_
                refine lv_istore (lv' := [(4, .int (nI (tlF (slM w h S nc x c) (fun d => bitB sm d) d sk + 1))), (7, .int (nI sk)), (6, .int (anM w h S nc x c d)), (0, .ref ko), (1, .int (nI x)), (2, .int (nI c)), (3, .int sm), (5, .int (nI d))]) hx hb dX6_worstOf_114 hl (by decide) rfl (fun ls hl => ?_)
                refine lv_iinc (k := 7) (v := nI (d + 1)) (lv' := [(5, .int (nI (d + 1))), (4, .int (nI (tlF (slM w h S nc x c) (fun d => bitB sm d) d sk + 1))), (7, .int (nI sk)), (6, .int (anM w h S nc x c d)), (0, .ref ko), (1, .int (nI x)), (2, .int (nI c)), (3, .int sm)]) hx hb dX6_worstOf_116 hl rfl (xn_inc d 1) (by decide) rfl (fun ls hl => ?_)
                refine lv_goto (tgt := 30) hx hb dX6_worstOf_119 rfl ?_
                have hl := lv_sub hl (l' := [(0, .ref ko), (1, .int (nI x)), (2, .int (nI c)), (3, .int sm), (4, .int (nI (tlF (slM w h S nc x c) (fun d => bitB sm d) d sk + 1))), (5, .int (nI (d + 1)))]) [4, 5, 6, 7, 1, 0] rfl
                have hP := hP.sub (ws' := [iA G (ad 0) 255 S, iA G (ad 4) 16 mk2_52, iA G (ad 5) 7 (upd ty3 sk ((ty3 sk) + (nI 1))), oC ko 6 [.ref (ad 0), .ref (ad 1), .int (nI w), .int (nI h), .int (nI la), .ref (ad 2), .int (mv 0), .int (mv 1), .int (mv 2), .int (mv 3), .int (mv 4), .int (mv 5), .int (mv 6), .ref (ad 3), .int (nI tp), .int (mv 7), .int (mv 8), .int (mv 9), .int (mv 10), .int ft, .int (mv 11), .ref (ad 4), .ref (ad 5), .ref (ad 6), .ref (ad 7), .ref (ad 8), .ref (ad 9), .ref (ad 10), .int tr]]) [2, 3, 0, 1] rfl
                have hD := hD.sub (ws' := [iA G (ad 0) 255 S, iA G (ad 4) 16 mk2_52, iA G (ad 5) 7 (upd ty3 sk ((ty3 sk) + (nI 1))), oC ko 6 [.ref (ad 0), .ref (ad 1), .int (nI w), .int (nI h), .int (nI la), .ref (ad 2), .int (mv 0), .int (mv 1), .int (mv 2), .int (mv 3), .int (mv 4), .int (mv 5), .int (mv 6), .ref (ad 3), .int (nI tp), .int (mv 7), .int (mv 8), .int (mv 9), .int (mv 10), .int ft, .int (mv 11), .ref (ad 4), .ref (ad 5), .ref (ad 6), .ref (ad 7), .ref (ad 8), .ref (ad 9), .ref (ad 10), .int tr]]) [2, 3, 0, 1] (by decide) rfl
                exact ih30 (la + 1 - (d + 1)) (by omega) (d + 1) (tlF (slM w h S nc x c) (fun d => bitB sm d) d sk + 1) mk2_52 (upd ty3 sk ((ty3 sk) + (nI 1))) ls H locs rfl (by omega) (by first | exact woF_skip hfb hwo | exact wo_gt hfb hsk hwo (hty sk hs7) (by omega) hgt | exact wo_le hfb hsk hwo hgt) (by intro k hk; first | exact tlF_skip hfb (hty k hk) | exact tl_step hfb hsk hty hk) hl hP hD hS
      have hl := lv_sub hl (l' := [(0, .ref ko), (1, .int (nI x)), (2, .int (nI c)), (3, .int sm), (4, .int (nI 0)), (5, .int (nI 0))]) [2, 3, 4, 5, 1, 0] rfl
      exact hL30 (la + 1 - 0) 0 0 mk gr3 ls H locs rfl (by omega) (by rfl) (by intro k hk; rw [hg3 k (by omega)]; rfl) hl hP hD hS
    · skip
      refine lv_aload_n hx hb dX6_worstOf_10 rfl (lv_at hl 0 rfl) ?_
      refine va_get (D := G.1) (ci := 6) (v := .ref (ad 5)) (C := RX6) (T := TX6) (N := 29) hx hb hts hin6 hown hK.1 hP 3 rfl rfl 22 (by decide) (hts (.fieldLink RX6 26 "BackLensesModel" "groups" "[I") (List.mem_of_getElem? (i := 1) rfl)) (fun _ h9 => h9) rfl dX6_worstOf_11 ?_
      refine lv_iload hx hb dX6_worstOf_14 (lv_at hl 4 rfl) ?_
      refine lv_iconst (v := nI 0) hx hb dX6_worstOf_16 (by decide) ?_
      refine xn_iast hx hb hK hP hD hS 2 rfl (by omega) (by omega) dX6_worstOf_17 (fun H locs hP hD hS => ?_)
      replace hP : xP G [iA G (ad 0) 255 S, iA G (ad 4) 16 mk, iA G (ad 5) 7 (upd gr3 k1 (nI 0)), oC ko 6 [.ref (ad 0), .ref (ad 1), .int (nI w), .int (nI h), .int (nI la), .ref (ad 2), .int (mv 0), .int (mv 1), .int (mv 2), .int (mv 3), .int (mv 4), .int (mv 5), .int (mv 6), .ref (ad 3), .int (nI tp), .int (mv 7), .int (mv 8), .int (mv 9), .int (mv 10), .int ft, .int (mv 11), .ref (ad 4), .ref (ad 5), .ref (ad 6), .ref (ad 7), .ref (ad 8), .ref (ad 9), .ref (ad 10), .int tr]] H := hP
      replace hD : va_D (va_A (w_X6_worstOf G ko ad w h la tp ft tr mv S mk gr) ss.heap.size) [iA G (ad 0) 255 S, iA G (ad 4) 16 mk, iA G (ad 5) 7 (upd gr3 k1 (nI 0)), oC ko 6 [.ref (ad 0), .ref (ad 1), .int (nI w), .int (nI h), .int (nI la), .ref (ad 2), .int (mv 0), .int (mv 1), .int (mv 2), .int (mv 3), .int (mv 4), .int (mv 5), .int (mv 6), .ref (ad 3), .int (nI tp), .int (mv 7), .int (mv 8), .int (mv 9), .int (mv 10), .int ft, .int (mv 11), .ref (ad 4), .ref (ad 5), .ref (ad 6), .ref (ad 7), .ref (ad 8), .ref (ad 9), .ref (ad 10), .int tr]] := hD
      refine lv_iinc (k := 4) (v := nI (k1 + 1)) (lv' := [(4, .int (nI (k1 + 1))), (0, .ref ko), (1, .int (nI x)), (2, .int (nI c)), (3, .int sm)]) hx hb dX6_worstOf_18 hl rfl (xn_inc k1 1) (by decide) rfl (fun ls hl => ?_)
      refine lv_goto (tgt := 3) hx hb dX6_worstOf_21 rfl ?_
      have hl := lv_sub hl (l' := [(0, .ref ko), (1, .int (nI x)), (2, .int (nI c)), (3, .int sm), (4, .int (nI (k1 + 1)))]) [1, 2, 3, 4, 0] rfl
      exact ih3 (7 - (k1 + 1)) (by omega) (k1 + 1) (upd gr3 k1 (nI 0)) ls H locs rfl (by omega) (by intro i hi; by_cases hq : i = k1; (subst hq; exact upd_eq); (rw [upd_ne hq]; exact hg3 i (by omega))) hl hP hD hS
  have hl := lv_sub hl (l' := [(0, .ref ko), (1, .int (nI x)), (2, .int (nI c)), (3, .int sm), (4, .int (nI 0))]) [1, 2, 3, 4, 0] rfl
  have hP := hP.sub (ws' := [iA G (ad 0) 255 S, iA G (ad 4) 16 mk, iA G (ad 5) 7 gr, oC ko 6 [.ref (ad 0), .ref (ad 1), .int (nI w), .int (nI h), .int (nI la), .ref (ad 2), .int (mv 0), .int (mv 1), .int (mv 2), .int (mv 3), .int (mv 4), .int (mv 5), .int (mv 6), .ref (ad 3), .int (nI tp), .int (mv 7), .int (mv 8), .int (mv 9), .int (mv 10), .int ft, .int (mv 11), .ref (ad 4), .ref (ad 5), .ref (ad 6), .ref (ad 7), .ref (ad 8), .ref (ad 9), .ref (ad 10), .int tr]]) [1, 2, 3, 0] rfl
  have hD := hD.sub (ws' := [iA G (ad 0) 255 S, iA G (ad 4) 16 mk, iA G (ad 5) 7 gr, oC ko 6 [.ref (ad 0), .ref (ad 1), .int (nI w), .int (nI h), .int (nI la), .ref (ad 2), .int (mv 0), .int (mv 1), .int (mv 2), .int (mv 3), .int (mv 4), .int (mv 5), .int (mv 6), .ref (ad 3), .int (nI tp), .int (mv 7), .int (mv 8), .int (mv 9), .int (mv 10), .int ft, .int (mv 11), .ref (ad 4), .ref (ad 5), .ref (ad 6), .ref (ad 7), .ref (ad 8), .ref (ad 9), .ref (ad 10), .int tr]]) [1, 2, 3, 0] (by decide) rfl
  exact hL3 (7 - 0) 0 gr ls ss.heap [] rfl (by omega) (by intro i hi; omega) hl hP hD hS

abbrev w_X6_look (G : XG) (ko : Nat) (ad : Nat → Nat) (w h la tp : Nat) (ft tr : Int32) (mv : Nat → Int32) (S mk : Nat → Int32) (gr : Nat → Int32) : va_W := [oC ko 6 [.ref (ad 0), .ref (ad 1), .int (nI w), .int (nI h), .int (nI la), .ref (ad 2), .int (mv 0), .int (mv 1), .int (mv 2), .int (mv 3), .int (mv 4), .int (mv 5), .int (mv 6), .ref (ad 3), .int (nI tp), .int (mv 7), .int (mv 8), .int (mv 9), .int (mv 10), .int ft, .int (mv 11), .ref (ad 4), .ref (ad 5), .ref (ad 6), .ref (ad 7), .ref (ad 8), .ref (ad 9), .ref (ad 10), .int tr], iA G (ad 0) 255 S, iA G (ad 4) 16 mk, iA G (ad 5) 7 gr]
abbrev Q_X6_look (G : XG) (sz : Nat) (ko : Nat) (ad : Nat → Nat) (w h la tp : Nat) (ft tr : Int32) (mv : Nat → Int32) (S mk : Nat → Int32) (nc : Nat) (ns : Nat) (gr : Nat → Int32) (a : Int32) : Array Value → State → Outcome → State → Prop := (va_Qi (fun (r : Int32) (u : (Nat → Int32) × (Nat → Int32)) => r = (if inR a 2 then (if (lkX (fun x c => wsM w h la S nc x c (dyM w h la S nc ns)) (w * h) (w * h) (bcM (dyM w h la S nc ns) 16, (-4))).2 = (-4) then (-4) else if a = 0 then (lkX (fun x c => wsM w h la S nc x c (dyM w h la S nc ns)) (w * h) (w * h) (bcM (dyM w h la S nc ns) 16, (-4))).2 else (lkX (fun x c => wsM w h la S nc x c (dyM w h la S nc ns)) (w * h) (w * h) (bcM (dyM w h la S nc ns) 16, (-4))).1) else (-1))) (xWb G sz (w_X6_look G ko ad w h la tp ft tr mv S mk gr) (fun u : (Nat → Int32) × (Nat → Int32) => [oC ko 6 [.ref (ad 0), .ref (ad 1), .int (nI w), .int (nI h), .int (nI la), .ref (ad 2), .int (mv 0), .int (mv 1), .int (mv 2), .int (mv 3), .int (mv 4), .int (mv 5), .int (mv 6), .ref (ad 3), .int (nI tp), .int (mv 7), .int (mv 8), .int (mv 9), .int (mv 10), .int ft, .int (mv 11), .ref (ad 4), .ref (ad 5), .ref (ad 6), .ref (ad 7), .ref (ad 8), .ref (ad 9), .ref (ad 10), .int tr], iA G (ad 0) 255 S, iA G (ad 4) 16 u.2, iA G (ad 5) 7 u.1])) (va_A (w_X6_look G ko ad w h la tp ft tr mv S mk gr) sz))
set_option maxHeartbeats 4000000 in
set_option maxRecDepth 100000 in
theorem c_X6_look (l : Launch) (G : XG) (sz : Nat) (ko : Nat) (ad : Nat → Nat) (w h la tp : Nat) (ft tr : Int32) (mv : Nat → Int32) (S mk : Nat → Int32) (nc : Nat) (ns : Nat) (gr : Nat → Int32) (a : Int32) (hw : 1 ≤ w) (hwb : w ≤ 16) (hhb : h ≤ 16) (hwh1 : 1 ≤ w * h) (hwh : w * h ≤ 16) (hla : la ≤ 9) (hs16 : S 16 = nI nc) (hnc : nc ≤ 10) (hs60 : S 60 = nI ns) (hns : ns ≤ 8) (hshown : ∀ i, i < ns → inR (S (61 + 3 * i)) (w * h) ∧ inR (S (61 + 3 * i + 1)) (w * h)) (hmk : ∀ c d, c < 16 → d ≤ la → inR (mkM S nc c d) 6) : Met l yX6_look wsX6_look ({ frames := 6, cells := 0, slots := 0, locals := 135 } : Room) (va_Pc [.ref ko, .int a] (xWp G sz (w_X6_look G ko ad w h la tp ft tr mv S mk gr))) (Q_X6_look G sz ko ad w h la tp ft tr mv S mk nc ns gr a) 0 0 (va_A (w_X6_look G ko ad w h la tp ft tr mv S mk gr) sz) := by
  refine Met.ofW (cc := cX6_look) (maxL := 8) (ret := (some .int)) (by decide) rfl ?_
  intro pp ee ss mm aa below mt cd s₁ BB hml hv
  obtain ⟨rfl, hsz, hP, hK, hD0⟩ := hv
  have hx := BB.exec
  have hb := BB.bytes
  have hr := BB.returns
  have hts := atoms_spec (ws := wsX6_look) BB.pre
  have hown : ss.vm.findClass RX6 = some mm.cls := findClass_of_methodNamed BB.named
  have hlocks := BB.notSynchronized
  subst hsz
  have hD := hD0.self (sz := ss.heap.size)
  have hA : ∀ q : Nat, ss.heap.size ≤ q → va_A (w_X6_look G ko ad w h la tp ft tr mv S mk gr) ss.heap.size q := fun q h => Or.inr h
  have hS : va_S (va_A (w_X6_look G ko ad w h la tp ft tr mv S mk gr) ss.heap.size) ss.heap ss.heap [] := va_S.rf
  replace hD : va_D (va_A (w_X6_look G ko ad w h la tp ft tr mv S mk gr) ss.heap.size) [oC ko 6 [.ref (ad 0), .ref (ad 1), .int (nI w), .int (nI h), .int (nI la), .ref (ad 2), .int (mv 0), .int (mv 1), .int (mv 2), .int (mv 3), .int (mv 4), .int (mv 5), .int (mv 6), .ref (ad 3), .int (nI tp), .int (mv 7), .int (mv 8), .int (mv 9), .int (mv 10), .int ft, .int (mv 11), .ref (ad 4), .ref (ad 5), .ref (ad 6), .ref (ad 7), .ref (ad 8), .ref (ad 9), .ref (ad 10), .int tr], iA G (ad 0) 255 S, iA G (ad 4) 16 mk, iA G (ad 5) 7 gr] := hD
  replace hP : xP G [oC ko 6 [.ref (ad 0), .ref (ad 1), .int (nI w), .int (nI h), .int (nI la), .ref (ad 2), .int (mv 0), .int (mv 1), .int (mv 2), .int (mv 3), .int (mv 4), .int (mv 5), .int (mv 6), .ref (ad 3), .int (nI tp), .int (mv 7), .int (mv 8), .int (mv 9), .int (mv 10), .int ft, .int (mv 11), .ref (ad 4), .ref (ad 5), .ref (ad 6), .ref (ad 7), .ref (ad 8), .ref (ad 9), .ref (ad 10), .int tr], iA G (ad 0) 255 S, iA G (ad 4) 16 mk, iA G (ad 5) 7 gr] ss.heap := hP
  have hin6 : ∀ w ∈ u_ws RX6 TX6 29, w ∈ wsX6_look := fun w h => List.mem_cons_of_mem _ (List.mem_append_right _ h)
  have hl := lv_entry ([.ref ko, .int a]) (n := 8) (Nat.le_of_ble_eq_true rfl)
  rw [lg_entry_eq]
  generalize (lg_sl ([.ref ko, .int a]) ++ List.replicate (8 - (lg_sl ([.ref ko, .int a])).length) Slot.unset).toArray = ls at hl ⊢
  replace hl : lv_has ls 8 [(0, .ref ko), (1, .int a)] := hl
  refine lv_iload_n hx hb dX6_look_0 rfl (lv_at hl 1 rfl) ?_
  refine xs_i (As := [.int a]) (rest := []) ⟨hx, hb, hml, hown, hts⟩ (c_X6_isPart l G a ) (va_cwS 1 hts gX6_look_X6_isPart rfl rfl rfl (by decide +kernel) ⟨Nat.le_of_ble_eq_true rfl, Nat.le_of_ble_eq_true rfl⟩) hP hS rfl hl.1 rfl (Nat.le_of_ble_eq_true rfl) dX6_look_1 ⟨Nat.zero_le _, Nat.zero_le _⟩ (fun r1 H locs hp1 hP hS => ?_)
  rw [show r1 = _ from hp1]
  refine xb_if_ne (tgt := 9) hx hb dX6_look_4 rfl (fun b4 => ?_) (fun b4 => ?_)
  · skip
    refine lv_aload_n hx hb dX6_look_9 rfl (lv_at hl 0 rfl) ?_
    refine xw_i (As := []) (rest := []) (wr := [iA G (ad 5) 7 gr]) ⟨hx, hb, hml, hown, hts⟩ (c_X6_days l G H.size ko ad w h la tp ft tr mv S mk nc ns (by first | assumption | omega) (by first | assumption | omega) (by first | assumption | omega) (by first | assumption | omega) (by first | assumption | omega) (by first | assumption | omega) (by first | assumption | omega) (by first | assumption | omega) (by first | assumption | omega) (by first | assumption | omega) (by first | assumption | omega)) (cwV 0 hts gX6_look_X6_days rfl rfl rfl (by decide +kernel) ⟨Nat.le_of_ble_eq_true rfl, Nat.le_of_ble_eq_true rfl⟩) hK hP hD hS hA [0, 1, 2] [3] rfl rfl (by decide) (by decide) (by decide) rfl rfl rfl hl.1 rfl (Nat.le_of_ble_eq_true rfl) dX6_look_10 ⟨Nat.le_of_ble_eq_true rfl, Nat.le_of_ble_eq_true rfl⟩ (fun r10 u H locs hp10 hP hD hS => ?_)
    obtain ⟨mk2_10, rfl⟩ : ∃ z, z = u := ⟨_, rfl⟩
    try dsimp only at hp10 hP hD
    obtain rfl := hp10
    replace hP : xP G [iA G (ad 5) 7 gr, oC ko 6 [.ref (ad 0), .ref (ad 1), .int (nI w), .int (nI h), .int (nI la), .ref (ad 2), .int (mv 0), .int (mv 1), .int (mv 2), .int (mv 3), .int (mv 4), .int (mv 5), .int (mv 6), .ref (ad 3), .int (nI tp), .int (mv 7), .int (mv 8), .int (mv 9), .int (mv 10), .int ft, .int (mv 11), .ref (ad 4), .ref (ad 5), .ref (ad 6), .ref (ad 7), .ref (ad 8), .ref (ad 9), .ref (ad 10), .int tr], iA G (ad 0) 255 S, iA G (ad 4) 16 mk2_10] H := hP
    replace hD : va_D (va_A (w_X6_look G ko ad w h la tp ft tr mv S mk gr) ss.heap.size) [iA G (ad 5) 7 gr, oC ko 6 [.ref (ad 0), .ref (ad 1), .int (nI w), .int (nI h), .int (nI la), .ref (ad 2), .int (mv 0), .int (mv 1), .int (mv 2), .int (mv 3), .int (mv 4), .int (mv 5), .int (mv 6), .ref (ad 3), .int (nI tp), .int (mv 7), .int (mv 8), .int (mv 9), .int (mv 10), .int ft, .int (mv 11), .ref (ad 4), .ref (ad 5), .ref (ad 6), .ref (ad 7), .ref (ad 8), .ref (ad 9), .ref (ad 10), .int tr], iA G (ad 0) 255 S, iA G (ad 4) 16 mk2_10] := hD
    refine lv_istore_n (lv' := [(2, .int (dyM w h la S nc ns)), (0, .ref ko), (1, .int a)]) hx hb dX6_look_13 rfl hl (by decide) rfl (fun ls hl => ?_)
    refine lv_iload_n hx hb dX6_look_14 rfl (lv_at hl 0 rfl) ?_
    refine xs_i (As := [.int (dyM w h la S nc ns)]) (rest := []) ⟨hx, hb, hml, hown, hts⟩ (c_X6_bitsOf l G (dyM w h la S nc ns) ) (va_cwS 1 hts gX6_look_X6_bitsOf rfl rfl rfl (by decide +kernel) ⟨Nat.le_of_ble_eq_true rfl, Nat.le_of_ble_eq_true rfl⟩) hP hS rfl hl.1 rfl (Nat.le_of_ble_eq_true rfl) dX6_look_15 ⟨Nat.zero_le _, Nat.zero_le _⟩ (fun r15 H locs hp15 hP hS => ?_)
    rw [show r15 = _ from hp15]
    refine lv_istore_n (lv' := [(3, .int (bcM (dyM w h la S nc ns) 16)), (2, .int (dyM w h la S nc ns)), (0, .ref ko), (1, .int a)]) hx hb dX6_look_18 rfl hl (by decide) rfl (fun ls hl => ?_)
    refine lv_bipush (v := (-4)) hx hb dX6_look_19 (by decide) ?_
    refine lv_istore (lv' := [(4, .int (-4)), (3, .int (bcM (dyM w h la S nc ns) 16)), (2, .int (dyM w h la S nc ns)), (0, .ref ko), (1, .int a)]) hx hb dX6_look_21 hl (by decide) rfl (fun ls hl => ?_)
    refine lv_iconst (v := nI 0) hx hb dX6_look_23 (by decide) ?_
    refine lv_istore (lv' := [(5, .int (nI 0)), (4, .int (-4)), (3, .int (bcM (dyM w h la S nc ns) 16)), (2, .int (dyM w h la S nc ns)), (0, .ref ko), (1, .int a)]) hx hb dX6_look_24 hl (by decide) rfl (fun ls hl => ?_)
    have hL26 : ∀ k : Nat, ∀ (x : Nat) (fw : Int32) (wh : Int32) (mk3 : Nat → Int32) (gr3 : Nat → Int32) (ls : Array Slot) (H : Heap) (locs : List Loc), w * h - x = k → (x ≤ w * h) → ((fw, wh) = lkX (fun x c => wsM w h la S nc x c (dyM w h la S nc ns)) (w * h) x (bcM (dyM w h la S nc ns) 16, (-4))) → lv_has ls 8 [(0, .ref ko), (1, .int a), (2, .int (dyM w h la S nc ns)), (3, .int fw), (4, .int wh), (5, .int (nI x))] → xP G [iA G (ad 0) 255 S, iA G (ad 4) 16 mk3, iA G (ad 5) 7 gr3, oC ko 6 [.ref (ad 0), .ref (ad 1), .int (nI w), .int (nI h), .int (nI la), .ref (ad 2), .int (mv 0), .int (mv 1), .int (mv 2), .int (mv 3), .int (mv 4), .int (mv 5), .int (mv 6), .ref (ad 3), .int (nI tp), .int (mv 7), .int (mv 8), .int (mv 9), .int (mv 10), .int ft, .int (mv 11), .ref (ad 4), .ref (ad 5), .ref (ad 6), .ref (ad 7), .ref (ad 8), .ref (ad 9), .ref (ad 10), .int tr]] H → va_D (va_A (w_X6_look G ko ad w h la tp ft tr mv S mk gr) ss.heap.size) [iA G (ad 0) 255 S, iA G (ad 4) 16 mk3, iA G (ad 5) 7 gr3, oC ko 6 [.ref (ad 0), .ref (ad 1), .int (nI w), .int (nI h), .int (nI la), .ref (ad 2), .int (mv 0), .int (mv 1), .int (mv 2), .int (mv 3), .int (mv 4), .int (mv 5), .int (mv 6), .ref (ad 3), .int (nI tp), .int (mv 7), .int (mv 8), .int (mv 9), .int (mv 10), .int ft, .int (mv 11), .ref (ad 4), .ref (ad 5), .ref (ad 6), .ref (ad 7), .ref (ad 8), .ref (ad 9), .ref (ad 10), .int tr]] → va_S (va_A (w_X6_look G ko ad w h la tp ft tr mv S mk gr) ss.heap.size) ss.heap H locs → W pp l ee ({ frames := 6, cells := 0, slots := 0, locals := 135 } : Room) ss mm ([.ref ko, .int a] : List Value).toArray below mt cd H locs 0 0 (MQ below (Q_X6_look G ss.heap.size ko ad w h la tp ft tr mv S mk nc ns gr a) ([.ref ko, .int a] : List Value).toArray ss 0 0 (va_A (w_X6_look G ko ad w h la tp ft tr mv S mk gr) ss.heap.size)) (F0 mm 26 ls []) := by
      intro k
      induction k using Nat.strongRecOn with
      | _ k ih26 =>
      intro x fw wh mk3 gr3 ls H locs hm26 hxi hst hl hP hD hS
      refine lv_iload hx hb dX6_look_26 (lv_at hl 5 rfl) ?_
      refine lv_aload_n hx hb dX6_look_28 rfl (lv_at hl 0 rfl) ?_
      refine xr_i (As := []) (rest := [.int (nI x)]) ⟨hx, hb, hml, hown, hts⟩ (c_X6_cellsNow l G ko ad w h la tp ft tr mv ) (cwV 0 hts gX6_look_X6_cellsNow rfl rfl rfl (by decide +kernel) ⟨Nat.le_of_ble_eq_true rfl, Nat.le_of_ble_eq_true rfl⟩) hK hP hS [3] rfl rfl rfl rfl hl.1 rfl (Nat.le_of_ble_eq_true rfl) dX6_look_29 ⟨Nat.zero_le _, Nat.zero_le _⟩ (fun r29 H locs hp29 hP hS => ?_)
      rw [show r29 = _ from hp29]
      refine xn_icmp_ge (tgt := 104) hx hb (by omega) (by omega) dX6_look_32 rfl (fun b32 => ?_) (fun b32 => ?_)
      · skip
        refine lv_iload hx hb dX6_look_104 (lv_at hl 4 rfl) ?_
        refine lv_bipush (v := (-4)) hx hb dX6_look_106 (by decide) ?_
        refine lv_icmp_ne (tgt := 116) hx hb dX6_look_108 rfl (fun b108 => ?_) (fun b108 => ?_)
        · skip
          refine lv_iload_n hx hb dX6_look_116 rfl (lv_at hl 1 rfl) ?_
          refine lv_if_ne (tgt := 125) hx hb dX6_look_117 rfl (fun b117 => ?_) (fun b117 => ?_)
          · skip
            refine lv_iload_n hx hb dX6_look_125 rfl (lv_at hl 3 rfl) ?_
            have hP := hP.sub (ws' := [oC ko 6 [.ref (ad 0), .ref (ad 1), .int (nI w), .int (nI h), .int (nI la), .ref (ad 2), .int (mv 0), .int (mv 1), .int (mv 2), .int (mv 3), .int (mv 4), .int (mv 5), .int (mv 6), .ref (ad 3), .int (nI tp), .int (mv 7), .int (mv 8), .int (mv 9), .int (mv 10), .int ft, .int (mv 11), .ref (ad 4), .ref (ad 5), .ref (ad 6), .ref (ad 7), .ref (ad 8), .ref (ad 9), .ref (ad 10), .int tr], iA G (ad 0) 255 S, iA G (ad 4) 16 mk3, iA G (ad 5) 7 gr3]) [3, 0, 1, 2] rfl
            have hD := hD.sub (ws' := [oC ko 6 [.ref (ad 0), .ref (ad 1), .int (nI w), .int (nI h), .int (nI la), .ref (ad 2), .int (mv 0), .int (mv 1), .int (mv 2), .int (mv 3), .int (mv 4), .int (mv 5), .int (mv 6), .ref (ad 3), .int (nI tp), .int (mv 7), .int (mv 8), .int (mv 9), .int (mv 10), .int ft, .int (mv 11), .ref (ad 4), .ref (ad 5), .ref (ad 6), .ref (ad 7), .ref (ad 8), .ref (ad 9), .ref (ad 10), .int tr], iA G (ad 0) 255 S, iA G (ad 4) 16 mk3, iA G (ad 5) 7 gr3]) [3, 0, 1, 2] (by decide) rfl
            refine W.iret (v := fw) hx hb hr (fun t ht hW => ⟨⟨fw, (gr3, mk3), rfl, ?_, by rw [ht]; exact hP, hD⟩, hS.F ht⟩) hS.2.2 dX6_look_126
            try dsimp only
            first | exact (if_neg b4).symm | (rw [if_pos b4, show (lkX (fun x c => wsM w h la S nc x c (dyM w h la S nc ns)) (w * h) (w * h) (bcM (dyM w h la S nc ns) 16, (-4))) = (fw, wh) from (by rw [hst, show x = w * h by omega])]; first | exact (if_pos b108).symm | (rw [if_neg b108]; first | exact (if_pos b117).symm | exact (if_neg b117).symm))
          · skip
            refine lv_iload hx hb dX6_look_120 (lv_at hl 4 rfl) ?_
            refine lv_goto (tgt := 126) hx hb dX6_look_122 rfl ?_
            have hP := hP.sub (ws' := [oC ko 6 [.ref (ad 0), .ref (ad 1), .int (nI w), .int (nI h), .int (nI la), .ref (ad 2), .int (mv 0), .int (mv 1), .int (mv 2), .int (mv 3), .int (mv 4), .int (mv 5), .int (mv 6), .ref (ad 3), .int (nI tp), .int (mv 7), .int (mv 8), .int (mv 9), .int (mv 10), .int ft, .int (mv 11), .ref (ad 4), .ref (ad 5), .ref (ad 6), .ref (ad 7), .ref (ad 8), .ref (ad 9), .ref (ad 10), .int tr], iA G (ad 0) 255 S, iA G (ad 4) 16 mk3, iA G (ad 5) 7 gr3]) [3, 0, 1, 2] rfl
            have hD := hD.sub (ws' := [oC ko 6 [.ref (ad 0), .ref (ad 1), .int (nI w), .int (nI h), .int (nI la), .ref (ad 2), .int (mv 0), .int (mv 1), .int (mv 2), .int (mv 3), .int (mv 4), .int (mv 5), .int (mv 6), .ref (ad 3), .int (nI tp), .int (mv 7), .int (mv 8), .int (mv 9), .int (mv 10), .int ft, .int (mv 11), .ref (ad 4), .ref (ad 5), .ref (ad 6), .ref (ad 7), .ref (ad 8), .ref (ad 9), .ref (ad 10), .int tr], iA G (ad 0) 255 S, iA G (ad 4) 16 mk3, iA G (ad 5) 7 gr3]) [3, 0, 1, 2] (by decide) rfl
            refine W.iret (v := wh) hx hb hr (fun t ht hW => ⟨⟨wh, (gr3, mk3), rfl, ?_, by rw [ht]; exact hP, hD⟩, hS.F ht⟩) hS.2.2 dX6_look_126
            try dsimp only
            first | exact (if_neg b4).symm | (rw [if_pos b4, show (lkX (fun x c => wsM w h la S nc x c (dyM w h la S nc ns)) (w * h) (w * h) (bcM (dyM w h la S nc ns) 16, (-4))) = (fw, wh) from (by rw [hst, show x = w * h by omega])]; first | exact (if_pos b108).symm | (rw [if_neg b108]; first | exact (if_pos b117).symm | exact (if_neg b117).symm))
        · skip
          refine lv_bipush (v := (-4)) hx hb dX6_look_111 (by decide) ?_
          refine lv_goto (tgt := 126) hx hb dX6_look_113 rfl ?_
          have hP := hP.sub (ws' := [oC ko 6 [.ref (ad 0), .ref (ad 1), .int (nI w), .int (nI h), .int (nI la), .ref (ad 2), .int (mv 0), .int (mv 1), .int (mv 2), .int (mv 3), .int (mv 4), .int (mv 5), .int (mv 6), .ref (ad 3), .int (nI tp), .int (mv 7), .int (mv 8), .int (mv 9), .int (mv 10), .int ft, .int (mv 11), .ref (ad 4), .ref (ad 5), .ref (ad 6), .ref (ad 7), .ref (ad 8), .ref (ad 9), .ref (ad 10), .int tr], iA G (ad 0) 255 S, iA G (ad 4) 16 mk3, iA G (ad 5) 7 gr3]) [3, 0, 1, 2] rfl
          have hD := hD.sub (ws' := [oC ko 6 [.ref (ad 0), .ref (ad 1), .int (nI w), .int (nI h), .int (nI la), .ref (ad 2), .int (mv 0), .int (mv 1), .int (mv 2), .int (mv 3), .int (mv 4), .int (mv 5), .int (mv 6), .ref (ad 3), .int (nI tp), .int (mv 7), .int (mv 8), .int (mv 9), .int (mv 10), .int ft, .int (mv 11), .ref (ad 4), .ref (ad 5), .ref (ad 6), .ref (ad 7), .ref (ad 8), .ref (ad 9), .ref (ad 10), .int tr], iA G (ad 0) 255 S, iA G (ad 4) 16 mk3, iA G (ad 5) 7 gr3]) [3, 0, 1, 2] (by decide) rfl
          refine W.iret (v := (-4)) hx hb hr (fun t ht hW => ⟨⟨(-4), (gr3, mk3), rfl, ?_, by rw [ht]; exact hP, hD⟩, hS.F ht⟩) hS.2.2 dX6_look_126
          try dsimp only
          first | exact (if_neg b4).symm | (rw [if_pos b4, show (lkX (fun x c => wsM w h la S nc x c (dyM w h la S nc ns)) (w * h) (w * h) (bcM (dyM w h la S nc ns) 16, (-4))) = (fw, wh) from (by rw [hst, show x = w * h by omega])]; first | exact (if_pos b108).symm | (rw [if_neg b108]; first | exact (if_pos b117).symm | exact (if_neg b117).symm))
      · skip
        refine lv_iconst (v := nI 0) hx hb dX6_look_35 (by decide) ?_
        refine lv_istore (lv' := [(6, .int (nI 0)), (0, .ref ko), (1, .int a), (2, .int (dyM w h la S nc ns)), (3, .int fw), (4, .int wh), (5, .int (nI x))]) hx hb dX6_look_36 hl (by decide) rfl (fun ls hl => ?_)
        have hL38 : ∀ k : Nat, ∀ (c : Nat) (fw4 : Int32) (wh4 : Int32) (mk5 : Nat → Int32) (gr5 : Nat → Int32) (ls : Array Slot) (H : Heap) (locs : List Loc), w * h - c = k → (c ≤ w * h) → ((fw4, wh4) = lkC ((fun x c => wsM w h la S nc x c (dyM w h la S nc ns)) x) x c (lkX (fun x c => wsM w h la S nc x c (dyM w h la S nc ns)) (w * h) x (bcM (dyM w h la S nc ns) 16, (-4)))) → lv_has ls 8 [(0, .ref ko), (1, .int a), (2, .int (dyM w h la S nc ns)), (3, .int fw4), (4, .int wh4), (5, .int (nI x)), (6, .int (nI c))] → xP G [iA G (ad 0) 255 S, iA G (ad 4) 16 mk5, iA G (ad 5) 7 gr5, oC ko 6 [.ref (ad 0), .ref (ad 1), .int (nI w), .int (nI h), .int (nI la), .ref (ad 2), .int (mv 0), .int (mv 1), .int (mv 2), .int (mv 3), .int (mv 4), .int (mv 5), .int (mv 6), .ref (ad 3), .int (nI tp), .int (mv 7), .int (mv 8), .int (mv 9), .int (mv 10), .int ft, .int (mv 11), .ref (ad 4), .ref (ad 5), .ref (ad 6), .ref (ad 7), .ref (ad 8), .ref (ad 9), .ref (ad 10), .int tr]] H → va_D (va_A (w_X6_look G ko ad w h la tp ft tr mv S mk gr) ss.heap.size) [iA G (ad 0) 255 S, iA G (ad 4) 16 mk5, iA G (ad 5) 7 gr5, oC ko 6 [.ref (ad 0), .ref (ad 1), .int (nI w), .int (nI h), .int (nI la), .ref (ad 2), .int (mv 0), .int (mv 1), .int (mv 2), .int (mv 3), .int (mv 4), .int (mv 5), .int (mv 6), .ref (ad 3), .int (nI tp), .int (mv 7), .int (mv 8), .int (mv 9), .int (mv 10), .int ft, .int (mv 11), .ref (ad 4), .ref (ad 5), .ref (ad 6), .ref (ad 7), .ref (ad 8), .ref (ad 9), .ref (ad 10), .int tr]] → va_S (va_A (w_X6_look G ko ad w h la tp ft tr mv S mk gr) ss.heap.size) ss.heap H locs → W pp l ee ({ frames := 6, cells := 0, slots := 0, locals := 135 } : Room) ss mm ([.ref ko, .int a] : List Value).toArray below mt cd H locs 0 0 (MQ below (Q_X6_look G ss.heap.size ko ad w h la tp ft tr mv S mk nc ns gr a) ([.ref ko, .int a] : List Value).toArray ss 0 0 (va_A (w_X6_look G ko ad w h la tp ft tr mv S mk gr) ss.heap.size)) (F0 mm 38 ls []) := by
          intro k
          induction k using Nat.strongRecOn with
          | _ k ih38 =>
          intro c fw4 wh4 mk5 gr5 ls H locs hm38 hci hst4 hl hP hD hS
          refine lv_iload hx hb dX6_look_38 (lv_at hl 6 rfl) ?_
          refine lv_aload_n hx hb dX6_look_40 rfl (lv_at hl 0 rfl) ?_
          refine xr_i (As := []) (rest := [.int (nI c)]) ⟨hx, hb, hml, hown, hts⟩ (c_X6_cellsNow l G ko ad w h la tp ft tr mv ) (cwV 0 hts gX6_look_X6_cellsNow rfl rfl rfl (by decide +kernel) ⟨Nat.le_of_ble_eq_true rfl, Nat.le_of_ble_eq_true rfl⟩) hK hP hS [3] rfl rfl rfl rfl hl.1 rfl (Nat.le_of_ble_eq_true rfl) dX6_look_41 ⟨Nat.zero_le _, Nat.zero_le _⟩ (fun r41 H locs hp41 hP hS => ?_)
          rw [show r41 = _ from hp41]
          refine xn_icmp_ge (tgt := 98) hx hb (by omega) (by omega) dX6_look_44 rfl (fun b44 => ?_) (fun b44 => ?_)
          · skip
            refine lv_iinc (k := 5) (v := nI (x + 1)) (lv' := [(5, .int (nI (x + 1))), (0, .ref ko), (1, .int a), (2, .int (dyM w h la S nc ns)), (3, .int fw4), (4, .int wh4), (6, .int (nI c))]) hx hb dX6_look_98 hl rfl (xn_inc x 1) (by decide) rfl (fun ls hl => ?_)
            refine lv_goto (tgt := 26) hx hb dX6_look_101 rfl ?_
            have hl := lv_sub hl (l' := [(0, .ref ko), (1, .int a), (2, .int (dyM w h la S nc ns)), (3, .int fw4), (4, .int wh4), (5, .int (nI (x + 1)))]) [1, 2, 3, 4, 5, 0] rfl
            exact ih26 (w * h - (x + 1)) (by omega) (x + 1) fw4 wh4 mk5 gr5 ls H locs rfl (by omega) (by rw [lkX, hst4, show c = w * h by omega]) hl hP hD hS
          · skip
            refine lv_aload_n hx hb dX6_look_47 rfl (lv_at hl 0 rfl) ?_
            refine lv_iload hx hb dX6_look_48 (lv_at hl 5 rfl) ?_
            refine lv_iload hx hb dX6_look_50 (lv_at hl 6 rfl) ?_
            refine lv_iload_n hx hb dX6_look_52 rfl (lv_at hl 2 rfl) ?_
            refine xw_i (As := [.int (nI x), .int (nI c), .int (dyM w h la S nc ns)]) (rest := []) (wr := []) ⟨hx, hb, hml, hown, hts⟩ (c_X6_worstOf l G H.size ko ad w h la tp ft tr mv S mk5 nc gr5 x c (dyM w h la S nc ns) (by first | assumption | omega) (by first | assumption | omega) (by first | assumption | omega) (by first | assumption | omega) (by first | assumption | omega) (by first | assumption | omega) (by first | assumption | omega) (by first | assumption | omega) (by first | assumption | omega) (by first | assumption | omega) (by first | assumption | omega)) (cwV 3 hts gX6_look_X6_worstOf rfl rfl rfl (by decide +kernel) ⟨Nat.le_of_ble_eq_true rfl, Nat.le_of_ble_eq_true rfl⟩) hK hP hD hS hA [3, 0, 1, 2] [] rfl rfl (by decide) (by decide) (by decide) rfl rfl rfl hl.1 rfl (Nat.le_of_ble_eq_true rfl) dX6_look_53 ⟨Nat.le_of_ble_eq_true rfl, Nat.le_of_ble_eq_true rfl⟩ (fun r53 u H locs hp53 hP hD hS => ?_)
            obtain ⟨mk2_53, gr2_53⟩ := u
            try dsimp only at hp53 hP hD
            obtain rfl := hp53
            replace hP : xP G [oC ko 6 [.ref (ad 0), .ref (ad 1), .int (nI w), .int (nI h), .int (nI la), .ref (ad 2), .int (mv 0), .int (mv 1), .int (mv 2), .int (mv 3), .int (mv 4), .int (mv 5), .int (mv 6), .ref (ad 3), .int (nI tp), .int (mv 7), .int (mv 8), .int (mv 9), .int (mv 10), .int ft, .int (mv 11), .ref (ad 4), .ref (ad 5), .ref (ad 6), .ref (ad 7), .ref (ad 8), .ref (ad 9), .ref (ad 10), .int tr], iA G (ad 0) 255 S, iA G (ad 4) 16 mk2_53, iA G (ad 5) 7 gr2_53] H := hP
            replace hD : va_D (va_A (w_X6_look G ko ad w h la tp ft tr mv S mk gr) ss.heap.size) [oC ko 6 [.ref (ad 0), .ref (ad 1), .int (nI w), .int (nI h), .int (nI la), .ref (ad 2), .int (mv 0), .int (mv 1), .int (mv 2), .int (mv 3), .int (mv 4), .int (mv 5), .int (mv 6), .ref (ad 3), .int (nI tp), .int (mv 7), .int (mv 8), .int (mv 9), .int (mv 10), .int ft, .int (mv 11), .ref (ad 4), .ref (ad 5), .ref (ad 6), .ref (ad 7), .ref (ad 8), .ref (ad 9), .ref (ad 10), .int tr], iA G (ad 0) 255 S, iA G (ad 4) 16 mk2_53, iA G (ad 5) 7 gr2_53] := hD
            have hwl : wsM w h la S nc x c (dyM w h la S nc ns) ≤ la + 1 := woF_le _ _ _
            refine lv_istore (lv' := [(7, .int (nI (wsM w h la S nc x c (dyM w h la S nc ns)))), (0, .ref ko), (1, .int a), (2, .int (dyM w h la S nc ns)), (3, .int fw4), (4, .int wh4), (5, .int (nI x)), (6, .int (nI c))]) hx hb dX6_look_56 hl (by decide) rfl (fun ls hl => ?_)
            refine lv_iload hx hb dX6_look_58 (lv_at hl 0 rfl) ?_
            refine lv_iload_n hx hb dX6_look_60 rfl (lv_at hl 4 rfl) ?_
            refine xw_icmp_ge (tgt := 75) hx hb (by omega) dX6_look_61 rfl (fun b61 => ?_) (fun b61 => ?_)
            · skip
              refine lv_iload hx hb dX6_look_75 (lv_at hl 5 rfl) ?_
              refine lv_istore (lv' := [(4, .int wh4), (7, .int (nI (wsM w h la S nc x c (dyM w h la S nc ns)))), (0, .ref ko), (1, .int a), (2, .int (dyM w h la S nc ns)), (3, .int fw4), (5, .int (nI x)), (6, .int (nI c))]) hx hb dX6_look_77 hl (by decide) rfl (fun ls hl => ?_)
              refine lv_iload hx hb dX6_look_79 (lv_at hl 1 rfl) ?_
              refine lv_iload_n hx hb dX6_look_81 rfl (lv_at hl 5 rfl) ?_
              refine xw_icmp_ge (tgt := 90) hx hb (by omega) dX6_look_82 rfl (fun b82 => ?_) (fun b82 => ?_)
              · skip
                refine lv_iload_n hx hb dX6_look_90 rfl (lv_at hl 5 rfl) ?_
                refine lv_istore_n (lv' := [(3, .int fw4), (4, .int wh4), (7, .int (nI (wsM w h la S nc x c (dyM w h la S nc ns)))), (0, .ref ko), (1, .int a), (2, .int (dyM w h la S nc ns)), (5, .int (nI x)), (6, .int (nI c))]) hx hb dX6_look_91 rfl hl (by decide) rfl (fun ls hl => ?_)
                refine lv_iinc (k := 7) (v := nI (c + 1)) (lv' := [(6, .int (nI (c + 1))), (3, .int fw4), (4, .int wh4), (7, .int (nI (wsM w h la S nc x c (dyM w h la S nc ns)))), (0, .ref ko), (1, .int a), (2, .int (dyM w h la S nc ns)), (5, .int (nI x))]) hx hb dX6_look_92 hl rfl (xn_inc c 1) (by decide) rfl (fun ls hl => ?_)
                refine lv_goto (tgt := 38) hx hb dX6_look_95 rfl ?_
                have hl := lv_sub hl (l' := [(0, .ref ko), (1, .int a), (2, .int (dyM w h la S nc ns)), (3, .int fw4), (4, .int wh4), (5, .int (nI x)), (6, .int (nI (c + 1)))]) [4, 5, 6, 1, 2, 7, 0] rfl
                have hP := hP.sub (ws' := [iA G (ad 0) 255 S, iA G (ad 4) 16 mk2_53, iA G (ad 5) 7 gr2_53, oC ko 6 [.ref (ad 0), .ref (ad 1), .int (nI w), .int (nI h), .int (nI la), .ref (ad 2), .int (mv 0), .int (mv 1), .int (mv 2), .int (mv 3), .int (mv 4), .int (mv 5), .int (mv 6), .ref (ad 3), .int (nI tp), .int (mv 7), .int (mv 8), .int (mv 9), .int (mv 10), .int ft, .int (mv 11), .ref (ad 4), .ref (ad 5), .ref (ad 6), .ref (ad 7), .ref (ad 8), .ref (ad 9), .ref (ad 10), .int tr]]) [1, 2, 3, 0] rfl
                have hD := hD.sub (ws' := [iA G (ad 0) 255 S, iA G (ad 4) 16 mk2_53, iA G (ad 5) 7 gr2_53, oC ko 6 [.ref (ad 0), .ref (ad 1), .int (nI w), .int (nI h), .int (nI la), .ref (ad 2), .int (mv 0), .int (mv 1), .int (mv 2), .int (mv 3), .int (mv 4), .int (mv 5), .int (mv 6), .ref (ad 3), .int (nI tp), .int (mv 7), .int (mv 8), .int (mv 9), .int (mv 10), .int ft, .int (mv 11), .ref (ad 4), .ref (ad 5), .ref (ad 6), .ref (ad 7), .ref (ad 8), .ref (ad 9), .ref (ad 10), .int tr]]) [1, 2, 3, 0] (by decide) rfl
                exact ih38 (w * h - (c + 1)) (by omega) (c + 1) fw4 wh4 mk2_53 gr2_53 ls H locs rfl (by omega) (by rw [lkC, ← hst4]; first | (rw [if_neg (by simp only []; omega)]) | (rw [if_pos (by simp only []; omega)])) hl hP hD hS
              · skip
                exact absurd b61 b82
            · skip
              refine lv_bipush (v := nI 16) hx hb dX6_look_64 (by decide) ?_
              refine lv_iload hx hb dX6_look_66 (lv_at hl 6 rfl) ?_
              refine xn_imul hx hb dX6_look_68 ?_
              refine lv_iload hx hb dX6_look_69 (lv_at hl 7 rfl) ?_
              refine xn_iadd hx hb dX6_look_71 ?_
              refine lv_goto (tgt := 77) hx hb dX6_look_72 rfl ?_
              refine lv_istore (lv' := [(4, .int (nI ((16 * x) + c))), (7, .int (nI (wsM w h la S nc x c (dyM w h la S nc ns)))), (0, .ref ko), (1, .int a), (2, .int (dyM w h la S nc ns)), (3, .int fw4), (5, .int (nI x)), (6, .int (nI c))]) hx hb dX6_look_77 hl (by decide) rfl (fun ls hl => ?_)
              refine lv_iload hx hb dX6_look_79 (lv_at hl 1 rfl) ?_
              refine lv_iload_n hx hb dX6_look_81 rfl (lv_at hl 5 rfl) ?_
              refine xw_icmp_ge (tgt := 90) hx hb (by omega) dX6_look_82 rfl (fun b82 => ?_) (fun b82 => ?_)
              · skip
                exact absurd b82 b61
              · skip
                refine lv_iload hx hb dX6_look_85 (lv_at hl 1 rfl) ?_
                refine lv_goto (tgt := 91) hx hb dX6_look_87 rfl ?_
                refine lv_istore_n (lv' := [(3, .int (nI (wsM w h la S nc x c (dyM w h la S nc ns)))), (4, .int (nI ((16 * x) + c))), (7, .int (nI (wsM w h la S nc x c (dyM w h la S nc ns)))), (0, .ref ko), (1, .int a), (2, .int (dyM w h la S nc ns)), (5, .int (nI x)), (6, .int (nI c))]) hx hb dX6_look_91 rfl hl (by decide) rfl (fun ls hl => ?_)
                refine lv_iinc (k := 7) (v := nI (c + 1)) (lv' := [(6, .int (nI (c + 1))), (3, .int (nI (wsM w h la S nc x c (dyM w h la S nc ns)))), (4, .int (nI ((16 * x) + c))), (7, .int (nI (wsM w h la S nc x c (dyM w h la S nc ns)))), (0, .ref ko), (1, .int a), (2, .int (dyM w h la S nc ns)), (5, .int (nI x))]) hx hb dX6_look_92 hl rfl (xn_inc c 1) (by decide) rfl (fun ls hl => ?_)
                refine lv_goto (tgt := 38) hx hb dX6_look_95 rfl ?_
                have hl := lv_sub hl (l' := [(0, .ref ko), (1, .int a), (2, .int (dyM w h la S nc ns)), (3, .int (nI (wsM w h la S nc x c (dyM w h la S nc ns)))), (4, .int (nI ((16 * x) + c))), (5, .int (nI x)), (6, .int (nI (c + 1)))]) [4, 5, 6, 1, 2, 7, 0] rfl
                have hP := hP.sub (ws' := [iA G (ad 0) 255 S, iA G (ad 4) 16 mk2_53, iA G (ad 5) 7 gr2_53, oC ko 6 [.ref (ad 0), .ref (ad 1), .int (nI w), .int (nI h), .int (nI la), .ref (ad 2), .int (mv 0), .int (mv 1), .int (mv 2), .int (mv 3), .int (mv 4), .int (mv 5), .int (mv 6), .ref (ad 3), .int (nI tp), .int (mv 7), .int (mv 8), .int (mv 9), .int (mv 10), .int ft, .int (mv 11), .ref (ad 4), .ref (ad 5), .ref (ad 6), .ref (ad 7), .ref (ad 8), .ref (ad 9), .ref (ad 10), .int tr]]) [1, 2, 3, 0] rfl
                have hD := hD.sub (ws' := [iA G (ad 0) 255 S, iA G (ad 4) 16 mk2_53, iA G (ad 5) 7 gr2_53, oC ko 6 [.ref (ad 0), .ref (ad 1), .int (nI w), .int (nI h), .int (nI la), .ref (ad 2), .int (mv 0), .int (mv 1), .int (mv 2), .int (mv 3), .int (mv 4), .int (mv 5), .int (mv 6), .ref (ad 3), .int (nI tp), .int (mv 7), .int (mv 8), .int (mv 9), .int (mv 10), .int ft, .int (mv 11), .ref (ad 4), .ref (ad 5), .ref (ad 6), .ref (ad 7), .ref (ad 8), .ref (ad 9), .ref (ad 10), .int tr]]) [1, 2, 3, 0] (by decide) rfl
                exact ih38 (w * h - (c + 1)) (by omega) (c + 1) (nI (wsM w h la S nc x c (dyM w h la S nc ns))) (nI ((16 * x) + c)) mk2_53 gr2_53 ls H locs rfl (by omega) (by rw [lkC, ← hst4]; first | (rw [if_neg (by simp only []; omega)]) | (rw [if_pos (by simp only []; omega)])) hl hP hD hS
        have hl := lv_sub hl (l' := [(0, .ref ko), (1, .int a), (2, .int (dyM w h la S nc ns)), (3, .int fw), (4, .int wh), (5, .int (nI x)), (6, .int (nI 0))]) [1, 2, 3, 4, 5, 6, 0] rfl
        exact hL38 (w * h - 0) 0 fw wh mk3 gr3 ls H locs rfl (by omega) (by rw [hst]; rfl) hl hP hD hS
    have hl := lv_sub hl (l' := [(0, .ref ko), (1, .int a), (2, .int (dyM w h la S nc ns)), (3, .int (bcM (dyM w h la S nc ns) 16)), (4, .int (-4)), (5, .int (nI 0))]) [4, 5, 3, 2, 1, 0] rfl
    have hP := hP.sub (ws' := [iA G (ad 0) 255 S, iA G (ad 4) 16 mk2_10, iA G (ad 5) 7 gr, oC ko 6 [.ref (ad 0), .ref (ad 1), .int (nI w), .int (nI h), .int (nI la), .ref (ad 2), .int (mv 0), .int (mv 1), .int (mv 2), .int (mv 3), .int (mv 4), .int (mv 5), .int (mv 6), .ref (ad 3), .int (nI tp), .int (mv 7), .int (mv 8), .int (mv 9), .int (mv 10), .int ft, .int (mv 11), .ref (ad 4), .ref (ad 5), .ref (ad 6), .ref (ad 7), .ref (ad 8), .ref (ad 9), .ref (ad 10), .int tr]]) [2, 3, 0, 1] rfl
    have hD := hD.sub (ws' := [iA G (ad 0) 255 S, iA G (ad 4) 16 mk2_10, iA G (ad 5) 7 gr, oC ko 6 [.ref (ad 0), .ref (ad 1), .int (nI w), .int (nI h), .int (nI la), .ref (ad 2), .int (mv 0), .int (mv 1), .int (mv 2), .int (mv 3), .int (mv 4), .int (mv 5), .int (mv 6), .ref (ad 3), .int (nI tp), .int (mv 7), .int (mv 8), .int (mv 9), .int (mv 10), .int ft, .int (mv 11), .ref (ad 4), .ref (ad 5), .ref (ad 6), .ref (ad 7), .ref (ad 8), .ref (ad 9), .ref (ad 10), .int tr]]) [2, 3, 0, 1] (by decide) rfl
    exact hL26 (w * h - 0) 0 (bcM (dyM w h la S nc ns) 16) (-4) mk2_10 gr ls H locs rfl (by omega) (by rfl) hl hP hD hS
  · skip
    refine lv_iconst (v := (-1)) hx hb dX6_look_7 (by decide) ?_
    have hP := hP.sub (ws' := [oC ko 6 [.ref (ad 0), .ref (ad 1), .int (nI w), .int (nI h), .int (nI la), .ref (ad 2), .int (mv 0), .int (mv 1), .int (mv 2), .int (mv 3), .int (mv 4), .int (mv 5), .int (mv 6), .ref (ad 3), .int (nI tp), .int (mv 7), .int (mv 8), .int (mv 9), .int (mv 10), .int ft, .int (mv 11), .ref (ad 4), .ref (ad 5), .ref (ad 6), .ref (ad 7), .ref (ad 8), .ref (ad 9), .ref (ad 10), .int tr], iA G (ad 0) 255 S, iA G (ad 4) 16 mk, iA G (ad 5) 7 gr]) [0, 1, 2, 3] rfl
    have hD := hD.sub (ws' := [oC ko 6 [.ref (ad 0), .ref (ad 1), .int (nI w), .int (nI h), .int (nI la), .ref (ad 2), .int (mv 0), .int (mv 1), .int (mv 2), .int (mv 3), .int (mv 4), .int (mv 5), .int (mv 6), .ref (ad 3), .int (nI tp), .int (mv 7), .int (mv 8), .int (mv 9), .int (mv 10), .int ft, .int (mv 11), .ref (ad 4), .ref (ad 5), .ref (ad 6), .ref (ad 7), .ref (ad 8), .ref (ad 9), .ref (ad 10), .int tr], iA G (ad 0) 255 S, iA G (ad 4) 16 mk, iA G (ad 5) 7 gr]) [0, 1, 2, 3] (by decide) rfl
    refine W.iret (v := (-1)) hx hb hr (fun t ht hW => ⟨⟨(-1), (gr, mk), rfl, ?_, by rw [ht]; exact hP, hD⟩, hS.F ht⟩) hS.2.2 dX6_look_8
    try dsimp only
    first | exact (if_neg b4).symm | (rw [if_pos b4, show (lkX (fun x c => wsM w h la S nc x c (dyM w h la S nc ns)) (w * h) (w * h) (bcM (dyM w h la S nc ns) 16, (-4))) = (fw, wh) from (by rw [hst, show x = w * h by omega])]; first | exact (if_pos b108).symm | (rw [if_neg b108]; first | exact (if_pos b117).symm | exact (if_neg b117).symm))

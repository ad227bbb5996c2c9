abbrev w_X6_sees (G : XG) (ko : Nat) (ad : Nat → Nat) (w h la tp : Nat) (ft tr : Int32) (mv : Nat → Int32) (S mk : Nat → Int32) : va_W := [oC ko 6 [.ref (ad 0), .ref (ad 1), .int (nI w), .int (nI h), .int (nI la), .ref (ad 2), .int (mv 0), .int (mv 1), .int (mv 2), .int (mv 3), .int (mv 4), .int (mv 5), .int (mv 6), .ref (ad 3), .int (nI tp), .int (mv 7), .int (mv 8), .int (mv 9), .int (mv 10), .int ft, .int (mv 11), .ref (ad 4), .ref (ad 5), .ref (ad 6), .ref (ad 7), .ref (ad 8), .ref (ad 9), .ref (ad 10), .int tr], iA G (ad 0) 255 S, iA G (ad 4) 16 mk]
abbrev Q_X6_sees (G : XG) (sz : Nat) (ko : Nat) (ad : Nat → Nat) (w h la tp : Nat) (ft tr : Int32) (mv : Nat → Int32) (S mk : Nat → Int32) (nc : Nat) (x d : Int32) : Array Value → State → Outcome → State → Prop := (va_Qi (fun (r : Int32) (u : (Nat → Int32)) => r = (if inR x (w * h) ∧ inR d (la + 1) then sgM w h S nc (tn x) (tn d) else (-1))) (xWb G sz (w_X6_sees G ko ad w h la tp ft tr mv S mk) (fun u : (Nat → Int32) => [oC ko 6 [.ref (ad 0), .ref (ad 1), .int (nI w), .int (nI h), .int (nI la), .ref (ad 2), .int (mv 0), .int (mv 1), .int (mv 2), .int (mv 3), .int (mv 4), .int (mv 5), .int (mv 6), .ref (ad 3), .int (nI tp), .int (mv 7), .int (mv 8), .int (mv 9), .int (mv 10), .int ft, .int (mv 11), .ref (ad 4), .ref (ad 5), .ref (ad 6), .ref (ad 7), .ref (ad 8), .ref (ad 9), .ref (ad 10), .int tr], iA G (ad 0) 255 S, iA G (ad 4) 16 u])) (va_A (w_X6_sees G ko ad w h la tp ft tr mv S mk) sz))
set_option maxHeartbeats 4000000 in
set_option maxRecDepth 100000 in
theorem c_X6_sees (l : Launch) (G : XG) (sz : Nat) (ko : Nat) (ad : Nat → Nat) (w h la tp : Nat) (ft tr : Int32) (mv : Nat → Int32) (S mk : Nat → Int32) (nc : Nat) (x d : Int32) (hw : 1 ≤ w) (hwb : w ≤ 16) (hhb : h ≤ 16) (hwh1 : 1 ≤ w * h) (hwh : w * h ≤ 16) (hla : la ≤ 9) (hs16 : S 16 = nI nc) (hnc : nc ≤ 10) : Met l yX6_sees wsX6_sees ({ frames := 4, cells := 0, slots := 0, locals := 89 } : Room) (va_Pc [.ref ko, .int x, .int d] (xWp G sz (w_X6_sees G ko ad w h la tp ft tr mv S mk))) (Q_X6_sees G sz ko ad w h la tp ft tr mv S mk nc x d) 0 0 (va_A (w_X6_sees G ko ad w h la tp ft tr mv S mk) sz) := by
  refine Met.ofW (cc := cX6_sees) (maxL := 3) (ret := (some .int)) (by decide) rfl ?_
  intro pp ee ss mm aa below mt cd s₁ BB hml hv
  obtain ⟨rfl, hsz, hP, hK, hD0⟩ := hv
  have hx := BB.exec
  have hb := BB.bytes
  have hr := BB.returns
  have hts := atoms_spec (ws := wsX6_sees) BB.pre
  have hown : ss.vm.findClass RX6 = some mm.cls := findClass_of_methodNamed BB.named
  have hlocks := BB.notSynchronized
  subst hsz
  have hD := hD0.self (sz := ss.heap.size)
  have hA : ∀ q : Nat, ss.heap.size ≤ q → va_A (w_X6_sees G ko ad w h la tp ft tr mv S mk) ss.heap.size q := fun q h => Or.inr h
  have hS : va_S (va_A (w_X6_sees G ko ad w h la tp ft tr mv S mk) ss.heap.size) ss.heap ss.heap [] := va_S.rf
  replace hD : va_D (va_A (w_X6_sees G ko ad w h la tp ft tr mv S mk) ss.heap.size) [oC ko 6 [.ref (ad 0), .ref (ad 1), .int (nI w), .int (nI h), .int (nI la), .ref (ad 2), .int (mv 0), .int (mv 1), .int (mv 2), .int (mv 3), .int (mv 4), .int (mv 5), .int (mv 6), .ref (ad 3), .int (nI tp), .int (mv 7), .int (mv 8), .int (mv 9), .int (mv 10), .int ft, .int (mv 11), .ref (ad 4), .ref (ad 5), .ref (ad 6), .ref (ad 7), .ref (ad 8), .ref (ad 9), .ref (ad 10), .int tr], iA G (ad 0) 255 S, iA G (ad 4) 16 mk] := hD
  replace hP : xP G [oC ko 6 [.ref (ad 0), .ref (ad 1), .int (nI w), .int (nI h), .int (nI la), .ref (ad 2), .int (mv 0), .int (mv 1), .int (mv 2), .int (mv 3), .int (mv 4), .int (mv 5), .int (mv 6), .ref (ad 3), .int (nI tp), .int (mv 7), .int (mv 8), .int (mv 9), .int (mv 10), .int ft, .int (mv 11), .ref (ad 4), .ref (ad 5), .ref (ad 6), .ref (ad 7), .ref (ad 8), .ref (ad 9), .ref (ad 10), .int tr], iA G (ad 0) 255 S, iA G (ad 4) 16 mk] ss.heap := hP
  have hin6 : ∀ w ∈ u_ws RX6 TX6 29, w ∈ wsX6_sees := fun w h => List.mem_cons_of_mem _ (List.mem_append_right _ h)
  have hl := lv_entry ([.ref ko, .int x, .int d]) (n := 3) (Nat.le_of_ble_eq_true rfl)
  rw [lg_entry_eq]
  generalize (lg_sl ([.ref ko, .int x, .int d]) ++ List.replicate (3 - (lg_sl ([.ref ko, .int x, .int d])).length) Slot.unset).toArray = ls at hl ⊢
  replace hl : lv_has ls 3 [(0, .ref ko), (1, .int x), (2, .int d)] := hl
  refine lv_aload_n hx hb dX6_sees_0 rfl (lv_at hl 0 rfl) ?_
  refine lv_iload_n hx hb dX6_sees_1 rfl (lv_at hl 1 rfl) ?_
  refine xr_i (As := [.int x]) (rest := []) ⟨hx, hb, hml, hown, hts⟩ (c_X6_isCell l G ko ad w h la tp ft tr mv x (by first | assumption | omega) (by first | assumption | omega)) (cwV 1 hts gX6_sees_X6_isCell rfl rfl rfl (by decide +kernel) ⟨Nat.le_of_ble_eq_true rfl, Nat.le_of_ble_eq_true rfl⟩) hK hP hS [0] rfl rfl rfl rfl hl.1 rfl (Nat.le_of_ble_eq_true rfl) dX6_sees_2 ⟨Nat.zero_le _, Nat.zero_le _⟩ (fun r2 H locs hp2 hP hS => ?_)
  rw [show r2 = _ from hp2]
  refine xb_if_eq (tgt := 25) hx hb dX6_sees_5 rfl (fun b5 => ?_) (fun b5 => ?_)
  · skip
    refine lv_iconst (v := (-1)) hx hb dX6_sees_25 (by decide) ?_
    have hP := hP.sub (ws' := [oC ko 6 [.ref (ad 0), .ref (ad 1), .int (nI w), .int (nI h), .int (nI la), .ref (ad 2), .int (mv 0), .int (mv 1), .int (mv 2), .int (mv 3), .int (mv 4), .int (mv 5), .int (mv 6), .ref (ad 3), .int (nI tp), .int (mv 7), .int (mv 8), .int (mv 9), .int (mv 10), .int ft, .int (mv 11), .ref (ad 4), .ref (ad 5), .ref (ad 6), .ref (ad 7), .ref (ad 8), .ref (ad 9), .ref (ad 10), .int tr], iA G (ad 0) 255 S, iA G (ad 4) 16 mk]) [0, 1, 2] rfl
    have hD := hD.sub (ws' := [oC ko 6 [.ref (ad 0), .ref (ad 1), .int (nI w), .int (nI h), .int (nI la), .ref (ad 2), .int (mv 0), .int (mv 1), .int (mv 2), .int (mv 3), .int (mv 4), .int (mv 5), .int (mv 6), .ref (ad 3), .int (nI tp), .int (mv 7), .int (mv 8), .int (mv 9), .int (mv 10), .int ft, .int (mv 11), .ref (ad 4), .ref (ad 5), .ref (ad 6), .ref (ad 7), .ref (ad 8), .ref (ad 9), .ref (ad 10), .int tr], iA G (ad 0) 255 S, iA G (ad 4) 16 mk]) [0, 1, 2] (by decide) rfl
    refine W.iret (v := (-1)) hx hb hr (fun t ht hW => ⟨⟨(-1), (mk), rfl, ?_, by rw [ht]; exact hP, hD⟩, hS.F ht⟩) hS.2.2 dX6_sees_26
    first | exact (if_neg (fun q => b5 q.1)).symm | exact (if_neg (fun q => b13 q.2)).symm | (rw [if_pos ⟨inR_nI hx0 (by omega), inR_nI hd0 (by omega)⟩, tn_nI (by omega), tn_nI (by omega)])
  · skip
    refine lv_aload_n hx hb dX6_sees_8 rfl (lv_at hl 0 rfl) ?_
    refine lv_iload_n hx hb dX6_sees_9 rfl (lv_at hl 2 rfl) ?_
    refine xr_i (As := [.int d]) (rest := []) ⟨hx, hb, hml, hown, hts⟩ (c_X6_isDay l G ko ad w h la tp ft tr mv d (by first | assumption | omega)) (cwV 1 hts gX6_sees_X6_isDay rfl rfl rfl (by decide +kernel) ⟨Nat.le_of_ble_eq_true rfl, Nat.le_of_ble_eq_true rfl⟩) hK hP hS [0] rfl rfl rfl rfl hl.1 rfl (Nat.le_of_ble_eq_true rfl) dX6_sees_10 ⟨Nat.zero_le _, Nat.zero_le _⟩ (fun r10 H locs hp10 hP hS => ?_)
    rw [show r10 = _ from hp10]
    refine xb_if_eq (tgt := 25) hx hb dX6_sees_13 rfl (fun b13 => ?_) (fun b13 => ?_)
    · skip
      refine lv_iconst (v := (-1)) hx hb dX6_sees_25 (by decide) ?_
      have hP := hP.sub (ws' := [oC ko 6 [.ref (ad 0), .ref (ad 1), .int (nI w), .int (nI h), .int (nI la), .ref (ad 2), .int (mv 0), .int (mv 1), .int (mv 2), .int (mv 3), .int (mv 4), .int (mv 5), .int (mv 6), .ref (ad 3), .int (nI tp), .int (mv 7), .int (mv 8), .int (mv 9), .int (mv 10), .int ft, .int (mv 11), .ref (ad 4), .ref (ad 5), .ref (ad 6), .ref (ad 7), .ref (ad 8), .ref (ad 9), .ref (ad 10), .int tr], iA G (ad 0) 255 S, iA G (ad 4) 16 mk]) [0, 1, 2] rfl
      have hD := hD.sub (ws' := [oC ko 6 [.ref (ad 0), .ref (ad 1), .int (nI w), .int (nI h), .int (nI la), .ref (ad 2), .int (mv 0), .int (mv 1), .int (mv 2), .int (mv 3), .int (mv 4), .int (mv 5), .int (mv 6), .ref (ad 3), .int (nI tp), .int (mv 7), .int (mv 8), .int (mv 9), .int (mv 10), .int ft, .int (mv 11), .ref (ad 4), .ref (ad 5), .ref (ad 6), .ref (ad 7), .ref (ad 8), .ref (ad 9), .ref (ad 10), .int tr], iA G (ad 0) 255 S, iA G (ad 4) 16 mk]) [0, 1, 2] (by decide) rfl
      refine W.iret (v := (-1)) hx hb hr (fun t ht hW => ⟨⟨(-1), (mk), rfl, ?_, by rw [ht]; exact hP, hD⟩, hS.F ht⟩) hS.2.2 dX6_sees_26
      first | exact (if_neg (fun q => b5 q.1)).symm | exact (if_neg (fun q => b13 q.2)).symm | (rw [if_pos ⟨inR_nI hx0 (by omega), inR_nI hd0 (by omega)⟩, tn_nI (by omega), tn_nI (by omega)])
    · skip
      obtain ⟨x0, hx0, rfl⟩ := inR_nat b5
      obtain ⟨d0, hd0, rfl⟩ := inR_nat b13
      refine lv_aload_n hx hb dX6_sees_16 rfl (lv_at hl 0 rfl) ?_
      refine lv_iload_n hx hb dX6_sees_17 rfl (lv_at hl 1 rfl) ?_
      refine lv_iload_n hx hb dX6_sees_18 rfl (lv_at hl 2 rfl) ?_
      refine xw_i (As := [.int (nI x0), .int (nI d0)]) (rest := []) (wr := []) ⟨hx, hb, hml, hown, hts⟩ (c_X6_sightOn l G H.size ko ad w h la tp ft tr mv S mk _ x0 d0 (by first | assumption | omega) (by first | assumption | omega) (by first | assumption | omega) (by first | assumption | omega) (by first | assumption | omega) (by first | assumption | omega) (by first | assumption | omega) (by first | assumption | omega) (by first | assumption | omega) (by first | assumption | omega)) (cwV 2 hts gX6_sees_X6_sightOn rfl rfl rfl (by decide +kernel) ⟨Nat.le_of_ble_eq_true rfl, Nat.le_of_ble_eq_true rfl⟩) hK hP hD hS hA [0, 1, 2] [] rfl rfl (by decide) (by decide) (by decide) rfl rfl rfl hl.1 rfl (Nat.le_of_ble_eq_true rfl) dX6_sees_19 ⟨Nat.le_of_ble_eq_true rfl, Nat.le_of_ble_eq_true rfl⟩ (fun r19 u H locs hp19 hP hD hS => ?_)
      obtain ⟨mk2_19, rfl⟩ : ∃ z, z = u := ⟨_, rfl⟩
      try dsimp only at hp19 hP hD
      obtain rfl := hp19
      replace hP : xP G [oC ko 6 [.ref (ad 0), .ref (ad 1), .int (nI w), .int (nI h), .int (nI la), .ref (ad 2), .int (mv 0), .int (mv 1), .int (mv 2), .int (mv 3), .int (mv 4), .int (mv 5), .int (mv 6), .ref (ad 3), .int (nI tp), .int (mv 7), .int (mv 8), .int (mv 9), .int (mv 10), .int ft, .int (mv 11), .ref (ad 4), .ref (ad 5), .ref (ad 6), .ref (ad 7), .ref (ad 8), .ref (ad 9), .ref (ad 10), .int tr], iA G (ad 0) 255 S, iA G (ad 4) 16 mk2_19] H := hP
      replace hD : va_D (va_A (w_X6_sees G ko ad w h la tp ft tr mv S mk) ss.heap.size) [oC ko 6 [.ref (ad 0), .ref (ad 1), .int (nI w), .int (nI h), .int (nI la), .ref (ad 2), .int (mv 0), .int (mv 1), .int (mv 2), .int (mv 3), .int (mv 4), .int (mv 5), .int (mv 6), .ref (ad 3), .int (nI tp), .int (mv 7), .int (mv 8), .int (mv 9), .int (mv 10), .int ft, .int (mv 11), .ref (ad 4), .ref (ad 5), .ref (ad 6), .ref (ad 7), .ref (ad 8), .ref (ad 9), .ref (ad 10), .int tr], iA G (ad 0) 255 S, iA G (ad 4) 16 mk2_19] := hD
      refine lv_goto (tgt := 26) hx hb dX6_sees_22 rfl ?_
      have hP := hP.sub (ws' := [oC ko 6 [.ref (ad 0), .ref (ad 1), .int (nI w), .int (nI h), .int (nI la), .ref (ad 2), .int (mv 0), .int (mv 1), .int (mv 2), .int (mv 3), .int (mv 4), .int (mv 5), .int (mv 6), .ref (ad 3), .int (nI tp), .int (mv 7), .int (mv 8), .int (mv 9), .int (mv 10), .int ft, .int (mv 11), .ref (ad 4), .ref (ad 5), .ref (ad 6), .ref (ad 7), .ref (ad 8), .ref (ad 9), .ref (ad 10), .int tr], iA G (ad 0) 255 S, iA G (ad 4) 16 mk2_19]) [0, 1, 2] rfl
      have hD := hD.sub (ws' := [oC ko 6 [.ref (ad 0), .ref (ad 1), .int (nI w), .int (nI h), .int (nI la), .ref (ad 2), .int (mv 0), .int (mv 1), .int (mv 2), .int (mv 3), .int (mv 4), .int (mv 5), .int (mv 6), .ref (ad 3), .int (nI tp), .int (mv 7), .int (mv 8), .int (mv 9), .int (mv 10), .int ft, .int (mv 11), .ref (ad 4), .ref (ad 5), .ref (ad 6), .ref (ad 7), .ref (ad 8), .ref (ad 9), .ref (ad 10), .int tr], iA G (ad 0) 255 S, iA G (ad 4) 16 mk2_19]) [0, 1, 2] (by decide) rfl
      refine W.iret (v := sgM w h S _ x0 d0) hx hb hr (fun t ht hW => ⟨⟨sgM w h S _ x0 d0, (mk2_19), rfl, ?_, by rw [ht]; exact hP, hD⟩, hS.F ht⟩) hS.2.2 dX6_sees_26
      first | exact (if_neg (fun q => b5 q.1)).symm | exact (if_neg (fun q => b13 q.2)).symm | (rw [if_pos ⟨inR_nI hx0 (by omega), inR_nI hd0 (by omega)⟩, tn_nI (by omega), tn_nI (by omega)])

abbrev w_X6_between (G : XG) (ko : Nat) (ad : Nat → Nat) (w h la tp : Nat) (ft tr : Int32) (mv : Nat → Int32) (S : Nat → Int32) : va_W := [oC ko 6 [.ref (ad 0), .ref (ad 1), .int (nI w), .int (nI h), .int (nI la), .ref (ad 2), .int (mv 0), .int (mv 1), .int (mv 2), .int (mv 3), .int (mv 4), .int (mv 5), .int (mv 6), .ref (ad 3), .int (nI tp), .int (mv 7), .int (mv 8), .int (mv 9), .int (mv 10), .int ft, .int (mv 11), .ref (ad 4), .ref (ad 5), .ref (ad 6), .ref (ad 7), .ref (ad 8), .ref (ad 9), .ref (ad 10), .int tr], iA G (ad 0) 255 S]
abbrev Q_X6_between (G : XG) (ko : Nat) (ad : Nat → Nat) (w h la tp : Nat) (ft tr : Int32) (mv : Nat → Int32) (S : Nat → Int32) (nc : Nat) (d e : Int32) : Array Value → State → Outcome → State → Prop := (xRi (fun r => r = (if inR d (la + 1) ∧ inR e (la + 1) then unM w h S nc (tn d) (tn e) else (-1))))
set_option maxHeartbeats 4000000 in
set_option maxRecDepth 100000 in
theorem c_X6_between (l : Launch) (G : XG) (ko : Nat) (ad : Nat → Nat) (w h la tp : Nat) (ft tr : Int32) (mv : Nat → Int32) (S : Nat → Int32) (nc : Nat) (d e : Int32) (hw : 1 ≤ w) (hwb : w ≤ 16) (hhb : h ≤ 16) (hwh1 : 1 ≤ w * h) (hwh : w * h ≤ 16) (hla : la ≤ 9) (hs16 : S 16 = nI nc) (hnc : nc ≤ 10) : Met l yX6_between wsX6_between ({ frames := 2, cells := 0, slots := 0, locals := 51 } : Room) (va_Pc [.ref ko, .int d, .int e] (xRp G (w_X6_between G ko ad w h la tp ft tr mv S))) (Q_X6_between G ko ad w h la tp ft tr mv S nc d e) 0 0 (fun _ => False) := by
  refine Met.ofW (cc := cX6_between) (maxL := 3) (ret := (some .int)) (by decide) rfl ?_
  intro pp ee ss mm aa below mt cd s₁ BB hml hv
  obtain ⟨rfl, hP, hK⟩ := hv
  have hx := BB.exec
  have hb := BB.bytes
  have hr := BB.returns
  have hts := atoms_spec (ws := wsX6_between) BB.pre
  have hown : ss.vm.findClass RX6 = some mm.cls := findClass_of_methodNamed BB.named
  have hlocks := BB.notSynchronized
  have hS : va_S (fun _ => False) ss.heap ss.heap [] := va_S.rf
  replace hP : xP G [oC ko 6 [.ref (ad 0), .ref (ad 1), .int (nI w), .int (nI h), .int (nI la), .ref (ad 2), .int (mv 0), .int (mv 1), .int (mv 2), .int (mv 3), .int (mv 4), .int (mv 5), .int (mv 6), .ref (ad 3), .int (nI tp), .int (mv 7), .int (mv 8), .int (mv 9), .int (mv 10), .int ft, .int (mv 11), .ref (ad 4), .ref (ad 5), .ref (ad 6), .ref (ad 7), .ref (ad 8), .ref (ad 9), .ref (ad 10), .int tr], iA G (ad 0) 255 S] ss.heap := hP
  have hin6 : ∀ w ∈ u_ws RX6 TX6 29, w ∈ wsX6_between := fun w h => List.mem_cons_of_mem _ (List.mem_append_right _ h)
  have hl := lv_entry ([.ref ko, .int d, .int e]) (n := 3) (Nat.le_of_ble_eq_true rfl)
  rw [lg_entry_eq]
  generalize (lg_sl ([.ref ko, .int d, .int e]) ++ List.replicate (3 - (lg_sl ([.ref ko, .int d, .int e])).length) Slot.unset).toArray = ls at hl ⊢
  replace hl : lv_has ls 3 [(0, .ref ko), (1, .int d), (2, .int e)] := hl
  refine lv_aload_n hx hb dX6_between_0 rfl (lv_at hl 0 rfl) ?_
  refine lv_iload_n hx hb dX6_between_1 rfl (lv_at hl 1 rfl) ?_
  refine xr_i (As := [.int d]) (rest := []) ⟨hx, hb, hml, hown, hts⟩ (c_X6_isDay l G ko ad w h la tp ft tr mv d (by first | assumption | omega)) (cwV 1 hts gX6_between_X6_isDay rfl rfl rfl (by decide +kernel) ⟨Nat.le_of_ble_eq_true rfl, Nat.le_of_ble_eq_true rfl⟩) hK hP hS [0] rfl rfl rfl rfl hl.1 rfl (Nat.le_of_ble_eq_true rfl) dX6_between_2 ⟨Nat.zero_le _, Nat.zero_le _⟩ (fun r2 H locs hp2 hP hS => ?_)
  rw [show r2 = _ from hp2]
  refine xb_if_eq (tgt := 25) hx hb dX6_between_5 rfl (fun b5 => ?_) (fun b5 => ?_)
  · skip
    refine lv_iconst (v := (-1)) hx hb dX6_between_25 (by decide) ?_
    refine W.iret (v := (-1)) hx hb hr (fun t ht hW => ⟨⟨(-1), (), rfl, ?_, trivial⟩, hS.F ht⟩) hS.2.2 dX6_between_26
    first | exact (if_neg (fun q => b5 q.1)).symm | exact (if_neg (fun q => b13 q.2)).symm | (rw [if_pos ⟨inR_nI hd0 (by omega), inR_nI he0 (by omega)⟩, tn_nI (by omega), tn_nI (by omega)])
  · skip
    refine lv_aload_n hx hb dX6_between_8 rfl (lv_at hl 0 rfl) ?_
    refine lv_iload_n hx hb dX6_between_9 rfl (lv_at hl 2 rfl) ?_
    refine xr_i (As := [.int e]) (rest := []) ⟨hx, hb, hml, hown, hts⟩ (c_X6_isDay l G ko ad w h la tp ft tr mv e (by first | assumption | omega)) (cwV 1 hts gX6_between_X6_isDay rfl rfl rfl (by decide +kernel) ⟨Nat.le_of_ble_eq_true rfl, Nat.le_of_ble_eq_true rfl⟩) hK hP hS [0] rfl rfl rfl rfl hl.1 rfl (Nat.le_of_ble_eq_true rfl) dX6_between_10 ⟨Nat.zero_le _, Nat.zero_le _⟩ (fun r10 H locs hp10 hP hS => ?_)
    rw [show r10 = _ from hp10]
    refine xb_if_eq (tgt := 25) hx hb dX6_between_13 rfl (fun b13 => ?_) (fun b13 => ?_)
    · skip
      refine lv_iconst (v := (-1)) hx hb dX6_between_25 (by decide) ?_
      refine W.iret (v := (-1)) hx hb hr (fun t ht hW => ⟨⟨(-1), (), rfl, ?_, trivial⟩, hS.F ht⟩) hS.2.2 dX6_between_26
      first | exact (if_neg (fun q => b5 q.1)).symm | exact (if_neg (fun q => b13 q.2)).symm | (rw [if_pos ⟨inR_nI hd0 (by omega), inR_nI he0 (by omega)⟩, tn_nI (by omega), tn_nI (by omega)])
    · skip
      obtain ⟨d0, hd0, rfl⟩ := inR_nat b5
      obtain ⟨e0, he0, rfl⟩ := inR_nat b13
      refine lv_aload_n hx hb dX6_between_16 rfl (lv_at hl 0 rfl) ?_
      refine lv_iload_n hx hb dX6_between_17 rfl (lv_at hl 1 rfl) ?_
      refine lv_iload_n hx hb dX6_between_18 rfl (lv_at hl 2 rfl) ?_
      refine xr_i (As := [.int (nI d0), .int (nI e0)]) (rest := []) ⟨hx, hb, hml, hown, hts⟩ (c_X6_unlike l G ko ad w h la tp ft tr mv S _ d0 e0 (by first | assumption | omega) (by first | assumption | omega) (by first | assumption | omega) (by first | assumption | omega) (by first | assumption | omega) (by first | assumption | omega) (by first | assumption | omega) (by first | assumption | omega) (by first | assumption | omega) (by first | assumption | omega)) (cwV 2 hts gX6_between_X6_unlike rfl rfl rfl (by decide +kernel) ⟨Nat.le_of_ble_eq_true rfl, Nat.le_of_ble_eq_true rfl⟩) hK hP hS [0, 1] rfl rfl rfl rfl hl.1 rfl (Nat.le_of_ble_eq_true rfl) dX6_between_19 ⟨Nat.zero_le _, Nat.zero_le _⟩ (fun r19 H locs hp19 hP hS => ?_)
      rw [show r19 = _ from hp19]
      refine lv_goto (tgt := 26) hx hb dX6_between_22 rfl ?_
      refine W.iret (v := unM w h S _ d0 e0) hx hb hr (fun t ht hW => ⟨⟨unM w h S _ d0 e0, (), rfl, ?_, trivial⟩, hS.F ht⟩) hS.2.2 dX6_between_26
      first | exact (if_neg (fun q => b5 q.1)).symm | exact (if_neg (fun q => b13 q.2)).symm | (rw [if_pos ⟨inR_nI hd0 (by omega), inR_nI he0 (by omega)⟩, tn_nI (by omega), tn_nI (by omega)])

abbrev w_X6_all (G : XG) (ko : Nat) (ad : Nat → Nat) (w h la tp : Nat) (ft tr : Int32) (mv : Nat → Int32) (S : Nat → Int32) : va_W := [oC ko 6 [.ref (ad 0), .ref (ad 1), .int (nI w), .int (nI h), .int (nI la), .ref (ad 2), .int (mv 0), .int (mv 1), .int (mv 2), .int (mv 3), .int (mv 4), .int (mv 5), .int (mv 6), .ref (ad 3), .int (nI tp), .int (mv 7), .int (mv 8), .int (mv 9), .int (mv 10), .int ft, .int (mv 11), .ref (ad 4), .ref (ad 5), .ref (ad 6), .ref (ad 7), .ref (ad 8), .ref (ad 9), .ref (ad 10), .int tr], iA G (ad 0) 255 S]
abbrev Q_X6_all (G : XG) (ko : Nat) (ad : Nat → Nat) (w h la tp : Nat) (ft tr : Int32) (mv : Nat → Int32) (S : Nat → Int32) (nc : Nat) (m d : Int32) : Array Value → State → Outcome → State → Prop := (xRi (fun r => r = (if inR m 6 ∧ inR d (la + 1) then xbits (fun c => decide (mkM S nc c (tn d) = m)) (w * h) else (-1))))
set_option maxHeartbeats 4000000 in
set_option maxRecDepth 100000 in
theorem c_X6_all (l : Launch) (G : XG) (ko : Nat) (ad : Nat → Nat) (w h la tp : Nat) (ft tr : Int32) (mv : Nat → Int32) (S : Nat → Int32) (nc : Nat) (m d : Int32) (hw : 1 ≤ w) (hwb : w ≤ 16) (hhb : h ≤ 16) (hwh1 : 1 ≤ w * h) (hwh : w * h ≤ 16) (hla : la ≤ 9) (hs16 : S 16 = nI nc) (hnc : nc ≤ 10) : Met l yX6_all wsX6_all ({ frames := 2, cells := 0, slots := 0, locals := 46 } : Room) (va_Pc [.ref ko, .int m, .int d] (xRp G (w_X6_all G ko ad w h la tp ft tr mv S))) (Q_X6_all G ko ad w h la tp ft tr mv S nc m d) 0 0 (fun _ => False) := by
  refine Met.ofW (cc := cX6_all) (maxL := 5) (ret := (some .int)) (by decide) rfl ?_
  intro pp ee ss mm aa below mt cd s₁ BB hml hv
  obtain ⟨rfl, hP, hK⟩ := hv
  have hx := BB.exec
  have hb := BB.bytes
  have hr := BB.returns
  have hts := atoms_spec (ws := wsX6_all) BB.pre
  have hown : ss.vm.findClass RX6 = some mm.cls := findClass_of_methodNamed BB.named
  have hlocks := BB.notSynchronized
  have hS : va_S (fun _ => False) ss.heap ss.heap [] := va_S.rf
  replace hP : xP G [oC ko 6 [.ref (ad 0), .ref (ad 1), .int (nI w), .int (nI h), .int (nI la), .ref (ad 2), .int (mv 0), .int (mv 1), .int (mv 2), .int (mv 3), .int (mv 4), .int (mv 5), .int (mv 6), .ref (ad 3), .int (nI tp), .int (mv 7), .int (mv 8), .int (mv 9), .int (mv 10), .int ft, .int (mv 11), .ref (ad 4), .ref (ad 5), .ref (ad 6), .ref (ad 7), .ref (ad 8), .ref (ad 9), .ref (ad 10), .int tr], iA G (ad 0) 255 S] ss.heap := hP
  have hin6 : ∀ w ∈ u_ws RX6 TX6 29, w ∈ wsX6_all := fun w h => List.mem_cons_of_mem _ (List.mem_append_right _ h)
  have hl := lv_entry ([.ref ko, .int m, .int d]) (n := 5) (Nat.le_of_ble_eq_true rfl)
  rw [lg_entry_eq]
  generalize (lg_sl ([.ref ko, .int m, .int d]) ++ List.replicate (5 - (lg_sl ([.ref ko, .int m, .int d])).length) Slot.unset).toArray = ls at hl ⊢
  replace hl : lv_has ls 5 [(0, .ref ko), (1, .int m), (2, .int d)] := hl
  refine lv_iload_n hx hb dX6_all_0 rfl (lv_at hl 1 rfl) ?_
  refine xs_i (As := [.int m]) (rest := []) ⟨hx, hb, hml, hown, hts⟩ (c_X6_isMark l G m ) (va_cwS 1 hts gX6_all_X6_isMark rfl rfl rfl (by decide +kernel) ⟨Nat.le_of_ble_eq_true rfl, Nat.le_of_ble_eq_true rfl⟩) hP hS rfl hl.1 rfl (Nat.le_of_ble_eq_true rfl) dX6_all_1 ⟨Nat.zero_le _, Nat.zero_le _⟩ (fun r1 H locs hp1 hP hS => ?_)
  rw [show r1 = _ from hp1]
  refine xb_if_eq (tgt := 15) hx hb dX6_all_4 rfl (fun b4 => ?_) (fun b4 => ?_)
  · skip
    refine lv_iconst (v := (-1)) hx hb dX6_all_15 (by decide) ?_
    refine W.iret (v := (-1)) hx hb hr (fun t ht hW => ⟨⟨(-1), (), rfl, ?_, trivial⟩, hS.F ht⟩) hS.2.2 dX6_all_16
    first | exact (if_neg (fun q => b4 q.1)).symm | exact (if_neg (fun q => b12 q.2)).symm | (rw [if_pos ⟨b4, inR_nI hd0 (by omega)⟩, tn_nI (by omega), hbits, show c = w * h by omega])
  · skip
    refine lv_aload_n hx hb dX6_all_7 rfl (lv_at hl 0 rfl) ?_
    refine lv_iload_n hx hb dX6_all_8 rfl (lv_at hl 2 rfl) ?_
    refine xr_i (As := [.int d]) (rest := []) ⟨hx, hb, hml, hown, hts⟩ (c_X6_isDay l G ko ad w h la tp ft tr mv d (by first | assumption | omega)) (cwV 1 hts gX6_all_X6_isDay rfl rfl rfl (by decide +kernel) ⟨Nat.le_of_ble_eq_true rfl, Nat.le_of_ble_eq_true rfl⟩) hK hP hS [0] rfl rfl rfl rfl hl.1 rfl (Nat.le_of_ble_eq_true rfl) dX6_all_9 ⟨Nat.zero_le _, Nat.zero_le _⟩ (fun r9 H locs hp9 hP hS => ?_)
    rw [show r9 = _ from hp9]
    refine xb_if_ne (tgt := 17) hx hb dX6_all_12 rfl (fun b12 => ?_) (fun b12 => ?_)
    · skip
      obtain ⟨d0, hd0, rfl⟩ := inR_nat b12
      refine lv_iconst (v := nI 0) hx hb dX6_all_17 (by decide) ?_
      refine lv_istore_n (lv' := [(3, .int (nI 0)), (0, .ref ko), (1, .int m), (2, .int (nI d0))]) hx hb dX6_all_18 rfl hl (by decide) rfl (fun ls hl => ?_)
      refine lv_iconst (v := nI 0) hx hb dX6_all_19 (by decide) ?_
      refine lv_istore (lv' := [(4, .int (nI 0)), (3, .int (nI 0)), (0, .ref ko), (1, .int m), (2, .int (nI d0))]) hx hb dX6_all_20 hl (by decide) rfl (fun ls hl => ?_)
      have hL22 : ∀ k : Nat, ∀ (c : Nat) (bits : Int32) (ls : Array Slot) (H : Heap) (locs : List Loc), w * h - c = k → (c ≤ w * h) → (bits = xbits (fun c => decide (mkM S nc c d0 = m)) c) → lv_has ls 5 [(0, .ref ko), (1, .int m), (2, .int (nI d0)), (3, .int bits), (4, .int (nI c))] → xP G [iA G (ad 0) 255 S, oC ko 6 [.ref (ad 0), .ref (ad 1), .int (nI w), .int (nI h), .int (nI la), .ref (ad 2), .int (mv 0), .int (mv 1), .int (mv 2), .int (mv 3), .int (mv 4), .int (mv 5), .int (mv 6), .ref (ad 3), .int (nI tp), .int (mv 7), .int (mv 8), .int (mv 9), .int (mv 10), .int ft, .int (mv 11), .ref (ad 4), .ref (ad 5), .ref (ad 6), .ref (ad 7), .ref (ad 8), .ref (ad 9), .ref (ad 10), .int tr]] H → va_S (fun _ => False) ss.heap H locs → W pp l ee ({ frames := 2, cells := 0, slots := 0, locals := 46 } : Room) ss mm ([.ref ko, .int m, .int (nI d0)] : List Value).toArray below mt cd H locs 0 0 (MQ below (Q_X6_all G ko ad w h la tp ft tr mv S nc m (nI d0)) ([.ref ko, .int m, .int (nI d0)] : List Value).toArray ss 0 0 (fun _ => False)) (F0 mm 22 ls []) := by
        intro k
        induction k using Nat.strongRecOn with
        | _ k ih22 =>
        intro c bits ls H locs hm22 hc hbits hl hP hS
        refine lv_iload hx hb dX6_all_22 (lv_at hl 4 rfl) ?_
        refine lv_aload_n hx hb dX6_all_24 rfl (lv_at hl 0 rfl) ?_
        refine xr_i (As := []) (rest := [.int (nI c)]) ⟨hx, hb, hml, hown, hts⟩ (c_X6_cellsNow l G ko ad w h la tp ft tr mv ) (cwV 0 hts gX6_all_X6_cellsNow rfl rfl rfl (by decide +kernel) ⟨Nat.le_of_ble_eq_true rfl, Nat.le_of_ble_eq_true rfl⟩) hK hP hS [1] rfl rfl rfl rfl hl.1 rfl (Nat.le_of_ble_eq_true rfl) dX6_all_25 ⟨Nat.zero_le _, Nat.zero_le _⟩ (fun r25 H locs hp25 hP hS => ?_)
        rw [show r25 = _ from hp25]
        refine xn_icmp_ge (tgt := 62) hx hb (by omega) (by omega) dX6_all_28 rfl (fun b28 => ?_) (fun b28 => ?_)
        · skip
          refine lv_iload_n hx hb dX6_all_62 rfl (lv_at hl 3 rfl) ?_
          refine W.iret (v := bits) hx hb hr (fun t ht hW => ⟨⟨bits, (), rfl, ?_, trivial⟩, hS.F ht⟩) hS.2.2 dX6_all_63
          first | exact (if_neg (fun q => b4 q.1)).symm | exact (if_neg (fun q => b12 q.2)).symm | (rw [if_pos ⟨b4, inR_nI hd0 (by omega)⟩, tn_nI (by omega), hbits, show c = w * h by omega])
        · skip
          refine lv_iload_n hx hb dX6_all_31 rfl (lv_at hl 3 rfl) ?_
          refine lv_aload_n hx hb dX6_all_32 rfl (lv_at hl 0 rfl) ?_
          refine lv_iload hx hb dX6_all_33 (lv_at hl 4 rfl) ?_
          refine lv_iload_n hx hb dX6_all_35 rfl (lv_at hl 2 rfl) ?_
          refine xr_i (As := [.int (nI c), .int (nI d0)]) (rest := [.int bits]) ⟨hx, hb, hml, hown, hts⟩ (c_X6_markOf l G ko ad w h la tp ft tr mv S _ c d0 (by first | assumption | omega) (by first | assumption | omega) (by first | assumption | omega) (by first | assumption | omega)) (cwV 2 hts gX6_all_X6_markOf rfl rfl rfl (by decide +kernel) ⟨Nat.le_of_ble_eq_true rfl, Nat.le_of_ble_eq_true rfl⟩) hK hP hS [1, 0] rfl rfl rfl rfl hl.1 rfl (Nat.le_of_ble_eq_true rfl) dX6_all_36 ⟨Nat.zero_le _, Nat.zero_le _⟩ (fun r36 H locs hp36 hP hS => ?_)
          rw [show r36 = _ from hp36]
          refine lv_iload_n hx hb dX6_all_39 rfl (lv_at hl 1 rfl) ?_
          refine lv_icmp_ne (tgt := 47) hx hb dX6_all_40 rfl (fun b40 => ?_) (fun b40 => ?_)
          · skip
            refine lv_iconst (v := nI 0) hx hb dX6_all_47 (by decide) ?_
            refine xs_i (As := [.int (nI 0)]) (rest := [.int bits]) ⟨hx, hb, hml, hown, hts⟩ (c_X6_flag_0 l G) (va_cwS 1 hts gX6_all_X6_flag rfl rfl rfl (by decide +kernel) ⟨Nat.le_of_ble_eq_true rfl, Nat.le_of_ble_eq_true rfl⟩) hP hS rfl hl.1 rfl (Nat.le_of_ble_eq_true rfl) dX6_all_48 ⟨Nat.zero_le _, Nat.zero_le _⟩ (fun r48 H locs hp48 hP hS => ?_)
            rw [show r48 = _ from hp48]
            refine lv_iload hx hb dX6_all_51 (lv_at hl 4 rfl) ?_
            refine lv_ishl hx hb dX6_all_53 ?_
            refine lv_ior hx hb dX6_all_54 ?_
            refine lv_istore_n (lv' := [(3, .int (bits ||| ((nI 0) <<< ((nI c) &&& 31)))), (0, .ref ko), (1, .int m), (2, .int (nI d0)), (4, .int (nI c))]) hx hb dX6_all_55 rfl hl (by decide) rfl (fun ls hl => ?_)
            refine lv_iinc (k := 4) (v := nI (c + 1)) (lv' := [(4, .int (nI (c + 1))), (3, .int (bits ||| ((nI 0) <<< ((nI c) &&& 31)))), (0, .ref ko), (1, .int m), (2, .int (nI d0))]) hx hb dX6_all_56 hl rfl (xn_inc c 1) (by decide) rfl (fun ls hl => ?_)
            refine lv_goto (tgt := 22) hx hb dX6_all_59 rfl ?_
            have hl := lv_sub hl (l' := [(0, .ref ko), (1, .int m), (2, .int (nI d0)), (3, .int (bits ||| ((nI 0) <<< ((nI c) &&& 31)))), (4, .int (nI (c + 1)))]) [2, 3, 4, 1, 0] rfl
            exact ih22 (w * h - (c + 1)) (by omega) (c + 1) (bits ||| ((nI 0) <<< ((nI c) &&& 31))) ls H locs rfl (by omega) (by first | exact xbits_T (decide_eq_true b40) hbits | exact xbits_Z (decide_eq_false b40) hbits) hl hP hS
          · skip
            refine lv_iconst (v := nI 1) hx hb dX6_all_43 (by decide) ?_
            refine lv_goto (tgt := 48) hx hb dX6_all_44 rfl ?_
            refine xs_i (As := [.int (nI 1)]) (rest := [.int bits]) ⟨hx, hb, hml, hown, hts⟩ (c_X6_flag_1 l G) (va_cwS 1 hts gX6_all_X6_flag rfl rfl rfl (by decide +kernel) ⟨Nat.le_of_ble_eq_true rfl, Nat.le_of_ble_eq_true rfl⟩) hP hS rfl hl.1 rfl (Nat.le_of_ble_eq_true rfl) dX6_all_48 ⟨Nat.zero_le _, Nat.zero_le _⟩ (fun r48 H locs hp48 hP hS => ?_)
            rw [show r48 = _ from hp48]
            refine lv_iload hx hb dX6_all_51 (lv_at hl 4 rfl) ?_
            refine lv_ishl hx hb dX6_all_53 ?_
            refine lv_ior hx hb dX6_all_54 ?_
            refine lv_istore_n (lv' := [(3, .int (bits ||| ((nI 1) <<< ((nI c) &&& 31)))), (0, .ref ko), (1, .int m), (2, .int (nI d0)), (4, .int (nI c))]) hx hb dX6_all_55 rfl hl (by decide) rfl (fun ls hl => ?_)
            refine lv_iinc (k := 4) (v := nI (c + 1)) (lv' := [(4, .int (nI (c + 1))), (3, .int (bits ||| ((nI 1) <<< ((nI c) &&& 31)))), (0, .ref ko), (1, .int m), (2, .int (nI d0))]) hx hb dX6_all_56 hl rfl (xn_inc c 1) (by decide) rfl (fun ls hl => ?_)
            refine lv_goto (tgt := 22) hx hb dX6_all_59 rfl ?_
            have hl := lv_sub hl (l' := [(0, .ref ko), (1, .int m), (2, .int (nI d0)), (3, .int (bits ||| ((nI 1) <<< ((nI c) &&& 31)))), (4, .int (nI (c + 1)))]) [2, 3, 4, 1, 0] rfl
            exact ih22 (w * h - (c + 1)) (by omega) (c + 1) (bits ||| ((nI 1) <<< ((nI c) &&& 31))) ls H locs rfl (by omega) (by first | exact xbits_T (decide_eq_true b40) hbits | exact xbits_Z (decide_eq_false b40) hbits) hl hP hS
      have hl := lv_sub hl (l' := [(0, .ref ko), (1, .int m), (2, .int (nI d0)), (3, .int (nI 0)), (4, .int (nI 0))]) [2, 3, 4, 1, 0] rfl
      have hP := hP.sub (ws' := [iA G (ad 0) 255 S, oC ko 6 [.ref (ad 0), .ref (ad 1), .int (nI w), .int (nI h), .int (nI la), .ref (ad 2), .int (mv 0), .int (mv 1), .int (mv 2), .int (mv 3), .int (mv 4), .int (mv 5), .int (mv 6), .ref (ad 3), .int (nI tp), .int (mv 7), .int (mv 8), .int (mv 9), .int (mv 10), .int ft, .int (mv 11), .ref (ad 4), .ref (ad 5), .ref (ad 6), .ref (ad 7), .ref (ad 8), .ref (ad 9), .ref (ad 10), .int tr]]) [1, 0] rfl
      exact hL22 (w * h - 0) 0 (nI 0) ls H locs rfl (by omega) (by rfl) hl hP hS
    · skip
      refine lv_iconst (v := (-1)) hx hb dX6_all_15 (by decide) ?_
      refine W.iret (v := (-1)) hx hb hr (fun t ht hW => ⟨⟨(-1), (), rfl, ?_, trivial⟩, hS.F ht⟩) hS.2.2 dX6_all_16
      first | exact (if_neg (fun q => b4 q.1)).symm | exact (if_neg (fun q => b12 q.2)).symm | (rw [if_pos ⟨b4, inR_nI hd0 (by omega)⟩, tn_nI (by omega), hbits, show c = w * h by omega])

abbrev w_X6_shows (G : XG) (ko : Nat) (ad : Nat → Nat) (w h la tp : Nat) (ft tr : Int32) (mv : Nat → Int32) (S mk : Nat → Int32) : va_W := [oC ko 6 [.ref (ad 0), .ref (ad 1), .int (nI w), .int (nI h), .int (nI la), .ref (ad 2), .int (mv 0), .int (mv 1), .int (mv 2), .int (mv 3), .int (mv 4), .int (mv 5), .int (mv 6), .ref (ad 3), .int (nI tp), .int (mv 7), .int (mv 8), .int (mv 9), .int (mv 10), .int ft, .int (mv 11), .ref (ad 4), .ref (ad 5), .ref (ad 6), .ref (ad 7), .ref (ad 8), .ref (ad 9), .ref (ad 10), .int tr], iA G (ad 0) 255 S, iA G (ad 4) 16 mk]
abbrev Q_X6_shows (G : XG) (sz : Nat) (ko : Nat) (ad : Nat → Nat) (w h la tp : Nat) (ft tr : Int32) (mv : Nat → Int32) (S mk : Nat → Int32) (nc : Nat) (nl : Nat) (l1 x c : Int32) : Array Value → State → Outcome → State → Prop := (va_Qi (fun (r : Int32) (u : (Nat → Int32)) => r = (if inR l1 nl ∧ inR x (w * h) ∧ inR c (w * h) then (if (shM w h S nc (tn l1) (tn x) >>> (nI (tn c) &&& 31)) &&& nI 1 = nI 1 then mkM S nc (tn c) (tn (S (48 + 2 * tn l1))) else (-4)) else (-1))) (xWb G sz (w_X6_shows G ko ad w h la tp ft tr mv S mk) (fun u : (Nat → Int32) => [oC ko 6 [.ref (ad 0), .ref (ad 1), .int (nI w), .int (nI h), .int (nI la), .ref (ad 2), .int (mv 0), .int (mv 1), .int (mv 2), .int (mv 3), .int (mv 4), .int (mv 5), .int (mv 6), .ref (ad 3), .int (nI tp), .int (mv 7), .int (mv 8), .int (mv 9), .int (mv 10), .int ft, .int (mv 11), .ref (ad 4), .ref (ad 5), .ref (ad 6), .ref (ad 7), .ref (ad 8), .ref (ad 9), .ref (ad 10), .int tr], iA G (ad 0) 255 S, iA G (ad 4) 16 u])) (va_A (w_X6_shows G ko ad w h la tp ft tr mv S mk) sz))
set_option maxHeartbeats 4000000 in
set_option maxRecDepth 100000 in
theorem c_X6_shows (l : Launch) (G : XG) (sz : Nat) (ko : Nat) (ad : Nat → Nat) (w h la tp : Nat) (ft tr : Int32) (mv : Nat → Int32) (S mk : Nat → Int32) (nc : Nat) (nl : Nat) (l1 x c : Int32) (hw : 1 ≤ w) (hwb : w ≤ 16) (hhb : h ≤ 16) (hwh1 : 1 ≤ w * h) (hwh : w * h ≤ 16) (hla : la ≤ 9) (hs16 : S 16 = nI nc) (hnc : nc ≤ 10) (hs47 : S 47 = nI nl) (hnl : nl ≤ 6) (hlens : ∀ i, i < nl → inR (S (48 + 2 * i)) (la + 1)) : Met l yX6_shows wsX6_shows ({ frames := 5, cells := 0, slots := 0, locals := 111 } : Room) (va_Pc [.ref ko, .int l1, .int x, .int c] (xWp G sz (w_X6_shows G ko ad w h la tp ft tr mv S mk))) (Q_X6_shows G sz ko ad w h la tp ft tr mv S mk nc nl l1 x c) 0 0 (va_A (w_X6_shows G ko ad w h la tp ft tr mv S mk) sz) := by
  refine Met.ofW (cc := cX6_shows) (maxL := 4) (ret := (some .int)) (by decide) rfl ?_
  intro pp ee ss mm aa below mt cd s₁ BB hml hv
  obtain ⟨rfl, hsz, hP, hK, hD0⟩ := hv
  have hx := BB.exec
  have hb := BB.bytes
  have hr := BB.returns
  have hts := atoms_spec (ws := wsX6_shows) BB.pre
  have hown : ss.vm.findClass RX6 = some mm.cls := findClass_of_methodNamed BB.named
  have hlocks := BB.notSynchronized
  subst hsz
  have hD := hD0.self (sz := ss.heap.size)
  have hA : ∀ q : Nat, ss.heap.size ≤ q → va_A (w_X6_shows G ko ad w h la tp ft tr mv S mk) ss.heap.size q := fun q h => Or.inr h
  have hS : va_S (va_A (w_X6_shows G ko ad w h la tp ft tr mv S mk) ss.heap.size) ss.heap ss.heap [] := va_S.rf
  replace hD : va_D (va_A (w_X6_shows G ko ad w h la tp ft tr mv S mk) ss.heap.size) [oC ko 6 [.ref (ad 0), .ref (ad 1), .int (nI w), .int (nI h), .int (nI la), .ref (ad 2), .int (mv 0), .int (mv 1), .int (mv 2), .int (mv 3), .int (mv 4), .int (mv 5), .int (mv 6), .ref (ad 3), .int (nI tp), .int (mv 7), .int (mv 8), .int (mv 9), .int (mv 10), .int ft, .int (mv 11), .ref (ad 4), .ref (ad 5), .ref (ad 6), .ref (ad 7), .ref (ad 8), .ref (ad 9), .ref (ad 10), .int tr], iA G (ad 0) 255 S, iA G (ad 4) 16 mk] := hD
  replace hP : xP G [oC ko 6 [.ref (ad 0), .ref (ad 1), .int (nI w), .int (nI h), .int (nI la), .ref (ad 2), .int (mv 0), .int (mv 1), .int (mv 2), .int (mv 3), .int (mv 4), .int (mv 5), .int (mv 6), .ref (ad 3), .int (nI tp), .int (mv 7), .int (mv 8), .int (mv 9), .int (mv 10), .int ft, .int (mv 11), .ref (ad 4), .ref (ad 5), .ref (ad 6), .ref (ad 7), .ref (ad 8), .ref (ad 9), .ref (ad 10), .int tr], iA G (ad 0) 255 S, iA G (ad 4) 16 mk] ss.heap := hP
  have hin6 : ∀ w ∈ u_ws RX6 TX6 29, w ∈ wsX6_shows := fun w h => List.mem_cons_of_mem _ (List.mem_append_right _ h)
  have hl := lv_entry ([.ref ko, .int l1, .int x, .int c]) (n := 4) (Nat.le_of_ble_eq_true rfl)
  rw [lg_entry_eq]
  generalize (lg_sl ([.ref ko, .int l1, .int x, .int c]) ++ List.replicate (4 - (lg_sl ([.ref ko, .int l1, .int x, .int c])).length) Slot.unset).toArray = ls at hl ⊢
  replace hl : lv_has ls 4 [(0, .ref ko), (1, .int l1), (2, .int x), (3, .int c)] := hl
  refine lv_aload_n hx hb dX6_shows_0 rfl (lv_at hl 0 rfl) ?_
  refine lv_iload_n hx hb dX6_shows_1 rfl (lv_at hl 1 rfl) ?_
  refine xr_i (As := [.int l1]) (rest := []) ⟨hx, hb, hml, hown, hts⟩ (c_X6_isLens l G ko ad w h la tp ft tr mv S _ l1 (by first | assumption | omega) (by first | assumption | omega)) (cwV 1 hts gX6_shows_X6_isLens rfl rfl rfl (by decide +kernel) ⟨Nat.le_of_ble_eq_true rfl, Nat.le_of_ble_eq_true rfl⟩) hK hP hS [0, 1] rfl rfl rfl rfl hl.1 rfl (Nat.le_of_ble_eq_true rfl) dX6_shows_2 ⟨Nat.zero_le _, Nat.zero_le _⟩ (fun r2 H locs hp2 hP hS => ?_)
  rw [show r2 = _ from hp2]
  refine xb_if_eq (tgt := 24) hx hb dX6_shows_5 rfl (fun b5 => ?_) (fun b5 => ?_)
  · skip
    refine lv_iconst (v := (-1)) hx hb dX6_shows_24 (by decide) ?_
    have hP := hP.sub (ws' := [oC ko 6 [.ref (ad 0), .ref (ad 1), .int (nI w), .int (nI h), .int (nI la), .ref (ad 2), .int (mv 0), .int (mv 1), .int (mv 2), .int (mv 3), .int (mv 4), .int (mv 5), .int (mv 6), .ref (ad 3), .int (nI tp), .int (mv 7), .int (mv 8), .int (mv 9), .int (mv 10), .int ft, .int (mv 11), .ref (ad 4), .ref (ad 5), .ref (ad 6), .ref (ad 7), .ref (ad 8), .ref (ad 9), .ref (ad 10), .int tr], iA G (ad 0) 255 S, iA G (ad 4) 16 mk]) [0, 1, 2] rfl
    have hD := hD.sub (ws' := [oC ko 6 [.ref (ad 0), .ref (ad 1), .int (nI w), .int (nI h), .int (nI la), .ref (ad 2), .int (mv 0), .int (mv 1), .int (mv 2), .int (mv 3), .int (mv 4), .int (mv 5), .int (mv 6), .ref (ad 3), .int (nI tp), .int (mv 7), .int (mv 8), .int (mv 9), .int (mv 10), .int ft, .int (mv 11), .ref (ad 4), .ref (ad 5), .ref (ad 6), .ref (ad 7), .ref (ad 8), .ref (ad 9), .ref (ad 10), .int tr], iA G (ad 0) 255 S, iA G (ad 4) 16 mk]) [0, 1, 2] (by decide) rfl
    refine W.iret (v := (-1)) hx hb hr (fun t ht hW => ⟨⟨(-1), (mk), rfl, ?_, by rw [ht]; exact hP, hD⟩, hS.F ht⟩) hS.2.2 dX6_shows_25
    first | exact (if_neg (fun q => b5 q.1)).symm | exact (if_neg (fun q => b13 q.2.1)).symm | exact (if_neg (fun q => b21 q.2.2)).symm | (rw [if_pos ⟨inR_nI hl0 (by omega), inR_nI hx0 (by omega), inR_nI hc0 (by omega)⟩, tn_nI (by omega), tn_nI (by omega), tn_nI (by omega)]; first | exact (if_neg b37).symm | (rw [if_pos b37, ed0, tn_nI (by omega)]))
  · skip
    refine lv_aload_n hx hb dX6_shows_8 rfl (lv_at hl 0 rfl) ?_
    refine lv_iload_n hx hb dX6_shows_9 rfl (lv_at hl 2 rfl) ?_
    refine xr_i (As := [.int x]) (rest := []) ⟨hx, hb, hml, hown, hts⟩ (c_X6_isCell l G ko ad w h la tp ft tr mv x (by first | assumption | omega) (by first | assumption | omega)) (cwV 1 hts gX6_shows_X6_isCell rfl rfl rfl (by decide +kernel) ⟨Nat.le_of_ble_eq_true rfl, Nat.le_of_ble_eq_true rfl⟩) hK hP hS [0] rfl rfl rfl rfl hl.1 rfl (Nat.le_of_ble_eq_true rfl) dX6_shows_10 ⟨Nat.zero_le _, Nat.zero_le _⟩ (fun r10 H locs hp10 hP hS => ?_)
    rw [show r10 = _ from hp10]
    refine xb_if_eq (tgt := 24) hx hb dX6_shows_13 rfl (fun b13 => ?_) (fun b13 => ?_)
    · skip
      refine lv_iconst (v := (-1)) hx hb dX6_shows_24 (by decide) ?_
      have hP := hP.sub (ws' := [oC ko 6 [.ref (ad 0), .ref (ad 1), .int (nI w), .int (nI h), .int (nI la), .ref (ad 2), .int (mv 0), .int (mv 1), .int (mv 2), .int (mv 3), .int (mv 4), .int (mv 5), .int (mv 6), .ref (ad 3), .int (nI tp), .int (mv 7), .int (mv 8), .int (mv 9), .int (mv 10), .int ft, .int (mv 11), .ref (ad 4), .ref (ad 5), .ref (ad 6), .ref (ad 7), .ref (ad 8), .ref (ad 9), .ref (ad 10), .int tr], iA G (ad 0) 255 S, iA G (ad 4) 16 mk]) [0, 1, 2] rfl
      have hD := hD.sub (ws' := [oC ko 6 [.ref (ad 0), .ref (ad 1), .int (nI w), .int (nI h), .int (nI la), .ref (ad 2), .int (mv 0), .int (mv 1), .int (mv 2), .int (mv 3), .int (mv 4), .int (mv 5), .int (mv 6), .ref (ad 3), .int (nI tp), .int (mv 7), .int (mv 8), .int (mv 9), .int (mv 10), .int ft, .int (mv 11), .ref (ad 4), .ref (ad 5), .ref (ad 6), .ref (ad 7), .ref (ad 8), .ref (ad 9), .ref (ad 10), .int tr], iA G (ad 0) 255 S, iA G (ad 4) 16 mk]) [0, 1, 2] (by decide) rfl
      refine W.iret (v := (-1)) hx hb hr (fun t ht hW => ⟨⟨(-1), (mk), rfl, ?_, by rw [ht]; exact hP, hD⟩, hS.F ht⟩) hS.2.2 dX6_shows_25
      first | exact (if_neg (fun q => b5 q.1)).symm | exact (if_neg (fun q => b13 q.2.1)).symm | exact (if_neg (fun q => b21 q.2.2)).symm | (rw [if_pos ⟨inR_nI hl0 (by omega), inR_nI hx0 (by omega), inR_nI hc0 (by omega)⟩, tn_nI (by omega), tn_nI (by omega), tn_nI (by omega)]; first | exact (if_neg b37).symm | (rw [if_pos b37, ed0, tn_nI (by omega)]))
    · skip
      refine lv_aload_n hx hb dX6_shows_16 rfl (lv_at hl 0 rfl) ?_
      refine lv_iload_n hx hb dX6_shows_17 rfl (lv_at hl 3 rfl) ?_
      refine xr_i (As := [.int c]) (rest := []) ⟨hx, hb, hml, hown, hts⟩ (c_X6_isCell l G ko ad w h la tp ft tr mv c (by first | assumption | omega) (by first | assumption | omega)) (cwV 1 hts gX6_shows_X6_isCell rfl rfl rfl (by decide +kernel) ⟨Nat.le_of_ble_eq_true rfl, Nat.le_of_ble_eq_true rfl⟩) hK hP hS [0] rfl rfl rfl rfl hl.1 rfl (Nat.le_of_ble_eq_true rfl) dX6_shows_18 ⟨Nat.zero_le _, Nat.zero_le _⟩ (fun r18 H locs hp18 hP hS => ?_)
      rw [show r18 = _ from hp18]
      refine xb_if_ne (tgt := 26) hx hb dX6_shows_21 rfl (fun b21 => ?_) (fun b21 => ?_)
      · skip
        obtain ⟨l0, hl0, rfl⟩ := inR_nat b5
        obtain ⟨x0, hx0, rfl⟩ := inR_nat b13
        obtain ⟨c0, hc0, rfl⟩ := inR_nat b21
        refine lv_aload_n hx hb dX6_shows_26 rfl (lv_at hl 0 rfl) ?_
        refine lv_iload_n hx hb dX6_shows_27 rfl (lv_at hl 1 rfl) ?_
        refine lv_iload_n hx hb dX6_shows_28 rfl (lv_at hl 2 rfl) ?_
        refine xw_i (As := [.int (nI l0), .int (nI x0)]) (rest := []) (wr := []) ⟨hx, hb, hml, hown, hts⟩ (c_X6_shownBy l G H.size ko ad w h la tp ft tr mv S mk _ _ l0 x0 (by first | assumption | omega) (by first | assumption | omega) (by first | assumption | omega) (by first | assumption | omega) (by first | assumption | omega) (by first | assumption | omega) (by first | assumption | omega) (by first | assumption | omega) (by first | assumption | omega) (by first | assumption | omega) (by first | assumption | omega) (by first | assumption | omega) (by first | assumption | omega)) (cwV 2 hts gX6_shows_X6_shownBy rfl rfl rfl (by decide +kernel) ⟨Nat.le_of_ble_eq_true rfl, Nat.le_of_ble_eq_true rfl⟩) hK hP hD hS hA [0, 1, 2] [] rfl rfl (by decide) (by decide) (by decide) rfl rfl rfl hl.1 rfl (Nat.le_of_ble_eq_true rfl) dX6_shows_29 ⟨Nat.le_of_ble_eq_true rfl, Nat.le_of_ble_eq_true rfl⟩ (fun r29 u H locs hp29 hP hD hS => ?_)
        obtain ⟨mk2_29, rfl⟩ : ∃ z, z = u := ⟨_, rfl⟩
        try dsimp only at hp29 hP hD
        obtain rfl := hp29
        replace hP : xP G [oC ko 6 [.ref (ad 0), .ref (ad 1), .int (nI w), .int (nI h), .int (nI la), .ref (ad 2), .int (mv 0), .int (mv 1), .int (mv 2), .int (mv 3), .int (mv 4), .int (mv 5), .int (mv 6), .ref (ad 3), .int (nI tp), .int (mv 7), .int (mv 8), .int (mv 9), .int (mv 10), .int ft, .int (mv 11), .ref (ad 4), .ref (ad 5), .ref (ad 6), .ref (ad 7), .ref (ad 8), .ref (ad 9), .ref (ad 10), .int tr], iA G (ad 0) 255 S, iA G (ad 4) 16 mk2_29] H := hP
        replace hD : va_D (va_A (w_X6_shows G ko ad w h la tp ft tr mv S mk) ss.heap.size) [oC ko 6 [.ref (ad 0), .ref (ad 1), .int (nI w), .int (nI h), .int (nI la), .ref (ad 2), .int (mv 0), .int (mv 1), .int (mv 2), .int (mv 3), .int (mv 4), .int (mv 5), .int (mv 6), .ref (ad 3), .int (nI tp), .int (mv 7), .int (mv 8), .int (mv 9), .int (mv 10), .int ft, .int (mv 11), .ref (ad 4), .ref (ad 5), .ref (ad 6), .ref (ad 7), .ref (ad 8), .ref (ad 9), .ref (ad 10), .int tr], iA G (ad 0) 255 S, iA G (ad 4) 16 mk2_29] := hD
        refine lv_iload_n hx hb dX6_shows_32 rfl (lv_at hl 3 rfl) ?_
        refine lv_ishr hx hb dX6_shows_33 ?_
        refine lv_iconst (v := nI 1) hx hb dX6_shows_34 (by decide) ?_
        refine lv_iand hx hb dX6_shows_35 ?_
        refine lv_iconst (v := nI 1) hx hb dX6_shows_36 (by decide) ?_
        refine lv_icmp_ne (tgt := 59) hx hb dX6_shows_37 rfl (fun b37 => ?_) (fun b37 => ?_)
        · skip
          refine lv_bipush (v := (-4)) hx hb dX6_shows_59 (by decide) ?_
          have hP := hP.sub (ws' := [oC ko 6 [.ref (ad 0), .ref (ad 1), .int (nI w), .int (nI h), .int (nI la), .ref (ad 2), .int (mv 0), .int (mv 1), .int (mv 2), .int (mv 3), .int (mv 4), .int (mv 5), .int (mv 6), .ref (ad 3), .int (nI tp), .int (mv 7), .int (mv 8), .int (mv 9), .int (mv 10), .int ft, .int (mv 11), .ref (ad 4), .ref (ad 5), .ref (ad 6), .ref (ad 7), .ref (ad 8), .ref (ad 9), .ref (ad 10), .int tr], iA G (ad 0) 255 S, iA G (ad 4) 16 mk2_29]) [0, 1, 2] rfl
          have hD := hD.sub (ws' := [oC ko 6 [.ref (ad 0), .ref (ad 1), .int (nI w), .int (nI h), .int (nI la), .ref (ad 2), .int (mv 0), .int (mv 1), .int (mv 2), .int (mv 3), .int (mv 4), .int (mv 5), .int (mv 6), .ref (ad 3), .int (nI tp), .int (mv 7), .int (mv 8), .int (mv 9), .int (mv 10), .int ft, .int (mv 11), .ref (ad 4), .ref (ad 5), .ref (ad 6), .ref (ad 7), .ref (ad 8), .ref (ad 9), .ref (ad 10), .int tr], iA G (ad 0) 255 S, iA G (ad 4) 16 mk2_29]) [0, 1, 2] (by decide) rfl
          refine W.iret (v := (-4)) hx hb hr (fun t ht hW => ⟨⟨(-4), (mk2_29), rfl, ?_, by rw [ht]; exact hP, hD⟩, hS.F ht⟩) hS.2.2 dX6_shows_61
          first | exact (if_neg (fun q => b5 q.1)).symm | exact (if_neg (fun q => b13 q.2.1)).symm | exact (if_neg (fun q => b21 q.2.2)).symm | (rw [if_pos ⟨inR_nI hl0 (by omega), inR_nI hx0 (by omega), inR_nI hc0 (by omega)⟩, tn_nI (by omega), tn_nI (by omega), tn_nI (by omega)]; first | exact (if_neg b37).symm | (rw [if_pos b37, ed0, tn_nI (by omega)]))
        · skip
          refine lv_aload_n hx hb dX6_shows_40 rfl (lv_at hl 0 rfl) ?_
          refine lv_iload_n hx hb dX6_shows_41 rfl (lv_at hl 3 rfl) ?_
          refine lv_aload_n hx hb dX6_shows_42 rfl (lv_at hl 0 rfl) ?_
          refine va_get (D := G.1) (ci := 6) (v := .ref (ad 0)) (C := RX6) (T := TX6) (N := 29) hx hb hts hin6 hown hK.1 hP 0 rfl rfl 0 (by decide) (hts (.fieldLink RX6 7 "BackLensesModel" "st" "[I") (List.mem_of_getElem? (i := 1) rfl)) (fun _ h9 => h9) rfl dX6_shows_43 ?_
          refine lv_bipush (v := nI 48) hx hb dX6_shows_46 (by decide) ?_
          refine lv_iconst (v := nI 2) hx hb dX6_shows_48 (by decide) ?_
          refine lv_iload_n hx hb dX6_shows_49 rfl (lv_at hl 1 rfl) ?_
          refine xn_imul hx hb dX6_shows_50 ?_
          refine xn_iadd hx hb dX6_shows_51 ?_
          refine xn_iald hx hb hK hP 1 rfl (by omega) (by omega) dX6_shows_52 ?_
          obtain ⟨d0, hd0, ed0⟩ := inR_nat (hlens l0 (by omega))
          refine xn_top ed0 ?_
          refine xr_i (As := [.int (nI c0), .int (nI d0)]) (rest := []) ⟨hx, hb, hml, hown, hts⟩ (c_X6_markOf l G ko ad w h la tp ft tr mv S _ c0 d0 (by first | assumption | omega) (by first | assumption | omega) (by first | assumption | omega) (by first | assumption | omega)) (cwV 2 hts gX6_shows_X6_markOf rfl rfl rfl (by decide +kernel) ⟨Nat.le_of_ble_eq_true rfl, Nat.le_of_ble_eq_true rfl⟩) hK hP hS [0, 1] rfl rfl rfl rfl hl.1 rfl (Nat.le_of_ble_eq_true rfl) dX6_shows_53 ⟨Nat.zero_le _, Nat.zero_le _⟩ (fun r53 H locs hp53 hP hS => ?_)
          rw [show r53 = _ from hp53]
          refine lv_goto (tgt := 61) hx hb dX6_shows_56 rfl ?_
          have hP := hP.sub (ws' := [oC ko 6 [.ref (ad 0), .ref (ad 1), .int (nI w), .int (nI h), .int (nI la), .ref (ad 2), .int (mv 0), .int (mv 1), .int (mv 2), .int (mv 3), .int (mv 4), .int (mv 5), .int (mv 6), .ref (ad 3), .int (nI tp), .int (mv 7), .int (mv 8), .int (mv 9), .int (mv 10), .int ft, .int (mv 11), .ref (ad 4), .ref (ad 5), .ref (ad 6), .ref (ad 7), .ref (ad 8), .ref (ad 9), .ref (ad 10), .int tr], iA G (ad 0) 255 S, iA G (ad 4) 16 mk2_29]) [0, 1, 2] rfl
          have hD := hD.sub (ws' := [oC ko 6 [.ref (ad 0), .ref (ad 1), .int (nI w), .int (nI h), .int (nI la), .ref (ad 2), .int (mv 0), .int (mv 1), .int (mv 2), .int (mv 3), .int (mv 4), .int (mv 5), .int (mv 6), .ref (ad 3), .int (nI tp), .int (mv 7), .int (mv 8), .int (mv 9), .int (mv 10), .int ft, .int (mv 11), .ref (ad 4), .ref (ad 5), .ref (ad 6), .ref (ad 7), .ref (ad 8), .ref (ad 9), .ref (ad 10), .int tr], iA G (ad 0) 255 S, iA G (ad 4) 16 mk2_29]) [0, 1, 2] (by decide) rfl
          refine W.iret (v := mkM S _ c0 d0) hx hb hr (fun t ht hW => ⟨⟨mkM S _ c0 d0, (mk2_29), rfl, ?_, by rw [ht]; exact hP, hD⟩, hS.F ht⟩) hS.2.2 dX6_shows_61
          first | exact (if_neg (fun q => b5 q.1)).symm | exact (if_neg (fun q => b13 q.2.1)).symm | exact (if_neg (fun q => b21 q.2.2)).symm | (rw [if_pos ⟨inR_nI hl0 (by omega), inR_nI hx0 (by omega), inR_nI hc0 (by omega)⟩, tn_nI (by omega), tn_nI (by omega), tn_nI (by omega)]; first | exact (if_neg b37).symm | (rw [if_pos b37, ed0, tn_nI (by omega)]))
      · skip
        refine lv_iconst (v := (-1)) hx hb dX6_shows_24 (by decide) ?_
        have hP := hP.sub (ws' := [oC ko 6 [.ref (ad 0), .ref (ad 1), .int (nI w), .int (nI h), .int (nI la), .ref (ad 2), .int (mv 0), .int (mv 1), .int (mv 2), .int (mv 3), .int (mv 4), .int (mv 5), .int (mv 6), .ref (ad 3), .int (nI tp), .int (mv 7), .int (mv 8), .int (mv 9), .int (mv 10), .int ft, .int (mv 11), .ref (ad 4), .ref (ad 5), .ref (ad 6), .ref (ad 7), .ref (ad 8), .ref (ad 9), .ref (ad 10), .int tr], iA G (ad 0) 255 S, iA G (ad 4) 16 mk]) [0, 1, 2] rfl
        have hD := hD.sub (ws' := [oC ko 6 [.ref (ad 0), .ref (ad 1), .int (nI w), .int (nI h), .int (nI la), .ref (ad 2), .int (mv 0), .int (mv 1), .int (mv 2), .int (mv 3), .int (mv 4), .int (mv 5), .int (mv 6), .ref (ad 3), .int (nI tp), .int (mv 7), .int (mv 8), .int (mv 9), .int (mv 10), .int ft, .int (mv 11), .ref (ad 4), .ref (ad 5), .ref (ad 6), .ref (ad 7), .ref (ad 8), .ref (ad 9), .ref (ad 10), .int tr], iA G (ad 0) 255 S, iA G (ad 4) 16 mk]) [0, 1, 2] (by decide) rfl
        refine W.iret (v := (-1)) hx hb hr (fun t ht hW => ⟨⟨(-1), (mk), rfl, ?_, by rw [ht]; exact hP, hD⟩, hS.F ht⟩) hS.2.2 dX6_shows_25
        first | exact (if_neg (fun q => b5 q.1)).symm | exact (if_neg (fun q => b13 q.2.1)).symm | exact (if_neg (fun q => b21 q.2.2)).symm | (rw [if_pos ⟨inR_nI hl0 (by omega), inR_nI hx0 (by omega), inR_nI hc0 (by omega)⟩, tn_nI (by omega), tn_nI (by omega), tn_nI (by omega)]; first | exact (if_neg b37).symm | (rw [if_pos b37, ed0, tn_nI (by omega)]))

abbrev w_X6_frame (G : XG) (ko : Nat) (ad : Nat → Nat) (w h la tp : Nat) (ft tr : Int32) (mv : Nat → Int32) (S mk : Nat → Int32) : va_W := [oC ko 6 [.ref (ad 0), .ref (ad 1), .int (nI w), .int (nI h), .int (nI la), .ref (ad 2), .int (mv 0), .int (mv 1), .int (mv 2), .int (mv 3), .int (mv 4), .int (mv 5), .int (mv 6), .ref (ad 3), .int (nI tp), .int (mv 7), .int (mv 8), .int (mv 9), .int (mv 10), .int ft, .int (mv 11), .ref (ad 4), .ref (ad 5), .ref (ad 6), .ref (ad 7), .ref (ad 8), .ref (ad 9), .ref (ad 10), .int tr], iA G (ad 0) 255 S, iA G (ad 4) 16 mk]
abbrev Q_X6_frame (G : XG) (sz : Nat) (ko : Nat) (ad : Nat → Nat) (w h la tp : Nat) (ft tr : Int32) (mv : Nat → Int32) (S mk : Nat → Int32) (nc : Nat) (nl : Nat) (l1 k1 x : Int32) : Array Value → State → Outcome → State → Prop := (va_Qi (fun (r : Int32) (u : (Nat → Int32)) => r = (if inR l1 nl ∧ inR k1 nl ∧ inR x (w * h) then ((shM w h S nc (tn l1) (tn x) &&& shM w h S nc (tn k1) (tn x)) &&& unM w h S nc (tn (S (48 + 2 * tn l1))) (tn (S (48 + 2 * tn k1)))) else (-1))) (xWb G sz (w_X6_frame G ko ad w h la tp ft tr mv S mk) (fun u : (Nat → Int32) => [oC ko 6 [.ref (ad 0), .ref (ad 1), .int (nI w), .int (nI h), .int (nI la), .ref (ad 2), .int (mv 0), .int (mv 1), .int (mv 2), .int (mv 3), .int (mv 4), .int (mv 5), .int (mv 6), .ref (ad 3), .int (nI tp), .int (mv 7), .int (mv 8), .int (mv 9), .int (mv 10), .int ft, .int (mv 11), .ref (ad 4), .ref (ad 5), .ref (ad 6), .ref (ad 7), .ref (ad 8), .ref (ad 9), .ref (ad 10), .int tr], iA G (ad 0) 255 S, iA G (ad 4) 16 u])) (va_A (w_X6_frame G ko ad w h la tp ft tr mv S mk) sz))
set_option maxHeartbeats 4000000 in
set_option maxRecDepth 100000 in
theorem c_X6_frame (l : Launch) (G : XG) (sz : Nat) (ko : Nat) (ad : Nat → Nat) (w h la tp : Nat) (ft tr : Int32) (mv : Nat → Int32) (S mk : Nat → Int32) (nc : Nat) (nl : Nat) (l1 k1 x : Int32) (hw : 1 ≤ w) (hwb : w ≤ 16) (hhb : h ≤ 16) (hwh1 : 1 ≤ w * h) (hwh : w * h ≤ 16) (hla : la ≤ 9) (hs16 : S 16 = nI nc) (hnc : nc ≤ 10) (hs47 : S 47 = nI nl) (hnl : nl ≤ 6) (hlens : ∀ i, i < nl → inR (S (48 + 2 * i)) (la + 1)) : Met l yX6_frame wsX6_frame ({ frames := 5, cells := 0, slots := 0, locals := 111 } : Room) (va_Pc [.ref ko, .int l1, .int k1, .int x] (xWp G sz (w_X6_frame G ko ad w h la tp ft tr mv S mk))) (Q_X6_frame G sz ko ad w h la tp ft tr mv S mk nc nl l1 k1 x) 0 0 (va_A (w_X6_frame G ko ad w h la tp ft tr mv S mk) sz) := by
  refine Met.ofW (cc := cX6_frame) (maxL := 4) (ret := (some .int)) (by decide) rfl ?_
  intro pp ee ss mm aa below mt cd s₁ BB hml hv
  obtain ⟨rfl, hsz, hP, hK, hD0⟩ := hv
  have hx := BB.exec
  have hb := BB.bytes
  have hr := BB.returns
  have hts := atoms_spec (ws := wsX6_frame) BB.pre
  have hown : ss.vm.findClass RX6 = some mm.cls := findClass_of_methodNamed BB.named
  have hlocks := BB.notSynchronized
  subst hsz
  have hD := hD0.self (sz := ss.heap.size)
  have hA : ∀ q : Nat, ss.heap.size ≤ q → va_A (w_X6_frame G ko ad w h la tp ft tr mv S mk) ss.heap.size q := fun q h => Or.inr h
  have hS : va_S (va_A (w_X6_frame G ko ad w h la tp ft tr mv S mk) ss.heap.size) ss.heap ss.heap [] := va_S.rf
  replace hD : va_D (va_A (w_X6_frame G ko ad w h la tp ft tr mv S mk) ss.heap.size) [oC ko 6 [.ref (ad 0), .ref (ad 1), .int (nI w), .int (nI h), .int (nI la), .ref (ad 2), .int (mv 0), .int (mv 1), .int (mv 2), .int (mv 3), .int (mv 4), .int (mv 5), .int (mv 6), .ref (ad 3), .int (nI tp), .int (mv 7), .int (mv 8), .int (mv 9), .int (mv 10), .int ft, .int (mv 11), .ref (ad 4), .ref (ad 5), .ref (ad 6), .ref (ad 7), .ref (ad 8), .ref (ad 9), .ref (ad 10), .int tr], iA G (ad 0) 255 S, iA G (ad 4) 16 mk] := hD
  replace hP : xP G [oC ko 6 [.ref (ad 0), .ref (ad 1), .int (nI w), .int (nI h), .int (nI la), .ref (ad 2), .int (mv 0), .int (mv 1), .int (mv 2), .int (mv 3), .int (mv 4), .int (mv 5), .int (mv 6), .ref (ad 3), .int (nI tp), .int (mv 7), .int (mv 8), .int (mv 9), .int (mv 10), .int ft, .int (mv 11), .ref (ad 4), .ref (ad 5), .ref (ad 6), .ref (ad 7), .ref (ad 8), .ref (ad 9), .ref (ad 10), .int tr], iA G (ad 0) 255 S, iA G (ad 4) 16 mk] ss.heap := hP
  have hin6 : ∀ w ∈ u_ws RX6 TX6 29, w ∈ wsX6_frame := fun w h => List.mem_cons_of_mem _ (List.mem_append_right _ h)
  have hl := lv_entry ([.ref ko, .int l1, .int k1, .int x]) (n := 4) (Nat.le_of_ble_eq_true rfl)
  rw [lg_entry_eq]
  generalize (lg_sl ([.ref ko, .int l1, .int k1, .int x]) ++ List.replicate (4 - (lg_sl ([.ref ko, .int l1, .int k1, .int x])).length) Slot.unset).toArray = ls at hl ⊢
  replace hl : lv_has ls 4 [(0, .ref ko), (1, .int l1), (2, .int k1), (3, .int x)] := hl
  refine lv_aload_n hx hb dX6_frame_0 rfl (lv_at hl 0 rfl) ?_
  refine lv_iload_n hx hb dX6_frame_1 rfl (lv_at hl 1 rfl) ?_
  refine xr_i (As := [.int l1]) (rest := []) ⟨hx, hb, hml, hown, hts⟩ (c_X6_isLens l G ko ad w h la tp ft tr mv S _ l1 (by first | assumption | omega) (by first | assumption | omega)) (cwV 1 hts gX6_frame_X6_isLens rfl rfl rfl (by decide +kernel) ⟨Nat.le_of_ble_eq_true rfl, Nat.le_of_ble_eq_true rfl⟩) hK hP hS [0, 1] rfl rfl rfl rfl hl.1 rfl (Nat.le_of_ble_eq_true rfl) dX6_frame_2 ⟨Nat.zero_le _, Nat.zero_le _⟩ (fun r2 H locs hp2 hP hS => ?_)
  rw [show r2 = _ from hp2]
  refine xb_if_eq (tgt := 24) hx hb dX6_frame_5 rfl (fun b5 => ?_) (fun b5 => ?_)
  · skip
    refine lv_iconst (v := (-1)) hx hb dX6_frame_24 (by decide) ?_
    have hP := hP.sub (ws' := [oC ko 6 [.ref (ad 0), .ref (ad 1), .int (nI w), .int (nI h), .int (nI la), .ref (ad 2), .int (mv 0), .int (mv 1), .int (mv 2), .int (mv 3), .int (mv 4), .int (mv 5), .int (mv 6), .ref (ad 3), .int (nI tp), .int (mv 7), .int (mv 8), .int (mv 9), .int (mv 10), .int ft, .int (mv 11), .ref (ad 4), .ref (ad 5), .ref (ad 6), .ref (ad 7), .ref (ad 8), .ref (ad 9), .ref (ad 10), .int tr], iA G (ad 0) 255 S, iA G (ad 4) 16 mk]) [0, 1, 2] rfl
    have hD := hD.sub (ws' := [oC ko 6 [.ref (ad 0), .ref (ad 1), .int (nI w), .int (nI h), .int (nI la), .ref (ad 2), .int (mv 0), .int (mv 1), .int (mv 2), .int (mv 3), .int (mv 4), .int (mv 5), .int (mv 6), .ref (ad 3), .int (nI tp), .int (mv 7), .int (mv 8), .int (mv 9), .int (mv 10), .int ft, .int (mv 11), .ref (ad 4), .ref (ad 5), .ref (ad 6), .ref (ad 7), .ref (ad 8), .ref (ad 9), .ref (ad 10), .int tr], iA G (ad 0) 255 S, iA G (ad 4) 16 mk]) [0, 1, 2] (by decide) rfl
    refine W.iret (v := (-1)) hx hb hr (fun t ht hW => ⟨⟨(-1), (mk), rfl, ?_, by rw [ht]; exact hP, hD⟩, hS.F ht⟩) hS.2.2 dX6_frame_25
    first | exact (if_neg (fun q => b5 q.1)).symm | exact (if_neg (fun q => b13 q.2.1)).symm | exact (if_neg (fun q => b21 q.2.2)).symm | (rw [if_pos ⟨inR_nI hl0 (by omega), inR_nI hk0 (by omega), inR_nI hx0 (by omega)⟩, tn_nI (by omega), tn_nI (by omega), tn_nI (by omega), ed0, ee0, tn_nI (by omega), tn_nI (by omega)])
  · skip
    refine lv_aload_n hx hb dX6_frame_8 rfl (lv_at hl 0 rfl) ?_
    refine lv_iload_n hx hb dX6_frame_9 rfl (lv_at hl 2 rfl) ?_
    refine xr_i (As := [.int k1]) (rest := []) ⟨hx, hb, hml, hown, hts⟩ (c_X6_isLens l G ko ad w h la tp ft tr mv S _ k1 (by first | assumption | omega) (by first | assumption | omega)) (cwV 1 hts gX6_frame_X6_isLens rfl rfl rfl (by decide +kernel) ⟨Nat.le_of_ble_eq_true rfl, Nat.le_of_ble_eq_true rfl⟩) hK hP hS [0, 1] rfl rfl rfl rfl hl.1 rfl (Nat.le_of_ble_eq_true rfl) dX6_frame_10 ⟨Nat.zero_le _, Nat.zero_le _⟩ (fun r10 H locs hp10 hP hS => ?_)
    rw [show r10 = _ from hp10]
    refine xb_if_eq (tgt := 24) hx hb dX6_frame_13 rfl (fun b13 => ?_) (fun b13 => ?_)
    · skip
      refine lv_iconst (v := (-1)) hx hb dX6_frame_24 (by decide) ?_
      have hP := hP.sub (ws' := [oC ko 6 [.ref (ad 0), .ref (ad 1), .int (nI w), .int (nI h), .int (nI la), .ref (ad 2), .int (mv 0), .int (mv 1), .int (mv 2), .int (mv 3), .int (mv 4), .int (mv 5), .int (mv 6), .ref (ad 3), .int (nI tp), .int (mv 7), .int (mv 8), .int (mv 9), .int (mv 10), .int ft, .int (mv 11), .ref (ad 4), .ref (ad 5), .ref (ad 6), .ref (ad 7), .ref (ad 8), .ref (ad 9), .ref (ad 10), .int tr], iA G (ad 0) 255 S, iA G (ad 4) 16 mk]) [0, 1, 2] rfl
      have hD := hD.sub (ws' := [oC ko 6 [.ref (ad 0), .ref (ad 1), .int (nI w), .int (nI h), .int (nI la), .ref (ad 2), .int (mv 0), .int (mv 1), .int (mv 2), .int (mv 3), .int (mv 4), .int (mv 5), .int (mv 6), .ref (ad 3), .int (nI tp), .int (mv 7), .int (mv 8), .int (mv 9), .int (mv 10), .int ft, .int (mv 11), .ref (ad 4), .ref (ad 5), .ref (ad 6), .ref (ad 7), .ref (ad 8), .ref (ad 9), .ref (ad 10), .int tr], iA G (ad 0) 255 S, iA G (ad 4) 16 mk]) [0, 1, 2] (by decide) rfl
      refine W.iret (v := (-1)) hx hb hr (fun t ht hW => ⟨⟨(-1), (mk), rfl, ?_, by rw [ht]; exact hP, hD⟩, hS.F ht⟩) hS.2.2 dX6_frame_25
      first | exact (if_neg (fun q => b5 q.1)).symm | exact (if_neg (fun q => b13 q.2.1)).symm | exact (if_neg (fun q => b21 q.2.2)).symm | (rw [if_pos ⟨inR_nI hl0 (by omega), inR_nI hk0 (by omega), inR_nI hx0 (by omega)⟩, tn_nI (by omega), tn_nI (by omega), tn_nI (by omega), ed0, ee0, tn_nI (by omega), tn_nI (by omega)])
    · skip
      refine lv_aload_n hx hb dX6_frame_16 rfl (lv_at hl 0 rfl) ?_
      refine lv_iload_n hx hb dX6_frame_17 rfl (lv_at hl 3 rfl) ?_
      refine xr_i (As := [.int x]) (rest := []) ⟨hx, hb, hml, hown, hts⟩ (c_X6_isCell l G ko ad w h la tp ft tr mv x (by first | assumption | omega) (by first | assumption | omega)) (cwV 1 hts gX6_frame_X6_isCell rfl rfl rfl (by decide +kernel) ⟨Nat.le_of_ble_eq_true rfl, Nat.le_of_ble_eq_true rfl⟩) hK hP hS [0] rfl rfl rfl rfl hl.1 rfl (Nat.le_of_ble_eq_true rfl) dX6_frame_18 ⟨Nat.zero_le _, Nat.zero_le _⟩ (fun r18 H locs hp18 hP hS => ?_)
      rw [show r18 = _ from hp18]
      refine xb_if_ne (tgt := 26) hx hb dX6_frame_21 rfl (fun b21 => ?_) (fun b21 => ?_)
      · skip
        obtain ⟨l0, hl0, rfl⟩ := inR_nat b5
        obtain ⟨k0, hk0, rfl⟩ := inR_nat b13
        obtain ⟨x0, hx0, rfl⟩ := inR_nat b21
        refine lv_aload_n hx hb dX6_frame_26 rfl (lv_at hl 0 rfl) ?_
        refine lv_iload_n hx hb dX6_frame_27 rfl (lv_at hl 1 rfl) ?_
        refine lv_iload_n hx hb dX6_frame_28 rfl (lv_at hl 3 rfl) ?_
        refine xw_i (As := [.int (nI l0), .int (nI x0)]) (rest := []) (wr := []) ⟨hx, hb, hml, hown, hts⟩ (c_X6_shownBy l G H.size ko ad w h la tp ft tr mv S mk _ _ l0 x0 (by first | assumption | omega) (by first | assumption | omega) (by first | assumption | omega) (by first | assumption | omega) (by first | assumption | omega) (by first | assumption | omega) (by first | assumption | omega) (by first | assumption | omega) (by first | assumption | omega) (by first | assumption | omega) (by first | assumption | omega) (by first | assumption | omega) (by first | assumption | omega)) (cwV 2 hts gX6_frame_X6_shownBy rfl rfl rfl (by decide +kernel) ⟨Nat.le_of_ble_eq_true rfl, Nat.le_of_ble_eq_true rfl⟩) hK hP hD hS hA [0, 1, 2] [] rfl rfl (by decide) (by decide) (by decide) rfl rfl rfl hl.1 rfl (Nat.le_of_ble_eq_true rfl) dX6_frame_29 ⟨Nat.le_of_ble_eq_true rfl, Nat.le_of_ble_eq_true rfl⟩ (fun r29 u H locs hp29 hP hD hS => ?_)
        obtain ⟨mk2_29, rfl⟩ : ∃ z, z = u := ⟨_, rfl⟩
        try dsimp only at hp29 hP hD
        obtain rfl := hp29
        replace hP : xP G [oC ko 6 [.ref (ad 0), .ref (ad 1), .int (nI w), .int (nI h), .int (nI la), .ref (ad 2), .int (mv 0), .int (mv 1), .int (mv 2), .int (mv 3), .int (mv 4), .int (mv 5), .int (mv 6), .ref (ad 3), .int (nI tp), .int (mv 7), .int (mv 8), .int (mv 9), .int (mv 10), .int ft, .int (mv 11), .ref (ad 4), .ref (ad 5), .ref (ad 6), .ref (ad 7), .ref (ad 8), .ref (ad 9), .ref (ad 10), .int tr], iA G (ad 0) 255 S, iA G (ad 4) 16 mk2_29] H := hP
        replace hD : va_D (va_A (w_X6_frame G ko ad w h la tp ft tr mv S mk) ss.heap.size) [oC ko 6 [.ref (ad 0), .ref (ad 1), .int (nI w), .int (nI h), .int (nI la), .ref (ad 2), .int (mv 0), .int (mv 1), .int (mv 2), .int (mv 3), .int (mv 4), .int (mv 5), .int (mv 6), .ref (ad 3), .int (nI tp), .int (mv 7), .int (mv 8), .int (mv 9), .int (mv 10), .int ft, .int (mv 11), .ref (ad 4), .ref (ad 5), .ref (ad 6), .ref (ad 7), .ref (ad 8), .ref (ad 9), .ref (ad 10), .int tr], iA G (ad 0) 255 S, iA G (ad 4) 16 mk2_29] := hD
        refine lv_aload_n hx hb dX6_frame_32 rfl (lv_at hl 0 rfl) ?_
        refine lv_iload_n hx hb dX6_frame_33 rfl (lv_at hl 2 rfl) ?_
        refine lv_iload_n hx hb dX6_frame_34 rfl (lv_at hl 3 rfl) ?_
        refine xw_i (As := [.int (nI k0), .int (nI x0)]) (rest := [.int (shM w h S _ l0 x0)]) (wr := []) ⟨hx, hb, hml, hown, hts⟩ (c_X6_shownBy l G H.size ko ad w h la tp ft tr mv S mk2_29 _ _ k0 x0 (by first | assumption | omega) (by first | assumption | omega) (by first | assumption | omega) (by first | assumption | omega) (by first | assumption | omega) (by first | assumption | omega) (by first | assumption | omega) (by first | assumption | omega) (by first | assumption | omega) (by first | assumption | omega) (by first | assumption | omega) (by first | assumption | omega) (by first | assumption | omega)) (cwV 2 hts gX6_frame_X6_shownBy rfl rfl rfl (by decide +kernel) ⟨Nat.le_of_ble_eq_true rfl, Nat.le_of_ble_eq_true rfl⟩) hK hP hD hS hA [0, 1, 2] [] rfl rfl (by decide) (by decide) (by decide) rfl rfl rfl hl.1 rfl (Nat.le_of_ble_eq_true rfl) dX6_frame_35 ⟨Nat.le_of_ble_eq_true rfl, Nat.le_of_ble_eq_true rfl⟩ (fun r35 u H locs hp35 hP hD hS => ?_)
        obtain ⟨mk2_35, rfl⟩ : ∃ z, z = u := ⟨_, rfl⟩
        try dsimp only at hp35 hP hD
        obtain rfl := hp35
        replace hP : xP G [oC ko 6 [.ref (ad 0), .ref (ad 1), .int (nI w), .int (nI h), .int (nI la), .ref (ad 2), .int (mv 0), .int (mv 1), .int (mv 2), .int (mv 3), .int (mv 4), .int (mv 5), .int (mv 6), .ref (ad 3), .int (nI tp), .int (mv 7), .int (mv 8), .int (mv 9), .int (mv 10), .int ft, .int (mv 11), .ref (ad 4), .ref (ad 5), .ref (ad 6), .ref (ad 7), .ref (ad 8), .ref (ad 9), .ref (ad 10), .int tr], iA G (ad 0) 255 S, iA G (ad 4) 16 mk2_35] H := hP
        replace hD : va_D (va_A (w_X6_frame G ko ad w h la tp ft tr mv S mk) ss.heap.size) [oC ko 6 [.ref (ad 0), .ref (ad 1), .int (nI w), .int (nI h), .int (nI la), .ref (ad 2), .int (mv 0), .int (mv 1), .int (mv 2), .int (mv 3), .int (mv 4), .int (mv 5), .int (mv 6), .ref (ad 3), .int (nI tp), .int (mv 7), .int (mv 8), .int (mv 9), .int (mv 10), .int ft, .int (mv 11), .ref (ad 4), .ref (ad 5), .ref (ad 6), .ref (ad 7), .ref (ad 8), .ref (ad 9), .ref (ad 10), .int tr], iA G (ad 0) 255 S, iA G (ad 4) 16 mk2_35] := hD
        refine lv_iand hx hb dX6_frame_38 ?_
        refine lv_aload_n hx hb dX6_frame_39 rfl (lv_at hl 0 rfl) ?_
        refine lv_aload_n hx hb dX6_frame_40 rfl (lv_at hl 0 rfl) ?_
        refine va_get (D := G.1) (ci := 6) (v := .ref (ad 0)) (C := RX6) (T := TX6) (N := 29) hx hb hts hin6 hown hK.1 hP 0 rfl rfl 0 (by decide) (hts (.fieldLink RX6 7 "BackLensesModel" "st" "[I") (List.mem_of_getElem? (i := 1) rfl)) (fun _ h9 => h9) rfl dX6_frame_41 ?_
        refine lv_bipush (v := nI 48) hx hb dX6_frame_44 (by decide) ?_
        refine lv_iconst (v := nI 2) hx hb dX6_frame_46 (by decide) ?_
        refine lv_iload_n hx hb dX6_frame_47 rfl (lv_at hl 1 rfl) ?_
        refine xn_imul hx hb dX6_frame_48 ?_
        refine xn_iadd hx hb dX6_frame_49 ?_
        refine xn_iald hx hb hK hP 1 rfl (by omega) (by omega) dX6_frame_50 ?_
        obtain ⟨d0, hd0, ed0⟩ := inR_nat (hlens l0 (by omega))
        refine xn_top ed0 ?_
        refine lv_aload_n hx hb dX6_frame_51 rfl (lv_at hl 0 rfl) ?_
        refine va_get (D := G.1) (ci := 6) (v := .ref (ad 0)) (C := RX6) (T := TX6) (N := 29) hx hb hts hin6 hown hK.1 hP 0 rfl rfl 0 (by decide) (hts (.fieldLink RX6 7 "BackLensesModel" "st" "[I") (List.mem_of_getElem? (i := 1) rfl)) (fun _ h9 => h9) rfl dX6_frame_52 ?_
        refine lv_bipush (v := nI 48) hx hb dX6_frame_55 (by decide) ?_
        refine lv_iconst (v := nI 2) hx hb dX6_frame_57 (by decide) ?_
        refine lv_iload_n hx hb dX6_frame_58 rfl (lv_at hl 2 rfl) ?_
        refine xn_imul hx hb dX6_frame_59 ?_
        refine xn_iadd hx hb dX6_frame_60 ?_
        refine xn_iald hx hb hK hP 1 rfl (by omega) (by omega) dX6_frame_61 ?_
        obtain ⟨e0, he0, ee0⟩ := inR_nat (hlens k0 (by omega))
        refine xn_top ee0 ?_
        refine xr_i (As := [.int (nI d0), .int (nI e0)]) (rest := [.int ((shM w h S _ l0 x0) &&& (shM w h S _ k0 x0))]) ⟨hx, hb, hml, hown, hts⟩ (c_X6_unlike l G ko ad w h la tp ft tr mv S _ d0 e0 (by first | assumption | omega) (by first | assumption | omega) (by first | assumption | omega) (by first | assumption | omega) (by first | assumption | omega) (by first | assumption | omega) (by first | assumption | omega) (by first | assumption | omega) (by first | assumption | omega) (by first | assumption | omega)) (cwV 2 hts gX6_frame_X6_unlike rfl rfl rfl (by decide +kernel) ⟨Nat.le_of_ble_eq_true rfl, Nat.le_of_ble_eq_true rfl⟩) hK hP hS [0, 1] rfl rfl rfl rfl hl.1 rfl (Nat.le_of_ble_eq_true rfl) dX6_frame_62 ⟨Nat.zero_le _, Nat.zero_le _⟩ (fun r62 H locs hp62 hP hS => ?_)
        rw [show r62 = _ from hp62]
        refine lv_iand hx hb dX6_frame_65 ?_
        have hP := hP.sub (ws' := [oC ko 6 [.ref (ad 0), .ref (ad 1), .int (nI w), .int (nI h), .int (nI la), .ref (ad 2), .int (mv 0), .int (mv 1), .int (mv 2), .int (mv 3), .int (mv 4), .int (mv 5), .int (mv 6), .ref (ad 3), .int (nI tp), .int (mv 7), .int (mv 8), .int (mv 9), .int (mv 10), .int ft, .int (mv 11), .ref (ad 4), .ref (ad 5), .ref (ad 6), .ref (ad 7), .ref (ad 8), .ref (ad 9), .ref (ad 10), .int tr], iA G (ad 0) 255 S, iA G (ad 4) 16 mk2_35]) [0, 1, 2] rfl
        have hD := hD.sub (ws' := [oC ko 6 [.ref (ad 0), .ref (ad 1), .int (nI w), .int (nI h), .int (nI la), .ref (ad 2), .int (mv 0), .int (mv 1), .int (mv 2), .int (mv 3), .int (mv 4), .int (mv 5), .int (mv 6), .ref (ad 3), .int (nI tp), .int (mv 7), .int (mv 8), .int (mv 9), .int (mv 10), .int ft, .int (mv 11), .ref (ad 4), .ref (ad 5), .ref (ad 6), .ref (ad 7), .ref (ad 8), .ref (ad 9), .ref (ad 10), .int tr], iA G (ad 0) 255 S, iA G (ad 4) 16 mk2_35]) [0, 1, 2] (by decide) rfl
        refine W.iret (v := ((shM w h S _ l0 x0) &&& (shM w h S _ k0 x0)) &&& (unM w h S _ d0 e0)) hx hb hr (fun t ht hW => ⟨⟨((shM w h S _ l0 x0) &&& (shM w h S _ k0 x0)) &&& (unM w h S _ d0 e0), (mk2_35), rfl, ?_, by rw [ht]; exact hP, hD⟩, hS.F ht⟩) hS.2.2 dX6_frame_66
        first | exact (if_neg (fun q => b5 q.1)).symm | exact (if_neg (fun q => b13 q.2.1)).symm | exact (if_neg (fun q => b21 q.2.2)).symm | (rw [if_pos ⟨inR_nI hl0 (by omega), inR_nI hk0 (by omega), inR_nI hx0 (by omega)⟩, tn_nI (by omega), tn_nI (by omega), tn_nI (by omega), ed0, ee0, tn_nI (by omega), tn_nI (by omega)])
      · skip
        refine lv_iconst (v := (-1)) hx hb dX6_frame_24 (by decide) ?_
        have hP := hP.sub (ws' := [oC ko 6 [.ref (ad 0), .ref (ad 1), .int (nI w), .int (nI h), .int (nI la), .ref (ad 2), .int (mv 0), .int (mv 1), .int (mv 2), .int (mv 3), .int (mv 4), .int (mv 5), .int (mv 6), .ref (ad 3), .int (nI tp), .int (mv 7), .int (mv 8), .int (mv 9), .int (mv 10), .int ft, .int (mv 11), .ref (ad 4), .ref (ad 5), .ref (ad 6), .ref (ad 7), .ref (ad 8), .ref (ad 9), .ref (ad 10), .int tr], iA G (ad 0) 255 S, iA G (ad 4) 16 mk]) [0, 1, 2] rfl
        have hD := hD.sub (ws' := [oC ko 6 [.ref (ad 0), .ref (ad 1), .int (nI w), .int (nI h), .int (nI la), .ref (ad 2), .int (mv 0), .int (mv 1), .int (mv 2), .int (mv 3), .int (mv 4), .int (mv 5), .int (mv 6), .ref (ad 3), .int (nI tp), .int (mv 7), .int (mv 8), .int (mv 9), .int (mv 10), .int ft, .int (mv 11), .ref (ad 4), .ref (ad 5), .ref (ad 6), .ref (ad 7), .ref (ad 8), .ref (ad 9), .ref (ad 10), .int tr], iA G (ad 0) 255 S, iA G (ad 4) 16 mk]) [0, 1, 2] (by decide) rfl
        refine W.iret (v := (-1)) hx hb hr (fun t ht hW => ⟨⟨(-1), (mk), rfl, ?_, by rw [ht]; exact hP, hD⟩, hS.F ht⟩) hS.2.2 dX6_frame_25
        first | exact (if_neg (fun q => b5 q.1)).symm | exact (if_neg (fun q => b13 q.2.1)).symm | exact (if_neg (fun q => b21 q.2.2)).symm | (rw [if_pos ⟨inR_nI hl0 (by omega), inR_nI hk0 (by omega), inR_nI hx0 (by omega)⟩, tn_nI (by omega), tn_nI (by omega), tn_nI (by omega), ed0, ee0, tn_nI (by omega), tn_nI (by omega)])

abbrev w_X6_again (G : XG) (ko : Nat) (ad : Nat → Nat) (w h la tp : Nat) (ft tr : Int32) (mv : Nat → Int32) (S : Nat → Int32) : va_W := [oC ko 6 [.ref (ad 0), .ref (ad 1), .int (nI w), .int (nI h), .int (nI la), .ref (ad 2), .int (mv 0), .int (mv 1), .int (mv 2), .int (mv 3), .int (mv 4), .int (mv 5), .int (mv 6), .ref (ad 3), .int (nI tp), .int (mv 7), .int (mv 8), .int (mv 9), .int (mv 10), .int ft, .int (mv 11), .ref (ad 4), .ref (ad 5), .ref (ad 6), .ref (ad 7), .ref (ad 8), .ref (ad 9), .ref (ad 10), .int tr], iA G (ad 0) 255 S]
abbrev Q_X6_again (G : XG) (ko : Nat) (ad : Nat → Nat) (w h la tp : Nat) (ft tr : Int32) (mv : Nat → Int32) (S : Nat → Int32) (nc : Nat) : Array Value → State → Outcome → State → Prop := (xRi (fun r => r = agM (fun d e => decide (unM w h S nc d e = 0)) (la + 1)))
set_option maxHeartbeats 4000000 in
set_option maxRecDepth 100000 in
theorem c_X6_again (l : Launch) (G : XG) (ko : Nat) (ad : Nat → Nat) (w h la tp : Nat) (ft tr : Int32) (mv : Nat → Int32) (S : Nat → Int32) (nc : Nat) (hw : 1 ≤ w) (hwb : w ≤ 16) (hhb : h ≤ 16) (hwh1 : 1 ≤ w * h) (hwh : w * h ≤ 16) (hla : la ≤ 9) (hs16 : S 16 = nI nc) (hnc : nc ≤ 10) : Met l yX6_again wsX6_again ({ frames := 2, cells := 0, slots := 0, locals := 51 } : Room) (va_Pc [.ref ko] (xRp G (w_X6_again G ko ad w h la tp ft tr mv S))) (Q_X6_again G ko ad w h la tp ft tr mv S nc) 0 0 (fun _ => False) := by
  refine Met.ofW (cc := cX6_again) (maxL := 4) (ret := (some .int)) (by decide) rfl ?_
  intro pp ee ss mm aa below mt cd s₁ BB hml hv
  obtain ⟨rfl, hP, hK⟩ := hv
  have hx := BB.exec
  have hb := BB.bytes
  have hr := BB.returns
  have hts := atoms_spec (ws := wsX6_again) BB.pre
  have hown : ss.vm.findClass RX6 = some mm.cls := findClass_of_methodNamed BB.named
  have hlocks := BB.notSynchronized
  have hS : va_S (fun _ => False) ss.heap ss.heap [] := va_S.rf
  replace hP : xP G [oC ko 6 [.ref (ad 0), .ref (ad 1), .int (nI w), .int (nI h), .int (nI la), .ref (ad 2), .int (mv 0), .int (mv 1), .int (mv 2), .int (mv 3), .int (mv 4), .int (mv 5), .int (mv 6), .ref (ad 3), .int (nI tp), .int (mv 7), .int (mv 8), .int (mv 9), .int (mv 10), .int ft, .int (mv 11), .ref (ad 4), .ref (ad 5), .ref (ad 6), .ref (ad 7), .ref (ad 8), .ref (ad 9), .ref (ad 10), .int tr], iA G (ad 0) 255 S] ss.heap := hP
  have hin6 : ∀ w ∈ u_ws RX6 TX6 29, w ∈ wsX6_again := fun w h => List.mem_cons_of_mem _ (List.mem_append_right _ h)
  have hl := lv_entry ([.ref ko]) (n := 4) (Nat.le_of_ble_eq_true rfl)
  rw [lg_entry_eq]
  generalize (lg_sl ([.ref ko]) ++ List.replicate (4 - (lg_sl ([.ref ko])).length) Slot.unset).toArray = ls at hl ⊢
  replace hl : lv_has ls 4 [(0, .ref ko)] := hl
  refine lv_iconst (v := nI 0) hx hb dX6_again_0 (by decide) ?_
  refine lv_istore_n (lv' := [(1, .int (nI 0)), (0, .ref ko)]) hx hb dX6_again_1 rfl hl (by decide) rfl (fun ls hl => ?_)
  refine lv_iconst (v := nI 0) hx hb dX6_again_2 (by decide) ?_
  refine lv_istore_n (lv' := [(2, .int (nI 0)), (1, .int (nI 0)), (0, .ref ko)]) hx hb dX6_again_3 rfl hl (by decide) rfl (fun ls hl => ?_)
  have hL4 : ∀ k : Nat, ∀ (d : Nat) (bits : Int32) (ls : Array Slot) (H : Heap) (locs : List Loc), la + 1 - d = k → (d ≤ la + 1) → (bits = agM (fun d e => decide (unM w h S nc d e = 0)) d) → lv_has ls 4 [(0, .ref ko), (1, .int bits), (2, .int (nI d))] → xP G [iA G (ad 0) 255 S, oC ko 6 [.ref (ad 0), .ref (ad 1), .int (nI w), .int (nI h), .int (nI la), .ref (ad 2), .int (mv 0), .int (mv 1), .int (mv 2), .int (mv 3), .int (mv 4), .int (mv 5), .int (mv 6), .ref (ad 3), .int (nI tp), .int (mv 7), .int (mv 8), .int (mv 9), .int (mv 10), .int ft, .int (mv 11), .ref (ad 4), .ref (ad 5), .ref (ad 6), .ref (ad 7), .ref (ad 8), .ref (ad 9), .ref (ad 10), .int tr]] H → va_S (fun _ => False) ss.heap H locs → W pp l ee ({ frames := 2, cells := 0, slots := 0, locals := 51 } : Room) ss mm ([.ref ko] : List Value).toArray below mt cd H locs 0 0 (MQ below (Q_X6_again G ko ad w h la tp ft tr mv S nc) ([.ref ko] : List Value).toArray ss 0 0 (fun _ => False)) (F0 mm 4 ls []) := by
    intro k
    induction k using Nat.strongRecOn with
    | _ k ih4 =>
    intro d bits ls H locs hm4 hd hbits hl hP hS
    refine lv_iload_n hx hb dX6_again_4 rfl (lv_at hl 2 rfl) ?_
    refine lv_aload_n hx hb dX6_again_5 rfl (lv_at hl 0 rfl) ?_
    refine va_get (D := G.1) (ci := 6) (v := .int (nI la)) (C := RX6) (T := TX6) (N := 29) hx hb hts hin6 hown hK.1 hP 1 rfl rfl 4 (by decide) (hts (.fieldLink RX6 78 "BackLensesModel" "last" "I") (List.mem_of_getElem? (i := 1) rfl)) (fun _ h9 => h9) rfl dX6_again_6 ?_
    refine xn_icmp_gt (tgt := 53) hx hb (by omega) (by omega) dX6_again_9 rfl (fun b9 => ?_) (fun b9 => ?_)
    · skip
      refine lv_iload_n hx hb dX6_again_53 rfl (lv_at hl 1 rfl) ?_
      refine W.iret (v := bits) hx hb hr (fun t ht hW => ⟨⟨bits, (), rfl, ?_, trivial⟩, hS.F ht⟩) hS.2.2 dX6_again_54
      rw [hbits, show d = la + 1 by omega]
    · skip
      refine lv_iconst (v := nI 0) hx hb dX6_again_12 (by decide) ?_
      refine lv_istore_n (lv' := [(3, .int (nI 0)), (0, .ref ko), (1, .int bits), (2, .int (nI d))]) hx hb dX6_again_13 rfl hl (by decide) rfl (fun ls hl => ?_)
      have hL14 : ∀ k : Nat, ∀ (e : Nat) (bits2 : Int32) (ls : Array Slot) (H : Heap) (locs : List Loc), d - e = k → (e ≤ d) → (bits2 = agI (fun e => decide (unM w h S nc d e = 0)) d (agM (fun d e => decide (unM w h S nc d e = 0)) d) e) → lv_has ls 4 [(0, .ref ko), (1, .int bits2), (2, .int (nI d)), (3, .int (nI e))] → xP G [iA G (ad 0) 255 S, oC ko 6 [.ref (ad 0), .ref (ad 1), .int (nI w), .int (nI h), .int (nI la), .ref (ad 2), .int (mv 0), .int (mv 1), .int (mv 2), .int (mv 3), .int (mv 4), .int (mv 5), .int (mv 6), .ref (ad 3), .int (nI tp), .int (mv 7), .int (mv 8), .int (mv 9), .int (mv 10), .int ft, .int (mv 11), .ref (ad 4), .ref (ad 5), .ref (ad 6), .ref (ad 7), .ref (ad 8), .ref (ad 9), .ref (ad 10), .int tr]] H → va_S (fun _ => False) ss.heap H locs → W pp l ee ({ frames := 2, cells := 0, slots := 0, locals := 51 } : Room) ss mm ([.ref ko] : List Value).toArray below mt cd H locs 0 0 (MQ below (Q_X6_again G ko ad w h la tp ft tr mv S nc) ([.ref ko] : List Value).toArray ss 0 0 (fun _ => False)) (F0 mm 14 ls []) := by
        intro k
        induction k using Nat.strongRecOn with
        | _ k ih14 =>
        intro e bits2 ls H locs hm14 hei hb2 hl hP hS
        refine lv_iload_n hx hb dX6_again_14 rfl (lv_at hl 3 rfl) ?_
        refine lv_iload_n hx hb dX6_again_15 rfl (lv_at hl 2 rfl) ?_
        refine xn_icmp_ge (tgt := 47) hx hb (by omega) (by omega) dX6_again_16 rfl (fun b16 => ?_) (fun b16 => ?_)
        · skip
          refine lv_iinc (k := 2) (v := nI (d + 1)) (lv' := [(2, .int (nI (d + 1))), (0, .ref ko), (1, .int bits2), (3, .int (nI e))]) hx hb dX6_again_47 hl rfl (xn_inc d 1) (by decide) rfl (fun ls hl => ?_)
          refine lv_goto (tgt := 4) hx hb dX6_again_50 rfl ?_
          have hl := lv_sub hl (l' := [(0, .ref ko), (1, .int bits2), (2, .int (nI (d + 1)))]) [1, 2, 0] rfl
          exact ih4 (la + 1 - (d + 1)) (by omega) (d + 1) bits2 ls H locs rfl (by omega) (by rw [hb2, show e = d by omega]; rfl) hl hP hS
        · skip
          refine lv_iload_n hx hb dX6_again_19 rfl (lv_at hl 1 rfl) ?_
          refine lv_aload_n hx hb dX6_again_20 rfl (lv_at hl 0 rfl) ?_
          refine lv_iload_n hx hb dX6_again_21 rfl (lv_at hl 2 rfl) ?_
          refine lv_iload_n hx hb dX6_again_22 rfl (lv_at hl 3 rfl) ?_
          refine xr_i (As := [.int (nI d), .int (nI e)]) (rest := [.int bits2]) ⟨hx, hb, hml, hown, hts⟩ (c_X6_unlike l G ko ad w h la tp ft tr mv S _ d e (by first | assumption | omega) (by first | assumption | omega) (by first | assumption | omega) (by first | assumption | omega) (by first | assumption | omega) (by first | assumption | omega) (by first | assumption | omega) (by first | assumption | omega) (by first | assumption | omega) (by first | assumption | omega)) (cwV 2 hts gX6_again_X6_unlike rfl rfl rfl (by decide +kernel) ⟨Nat.le_of_ble_eq_true rfl, Nat.le_of_ble_eq_true rfl⟩) hK hP hS [1, 0] rfl rfl rfl rfl hl.1 rfl (Nat.le_of_ble_eq_true rfl) dX6_again_23 ⟨Nat.zero_le _, Nat.zero_le _⟩ (fun r23 H locs hp23 hP hS => ?_)
          rw [show r23 = _ from hp23]
          refine lv_if_ne (tgt := 33) hx hb dX6_again_26 rfl (fun b26 => ?_) (fun b26 => ?_)
          · skip
            refine lv_iconst (v := nI 0) hx hb dX6_again_33 (by decide) ?_
            refine xs_i (As := [.int (nI 0)]) (rest := [.int bits2]) ⟨hx, hb, hml, hown, hts⟩ (c_X6_flag_0 l G) (va_cwS 1 hts gX6_again_X6_flag rfl rfl rfl (by decide +kernel) ⟨Nat.le_of_ble_eq_true rfl, Nat.le_of_ble_eq_true rfl⟩) hP hS rfl hl.1 rfl (Nat.le_of_ble_eq_true rfl) dX6_again_34 ⟨Nat.zero_le _, Nat.zero_le _⟩ (fun r34 H locs hp34 hP hS => ?_)
            rw [show r34 = _ from hp34]
            refine lv_iload_n hx hb dX6_again_37 rfl (lv_at hl 2 rfl) ?_
            refine lv_ishl hx hb dX6_again_38 ?_
            refine lv_ior hx hb dX6_again_39 ?_
            refine lv_istore_n (lv' := [(1, .int (bits2 ||| ((nI 0) <<< ((nI d) &&& 31)))), (0, .ref ko), (2, .int (nI d)), (3, .int (nI e))]) hx hb dX6_again_40 rfl hl (by decide) rfl (fun ls hl => ?_)
            refine lv_iinc (k := 3) (v := nI (e + 1)) (lv' := [(3, .int (nI (e + 1))), (1, .int (bits2 ||| ((nI 0) <<< ((nI d) &&& 31)))), (0, .ref ko), (2, .int (nI d))]) hx hb dX6_again_41 hl rfl (xn_inc e 1) (by decide) rfl (fun ls hl => ?_)
            refine lv_goto (tgt := 14) hx hb dX6_again_44 rfl ?_
            have hl := lv_sub hl (l' := [(0, .ref ko), (1, .int (bits2 ||| ((nI 0) <<< ((nI d) &&& 31)))), (2, .int (nI d)), (3, .int (nI (e + 1)))]) [2, 1, 3, 0] rfl
            exact ih14 (d - (e + 1)) (by omega) (e + 1) (bits2 ||| ((nI 0) <<< ((nI d) &&& 31))) ls H locs rfl (by omega) (by rw [hb2]; first | exact (agI_T (decide_eq_true b26)).symm | exact (agI_F (decide_eq_false b26)).symm) hl hP hS
          · skip
            refine lv_iconst (v := nI 1) hx hb dX6_again_29 (by decide) ?_
            refine lv_goto (tgt := 34) hx hb dX6_again_30 rfl ?_
            refine xs_i (As := [.int (nI 1)]) (rest := [.int bits2]) ⟨hx, hb, hml, hown, hts⟩ (c_X6_flag_1 l G) (va_cwS 1 hts gX6_again_X6_flag rfl rfl rfl (by decide +kernel) ⟨Nat.le_of_ble_eq_true rfl, Nat.le_of_ble_eq_true rfl⟩) hP hS rfl hl.1 rfl (Nat.le_of_ble_eq_true rfl) dX6_again_34 ⟨Nat.zero_le _, Nat.zero_le _⟩ (fun r34 H locs hp34 hP hS => ?_)
            rw [show r34 = _ from hp34]
            refine lv_iload_n hx hb dX6_again_37 rfl (lv_at hl 2 rfl) ?_
            refine lv_ishl hx hb dX6_again_38 ?_
            refine lv_ior hx hb dX6_again_39 ?_
            refine lv_istore_n (lv' := [(1, .int (bits2 ||| ((nI 1) <<< ((nI d) &&& 31)))), (0, .ref ko), (2, .int (nI d)), (3, .int (nI e))]) hx hb dX6_again_40 rfl hl (by decide) rfl (fun ls hl => ?_)
            refine lv_iinc (k := 3) (v := nI (e + 1)) (lv' := [(3, .int (nI (e + 1))), (1, .int (bits2 ||| ((nI 1) <<< ((nI d) &&& 31)))), (0, .ref ko), (2, .int (nI d))]) hx hb dX6_again_41 hl rfl (xn_inc e 1) (by decide) rfl (fun ls hl => ?_)
            refine lv_goto (tgt := 14) hx hb dX6_again_44 rfl ?_
            have hl := lv_sub hl (l' := [(0, .ref ko), (1, .int (bits2 ||| ((nI 1) <<< ((nI d) &&& 31)))), (2, .int (nI d)), (3, .int (nI (e + 1)))]) [2, 1, 3, 0] rfl
            exact ih14 (d - (e + 1)) (by omega) (e + 1) (bits2 ||| ((nI 1) <<< ((nI d) &&& 31))) ls H locs rfl (by omega) (by rw [hb2]; first | exact (agI_T (decide_eq_true b26)).symm | exact (agI_F (decide_eq_false b26)).symm) hl hP hS
      have hl := lv_sub hl (l' := [(0, .ref ko), (1, .int bits), (2, .int (nI d)), (3, .int (nI 0))]) [1, 2, 3, 0] rfl
      exact hL14 (d - 0) 0 bits ls H locs rfl (by omega) (by rw [hbits]; rfl) hl hP hS
  have hl := lv_sub hl (l' := [(0, .ref ko), (1, .int (nI 0)), (2, .int (nI 0))]) [2, 1, 0] rfl
  have hP := hP.sub (ws' := [iA G (ad 0) 255 S, oC ko 6 [.ref (ad 0), .ref (ad 1), .int (nI w), .int (nI h), .int (nI la), .ref (ad 2), .int (mv 0), .int (mv 1), .int (mv 2), .int (mv 3), .int (mv 4), .int (mv 5), .int (mv 6), .ref (ad 3), .int (nI tp), .int (mv 7), .int (mv 8), .int (mv 9), .int (mv 10), .int ft, .int (mv 11), .ref (ad 4), .ref (ad 5), .ref (ad 6), .ref (ad 7), .ref (ad 8), .ref (ad 9), .ref (ad 10), .int tr]]) [1, 0] rfl
  exact hL4 (la + 1 - 0) 0 (nI 0) ls ss.heap [] rfl (by omega) (by rfl) hl hP hS

abbrev w_X6_seenAs (G : XG) (ko : Nat) (ad : Nat → Nat) (w h la tp : Nat) (ft tr : Int32) (mv : Nat → Int32) (mk : Nat → Int32) : va_W := [oC ko 6 [.ref (ad 0), .ref (ad 1), .int (nI w), .int (nI h), .int (nI la), .ref (ad 2), .int (mv 0), .int (mv 1), .int (mv 2), .int (mv 3), .int (mv 4), .int (mv 5), .int (mv 6), .ref (ad 3), .int (nI tp), .int (mv 7), .int (mv 8), .int (mv 9), .int (mv 10), .int ft, .int (mv 11), .ref (ad 4), .ref (ad 5), .ref (ad 6), .ref (ad 7), .ref (ad 8), .ref (ad 9), .ref (ad 10), .int tr], iA G (ad 4) 16 mk]
abbrev Q_X6_seenAs (G : XG) (ko : Nat) (ad : Nat → Nat) (w h la tp : Nat) (ft tr : Int32) (mv : Nat → Int32) (mk : Nat → Int32) (x c : Nat) : Array Value → State → Outcome → State → Prop := (xRi (fun r => r = (if (sgF w h mk x >>> (nI c &&& 31)) &&& nI 1 = nI 1 then mk c else (-4))))
set_option maxHeartbeats 4000000 in
set_option maxRecDepth 100000 in
theorem c_X6_seenAs (l : Launch) (G : XG) (ko : Nat) (ad : Nat → Nat) (w h la tp : Nat) (ft tr : Int32) (mv : Nat → Int32) (mk : Nat → Int32) (x c : Nat) (hw : 1 ≤ w) (hwb : w ≤ 16) (hhb : h ≤ 16) (hwh1 : 1 ≤ w * h) (hwh : w * h ≤ 16) (hxx : x < w * h) (hcc : c < 16) : Met l yX6_seenAs wsX6_seenAs ({ frames := 3, cells := 0, slots := 0, locals := 67 } : Room) (va_Pc [.ref ko, .int (nI x), .int (nI c)] (xRp G (w_X6_seenAs G ko ad w h la tp ft tr mv mk))) (Q_X6_seenAs G ko ad w h la tp ft tr mv mk x c) 0 0 (fun _ => False) := by
  refine Met.ofW (cc := cX6_seenAs) (maxL := 3) (ret := (some .int)) (by decide) rfl ?_
  intro pp ee ss mm aa below mt cd s₁ BB hml hv
  obtain ⟨rfl, hP, hK⟩ := hv
  have hx := BB.exec
  have hb := BB.bytes
  have hr := BB.returns
  have hts := atoms_spec (ws := wsX6_seenAs) BB.pre
  have hown : ss.vm.findClass RX6 = some mm.cls := findClass_of_methodNamed BB.named
  have hlocks := BB.notSynchronized
  have hS : va_S (fun _ => False) ss.heap ss.heap [] := va_S.rf
  replace hP : xP G [oC ko 6 [.ref (ad 0), .ref (ad 1), .int (nI w), .int (nI h), .int (nI la), .ref (ad 2), .int (mv 0), .int (mv 1), .int (mv 2), .int (mv 3), .int (mv 4), .int (mv 5), .int (mv 6), .ref (ad 3), .int (nI tp), .int (mv 7), .int (mv 8), .int (mv 9), .int (mv 10), .int ft, .int (mv 11), .ref (ad 4), .ref (ad 5), .ref (ad 6), .ref (ad 7), .ref (ad 8), .ref (ad 9), .ref (ad 10), .int tr], iA G (ad 4) 16 mk] ss.heap := hP
  have hin6 : ∀ w ∈ u_ws RX6 TX6 29, w ∈ wsX6_seenAs := fun w h => List.mem_cons_of_mem _ (List.mem_append_right _ h)
  have hl := lv_entry ([.ref ko, .int (nI x), .int (nI c)]) (n := 3) (Nat.le_of_ble_eq_true rfl)
  rw [lg_entry_eq]
  generalize (lg_sl ([.ref ko, .int (nI x), .int (nI c)]) ++ List.replicate (3 - (lg_sl ([.ref ko, .int (nI x), .int (nI c)])).length) Slot.unset).toArray = ls at hl ⊢
  replace hl : lv_has ls 3 [(0, .ref ko), (1, .int (nI x)), (2, .int (nI c))] := hl
  refine lv_aload_n hx hb dX6_seenAs_0 rfl (lv_at hl 0 rfl) ?_
  refine lv_iload_n hx hb dX6_seenAs_1 rfl (lv_at hl 1 rfl) ?_
  refine xr_i (As := [.int (nI x)]) (rest := []) ⟨hx, hb, hml, hown, hts⟩ (c_X6_sight l G ko ad w h la tp ft tr mv mk x (by first | assumption | omega) (by first | assumption | omega) (by first | assumption | omega) (by first | assumption | omega) (by first | assumption | omega)) (cwV 1 hts gX6_seenAs_X6_sight rfl rfl rfl (by decide +kernel) ⟨Nat.le_of_ble_eq_true rfl, Nat.le_of_ble_eq_true rfl⟩) hK hP hS [0, 1] rfl rfl rfl rfl hl.1 rfl (Nat.le_of_ble_eq_true rfl) dX6_seenAs_2 ⟨Nat.zero_le _, Nat.zero_le _⟩ (fun r2 H locs hp2 hP hS => ?_)
  rw [show r2 = _ from hp2]
  refine lv_iload_n hx hb dX6_seenAs_5 rfl (lv_at hl 2 rfl) ?_
  refine lv_ishr hx hb dX6_seenAs_6 ?_
  refine lv_iconst (v := nI 1) hx hb dX6_seenAs_7 (by decide) ?_
  refine lv_iand hx hb dX6_seenAs_8 ?_
  refine lv_iconst (v := nI 1) hx hb dX6_seenAs_9 (by decide) ?_
  refine lv_icmp_ne (tgt := 22) hx hb dX6_seenAs_10 rfl (fun b10 => ?_) (fun b10 => ?_)
  · skip
    refine lv_bipush (v := (-4)) hx hb dX6_seenAs_22 (by decide) ?_
    refine W.iret (v := (-4)) hx hb hr (fun t ht hW => ⟨⟨(-4), (), rfl, ?_, trivial⟩, hS.F ht⟩) hS.2.2 dX6_seenAs_24
    first | exact (if_pos b10).symm | exact (if_neg b10).symm
  · skip
    refine lv_aload_n hx hb dX6_seenAs_13 rfl (lv_at hl 0 rfl) ?_
    refine va_get (D := G.1) (ci := 6) (v := .ref (ad 4)) (C := RX6) (T := TX6) (N := 29) hx hb hts hin6 hown hK.1 hP 0 rfl rfl 21 (by decide) (hts (.fieldLink RX6 23 "BackLensesModel" "marks" "[I") (List.mem_of_getElem? (i := 1) rfl)) (fun _ h9 => h9) rfl dX6_seenAs_14 ?_
    refine lv_iload_n hx hb dX6_seenAs_17 rfl (lv_at hl 2 rfl) ?_
    refine xn_iald hx hb hK hP 1 rfl (by omega) (by omega) dX6_seenAs_18 ?_
    refine lv_goto (tgt := 24) hx hb dX6_seenAs_19 rfl ?_
    refine W.iret (v := mk c) hx hb hr (fun t ht hW => ⟨⟨mk c, (), rfl, ?_, trivial⟩, hS.F ht⟩) hS.2.2 dX6_seenAs_24
    first | exact (if_pos b10).symm | exact (if_neg b10).symm

abbrev w_X6_daysBy (G : XG) (ko : Nat) (ad : Nat → Nat) (w h la tp : Nat) (ft tr : Int32) (mv : Nat → Int32) (S mk : Nat → Int32) : va_W := [oC ko 6 [.ref (ad 0), .ref (ad 1), .int (nI w), .int (nI h), .int (nI la), .ref (ad 2), .int (mv 0), .int (mv 1), .int (mv 2), .int (mv 3), .int (mv 4), .int (mv 5), .int (mv 6), .ref (ad 3), .int (nI tp), .int (mv 7), .int (mv 8), .int (mv 9), .int (mv 10), .int ft, .int (mv 11), .ref (ad 4), .ref (ad 5), .ref (ad 6), .ref (ad 7), .ref (ad 8), .ref (ad 9), .ref (ad 10), .int tr], iA G (ad 0) 255 S, iA G (ad 4) 16 mk]
abbrev Q_X6_daysBy (G : XG) (sz : Nat) (ko : Nat) (ad : Nat → Nat) (w h la tp : Nat) (ft tr : Int32) (mv : Nat → Int32) (S mk : Nat → Int32) (nc : Nat) (ns n : Nat) : Array Value → State → Outcome → State → Prop := (va_Qi (fun (r : Int32) (u : (Nat → Int32)) => r = dyM w h la S nc n) (xWb G sz (w_X6_daysBy G ko ad w h la tp ft tr mv S mk) (fun u : (Nat → Int32) => [oC ko 6 [.ref (ad 0), .ref (ad 1), .int (nI w), .int (nI h), .int (nI la), .ref (ad 2), .int (mv 0), .int (mv 1), .int (mv 2), .int (mv 3), .int (mv 4), .int (mv 5), .int (mv 6), .ref (ad 3), .int (nI tp), .int (mv 7), .int (mv 8), .int (mv 9), .int (mv 10), .int ft, .int (mv 11), .ref (ad 4), .ref (ad 5), .ref (ad 6), .ref (ad 7), .ref (ad 8), .ref (ad 9), .ref (ad 10), .int tr], iA G (ad 0) 255 S, iA G (ad 4) 16 u])) (va_A (w_X6_daysBy G ko ad w h la tp ft tr mv S mk) sz))
set_option maxHeartbeats 4000000 in
set_option maxRecDepth 100000 in
theorem c_X6_daysBy (l : Launch) (G : XG) (sz : Nat) (ko : Nat) (ad : Nat → Nat) (w h la tp : Nat) (ft tr : Int32) (mv : Nat → Int32) (S mk : Nat → Int32) (nc : Nat) (ns n : Nat) (hw : 1 ≤ w) (hwb : w ≤ 16) (hhb : h ≤ 16) (hwh1 : 1 ≤ w * h) (hwh : w * h ≤ 16) (hla : la ≤ 9) (hs16 : S 16 = nI nc) (hnc : nc ≤ 10) (hs60 : S 60 = nI ns) (hns : ns ≤ 8) (hshown : ∀ i, i < ns → inR (S (61 + 3 * i)) (w * h) ∧ inR (S (61 + 3 * i + 1)) (w * h)) (hnn : n ≤ ns) : Met l yX6_daysBy wsX6_daysBy ({ frames := 4, cells := 0, slots := 0, locals := 89 } : Room) (va_Pc [.ref ko, .int (nI n)] (xWp G sz (w_X6_daysBy G ko ad w h la tp ft tr mv S mk))) (Q_X6_daysBy G sz ko ad w h la tp ft tr mv S mk nc ns n) 0 0 (va_A (w_X6_daysBy G ko ad w h la tp ft tr mv S mk) sz) := by
  refine Met.ofW (cc := cX6_daysBy) (maxL := 7) (ret := (some .int)) (by decide) rfl ?_
  intro pp ee ss mm aa below mt cd s₁ BB hml hv
  obtain ⟨rfl, hsz, hP, hK, hD0⟩ := hv
  have hx := BB.exec
  have hb := BB.bytes
  have hr := BB.returns
  have hts := atoms_spec (ws := wsX6_daysBy) BB.pre
  have hown : ss.vm.findClass RX6 = some mm.cls := findClass_of_methodNamed BB.named
  have hlocks := BB.notSynchronized
  subst hsz
  have hD := hD0.self (sz := ss.heap.size)
  have hA : ∀ q : Nat, ss.heap.size ≤ q → va_A (w_X6_daysBy G ko ad w h la tp ft tr mv S mk) ss.heap.size q := fun q h => Or.inr h
  have hS : va_S (va_A (w_X6_daysBy G ko ad w h la tp ft tr mv S mk) ss.heap.size) ss.heap ss.heap [] := va_S.rf
  replace hD : va_D (va_A (w_X6_daysBy G ko ad w h la tp ft tr mv S mk) ss.heap.size) [oC ko 6 [.ref (ad 0), .ref (ad 1), .int (nI w), .int (nI h), .int (nI la), .ref (ad 2), .int (mv 0), .int (mv 1), .int (mv 2), .int (mv 3), .int (mv 4), .int (mv 5), .int (mv 6), .ref (ad 3), .int (nI tp), .int (mv 7), .int (mv 8), .int (mv 9), .int (mv 10), .int ft, .int (mv 11), .ref (ad 4), .ref (ad 5), .ref (ad 6), .ref (ad 7), .ref (ad 8), .ref (ad 9), .ref (ad 10), .int tr], iA G (ad 0) 255 S, iA G (ad 4) 16 mk] := hD
  replace hP : xP G [oC ko 6 [.ref (ad 0), .ref (ad 1), .int (nI w), .int (nI h), .int (nI la), .ref (ad 2), .int (mv 0), .int (mv 1), .int (mv 2), .int (mv 3), .int (mv 4), .int (mv 5), .int (mv 6), .ref (ad 3), .int (nI tp), .int (mv 7), .int (mv 8), .int (mv 9), .int (mv 10), .int ft, .int (mv 11), .ref (ad 4), .ref (ad 5), .ref (ad 6), .ref (ad 7), .ref (ad 8), .ref (ad 9), .ref (ad 10), .int tr], iA G (ad 0) 255 S, iA G (ad 4) 16 mk] ss.heap := hP
  have hin6 : ∀ w ∈ u_ws RX6 TX6 29, w ∈ wsX6_daysBy := fun w h => List.mem_cons_of_mem _ (List.mem_append_right _ h)
  have hl := lv_entry ([.ref ko, .int (nI n)]) (n := 7) (Nat.le_of_ble_eq_true rfl)
  rw [lg_entry_eq]
  generalize (lg_sl ([.ref ko, .int (nI n)]) ++ List.replicate (7 - (lg_sl ([.ref ko, .int (nI n)])).length) Slot.unset).toArray = ls at hl ⊢
  replace hl : lv_has ls 7 [(0, .ref ko), (1, .int (nI n))] := hl
  refine lv_iconst (v := nI 0) hx hb dX6_daysBy_0 (by decide) ?_
  refine lv_istore_n (lv' := [(2, .int (nI 0)), (0, .ref ko), (1, .int (nI n))]) hx hb dX6_daysBy_1 rfl hl (by decide) rfl (fun ls hl => ?_)
  refine lv_iconst (v := nI 0) hx hb dX6_daysBy_2 (by decide) ?_
  refine lv_istore_n (lv' := [(3, .int (nI 0)), (2, .int (nI 0)), (0, .ref ko), (1, .int (nI n))]) hx hb dX6_daysBy_3 rfl hl (by decide) rfl (fun ls hl => ?_)
  have hL4 : ∀ k : Nat, ∀ (d : Nat) (bits : Int32) (mk3 : Nat → Int32) (ls : Array Slot) (H : Heap) (locs : List Loc), la + 1 - d = k → (d ≤ la + 1) → (bits = xbits (fun d => allF (fitM w h S nc d) n) d) → lv_has ls 7 [(0, .ref ko), (1, .int (nI n)), (2, .int bits), (3, .int (nI d))] → xP G [iA G (ad 0) 255 S, iA G (ad 4) 16 mk3, oC ko 6 [.ref (ad 0), .ref (ad 1), .int (nI w), .int (nI h), .int (nI la), .ref (ad 2), .int (mv 0), .int (mv 1), .int (mv 2), .int (mv 3), .int (mv 4), .int (mv 5), .int (mv 6), .ref (ad 3), .int (nI tp), .int (mv 7), .int (mv 8), .int (mv 9), .int (mv 10), .int ft, .int (mv 11), .ref (ad 4), .ref (ad 5), .ref (ad 6), .ref (ad 7), .ref (ad 8), .ref (ad 9), .ref (ad 10), .int tr]] H → va_D (va_A (w_X6_daysBy G ko ad w h la tp ft tr mv S mk) ss.heap.size) [iA G (ad 0) 255 S, iA G (ad 4) 16 mk3, oC ko 6 [.ref (ad 0), .ref (ad 1), .int (nI w), .int (nI h), .int (nI la), .ref (ad 2), .int (mv 0), .int (mv 1), .int (mv 2), .int (mv 3), .int (mv 4), .int (mv 5), .int (mv 6), .ref (ad 3), .int (nI tp), .int (mv 7), .int (mv 8), .int (mv 9), .int (mv 10), .int ft, .int (mv 11), .ref (ad 4), .ref (ad 5), .ref (ad 6), .ref (ad 7), .ref (ad 8), .ref (ad 9), .ref (ad 10), .int tr]] → va_S (va_A (w_X6_daysBy G ko ad w h la tp ft tr mv S mk) ss.heap.size) ss.heap H locs → W pp l ee ({ frames := 4, cells := 0, slots := 0, locals := 89 } : Room) ss mm ([.ref ko, .int (nI n)] : List Value).toArray below mt cd H locs 0 0 (MQ below (Q_X6_daysBy G ss.heap.size ko ad w h la tp ft tr mv S mk nc ns n) ([.ref ko, .int (nI n)] : List Value).toArray ss 0 0 (va_A (w_X6_daysBy G ko ad w h la tp ft tr mv S mk) ss.heap.size)) (F0 mm 4 ls []) := by
    intro k
    induction k using Nat.strongRecOn with
    | _ k ih4 =>
    intro d bits mk3 ls H locs hm4 hd hbits hl hP hD hS
    refine lv_iload_n hx hb dX6_daysBy_4 rfl (lv_at hl 3 rfl) ?_
    refine lv_aload_n hx hb dX6_daysBy_5 rfl (lv_at hl 0 rfl) ?_
    refine va_get (D := G.1) (ci := 6) (v := .int (nI la)) (C := RX6) (T := TX6) (N := 29) hx hb hts hin6 hown hK.1 hP 2 rfl rfl 4 (by decide) (hts (.fieldLink RX6 78 "BackLensesModel" "last" "I") (List.mem_of_getElem? (i := 1) rfl)) (fun _ h9 => h9) rfl dX6_daysBy_6 ?_
    refine xn_icmp_gt (tgt := 104) hx hb (by omega) (by omega) dX6_daysBy_9 rfl (fun b9 => ?_) (fun b9 => ?_)
    · skip
      refine lv_iload_n hx hb dX6_daysBy_104 rfl (lv_at hl 2 rfl) ?_
      have hP := hP.sub (ws' := [oC ko 6 [.ref (ad 0), .ref (ad 1), .int (nI w), .int (nI h), .int (nI la), .ref (ad 2), .int (mv 0), .int (mv 1), .int (mv 2), .int (mv 3), .int (mv 4), .int (mv 5), .int (mv 6), .ref (ad 3), .int (nI tp), .int (mv 7), .int (mv 8), .int (mv 9), .int (mv 10), .int ft, .int (mv 11), .ref (ad 4), .ref (ad 5), .ref (ad 6), .ref (ad 7), .ref (ad 8), .ref (ad 9), .ref (ad 10), .int tr], iA G (ad 0) 255 S, iA G (ad 4) 16 mk3]) [2, 0, 1] rfl
      have hD := hD.sub (ws' := [oC ko 6 [.ref (ad 0), .ref (ad 1), .int (nI w), .int (nI h), .int (nI la), .ref (ad 2), .int (mv 0), .int (mv 1), .int (mv 2), .int (mv 3), .int (mv 4), .int (mv 5), .int (mv 6), .ref (ad 3), .int (nI tp), .int (mv 7), .int (mv 8), .int (mv 9), .int (mv 10), .int ft, .int (mv 11), .ref (ad 4), .ref (ad 5), .ref (ad 6), .ref (ad 7), .ref (ad 8), .ref (ad 9), .ref (ad 10), .int tr], iA G (ad 0) 255 S, iA G (ad 4) 16 mk3]) [2, 0, 1] (by decide) rfl
      refine W.iret (v := bits) hx hb hr (fun t ht hW => ⟨⟨bits, (mk3), rfl, ?_, by rw [ht]; exact hP, hD⟩, hS.F ht⟩) hS.2.2 dX6_daysBy_105
      rw [hbits, show d = la + 1 by omega]
    · skip
      refine lv_iconst (v := nI 1) hx hb dX6_daysBy_12 (by decide) ?_
      refine lv_istore (lv' := [(4, .int (nI 1)), (0, .ref ko), (1, .int (nI n)), (2, .int bits), (3, .int (nI d))]) hx hb dX6_daysBy_13 hl (by decide) rfl (fun ls hl => ?_)
      refine lv_aload_n hx hb dX6_daysBy_15 rfl (lv_at hl 1 rfl) ?_
      refine lv_iload_n hx hb dX6_daysBy_16 rfl (lv_at hl 4 rfl) ?_
      refine xw_v (As := [.int (nI d)]) (rest := []) (wr := []) ⟨hx, hb, hml, hown, hts⟩ (c_X6_shiftTo l G H.size ko ad w h la tp ft tr mv S mk3 _ d (by first | assumption | omega) (by first | assumption | omega) (by first | assumption | omega)) (cwV 1 hts gX6_daysBy_X6_shiftTo rfl rfl rfl (by decide +kernel) ⟨Nat.le_of_ble_eq_true rfl, Nat.le_of_ble_eq_true rfl⟩) hK hP hD hS hA [2, 0, 1] [] rfl rfl (by decide) (by decide) (by decide) rfl rfl rfl hl.1 rfl (Nat.le_of_ble_eq_true rfl) dX6_daysBy_17 ⟨Nat.le_of_ble_eq_true rfl, Nat.le_of_ble_eq_true rfl⟩ (fun u H locs hp17 hP hD hS => ?_)
      obtain ⟨mk2_17, rfl⟩ : ∃ z, z = u := ⟨_, rfl⟩
      try dsimp only at hp17 hP hD
      have he17 := hp17
      replace hP : xP G [oC ko 6 [.ref (ad 0), .ref (ad 1), .int (nI w), .int (nI h), .int (nI la), .ref (ad 2), .int (mv 0), .int (mv 1), .int (mv 2), .int (mv 3), .int (mv 4), .int (mv 5), .int (mv 6), .ref (ad 3), .int (nI tp), .int (mv 7), .int (mv 8), .int (mv 9), .int (mv 10), .int ft, .int (mv 11), .ref (ad 4), .ref (ad 5), .ref (ad 6), .ref (ad 7), .ref (ad 8), .ref (ad 9), .ref (ad 10), .int tr], iA G (ad 0) 255 S, iA G (ad 4) 16 mk2_17] H := hP
      replace hD : va_D (va_A (w_X6_daysBy G ko ad w h la tp ft tr mv S mk) ss.heap.size) [oC ko 6 [.ref (ad 0), .ref (ad 1), .int (nI w), .int (nI h), .int (nI la), .ref (ad 2), .int (mv 0), .int (mv 1), .int (mv 2), .int (mv 3), .int (mv 4), .int (mv 5), .int (mv 6), .ref (ad 3), .int (nI tp), .int (mv 7), .int (mv 8), .int (mv 9), .int (mv 10), .int ft, .int (mv 11), .ref (ad 4), .ref (ad 5), .ref (ad 6), .ref (ad 7), .ref (ad 8), .ref (ad 9), .ref (ad 10), .int tr], iA G (ad 0) 255 S, iA G (ad 4) 16 mk2_17] := hD
      refine lv_iconst (v := nI 0) hx hb dX6_daysBy_20 (by decide) ?_
      refine lv_istore (lv' := [(5, .int (nI 0)), (4, .int (nI 1)), (0, .ref ko), (1, .int (nI n)), (2, .int bits), (3, .int (nI d))]) hx hb dX6_daysBy_21 hl (by decide) rfl (fun ls hl => ?_)
      have hL23 : ∀ k : Nat, ∀ (i : Nat) (ftt : Int32) (ls : Array Slot) (H : Heap) (locs : List Loc), n - i = k → (i ≤ n) → (ftt = xb (allF (fitM w h S nc d) i = true)) → lv_has ls 7 [(0, .ref ko), (1, .int (nI n)), (2, .int bits), (3, .int (nI d)), (4, .int ftt), (5, .int (nI i))] → xP G [iA G (ad 0) 255 S, iA G (ad 4) 16 mk2_17, oC ko 6 [.ref (ad 0), .ref (ad 1), .int (nI w), .int (nI h), .int (nI la), .ref (ad 2), .int (mv 0), .int (mv 1), .int (mv 2), .int (mv 3), .int (mv 4), .int (mv 5), .int (mv 6), .ref (ad 3), .int (nI tp), .int (mv 7), .int (mv 8), .int (mv 9), .int (mv 10), .int ft, .int (mv 11), .ref (ad 4), .ref (ad 5), .ref (ad 6), .ref (ad 7), .ref (ad 8), .ref (ad 9), .ref (ad 10), .int tr]] H → va_D (va_A (w_X6_daysBy G ko ad w h la tp ft tr mv S mk) ss.heap.size) [iA G (ad 0) 255 S, iA G (ad 4) 16 mk2_17, oC ko 6 [.ref (ad 0), .ref (ad 1), .int (nI w), .int (nI h), .int (nI la), .ref (ad 2), .int (mv 0), .int (mv 1), .int (mv 2), .int (mv 3), .int (mv 4), .int (mv 5), .int (mv 6), .ref (ad 3), .int (nI tp), .int (mv 7), .int (mv 8), .int (mv 9), .int (mv 10), .int ft, .int (mv 11), .ref (ad 4), .ref (ad 5), .ref (ad 6), .ref (ad 7), .ref (ad 8), .ref (ad 9), .ref (ad 10), .int tr]] → va_S (va_A (w_X6_daysBy G ko ad w h la tp ft tr mv S mk) ss.heap.size) ss.heap H locs → W pp l ee ({ frames := 4, cells := 0, slots := 0, locals := 89 } : Room) ss mm ([.ref ko, .int (nI n)] : List Value).toArray below mt cd H locs 0 0 (MQ below (Q_X6_daysBy G ss.heap.size ko ad w h la tp ft tr mv S mk nc ns n) ([.ref ko, .int (nI n)] : List Value).toArray ss 0 0 (va_A (w_X6_daysBy G ko ad w h la tp ft tr mv S mk) ss.heap.size)) (F0 mm 23 ls []) := by
        intro k
        induction k using Nat.strongRecOn with
        | _ k ih23 =>
        intro i ftt ls H locs hm23 hi hft hl hP hD hS
        refine lv_iload hx hb dX6_daysBy_23 (lv_at hl 5 rfl) ?_
        refine lv_iload_n hx hb dX6_daysBy_25 rfl (lv_at hl 1 rfl) ?_
        refine xn_icmp_ge (tgt := 88) hx hb (by omega) (by omega) dX6_daysBy_26 rfl (fun b26 => ?_) (fun b26 => ?_)
        · skip
          refine lv_iload_n hx hb dX6_daysBy_88 rfl (lv_at hl 2 rfl) ?_
          refine lv_iload hx hb dX6_daysBy_89 (lv_at hl 4 rfl) ?_
          refine xn_top hft ?_
          refine xs_i (As := [.int (xb (allF (fitM w h S nc d) i = true))]) (rest := [.int bits]) ⟨hx, hb, hml, hown, hts⟩ (c_X6_flag l G (allF (fitM w h S nc d) i = true) _ ) (va_cwS 1 hts gX6_daysBy_X6_flag rfl rfl rfl (by decide +kernel) ⟨Nat.le_of_ble_eq_true rfl, Nat.le_of_ble_eq_true rfl⟩) hP hS rfl hl.1 rfl (Nat.le_of_ble_eq_true rfl) dX6_daysBy_91 ⟨Nat.zero_le _, Nat.zero_le _⟩ (fun r91 H locs hp91 hP hS => ?_)
          rw [show r91 = _ from hp91]
          refine lv_iload_n hx hb dX6_daysBy_94 rfl (lv_at hl 3 rfl) ?_
          refine lv_ishl hx hb dX6_daysBy_95 ?_
          refine lv_ior hx hb dX6_daysBy_96 ?_
          refine lv_istore_n (lv' := [(2, .int (bits ||| ((xb ((allF (fitM w h S nc d) i = true))) <<< ((nI d) &&& 31)))), (0, .ref ko), (1, .int (nI n)), (3, .int (nI d)), (4, .int ftt), (5, .int (nI i))]) hx hb dX6_daysBy_97 rfl hl (by decide) rfl (fun ls hl => ?_)
          refine lv_iinc (k := 3) (v := nI (d + 1)) (lv' := [(3, .int (nI (d + 1))), (2, .int (bits ||| ((xb ((allF (fitM w h S nc d) i = true))) <<< ((nI d) &&& 31)))), (0, .ref ko), (1, .int (nI n)), (4, .int ftt), (5, .int (nI i))]) hx hb dX6_daysBy_98 hl rfl (xn_inc d 1) (by decide) rfl (fun ls hl => ?_)
          refine lv_goto (tgt := 4) hx hb dX6_daysBy_101 rfl ?_
          have hl := lv_sub hl (l' := [(0, .ref ko), (1, .int (nI n)), (2, .int (bits ||| ((xb ((allF (fitM w h S nc d) i = true))) <<< ((nI d) &&& 31)))), (3, .int (nI (d + 1)))]) [2, 3, 1, 0] rfl
          exact ih4 (la + 1 - (d + 1)) (by omega) (d + 1) (bits ||| ((xb ((allF (fitM w h S nc d) i = true))) <<< ((nI d) &&& 31))) mk2_17 ls H locs rfl (by omega) (by exact xbits_flag (by rw [show i = n by omega]; simp) hbits) hl hP hD hS
        · skip
          refine lv_bipush (v := nI 61) hx hb dX6_daysBy_29 (by decide) ?_
          refine lv_iconst (v := nI 3) hx hb dX6_daysBy_31 (by decide) ?_
          refine lv_iload hx hb dX6_daysBy_32 (lv_at hl 5 rfl) ?_
          refine xn_imul hx hb dX6_daysBy_34 ?_
          refine xn_iadd hx hb dX6_daysBy_35 ?_
          refine lv_istore (lv' := [(6, .int (nI (61 + (3 * i)))), (0, .ref ko), (1, .int (nI n)), (2, .int bits), (3, .int (nI d)), (4, .int ftt), (5, .int (nI i))]) hx hb dX6_daysBy_36 hl (by decide) rfl (fun ls hl => ?_)
          refine lv_iload hx hb dX6_daysBy_38 (lv_at hl 5 rfl) ?_
          refine lv_if_eq (tgt := 79) hx hb dX6_daysBy_40 rfl (fun b40 => ?_) (fun b40 => ?_)
          · skip
            have hno : allF (fitM w h S nc d) i = false := (by rw [hft] at b40; exact Bool.eq_false_iff.mpr (xb_0.mp b40))
            refine lv_iconst (v := nI 0) hx hb dX6_daysBy_79 (by decide) ?_
            refine lv_istore (lv' := [(4, .int (nI 0)), (6, .int (nI (61 + (3 * i)))), (0, .ref ko), (1, .int (nI n)), (2, .int bits), (3, .int (nI d)), (5, .int (nI i))]) hx hb dX6_daysBy_80 hl (by decide) rfl (fun ls hl => ?_)
            refine lv_iinc (k := 6) (v := nI (i + 1)) (lv' := [(5, .int (nI (i + 1))), (4, .int (nI 0)), (6, .int (nI (61 + (3 * i)))), (0, .ref ko), (1, .int (nI n)), (2, .int bits), (3, .int (nI d))]) hx hb dX6_daysBy_82 hl rfl (xn_inc i 1) (by decide) rfl (fun ls hl => ?_)
            refine lv_goto (tgt := 23) hx hb dX6_daysBy_85 rfl ?_
            have hl := lv_sub hl (l' := [(0, .ref ko), (1, .int (nI n)), (2, .int bits), (3, .int (nI d)), (4, .int (nI 0)), (5, .int (nI (i + 1)))]) [3, 4, 5, 6, 1, 0] rfl
            exact ih23 (n - (i + 1)) (by omega) (i + 1) (nI 0) ls H locs rfl (by omega) (by first | exact (xb_f (fun q => by rw [allF, hno, Bool.false_and] at q; cases q)).symm | exact (xb_t (by rw [allF, hfi, Bool.true_and]; exact decide_eq_true (by rw [ex0, ec0, tn_nI (by omega), tn_nI (by omega)]; exact b72))).symm | exact (xb_f (fun q => by rw [allF, hfi, Bool.true_and] at q; have q2 := of_decide_eq_true q; rw [ex0, ec0, tn_nI (by omega), tn_nI (by omega)] at q2; exact b72 q2)).symm) hl hP hD hS
          · skip
            have hfi : allF (fitM w h S nc d) i = true := (by rw [hft] at b40; exact Decidable.not_not.mp (fun q => b40 (xb_0.mpr q)))
            refine lv_aload_n hx hb dX6_daysBy_43 rfl (lv_at hl 1 rfl) ?_
            refine lv_aload_n hx hb dX6_daysBy_44 rfl (lv_at hl 1 rfl) ?_
            refine va_get (D := G.1) (ci := 6) (v := .ref (ad 0)) (C := RX6) (T := TX6) (N := 29) hx hb hts hin6 hown hK.1 hP 2 rfl rfl 0 (by decide) (hts (.fieldLink RX6 7 "BackLensesModel" "st" "[I") (List.mem_of_getElem? (i := 2) rfl)) (fun _ h9 => h9) rfl dX6_daysBy_45 ?_
            refine lv_iload hx hb dX6_daysBy_48 (lv_at hl 0 rfl) ?_
            refine xn_iald hx hb hK hP 0 rfl (by omega) (by omega) dX6_daysBy_50 ?_
            obtain ⟨x0, hx0, ex0⟩ := inR_nat (hshown i (by omega)).1
            refine xn_top ex0 ?_
            refine lv_aload_n hx hb dX6_daysBy_51 rfl (lv_at hl 1 rfl) ?_
            refine va_get (D := G.1) (ci := 6) (v := .ref (ad 0)) (C := RX6) (T := TX6) (N := 29) hx hb hts hin6 hown hK.1 hP 2 rfl rfl 0 (by decide) (hts (.fieldLink RX6 7 "BackLensesModel" "st" "[I") (List.mem_of_getElem? (i := 2) rfl)) (fun _ h9 => h9) rfl dX6_daysBy_52 ?_
            refine lv_iload hx hb dX6_daysBy_55 (lv_at hl 0 rfl) ?_
            refine lv_iconst (v := nI 1) hx hb dX6_daysBy_57 (by decide) ?_
            refine xn_iadd hx hb dX6_daysBy_58 ?_
            refine xn_iald hx hb hK hP 0 rfl (by omega) (by omega) dX6_daysBy_59 ?_
            obtain ⟨c0, hc0, ec0⟩ := inR_nat (hshown i (by omega)).2
            refine xn_top ec0 ?_
            refine xr_i (As := [.int (nI x0), .int (nI c0)]) (rest := []) ⟨hx, hb, hml, hown, hts⟩ (c_X6_seenAs l G ko ad w h la tp ft tr mv mk2_17 x0 c0 (by first | assumption | omega) (by first | assumption | omega) (by first | assumption | omega) (by first | assumption | omega) (by first | assumption | omega) (by first | assumption | omega) (by first | assumption | omega)) (cwV 2 hts gX6_daysBy_X6_seenAs rfl rfl rfl (by decide +kernel) ⟨Nat.le_of_ble_eq_true rfl, Nat.le_of_ble_eq_true rfl⟩) hK hP hS [2, 1] rfl rfl rfl rfl hl.1 rfl (Nat.le_of_ble_eq_true rfl) dX6_daysBy_60 ⟨Nat.zero_le _, Nat.zero_le _⟩ (fun r60 H locs hp60 hP hS => ?_)
            rw [show r60 = _ from hp60]
            refine xn_top (show (if (sgF w h mk2_17 x0 >>> (nI c0 &&& 31)) &&& nI 1 = nI 1 then mk2_17 c0 else (-4)) = anM w h S nc x0 c0 d from (by rw [he17 c0 (by omega), sgF_congr (row := mk2_17) (row' := fun c => mkM S nc c d) (by omega) (by omega) (fun c q => he17 c (by omega))])) ?_
            refine lv_aload_n hx hb dX6_daysBy_63 rfl (lv_at hl 1 rfl) ?_
            refine va_get (D := G.1) (ci := 6) (v := .ref (ad 0)) (C := RX6) (T := TX6) (N := 29) hx hb hts hin6 hown hK.1 hP 2 rfl rfl 0 (by decide) (hts (.fieldLink RX6 7 "BackLensesModel" "st" "[I") (List.mem_of_getElem? (i := 2) rfl)) (fun _ h9 => h9) rfl dX6_daysBy_64 ?_
            refine lv_iload hx hb dX6_daysBy_67 (lv_at hl 0 rfl) ?_
            refine lv_iconst (v := nI 2) hx hb dX6_daysBy_69 (by decide) ?_
            refine xn_iadd hx hb dX6_daysBy_70 ?_
            refine xn_iald hx hb hK hP 0 rfl (by omega) (by omega) dX6_daysBy_71 ?_
            refine lv_icmp_ne (tgt := 79) hx hb dX6_daysBy_72 rfl (fun b72 => ?_) (fun b72 => ?_)
            · skip
              refine lv_iconst (v := nI 0) hx hb dX6_daysBy_79 (by decide) ?_
              refine lv_istore (lv' := [(4, .int (nI 0)), (6, .int (nI (61 + (3 * i)))), (0, .ref ko), (1, .int (nI n)), (2, .int bits), (3, .int (nI d)), (5, .int (nI i))]) hx hb dX6_daysBy_80 hl (by decide) rfl (fun ls hl => ?_)
              refine lv_iinc (k := 6) (v := nI (i + 1)) (lv' := [(5, .int (nI (i + 1))), (4, .int (nI 0)), (6, .int (nI (61 + (3 * i)))), (0, .ref ko), (1, .int (nI n)), (2, .int bits), (3, .int (nI d))]) hx hb dX6_daysBy_82 hl rfl (xn_inc i 1) (by decide) rfl (fun ls hl => ?_)
              refine lv_goto (tgt := 23) hx hb dX6_daysBy_85 rfl ?_
              have hl := lv_sub hl (l' := [(0, .ref ko), (1, .int (nI n)), (2, .int bits), (3, .int (nI d)), (4, .int (nI 0)), (5, .int (nI (i + 1)))]) [3, 4, 5, 6, 1, 0] rfl
              exact ih23 (n - (i + 1)) (by omega) (i + 1) (nI 0) ls H locs rfl (by omega) (by first | exact (xb_f (fun q => by rw [allF, hno, Bool.false_and] at q; cases q)).symm | exact (xb_t (by rw [allF, hfi, Bool.true_and]; exact decide_eq_true (by rw [ex0, ec0, tn_nI (by omega), tn_nI (by omega)]; exact b72))).symm | exact (xb_f (fun q => by rw [allF, hfi, Bool.true_and] at q; have q2 := of_decide_eq_true q; rw [ex0, ec0, tn_nI (by omega), tn_nI (by omega)] at q2; exact b72 q2)).symm) hl hP hD hS
            · skip
              refine lv_iconst (v := nI 1) hx hb dX6_daysBy_75 (by decide) ?_
              refine lv_goto (tgt := 80) hx hb dX6_daysBy_76 rfl ?_
              refine lv_istore (lv' := [(4, .int (nI 1)), (6, .int (nI (61 + (3 * i)))), (0, .ref ko), (1, .int (nI n)), (2, .int bits), (3, .int (nI d)), (5, .int (nI i))]) hx hb dX6_daysBy_80 hl (by decide) rfl (fun ls hl => ?_)
              refine lv_iinc (k := 6) (v := nI (i + 1)) (lv' := [(5, .int (nI (i + 1))), (4, .int (nI 1)), (6, .int (nI (61 + (3 * i)))), (0, .ref ko), (1, .int (nI n)), (2, .int bits), (3, .int (nI d))]) hx hb dX6_daysBy_82 hl rfl (xn_inc i 1) (by decide) rfl (fun ls hl => ?_)
              refine lv_goto (tgt := 23) hx hb dX6_daysBy_85 rfl ?_
              have hl := lv_sub hl (l' := [(0, .ref ko), (1, .int (nI n)), (2, .int bits), (3, .int (nI d)), (4, .int (nI 1)), (5, .int (nI (i + 1)))]) [3, 4, 5, 6, 1, 0] rfl
              exact ih23 (n - (i + 1)) (by omega) (i + 1) (nI 1) ls H locs rfl (by omega) (by first | exact (xb_f (fun q => by rw [allF, hno, Bool.false_and] at q; cases q)).symm | exact (xb_t (by rw [allF, hfi, Bool.true_and]; exact decide_eq_true (by rw [ex0, ec0, tn_nI (by omega), tn_nI (by omega)]; exact b72))).symm | exact (xb_f (fun q => by rw [allF, hfi, Bool.true_and] at q; have q2 := of_decide_eq_true q; rw [ex0, ec0, tn_nI (by omega), tn_nI (by omega)] at q2; exact b72 q2)).symm) hl hP hD hS
      have hl := lv_sub hl (l' := [(0, .ref ko), (1, .int (nI n)), (2, .int bits), (3, .int (nI d)), (4, .int (nI 1)), (5, .int (nI 0))]) [2, 3, 4, 5, 1, 0] rfl
      have hP := hP.sub (ws' := [iA G (ad 0) 255 S, iA G (ad 4) 16 mk2_17, oC ko 6 [.ref (ad 0), .ref (ad 1), .int (nI w), .int (nI h), .int (nI la), .ref (ad 2), .int (mv 0), .int (mv 1), .int (mv 2), .int (mv 3), .int (mv 4), .int (mv 5), .int (mv 6), .ref (ad 3), .int (nI tp), .int (mv 7), .int (mv 8), .int (mv 9), .int (mv 10), .int ft, .int (mv 11), .ref (ad 4), .ref (ad 5), .ref (ad 6), .ref (ad 7), .ref (ad 8), .ref (ad 9), .ref (ad 10), .int tr]]) [1, 2, 0] rfl
      have hD := hD.sub (ws' := [iA G (ad 0) 255 S, iA G (ad 4) 16 mk2_17, oC ko 6 [.ref (ad 0), .ref (ad 1), .int (nI w), .int (nI h), .int (nI la), .ref (ad 2), .int (mv 0), .int (mv 1), .int (mv 2), .int (mv 3), .int (mv 4), .int (mv 5), .int (mv 6), .ref (ad 3), .int (nI tp), .int (mv 7), .int (mv 8), .int (mv 9), .int (mv 10), .int ft, .int (mv 11), .ref (ad 4), .ref (ad 5), .ref (ad 6), .ref (ad 7), .ref (ad 8), .ref (ad 9), .ref (ad 10), .int tr]]) [1, 2, 0] (by decide) rfl
      exact hL23 (n - 0) 0 (nI 1) ls H locs rfl (by omega) (by exact (xb_t rfl).symm) hl hP hD hS
  have hl := lv_sub hl (l' := [(0, .ref ko), (1, .int (nI n)), (2, .int (nI 0)), (3, .int (nI 0))]) [2, 3, 1, 0] rfl
  have hP := hP.sub (ws' := [iA G (ad 0) 255 S, iA G (ad 4) 16 mk, oC ko 6 [.ref (ad 0), .ref (ad 1), .int (nI w), .int (nI h), .int (nI la), .ref (ad 2), .int (mv 0), .int (mv 1), .int (mv 2), .int (mv 3), .int (mv 4), .int (mv 5), .int (mv 6), .ref (ad 3), .int (nI tp), .int (mv 7), .int (mv 8), .int (mv 9), .int (mv 10), .int ft, .int (mv 11), .ref (ad 4), .ref (ad 5), .ref (ad 6), .ref (ad 7), .ref (ad 8), .ref (ad 9), .ref (ad 10), .int tr]]) [1, 2, 0] rfl
  have hD := hD.sub (ws' := [iA G (ad 0) 255 S, iA G (ad 4) 16 mk, oC ko 6 [.ref (ad 0), .ref (ad 1), .int (nI w), .int (nI h), .int (nI la), .ref (ad 2), .int (mv 0), .int (mv 1), .int (mv 2), .int (mv 3), .int (mv 4), .int (mv 5), .int (mv 6), .ref (ad 3), .int (nI tp), .int (mv 7), .int (mv 8), .int (mv 9), .int (mv 10), .int ft, .int (mv 11), .ref (ad 4), .ref (ad 5), .ref (ad 6), .ref (ad 7), .ref (ad 8), .ref (ad 9), .ref (ad 10), .int tr]]) [1, 2, 0] (by decide) rfl
  exact hL4 (la + 1 - 0) 0 (nI 0) mk ls ss.heap [] rfl (by omega) (by rfl) hl hP hD hS

abbrev w_X6_days (G : XG) (ko : Nat) (ad : Nat → Nat) (w h la tp : Nat) (ft tr : Int32) (mv : Nat → Int32) (S mk : Nat → Int32) : va_W := [oC ko 6 [.ref (ad 0), .ref (ad 1), .int (nI w), .int (nI h), .int (nI la), .ref (ad 2), .int (mv 0), .int (mv 1), .int (mv 2), .int (mv 3), .int (mv 4), .int (mv 5), .int (mv 6), .ref (ad 3), .int (nI tp), .int (mv 7), .int (mv 8), .int (mv 9), .int (mv 10), .int ft, .int (mv 11), .ref (ad 4), .ref (ad 5), .ref (ad 6), .ref (ad 7), .ref (ad 8), .ref (ad 9), .ref (ad 10), .int tr], iA G (ad 0) 255 S, iA G (ad 4) 16 mk]
abbrev Q_X6_days (G : XG) (sz : Nat) (ko : Nat) (ad : Nat → Nat) (w h la tp : Nat) (ft tr : Int32) (mv : Nat → Int32) (S mk : Nat → Int32) (nc : Nat) (ns : Nat) : Array Value → State → Outcome → State → Prop := (va_Qi (fun (r : Int32) (u : (Nat → Int32)) => r = dyM w h la S nc ns) (xWb G sz (w_X6_days G ko ad w h la tp ft tr mv S mk) (fun u : (Nat → Int32) => [oC ko 6 [.ref (ad 0), .ref (ad 1), .int (nI w), .int (nI h), .int (nI la), .ref (ad 2), .int (mv 0), .int (mv 1), .int (mv 2), .int (mv 3), .int (mv 4), .int (mv 5), .int (mv 6), .ref (ad 3), .int (nI tp), .int (mv 7), .int (mv 8), .int (mv 9), .int (mv 10), .int ft, .int (mv 11), .ref (ad 4), .ref (ad 5), .ref (ad 6), .ref (ad 7), .ref (ad 8), .ref (ad 9), .ref (ad 10), .int tr], iA G (ad 0) 255 S, iA G (ad 4) 16 u])) (va_A (w_X6_days G ko ad w h la tp ft tr mv S mk) sz))
set_option maxHeartbeats 4000000 in
set_option maxRecDepth 100000 in
theorem c_X6_days (l : Launch) (G : XG) (sz : Nat) (ko : Nat) (ad : Nat → Nat) (w h la tp : Nat) (ft tr : Int32) (mv : Nat → Int32) (S mk : Nat → Int32) (nc : Nat) (ns : Nat) (hw : 1 ≤ w) (hwb : w ≤ 16) (hhb : h ≤ 16) (hwh1 : 1 ≤ w * h) (hwh : w * h ≤ 16) (hla : la ≤ 9) (hs16 : S 16 = nI nc) (hnc : nc ≤ 10) (hs60 : S 60 = nI ns) (hns : ns ≤ 8) (hshown : ∀ i, i < ns → inR (S (61 + 3 * i)) (w * h) ∧ inR (S (61 + 3 * i + 1)) (w * h)) : Met l yX6_days wsX6_days ({ frames := 5, cells := 0, slots := 0, locals := 115 } : Room) (va_Pc [.ref ko] (xWp G sz (w_X6_days G ko ad w h la tp ft tr mv S mk))) (Q_X6_days G sz ko ad w h la tp ft tr mv S mk nc ns) 0 0 (va_A (w_X6_days G ko ad w h la tp ft tr mv S mk) sz) := by
  refine Met.ofW (cc := cX6_days) (maxL := 1) (ret := (some .int)) (by decide) rfl ?_
  intro pp ee ss mm aa below mt cd s₁ BB hml hv
  obtain ⟨rfl, hsz, hP, hK, hD0⟩ := hv
  have hx := BB.exec
  have hb := BB.bytes
  have hr := BB.returns
  have hts := atoms_spec (ws := wsX6_days) BB.pre
  have hown : ss.vm.findClass RX6 = some mm.cls := findClass_of_methodNamed BB.named
  have hlocks := BB.notSynchronized
  subst hsz
  have hD := hD0.self (sz := ss.heap.size)
  have hA : ∀ q : Nat, ss.heap.size ≤ q → va_A (w_X6_days G ko ad w h la tp ft tr mv S mk) ss.heap.size q := fun q h => Or.inr h
  have hS : va_S (va_A (w_X6_days G ko ad w h la tp ft tr mv S mk) ss.heap.size) ss.heap ss.heap [] := va_S.rf
  replace hD : va_D (va_A (w_X6_days G ko ad w h la tp ft tr mv S mk) ss.heap.size) [oC ko 6 [.ref (ad 0), .ref (ad 1), .int (nI w), .int (nI h), .int (nI la), .ref (ad 2), .int (mv 0), .int (mv 1), .int (mv 2), .int (mv 3), .int (mv 4), .int (mv 5), .int (mv 6), .ref (ad 3), .int (nI tp), .int (mv 7), .int (mv 8), .int (mv 9), .int (mv 10), .int ft, .int (mv 11), .ref (ad 4), .ref (ad 5), .ref (ad 6), .ref (ad 7), .ref (ad 8), .ref (ad 9), .ref (ad 10), .int tr], iA G (ad 0) 255 S, iA G (ad 4) 16 mk] := hD
  replace hP : xP G [oC ko 6 [.ref (ad 0), .ref (ad 1), .int (nI w), .int (nI h), .int (nI la), .ref (ad 2), .int (mv 0), .int (mv 1), .int (mv 2), .int (mv 3), .int (mv 4), .int (mv 5), .int (mv 6), .ref (ad 3), .int (nI tp), .int (mv 7), .int (mv 8), .int (mv 9), .int (mv 10), .int ft, .int (mv 11), .ref (ad 4), .ref (ad 5), .ref (ad 6), .ref (ad 7), .ref (ad 8), .ref (ad 9), .ref (ad 10), .int tr], iA G (ad 0) 255 S, iA G (ad 4) 16 mk] ss.heap := hP
  have hin6 : ∀ w ∈ u_ws RX6 TX6 29, w ∈ wsX6_days := fun w h => List.mem_cons_of_mem _ (List.mem_append_right _ h)
  have hl := lv_entry ([.ref ko]) (n := 1) (Nat.le_of_ble_eq_true rfl)
  rw [lg_entry_eq]
  generalize (lg_sl ([.ref ko]) ++ List.replicate (1 - (lg_sl ([.ref ko])).length) Slot.unset).toArray = ls at hl ⊢
  replace hl : lv_has ls 1 [(0, .ref ko)] := hl
  refine lv_aload_n hx hb dX6_days_0 rfl (lv_at hl 0 rfl) ?_
  refine lv_aload_n hx hb dX6_days_1 rfl (lv_at hl 0 rfl) ?_
  refine va_get (D := G.1) (ci := 6) (v := .ref (ad 0)) (C := RX6) (T := TX6) (N := 29) hx hb hts hin6 hown hK.1 hP 0 rfl rfl 0 (by decide) (hts (.fieldLink RX6 7 "BackLensesModel" "st" "[I") (List.mem_of_getElem? (i := 1) rfl)) (fun _ h9 => h9) rfl dX6_days_2 ?_
  refine lv_bipush (v := nI 60) hx hb dX6_days_5 (by decide) ?_
  refine xn_iald hx hb hK hP 1 rfl (by omega) (by omega) dX6_days_7 ?_
  refine xn_top (y := nI ns) (by exact hs60) ?_
  refine xw_i (As := [.int (nI ns)]) (rest := []) (wr := []) ⟨hx, hb, hml, hown, hts⟩ (c_X6_daysBy l G ss.heap.size ko ad w h la tp ft tr mv S mk _ _ ns (by first | assumption | omega) (by first | assumption | omega) (by first | assumption | omega) (by first | assumption | omega) (by first | assumption | omega) (by first | assumption | omega) (by first | assumption | omega) (by first | assumption | omega) (by first | assumption | omega) (by first | assumption | omega) (by first | assumption | omega) (by first | assumption | omega)) (cwV 1 hts gX6_days_X6_daysBy rfl rfl rfl (by decide +kernel) ⟨Nat.le_of_ble_eq_true rfl, Nat.le_of_ble_eq_true rfl⟩) hK hP hD hS hA [0, 1, 2] [] rfl rfl (by decide) (by decide) (by decide) rfl rfl rfl hl.1 rfl (Nat.le_of_ble_eq_true rfl) dX6_days_8 ⟨Nat.le_of_ble_eq_true rfl, Nat.le_of_ble_eq_true rfl⟩ (fun r8 u H locs hp8 hP hD hS => ?_)
  obtain ⟨mk2_8, rfl⟩ : ∃ z, z = u := ⟨_, rfl⟩
  try dsimp only at hp8 hP hD
  obtain rfl := hp8
  replace hP : xP G [oC ko 6 [.ref (ad 0), .ref (ad 1), .int (nI w), .int (nI h), .int (nI la), .ref (ad 2), .int (mv 0), .int (mv 1), .int (mv 2), .int (mv 3), .int (mv 4), .int (mv 5), .int (mv 6), .ref (ad 3), .int (nI tp), .int (mv 7), .int (mv 8), .int (mv 9), .int (mv 10), .int ft, .int (mv 11), .ref (ad 4), .ref (ad 5), .ref (ad 6), .ref (ad 7), .ref (ad 8), .ref (ad 9), .ref (ad 10), .int tr], iA G (ad 0) 255 S, iA G (ad 4) 16 mk2_8] H := hP
  replace hD : va_D (va_A (w_X6_days G ko ad w h la tp ft tr mv S mk) ss.heap.size) [oC ko 6 [.ref (ad 0), .ref (ad 1), .int (nI w), .int (nI h), .int (nI la), .ref (ad 2), .int (mv 0), .int (mv 1), .int (mv 2), .int (mv 3), .int (mv 4), .int (mv 5), .int (mv 6), .ref (ad 3), .int (nI tp), .int (mv 7), .int (mv 8), .int (mv 9), .int (mv 10), .int ft, .int (mv 11), .ref (ad 4), .ref (ad 5), .ref (ad 6), .ref (ad 7), .ref (ad 8), .ref (ad 9), .ref (ad 10), .int tr], iA G (ad 0) 255 S, iA G (ad 4) 16 mk2_8] := hD
  have hP := hP.sub (ws' := [oC ko 6 [.ref (ad 0), .ref (ad 1), .int (nI w), .int (nI h), .int (nI la), .ref (ad 2), .int (mv 0), .int (mv 1), .int (mv 2), .int (mv 3), .int (mv 4), .int (mv 5), .int (mv 6), .ref (ad 3), .int (nI tp), .int (mv 7), .int (mv 8), .int (mv 9), .int (mv 10), .int ft, .int (mv 11), .ref (ad 4), .ref (ad 5), .ref (ad 6), .ref (ad 7), .ref (ad 8), .ref (ad 9), .ref (ad 10), .int tr], iA G (ad 0) 255 S, iA G (ad 4) 16 mk2_8]) [0, 1, 2] rfl
  have hD := hD.sub (ws' := [oC ko 6 [.ref (ad 0), .ref (ad 1), .int (nI w), .int (nI h), .int (nI la), .ref (ad 2), .int (mv 0), .int (mv 1), .int (mv 2), .int (mv 3), .int (mv 4), .int (mv 5), .int (mv 6), .ref (ad 3), .int (nI tp), .int (mv 7), .int (mv 8), .int (mv 9), .int (mv 10), .int ft, .int (mv 11), .ref (ad 4), .ref (ad 5), .ref (ad 6), .ref (ad 7), .ref (ad 8), .ref (ad 9), .ref (ad 10), .int tr], iA G (ad 0) 255 S, iA G (ad 4) 16 mk2_8]) [0, 1, 2] (by decide) rfl
  refine W.iret (v := dyM w h la S _ ns) hx hb hr (fun t ht hW => ⟨⟨dyM w h la S _ ns, (mk2_8), rfl, ?_, by rw [ht]; exact hP, hD⟩, hS.F ht⟩) hS.2.2 dX6_days_11
  rfl

abbrev w_X6_lie (G : XG) (ko : Nat) (ad : Nat → Nat) (w h la tp : Nat) (ft tr : Int32) (mv : Nat → Int32) (S mk : Nat → Int32) : va_W := [oC ko 6 [.ref (ad 0), .ref (ad 1), .int (nI w), .int (nI h), .int (nI la), .ref (ad 2), .int (mv 0), .int (mv 1), .int (mv 2), .int (mv 3), .int (mv 4), .int (mv 5), .int (mv 6), .ref (ad 3), .int (nI tp), .int (mv 7), .int (mv 8), .int (mv 9), .int (mv 10), .int ft, .int (mv 11), .ref (ad 4), .ref (ad 5), .ref (ad 6), .ref (ad 7), .ref (ad 8), .ref (ad 9), .ref (ad 10), .int tr], iA G (ad 0) 255 S, iA G (ad 4) 16 mk]
abbrev Q_X6_lie (G : XG) (sz : Nat) (ko : Nat) (ad : Nat → Nat) (w h la tp : Nat) (ft tr : Int32) (mv : Nat → Int32) (S mk : Nat → Int32) (nc : Nat) (ns : Nat) : Array Value → State → Outcome → State → Prop := (va_Qi (fun (r : Int32) (u : (Nat → Int32)) => r = firstF (fun i => decide (dyM w h la S nc (i + 1) = 0)) ns 0) (xWb G sz (w_X6_lie G ko ad w h la tp ft tr mv S mk) (fun u : (Nat → Int32) => [oC ko 6 [.ref (ad 0), .ref (ad 1), .int (nI w), .int (nI h), .int (nI la), .ref (ad 2), .int (mv 0), .int (mv 1), .int (mv 2), .int (mv 3), .int (mv 4), .int (mv 5), .int (mv 6), .ref (ad 3), .int (nI tp), .int (mv 7), .int (mv 8), .int (mv 9), .int (mv 10), .int ft, .int (mv 11), .ref (ad 4), .ref (ad 5), .ref (ad 6), .ref (ad 7), .ref (ad 8), .ref (ad 9), .ref (ad 10), .int tr], iA G (ad 0) 255 S, iA G (ad 4) 16 u])) (va_A (w_X6_lie G ko ad w h la tp ft tr mv S mk) sz))
set_option maxHeartbeats 4000000 in
set_option maxRecDepth 100000 in
theorem c_X6_lie (l : Launch) (G : XG) (sz : Nat) (ko : Nat) (ad : Nat → Nat) (w h la tp : Nat) (ft tr : Int32) (mv : Nat → Int32) (S mk : Nat → Int32) (nc : Nat) (ns : Nat) (hw : 1 ≤ w) (hwb : w ≤ 16) (hhb : h ≤ 16) (hwh1 : 1 ≤ w * h) (hwh : w * h ≤ 16) (hla : la ≤ 9) (hs16 : S 16 = nI nc) (hnc : nc ≤ 10) (hs60 : S 60 = nI ns) (hns : ns ≤ 8) (hshown : ∀ i, i < ns → inR (S (61 + 3 * i)) (w * h) ∧ inR (S (61 + 3 * i + 1)) (w * h)) : Met l yX6_lie wsX6_lie ({ frames := 5, cells := 0, slots := 0, locals := 115 } : Room) (va_Pc [.ref ko] (xWp G sz (w_X6_lie G ko ad w h la tp ft tr mv S mk))) (Q_X6_lie G sz ko ad w h la tp ft tr mv S mk nc ns) 0 0 (va_A (w_X6_lie G ko ad w h la tp ft tr mv S mk) sz) := by
  refine Met.ofW (cc := cX6_lie) (maxL := 2) (ret := (some .int)) (by decide) rfl ?_
  intro pp ee ss mm aa below mt cd s₁ BB hml hv
  obtain ⟨rfl, hsz, hP, hK, hD0⟩ := hv
  have hx := BB.exec
  have hb := BB.bytes
  have hr := BB.returns
  have hts := atoms_spec (ws := wsX6_lie) BB.pre
  have hown : ss.vm.findClass RX6 = some mm.cls := findClass_of_methodNamed BB.named
  have hlocks := BB.notSynchronized
  subst hsz
  have hD := hD0.self (sz := ss.heap.size)
  have hA : ∀ q : Nat, ss.heap.size ≤ q → va_A (w_X6_lie G ko ad w h la tp ft tr mv S mk) ss.heap.size q := fun q h => Or.inr h
  have hS : va_S (va_A (w_X6_lie G ko ad w h la tp ft tr mv S mk) ss.heap.size) ss.heap ss.heap [] := va_S.rf
  replace hD : va_D (va_A (w_X6_lie G ko ad w h la tp ft tr mv S mk) ss.heap.size) [oC ko 6 [.ref (ad 0), .ref (ad 1), .int (nI w), .int (nI h), .int (nI la), .ref (ad 2), .int (mv 0), .int (mv 1), .int (mv 2), .int (mv 3), .int (mv 4), .int (mv 5), .int (mv 6), .ref (ad 3), .int (nI tp), .int (mv 7), .int (mv 8), .int (mv 9), .int (mv 10), .int ft, .int (mv 11), .ref (ad 4), .ref (ad 5), .ref (ad 6), .ref (ad 7), .ref (ad 8), .ref (ad 9), .ref (ad 10), .int tr], iA G (ad 0) 255 S, iA G (ad 4) 16 mk] := hD
  replace hP : xP G [oC ko 6 [.ref (ad 0), .ref (ad 1), .int (nI w), .int (nI h), .int (nI la), .ref (ad 2), .int (mv 0), .int (mv 1), .int (mv 2), .int (mv 3), .int (mv 4), .int (mv 5), .int (mv 6), .ref (ad 3), .int (nI tp), .int (mv 7), .int (mv 8), .int (mv 9), .int (mv 10), .int ft, .int (mv 11), .ref (ad 4), .ref (ad 5), .ref (ad 6), .ref (ad 7), .ref (ad 8), .ref (ad 9), .ref (ad 10), .int tr], iA G (ad 0) 255 S, iA G (ad 4) 16 mk] ss.heap := hP
  have hin6 : ∀ w ∈ u_ws RX6 TX6 29, w ∈ wsX6_lie := fun w h => List.mem_cons_of_mem _ (List.mem_append_right _ h)
  have hl := lv_entry ([.ref ko]) (n := 2) (Nat.le_of_ble_eq_true rfl)
  rw [lg_entry_eq]
  generalize (lg_sl ([.ref ko]) ++ List.replicate (2 - (lg_sl ([.ref ko])).length) Slot.unset).toArray = ls at hl ⊢
  replace hl : lv_has ls 2 [(0, .ref ko)] := hl
  refine lv_iconst (v := nI 0) hx hb dX6_lie_0 (by decide) ?_
  refine lv_istore_n (lv' := [(1, .int (nI 0)), (0, .ref ko)]) hx hb dX6_lie_1 rfl hl (by decide) rfl (fun ls hl => ?_)
  have hL2 : ∀ k : Nat, ∀ (i : Nat) (mk3 : Nat → Int32) (ls : Array Slot) (H : Heap) (locs : List Loc), ns - i = k → (i ≤ ns) → (firstF (fun i => decide (dyM w h la S nc (i + 1) = 0)) ns 0 = firstF (fun i => decide (dyM w h la S nc (i + 1) = 0)) (ns - i) i) → lv_has ls 2 [(0, .ref ko), (1, .int (nI i))] → xP G [iA G (ad 0) 255 S, iA G (ad 4) 16 mk3, oC ko 6 [.ref (ad 0), .ref (ad 1), .int (nI w), .int (nI h), .int (nI la), .ref (ad 2), .int (mv 0), .int (mv 1), .int (mv 2), .int (mv 3), .int (mv 4), .int (mv 5), .int (mv 6), .ref (ad 3), .int (nI tp), .int (mv 7), .int (mv 8), .int (mv 9), .int (mv 10), .int ft, .int (mv 11), .ref (ad 4), .ref (ad 5), .ref (ad 6), .ref (ad 7), .ref (ad 8), .ref (ad 9), .ref (ad 10), .int tr]] H → va_D (va_A (w_X6_lie G ko ad w h la tp ft tr mv S mk) ss.heap.size) [iA G (ad 0) 255 S, iA G (ad 4) 16 mk3, oC ko 6 [.ref (ad 0), .ref (ad 1), .int (nI w), .int (nI h), .int (nI la), .ref (ad 2), .int (mv 0), .int (mv 1), .int (mv 2), .int (mv 3), .int (mv 4), .int (mv 5), .int (mv 6), .ref (ad 3), .int (nI tp), .int (mv 7), .int (mv 8), .int (mv 9), .int (mv 10), .int ft, .int (mv 11), .ref (ad 4), .ref (ad 5), .ref (ad 6), .ref (ad 7), .ref (ad 8), .ref (ad 9), .ref (ad 10), .int tr]] → va_S (va_A (w_X6_lie G ko ad w h la tp ft tr mv S mk) ss.heap.size) ss.heap H locs → W pp l ee ({ frames := 5, cells := 0, slots := 0, locals := 115 } : Room) ss mm ([.ref ko] : List Value).toArray below mt cd H locs 0 0 (MQ below (Q_X6_lie G ss.heap.size ko ad w h la tp ft tr mv S mk nc ns) ([.ref ko] : List Value).toArray ss 0 0 (va_A (w_X6_lie G ko ad w h la tp ft tr mv S mk) ss.heap.size)) (F0 mm 2 ls []) := by
    intro k
    induction k using Nat.strongRecOn with
    | _ k ih2 =>
    intro i mk3 ls H locs hm2 hi hf hl hP hD hS
    refine lv_iload_n hx hb dX6_lie_2 rfl (lv_at hl 1 rfl) ?_
    refine lv_aload_n hx hb dX6_lie_3 rfl (lv_at hl 0 rfl) ?_
    refine va_get (D := G.1) (ci := 6) (v := .ref (ad 0)) (C := RX6) (T := TX6) (N := 29) hx hb hts hin6 hown hK.1 hP 2 rfl rfl 0 (by decide) (hts (.fieldLink RX6 7 "BackLensesModel" "st" "[I") (List.mem_of_getElem? (i := 1) rfl)) (fun _ h9 => h9) rfl dX6_lie_4 ?_
    refine lv_bipush (v := nI 60) hx hb dX6_lie_7 (by decide) ?_
    refine xn_iald hx hb hK hP 0 rfl (by omega) (by omega) dX6_lie_9 ?_
    refine xn_top (y := nI ns) (by exact hs60) ?_
    refine xn_icmp_ge (tgt := 31) hx hb (by omega) (by omega) dX6_lie_10 rfl (fun b10 => ?_) (fun b10 => ?_)
    · skip
      refine lv_bipush (v := (-4)) hx hb dX6_lie_31 (by decide) ?_
      have hP := hP.sub (ws' := [oC ko 6 [.ref (ad 0), .ref (ad 1), .int (nI w), .int (nI h), .int (nI la), .ref (ad 2), .int (mv 0), .int (mv 1), .int (mv 2), .int (mv 3), .int (mv 4), .int (mv 5), .int (mv 6), .ref (ad 3), .int (nI tp), .int (mv 7), .int (mv 8), .int (mv 9), .int (mv 10), .int ft, .int (mv 11), .ref (ad 4), .ref (ad 5), .ref (ad 6), .ref (ad 7), .ref (ad 8), .ref (ad 9), .ref (ad 10), .int tr], iA G (ad 0) 255 S, iA G (ad 4) 16 mk3]) [2, 0, 1] rfl
      have hD := hD.sub (ws' := [oC ko 6 [.ref (ad 0), .ref (ad 1), .int (nI w), .int (nI h), .int (nI la), .ref (ad 2), .int (mv 0), .int (mv 1), .int (mv 2), .int (mv 3), .int (mv 4), .int (mv 5), .int (mv 6), .ref (ad 3), .int (nI tp), .int (mv 7), .int (mv 8), .int (mv 9), .int (mv 10), .int ft, .int (mv 11), .ref (ad 4), .ref (ad 5), .ref (ad 6), .ref (ad 7), .ref (ad 8), .ref (ad 9), .ref (ad 10), .int tr], iA G (ad 0) 255 S, iA G (ad 4) 16 mk3]) [2, 0, 1] (by decide) rfl
      refine W.iret (v := (-4)) hx hb hr (fun t ht hW => ⟨⟨(-4), (mk3), rfl, ?_, by rw [ht]; exact hP, hD⟩, hS.F ht⟩) hS.2.2 dX6_lie_33
      first | (rw [hf, show ns - i = 0 by omega, firstF]) | (rw [hf, show ns - i = (ns - (i + 1)) + 1 by omega, firstF, if_pos (decide_eq_true b20)])
    · skip
      refine lv_aload_n hx hb dX6_lie_13 rfl (lv_at hl 0 rfl) ?_
      refine lv_iload_n hx hb dX6_lie_14 rfl (lv_at hl 1 rfl) ?_
      refine lv_iconst (v := nI 1) hx hb dX6_lie_15 (by decide) ?_
      refine xn_iadd hx hb dX6_lie_16 ?_
      refine xw_i (As := [.int (nI (i + 1))]) (rest := []) (wr := []) ⟨hx, hb, hml, hown, hts⟩ (c_X6_daysBy l G H.size ko ad w h la tp ft tr mv S mk3 _ _ (i + 1) (by first | assumption | omega) (by first | assumption | omega) (by first | assumption | omega) (by first | assumption | omega) (by first | assumption | omega) (by first | assumption | omega) (by first | assumption | omega) (by first | assumption | omega) (by first | assumption | omega) (by first | assumption | omega) (by first | assumption | omega) (by first | assumption | omega)) (cwV 1 hts gX6_lie_X6_daysBy rfl rfl rfl (by decide +kernel) ⟨Nat.le_of_ble_eq_true rfl, Nat.le_of_ble_eq_true rfl⟩) hK hP hD hS hA [2, 0, 1] [] rfl rfl (by decide) (by decide) (by decide) rfl rfl rfl hl.1 rfl (Nat.le_of_ble_eq_true rfl) dX6_lie_17 ⟨Nat.le_of_ble_eq_true rfl, Nat.le_of_ble_eq_true rfl⟩ (fun r17 u H locs hp17 hP hD hS => ?_)
      obtain ⟨mk2_17, rfl⟩ : ∃ z, z = u := ⟨_, rfl⟩
      try dsimp only at hp17 hP hD
      obtain rfl := hp17
      replace hP : xP G [oC ko 6 [.ref (ad 0), .ref (ad 1), .int (nI w), .int (nI h), .int (nI la), .ref (ad 2), .int (mv 0), .int (mv 1), .int (mv 2), .int (mv 3), .int (mv 4), .int (mv 5), .int (mv 6), .ref (ad 3), .int (nI tp), .int (mv 7), .int (mv 8), .int (mv 9), .int (mv 10), .int ft, .int (mv 11), .ref (ad 4), .ref (ad 5), .ref (ad 6), .ref (ad 7), .ref (ad 8), .ref (ad 9), .ref (ad 10), .int tr], iA G (ad 0) 255 S, iA G (ad 4) 16 mk2_17] H := hP
      replace hD : va_D (va_A (w_X6_lie G ko ad w h la tp ft tr mv S mk) ss.heap.size) [oC ko 6 [.ref (ad 0), .ref (ad 1), .int (nI w), .int (nI h), .int (nI la), .ref (ad 2), .int (mv 0), .int (mv 1), .int (mv 2), .int (mv 3), .int (mv 4), .int (mv 5), .int (mv 6), .ref (ad 3), .int (nI tp), .int (mv 7), .int (mv 8), .int (mv 9), .int (mv 10), .int ft, .int (mv 11), .ref (ad 4), .ref (ad 5), .ref (ad 6), .ref (ad 7), .ref (ad 8), .ref (ad 9), .ref (ad 10), .int tr], iA G (ad 0) 255 S, iA G (ad 4) 16 mk2_17] := hD
      refine lv_if_ne (tgt := 25) hx hb dX6_lie_20 rfl (fun b20 => ?_) (fun b20 => ?_)
      · skip
        refine lv_iinc (k := 1) (v := nI (i + 1)) (lv' := [(1, .int (nI (i + 1))), (0, .ref ko)]) hx hb dX6_lie_25 hl rfl (xn_inc i 1) (by decide) rfl (fun ls hl => ?_)
        refine lv_goto (tgt := 2) hx hb dX6_lie_28 rfl ?_
        have hl := lv_sub hl (l' := [(0, .ref ko), (1, .int (nI (i + 1)))]) [1, 0] rfl
        have hP := hP.sub (ws' := [iA G (ad 0) 255 S, iA G (ad 4) 16 mk2_17, oC ko 6 [.ref (ad 0), .ref (ad 1), .int (nI w), .int (nI h), .int (nI la), .ref (ad 2), .int (mv 0), .int (mv 1), .int (mv 2), .int (mv 3), .int (mv 4), .int (mv 5), .int (mv 6), .ref (ad 3), .int (nI tp), .int (mv 7), .int (mv 8), .int (mv 9), .int (mv 10), .int ft, .int (mv 11), .ref (ad 4), .ref (ad 5), .ref (ad 6), .ref (ad 7), .ref (ad 8), .ref (ad 9), .ref (ad 10), .int tr]]) [1, 2, 0] rfl
        have hD := hD.sub (ws' := [iA G (ad 0) 255 S, iA G (ad 4) 16 mk2_17, oC ko 6 [.ref (ad 0), .ref (ad 1), .int (nI w), .int (nI h), .int (nI la), .ref (ad 2), .int (mv 0), .int (mv 1), .int (mv 2), .int (mv 3), .int (mv 4), .int (mv 5), .int (mv 6), .ref (ad 3), .int (nI tp), .int (mv 7), .int (mv 8), .int (mv 9), .int (mv 10), .int ft, .int (mv 11), .ref (ad 4), .ref (ad 5), .ref (ad 6), .ref (ad 7), .ref (ad 8), .ref (ad 9), .ref (ad 10), .int tr]]) [1, 2, 0] (by decide) rfl
        exact ih2 (ns - (i + 1)) (by omega) (i + 1) mk2_17 ls H locs rfl (by omega) (by rw [hf, show ns - i = (ns - (i + 1)) + 1 by omega, firstF, if_neg (by rw [decide_eq_false b20]; decide)]) hl hP hD hS
      · skip
        refine lv_iload_n hx hb dX6_lie_23 rfl (lv_at hl 1 rfl) ?_
        have hP := hP.sub (ws' := [oC ko 6 [.ref (ad 0), .ref (ad 1), .int (nI w), .int (nI h), .int (nI la), .ref (ad 2), .int (mv 0), .int (mv 1), .int (mv 2), .int (mv 3), .int (mv 4), .int (mv 5), .int (mv 6), .ref (ad 3), .int (nI tp), .int (mv 7), .int (mv 8), .int (mv 9), .int (mv 10), .int ft, .int (mv 11), .ref (ad 4), .ref (ad 5), .ref (ad 6), .ref (ad 7), .ref (ad 8), .ref (ad 9), .ref (ad 10), .int tr], iA G (ad 0) 255 S, iA G (ad 4) 16 mk2_17]) [0, 1, 2] rfl
        have hD := hD.sub (ws' := [oC ko 6 [.ref (ad 0), .ref (ad 1), .int (nI w), .int (nI h), .int (nI la), .ref (ad 2), .int (mv 0), .int (mv 1), .int (mv 2), .int (mv 3), .int (mv 4), .int (mv 5), .int (mv 6), .ref (ad 3), .int (nI tp), .int (mv 7), .int (mv 8), .int (mv 9), .int (mv 10), .int ft, .int (mv 11), .ref (ad 4), .ref (ad 5), .ref (ad 6), .ref (ad 7), .ref (ad 8), .ref (ad 9), .ref (ad 10), .int tr], iA G (ad 0) 255 S, iA G (ad 4) 16 mk2_17]) [0, 1, 2] (by decide) rfl
        refine W.iret (v := nI i) hx hb hr (fun t ht hW => ⟨⟨nI i, (mk2_17), rfl, ?_, by rw [ht]; exact hP, hD⟩, hS.F ht⟩) hS.2.2 dX6_lie_24
        first | (rw [hf, show ns - i = 0 by omega, firstF]) | (rw [hf, show ns - i = (ns - (i + 1)) + 1 by omega, firstF, if_pos (decide_eq_true b20)])
  have hl := lv_sub hl (l' := [(0, .ref ko), (1, .int (nI 0))]) [1, 0] rfl
  have hP := hP.sub (ws' := [iA G (ad 0) 255 S, iA G (ad 4) 16 mk, oC ko 6 [.ref (ad 0), .ref (ad 1), .int (nI w), .int (nI h), .int (nI la), .ref (ad 2), .int (mv 0), .int (mv 1), .int (mv 2), .int (mv 3), .int (mv 4), .int (mv 5), .int (mv 6), .ref (ad 3), .int (nI tp), .int (mv 7), .int (mv 8), .int (mv 9), .int (mv 10), .int ft, .int (mv 11), .ref (ad 4), .ref (ad 5), .ref (ad 6), .ref (ad 7), .ref (ad 8), .ref (ad 9), .ref (ad 10), .int tr]]) [1, 2, 0] rfl
  have hD := hD.sub (ws' := [iA G (ad 0) 255 S, iA G (ad 4) 16 mk, oC ko 6 [.ref (ad 0), .ref (ad 1), .int (nI w), .int (nI h), .int (nI la), .ref (ad 2), .int (mv 0), .int (mv 1), .int (mv 2), .int (mv 3), .int (mv 4), .int (mv 5), .int (mv 6), .ref (ad 3), .int (nI tp), .int (mv 7), .int (mv 8), .int (mv 9), .int (mv 10), .int ft, .int (mv 11), .ref (ad 4), .ref (ad 5), .ref (ad 6), .ref (ad 7), .ref (ad 8), .ref (ad 9), .ref (ad 10), .int tr]]) [1, 2, 0] (by decide) rfl
  exact hL2 (ns - 0) 0 mk ls ss.heap [] rfl (by omega) (by rfl) hl hP hD hS

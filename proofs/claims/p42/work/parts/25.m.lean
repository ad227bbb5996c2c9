section
abbrev w_X6_sees (G : XG) (ko : Nat) (ad : Nat → Nat) (w h la tp : Nat) (ft tr : Int32) (mv : Nat → Int32) (S mk : Nat → Int32) : va_W := [oC ko 6 [.ref (ad 0), .ref (ad 1), .int (nI w), .int (nI h), .int (nI la), .ref (ad 2), .int (mv 0), .int (mv 1), .int (mv 2), .int (mv 3), .int (mv 4), .int (mv 5), .int (mv 6), .ref (ad 3), .int (nI tp), .int (mv 7), .int (mv 8), .int (mv 9), .int (mv 10), .int ft, .int (mv 11), .ref (ad 4), .ref (ad 5), .ref (ad 6), .ref (ad 7), .ref (ad 8), .ref (ad 9), .ref (ad 10), .int tr], iA G (ad 0) 255 S, iA G (ad 4) 16 mk]
abbrev Q_X6_sees (G : XG) (sz : Nat) (ko : Nat) (ad : Nat → Nat) (w h la tp : Nat) (ft tr : Int32) (mv : Nat → Int32) (S mk : Nat → Int32) (nc : Nat) (x d : Int32) : Array Value → State → Outcome → State → Prop := (va_Qi (fun (r : Int32) (u : (Nat → Int32)) => r = (if inR x (w * h) ∧ inR d (la + 1) then sgM w h S nc (tn x) (tn d) else (-1))) (xWb G sz (w_X6_sees G ko ad w h la tp ft tr mv S mk) (fun u : (Nat → Int32) => [oC ko 6 [.ref (ad 0), .ref (ad 1), .int (nI w), .int (nI h), .int (nI la), .ref (ad 2), .int (mv 0), .int (mv 1), .int (mv 2), .int (mv 3), .int (mv 4), .int (mv 5), .int (mv 6), .ref (ad 3), .int (nI tp), .int (mv 7), .int (mv 8), .int (mv 9), .int (mv 10), .int ft, .int (mv 11), .ref (ad 4), .ref (ad 5), .ref (ad 6), .ref (ad 7), .ref (ad 8), .ref (ad 9), .ref (ad 10), .int tr], iA G (ad 0) 255 S, iA G (ad 4) 16 u])) (va_A (w_X6_sees G ko ad w h la tp ft tr mv S mk) sz))
set_option maxHeartbeats 4000000 in
set_option maxRecDepth 100000 in
theorem c_X6_sees (l : Launch) (G : XG) (sz : Nat) (ko : Nat) (ad : Nat → Nat) (w h la tp : Nat) (ft tr : Int32) (mv : Nat → Int32) (S mk : Nat → Int32) (nc : Nat) (x d : Int32) (hw : 1 ≤ w) (hwb : w ≤ 16) (hhb : h ≤ 16) (hwh1 : 1 ≤ w * h) (hwh : w * h ≤ 16) (hla : la ≤ 9) (hs16 : S 16 = nI nc) (hnc : nc ≤ 10) : Met l yX6_sees wsX6_sees ({ frames := 4, cells := 0, slots := 0, locals := 89 } : Room) (va_Pc [.ref ko, .int x, .int d] (xWp G sz (w_X6_sees G ko ad w h la tp ft tr mv S mk))) (Q_X6_sees G sz ko ad w h la tp ft tr mv S mk nc x d) 0 0 (va_A (w_X6_sees G ko ad w h la tp ft tr mv S mk) sz) := by
  refine Met.ofW (cc := cX6_sees) (maxL := 3) (ret := (some .int)) (by decide) rfl ?_
  intro pp ee ss mm aa below mt cd s₁ BB hml hv
  obtain ⟨rfl, hsz, hP, hK, hD0⟩ := hv
  have hx := BB.exec
  have hb := BB.bytes
  have hr := BB.returns
  have hts := atoms_spec (ws := wsX6_sees) BB.pre
  have hown : ss.vm.findClass RX6 = some mm.cls := findClass_of_methodNamed BB.named
  have hlocks := BB.notSynchronized
  subst hsz
  have hD := hD0.self (sz := ss.heap.size)
  have hA : ∀ q : Nat, ss.heap.size ≤ q → va_A (w_X6_sees G ko ad w h la tp ft tr mv S mk) ss.heap.size q := fun q h => Or.inr h
  have hS : va_S (va_A (w_X6_sees G ko ad w h la tp ft tr mv S mk) ss.heap.size) ss.heap ss.heap [] := va_S.rf
  replace hD : va_D (va_A (w_X6_sees G ko ad w h la tp ft tr mv S mk) ss.heap.size) [oC ko 6 [.ref (ad 0), .ref (ad 1), .int (nI w), .int (nI h), .int (nI la), .ref (ad 2), .int (mv 0), .int (mv 1), .int (mv 2), .int (mv 3), .int (mv 4), .int (mv 5), .int (mv 6), .ref (ad 3), .int (nI tp), .int (mv 7), .int (mv 8), .int (mv 9), .int (mv 10), .int ft, .int (mv 11), .ref (ad 4), .ref (ad 5), .ref (ad 6), .ref (ad 7), .ref (ad 8), .ref (ad 9), .ref (ad 10), .int tr], iA G (ad 0) 255 S, iA G (ad 4) 16 mk] := hD
  replace hP : xP G [oC ko 6 [.ref (ad 0), .ref (ad 1), .int (nI w), .int (nI h), .int (nI la), .ref (ad 2), .int (mv 0), .int (mv 1), .int (mv 2), .int (mv 3), .int (mv 4), .int (mv 5), .int (mv 6), .ref (ad 3), .int (nI tp), .int (mv 7), .int (mv 8), .int (mv 9), .int (mv 10), .int ft, .int (mv 11), .ref (ad 4), .ref (ad 5), .ref (ad 6), .ref (ad 7), .ref (ad 8), .ref (ad 9), .ref (ad 10), .int tr], iA G (ad 0) 255 S, iA G (ad 4) 16 mk] ss.heap := hP
  have hin6 : ∀ w ∈ u_ws RX6 TX6 29, w ∈ wsX6_sees := fun w h => List.mem_cons_of_mem _ (List.mem_append_right _ h)
  have hl := lv_entry ([.ref ko, .int x, .int d]) (n := 3) (Nat.le_of_ble_eq_true rfl)
  rw [lg_entry_eq]
  generalize (lg_sl ([.ref ko, .int x, .int d]) ++ List.replicate (3 - (lg_sl ([.ref ko, .int x, .int d])).length) Slot.unset).toArray = ls at hl ⊢
  replace hl : lv_has ls 3 [(0, .ref ko), (1, .int x), (2, .int d)] := hl
  refine lv_aload_n hx hb dX6_sees_0 rfl (lv_at hl 0 rfl) ?_
  refine lv_iload_n hx hb dX6_sees_1 rfl (lv_at hl 1 rfl) ?_
  refine xr_i (As := [.int x]) (rest := []) ⟨hx, hb, hml, hown, hts⟩ (c_X6_isCell l G ko ad w h la tp ft tr mv x (by first | assumption | omega) (by first | assumption | omega)) (cwV 1 hts gX6_sees_X6_isCell rfl rfl rfl (by decide +kernel) ⟨Nat.le_of_ble_eq_true rfl, Nat.le_of_ble_eq_true rfl⟩) hK hP hS [0] rfl rfl rfl rfl hl.1 rfl (Nat.le_of_ble_eq_true rfl) dX6_sees_2 ⟨Nat.zero_le _, Nat.zero_le _⟩ (fun r2 H locs hp2 hP hS => ?_)
  rw [show r2 = _ from hp2]
  refine xb_if_eq (tgt := 25) hx hb dX6_sees_5 rfl (fun b5 => ?_) (fun b5 => ?_)
  · skip
    refine lv_iconst (v := (-1)) hx hb dX6_sees_25 (by decide) ?_
    have hP := hP.sub (ws' := [oC ko 6 [.ref (ad 0), .ref (ad 1), .int (nI w), .int (nI h), .int (nI la), .ref (ad 2), .int (mv 0), .int (mv 1), .int (mv 2), .int (mv 3), .int (mv 4), .int (mv 5), .int (mv 6), .ref (ad 3), .int (nI tp), .int (mv 7), .int (mv 8), .int (mv 9), .int (mv 10), .int ft, .int (mv 11), .ref (ad 4), .ref (ad 5), .ref (ad 6), .ref (ad 7), .ref (ad 8), .ref (ad 9), .ref (ad 10), .int tr], iA G (ad 0) 255 S, iA G (ad 4) 16 mk]) [0, 1, 2] rfl
    have hD := hD.sub (ws' := [oC ko 6 [.ref (ad 0), .ref (ad 1), .int (nI w), .int (nI h), .int (nI la), .ref (ad 2), .int (mv 0), .int (mv 1), .int (mv 2), .int (mv 3), .int (mv 4), .int (mv 5), .int (mv 6), .ref (ad 3), .int (nI tp), .int (mv 7), .int (mv 8), .int (mv 9), .int (mv 10), .int ft, .int (mv 11), .ref (ad 4), .ref (ad 5), .ref (ad 6), .ref (ad 7), .ref (ad 8), .ref (ad 9), .ref (ad 10), .int tr], iA G (ad 0) 255 S, iA G (ad 4) 16 mk]) [0, 1, 2] (by decide) rfl
    refine W.iret (v := (-1)) hx hb hr (fun t ht hW => ⟨⟨(-1), (mk), rfl, ?_, by rw [ht]; exact hP, hD⟩, hS.F ht⟩) hS.2.2 dX6_sees_26
    first | exact (if_neg (fun q => b5 q.1)).symm | exact (if_neg (fun q => b13 q.2)).symm | (rw [if_pos ⟨inR_nI hx0 (by omega), inR_nI hd0 (by omega)⟩, tn_nI (by omega), tn_nI (by omega)])
  · skip
    refine lv_aload_n hx hb dX6_sees_8 rfl (lv_at hl 0 rfl) ?_
    refine lv_iload_n hx hb dX6_sees_9 rfl (lv_at hl 2 rfl) ?_
    refine xr_i (As := [.int d]) (rest := []) ⟨hx, hb, hml, hown, hts⟩ (c_X6_isDay l G ko ad w h la tp ft tr mv d (by first | assumption | omega)) (cwV 1 hts gX6_sees_X6_isDay rfl rfl rfl (by decide +kernel) ⟨Nat.le_of_ble_eq_true rfl, Nat.le_of_ble_eq_true rfl⟩) hK hP hS [0] rfl rfl rfl rfl hl.1 rfl (Nat.le_of_ble_eq_true rfl) dX6_sees_10 ⟨Nat.zero_le _, Nat.zero_le _⟩ (fun r10 H locs hp10 hP hS => ?_)
    rw [show r10 = _ from hp10]
    refine xb_if_eq (tgt := 25) hx hb dX6_sees_13 rfl (fun b13 => ?_) (fun b13 => ?_)
    · skip
      refine lv_iconst (v := (-1)) hx hb dX6_sees_25 (by decide) ?_
      have hP := hP.sub (ws' := [oC ko 6 [.ref (ad 0), .ref (ad 1), .int (nI w), .int (nI h), .int (nI la), .ref (ad 2), .int (mv 0), .int (mv 1), .int (mv 2), .int (mv 3), .int (mv 4), .int (mv 5), .int (mv 6), .ref (ad 3), .int (nI tp), .int (mv 7), .int (mv 8), .int (mv 9), .int (mv 10), .int ft, .int (mv 11), .ref (ad 4), .ref (ad 5), .ref (ad 6), .ref (ad 7), .ref (ad 8), .ref (ad 9), .ref (ad 10), .int tr], iA G (ad 0) 255 S, iA G (ad 4) 16 mk]) [0, 1, 2] rfl
      have hD := hD.sub (ws' := [oC ko 6 [.ref (ad 0), .ref (ad 1), .int (nI w), .int (nI h), .int (nI la), .ref (ad 2), .int (mv 0), .int (mv 1), .int (mv 2), .int (mv 3), .int (mv 4), .int (mv 5), .int (mv 6), .ref (ad 3), .int (nI tp), .int (mv 7), .int (mv 8), .int (mv 9), .int (mv 10), .int ft, .int (mv 11), .ref (ad 4), .ref (ad 5), .ref (ad 6), .ref (ad 7), .ref (ad 8), .ref (ad 9), .ref (ad 10), .int tr], iA G (ad 0) 255 S, iA G (ad 4) 16 mk]) [0, 1, 2] (by decide) rfl
      refine W.iret (v := (-1)) hx hb hr (fun t ht hW => ⟨⟨(-1), (mk), rfl, ?_, by rw [ht]; exact hP, hD⟩, hS.F ht⟩) hS.2.2 dX6_sees_26
      first | exact (if_neg (fun q => b5 q.1)).symm | exact (if_neg (fun q => b13 q.2)).symm | (rw [if_pos ⟨inR_nI hx0 (by omega), inR_nI hd0 (by omega)⟩, tn_nI (by omega), tn_nI (by omega)])
    · skip
      obtain ⟨x0, hx0, rfl⟩ := inR_nat b5
      obtain ⟨d0, hd0, rfl⟩ := inR_nat b13
      refine lv_aload_n hx hb dX6_sees_16 rfl (lv_at hl 0 rfl) ?_
      refine lv_iload_n hx hb dX6_sees_17 rfl (lv_at hl 1 rfl) ?_
      refine lv_iload_n hx hb dX6_sees_18 rfl (lv_at hl 2 rfl) ?_
      refine xw_i (As := [.int (nI x0), .int (nI d0)]) (rest := []) (wr := []) ⟨hx, hb, hml, hown, hts⟩ (c_X6_sightOn l G H.size ko ad w h la tp ft tr mv S mk _ x0 d0 (by first | assumption | omega) (by first | assumption | omega) (by first | assumption | omega) (by first | assumption | omega) (by first | assumption | omega) (by first | assumption | omega) (by first | assumption | omega) (by first | assumption | omega) (by first | assumption | omega) (by first | assumption | omega)) (cwV 2 hts gX6_sees_X6_sightOn rfl rfl rfl (by decide +kernel) ⟨Nat.le_of_ble_eq_true rfl, Nat.le_of_ble_eq_true rfl⟩) hK hP hD hS hA [0, 1, 2] [] rfl rfl (by decide) (by decide) (by decide) rfl rfl rfl hl.1 rfl (Nat.le_of_ble_eq_true rfl) dX6_sees_19 ⟨Nat.le_of_ble_eq_true rfl, Nat.le_of_ble_eq_true rfl⟩ (fun r19 u H locs hp19 hP hD hS => ?_)
      obtain ⟨mk2_19, rfl⟩ : ∃ z, z = u := ⟨_, rfl⟩
      try dsimp only at hp19 hP hD
      obtain rfl := hp19
      replace hP : xP G [oC ko 6 [.ref (ad 0), .ref (ad 1), .int (nI w), .int (nI h), .int (nI la), .ref (ad 2), .int (mv 0), .int (mv 1), .int (mv 2), .int (mv 3), .int (mv 4), .int (mv 5), .int (mv 6), .ref (ad 3), .int (nI tp), .int (mv 7), .int (mv 8), .int (mv 9), .int (mv 10), .int ft, .int (mv 11), .ref (ad 4), .ref (ad 5), .ref (ad 6), .ref (ad 7), .ref (ad 8), .ref (ad 9), .ref (ad 10), .int tr], iA G (ad 0) 255 S, iA G (ad 4) 16 mk2_19] H := hP
      replace hD : va_D (va_A (w_X6_sees G ko ad w h la tp ft tr mv S mk) ss.heap.size) [oC ko 6 [.ref (ad 0), .ref (ad 1), .int (nI w), .int (nI h), .int (nI la), .ref (ad 2), .int (mv 0), .int (mv 1), .int (mv 2), .int (mv 3), .int (mv 4), .int (mv 5), .int (mv 6), .ref (ad 3), .int (nI tp), .int (mv 7), .int (mv 8), .int (mv 9), .int (mv 10), .int ft, .int (mv 11), .ref (ad 4), .ref (ad 5), .ref (ad 6), .ref (ad 7), .ref (ad 8), .ref (ad 9), .ref (ad 10), .int tr], iA G (ad 0) 255 S, iA G (ad 4) 16 mk2_19] := hD
      refine lv_goto (tgt := 26) hx hb dX6_sees_22 rfl ?_
      have hP := hP.sub (ws' := [oC ko 6 [.ref (ad 0), .ref (ad 1), .int (nI w), .int (nI h), .int (nI la), .ref (ad 2), .int (mv 0), .int (mv 1), .int (mv 2), .int (mv 3), .int (mv 4), .int (mv 5), .int (mv 6), .ref (ad 3), .int (nI tp), .int (mv 7), .int (mv 8), .int (mv 9), .int (mv 10), .int ft, .int (mv 11), .ref (ad 4), .ref (ad 5), .ref (ad 6), .ref (ad 7), .ref (ad 8), .ref (ad 9), .ref (ad 10), .int tr], iA G (ad 0) 255 S, iA G (ad 4) 16 mk2_19]) [0, 1, 2] rfl
      have hD := hD.sub (ws' := [oC ko 6 [.ref (ad 0), .ref (ad 1), .int (nI w), .int (nI h), .int (nI la), .ref (ad 2), .int (mv 0), .int (mv 1), .int (mv 2), .int (mv 3), .int (mv 4), .int (mv 5), .int (mv 6), .ref (ad 3), .int (nI tp), .int (mv 7), .int (mv 8), .int (mv 9), .int (mv 10), .int ft, .int (mv 11), .ref (ad 4), .ref (ad 5), .ref (ad 6), .ref (ad 7), .ref (ad 8), .ref (ad 9), .ref (ad 10), .int tr], iA G (ad 0) 255 S, iA G (ad 4) 16 mk2_19]) [0, 1, 2] (by decide) rfl
      refine W.iret (v := sgM w h S _ x0 d0) hx hb hr (fun t ht hW => ⟨⟨sgM w h S _ x0 d0, (mk2_19), rfl, ?_, by rw [ht]; exact hP, hD⟩, hS.F ht⟩) hS.2.2 dX6_sees_26
      first | exact (if_neg (fun q => b5 q.1)).symm | exact (if_neg (fun q => b13 q.2)).symm | (rw [if_pos ⟨inR_nI hx0 (by omega), inR_nI hd0 (by omega)⟩, tn_nI (by omega), tn_nI (by omega)])

abbrev w_X6_between (G : XG) (ko : Nat) (ad : Nat → Nat) (w h la tp : Nat) (ft tr : Int32) (mv : Nat → Int32) (S : Nat → Int32) : va_W := [oC ko 6 [.ref (ad 0), .ref (ad 1), .int (nI w), .int (nI h), .int (nI la), .ref (ad 2), .int (mv 0), .int (mv 1), .int (mv 2), .int (mv 3), .int (mv 4), .int (mv 5), .int (mv 6), .ref (ad 3), .int (nI tp), .int (mv 7), .int (mv 8), .int (mv 9), .int (mv 10), .int ft, .int (mv 11), .ref (ad 4), .ref (ad 5), .ref (ad 6), .ref (ad 7), .ref (ad 8), .ref (ad 9), .ref (ad 10), .int tr], iA G (ad 0) 255 S]
abbrev Q_X6_between (G : XG) (ko : Nat) (ad : Nat → Nat) (w h la tp : Nat) (ft tr : Int32) (mv : Nat → Int32) (S : Nat → Int32) (nc : Nat) (d e : Int32) : Array Value → State → Outcome → State → Prop := (xRi (fun r => r = (if inR d (la + 1) ∧ inR e (la + 1) then unM w h S nc (tn d) (tn e) else (-1))))
set_option maxHeartbeats 4000000 in
set_option maxRecDepth 100000 in
theorem c_X6_between (l : Launch) (G : XG) (ko : Nat) (ad : Nat → Nat) (w h la tp : Nat) (ft tr : Int32) (mv : Nat → Int32) (S : Nat → Int32) (nc : Nat) (d e : Int32) (hw : 1 ≤ w) (hwb : w ≤ 16) (hhb : h ≤ 16) (hwh1 : 1 ≤ w * h) (hwh : w * h ≤ 16) (hla : la ≤ 9) (hs16 : S 16 = nI nc) (hnc : nc ≤ 10) : Met l yX6_between wsX6_between ({ frames := 2, cells := 0, slots := 0, locals := 51 } : Room) (va_Pc [.ref ko, .int d, .int e] (xRp G (w_X6_between G ko ad w h la tp ft tr mv S))) (Q_X6_between G ko ad w h la tp ft tr mv S nc d e) 0 0 (fun _ => False) := by
  refine Met.ofW (cc := cX6_between) (maxL := 3) (ret := (some .int)) (by decide) rfl ?_
  intro pp ee ss mm aa below mt cd s₁ BB hml hv
  obtain ⟨rfl, hP, hK⟩ := hv
  have hx := BB.exec
  have hb := BB.bytes
  have hr := BB.returns
  have hts := atoms_spec (ws := wsX6_between) BB.pre
  have hown : ss.vm.findClass RX6 = some mm.cls := findClass_of_methodNamed BB.named
  have hlocks := BB.notSynchronized
  have hS : va_S (fun _ => False) ss.heap ss.heap [] := va_S.rf
  replace hP : xP G [oC ko 6 [.ref (ad 0), .ref (ad 1), .int (nI w), .int (nI h), .int (nI la), .ref (ad 2), .int (mv 0), .int (mv 1), .int (mv 2), .int (mv 3), .int (mv 4), .int (mv 5), .int (mv 6), .ref (ad 3), .int (nI tp), .int (mv 7), .int (mv 8), .int (mv 9), .int (mv 10), .int ft, .int (mv 11), .ref (ad 4), .ref (ad 5), .ref (ad 6), .ref (ad 7), .ref (ad 8), .ref (ad 9), .ref (ad 10), .int tr], iA G (ad 0) 255 S] ss.heap := hP
  have hin6 : ∀ w ∈ u_ws RX6 TX6 29, w ∈ wsX6_between := fun w h => List.mem_cons_of_mem _ (List.mem_append_right _ h)
  have hl := lv_entry ([.ref ko, .int d, .int e]) (n := 3) (Nat.le_of_ble_eq_true rfl)
  rw [lg_entry_eq]
  generalize (lg_sl ([.ref ko, .int d, .int e]) ++ List.replicate (3 - (lg_sl ([.ref ko, .int d, .int e])).length) Slot.unset).toArray = ls at hl ⊢
  replace hl : lv_has ls 3 [(0, .ref ko), (1, .int d), (2, .int e)] := hl
  refine lv_aload_n hx hb dX6_between_0 rfl (lv_at hl 0 rfl) ?_
  refine lv_iload_n hx hb dX6_between_1 rfl (lv_at hl 1 rfl) ?_
  refine xr_i (As := [.int d]) (rest := []) ⟨hx, hb, hml, hown, hts⟩ (c_X6_isDay l G ko ad w h la tp ft tr mv d (by first | assumption | omega)) (cwV 1 hts gX6_between_X6_isDay rfl rfl rfl (by decide +kernel) ⟨Nat.le_of_ble_eq_true rfl, Nat.le_of_ble_eq_true rfl⟩) hK hP hS [0] rfl rfl rfl rfl hl.1 rfl (Nat.le_of_ble_eq_true rfl) dX6_between_2 ⟨Nat.zero_le _, Nat.zero_le _⟩ (fun r2 H locs hp2 hP hS => ?_)
  rw [show r2 = _ from hp2]
  refine xb_if_eq (tgt := 25) hx hb dX6_between_5 rfl (fun b5 => ?_) (fun b5 => ?_)
  · skip
    refine lv_iconst (v := (-1)) hx hb dX6_between_25 (by decide) ?_
    refine W.iret (v := (-1)) hx hb hr (fun t ht hW => ⟨⟨(-1), (), rfl, ?_, trivial⟩, hS.F ht⟩) hS.2.2 dX6_between_26
    first | exact (if_neg (fun q => b5 q.1)).symm | exact (if_neg (fun q => b13 q.2)).symm | (rw [if_pos ⟨inR_nI hd0 (by omega), inR_nI he0 (by omega)⟩, tn_nI (by omega), tn_nI (by omega)])
  · skip
    refine lv_aload_n hx hb dX6_between_8 rfl (lv_at hl 0 rfl) ?_
    refine lv_iload_n hx hb dX6_between_9 rfl (lv_at hl 2 rfl) ?_
    refine xr_i (As := [.int e]) (rest := []) ⟨hx, hb, hml, hown, hts⟩ (c_X6_isDay l G ko ad w h la tp ft tr mv e (by first | assumption | omega)) (cwV 1 hts gX6_between_X6_isDay rfl rfl rfl (by decide +kernel) ⟨Nat.le_of_ble_eq_true rfl, Nat.le_of_ble_eq_true rfl⟩) hK hP hS [0] rfl rfl rfl rfl hl.1 rfl (Nat.le_of_ble_eq_true rfl) dX6_between_10 ⟨Nat.zero_le _, Nat.zero_le _⟩ (fun r10 H locs hp10 hP hS => ?_)
    rw [show r10 = _ from hp10]
    refine xb_if_eq (tgt := 25) hx hb dX6_between_13 rfl (fun b13 => ?_) (fun b13 => ?_)
    · skip
      refine lv_iconst (v := (-1)) hx hb dX6_between_25 (by decide) ?_
      refine W.iret (v := (-1)) hx hb hr (fun t ht hW => ⟨⟨(-1), (), rfl, ?_, trivial⟩, hS.F ht⟩) hS.2.2 dX6_between_26
      first | exact (if_neg (fun q => b5 q.1)).symm | exact (if_neg (fun q => b13 q.2)).symm | (rw [if_pos ⟨inR_nI hd0 (by omega), inR_nI he0 (by omega)⟩, tn_nI (by omega), tn_nI (by omega)])
    · skip
      obtain ⟨d0, hd0, rfl⟩ := inR_nat b5
      obtain ⟨e0, he0, rfl⟩ := inR_nat b13
      refine lv_aload_n hx hb dX6_between_16 rfl (lv_at hl 0 rfl) ?_
      refine lv_iload_n hx hb dX6_between_17 rfl (lv_at hl 1 rfl) ?_
      refine lv_iload_n hx hb dX6_between_18 rfl (lv_at hl 2 rfl) ?_
      refine xr_i (As := [.int (nI d0), .int (nI e0)]) (rest := []) ⟨hx, hb, hml, hown, hts⟩ (c_X6_unlike l G ko ad w h la tp ft tr mv S _ d0 e0 (by first | assumption | omega) (by first | assumption | omega) (by first | assumption | omega) (by first | assumption | omega) (by first | assumption | omega) (by first | assumption | omega) (by first | assumption | omega) (by first | assumption | omega) (by first | assumption | omega) (by first | assumption | omega)) (cwV 2 hts gX6_between_X6_unlike rfl rfl rfl (by decide +kernel) ⟨Nat.le_of_ble_eq_true rfl, Nat.le_of_ble_eq_true rfl⟩) hK hP hS [0, 1] rfl rfl rfl rfl hl.1 rfl (Nat.le_of_ble_eq_true rfl) dX6_between_19 ⟨Nat.zero_le _, Nat.zero_le _⟩ (fun r19 H locs hp19 hP hS => ?_)
      rw [show r19 = _ from hp19]
      refine lv_goto (tgt := 26) hx hb dX6_between_22 rfl ?_
      refine W.iret (v := unM w h S _ d0 e0) hx hb hr (fun t ht hW => ⟨⟨unM w h S _ d0 e0, (), rfl, ?_, trivial⟩, hS.F ht⟩) hS.2.2 dX6_between_26
      first | exact (if_neg (fun q => b5 q.1)).symm | exact (if_neg (fun q => b13 q.2)).symm | (rw [if_pos ⟨inR_nI hd0 (by omega), inR_nI he0 (by omega)⟩, tn_nI (by omega), tn_nI (by omega)])

abbrev w_X6_all (G : XG) (ko : Nat) (ad : Nat → Nat) (w h la tp : Nat) (ft tr : Int32) (mv : Nat → Int32) (S : Nat → Int32) : va_W := [oC ko 6 [.ref (ad 0), .ref (ad 1), .int (nI w), .int (nI h), .int (nI la), .ref (ad 2), .int (mv 0), .int (mv 1), .int (mv 2), .int (mv 3), .int (mv 4), .int (mv 5), .int (mv 6), .ref (ad 3), .int (nI tp), .int (mv 7), .int (mv 8), .int (mv 9), .int (mv 10), .int ft, .int (mv 11), .ref (ad 4), .ref (ad 5), .ref (ad 6), .ref (ad 7), .ref (ad 8), .ref (ad 9), .ref (ad 10), .int tr], iA G (ad 0) 255 S]
abbrev Q_X6_all (G : XG) (ko : Nat) (ad : Nat → Nat) (w h la tp : Nat) (ft tr : Int32) (mv : Nat → Int32) (S : Nat → Int32) (nc : Nat) (m d : Int32) : Array Value → State → Outcome → State → Prop := (xRi (fun r => r = (if inR m 6 ∧ inR d (la + 1) then xbits (fun c => decide (mkM S nc c (tn d) = m)) (w * h) else (-1))))
set_option maxHeartbeats 4000000 in
set_option maxRecDepth 100000 in
theorem c_X6_all (l : Launch) (G : XG) (ko : Nat) (ad : Nat → Nat) (w h la tp : Nat) (ft tr : Int32) (mv : Nat → Int32) (S : Nat → Int32) (nc : Nat) (m d : Int32) (hw : 1 ≤ w) (hwb : w ≤ 16) (hhb : h ≤ 16) (hwh1 : 1 ≤ w * h) (hwh : w * h ≤ 16) (hla : la ≤ 9) (hs16 : S 16 = nI nc) (hnc : nc ≤ 10) : Met l yX6_all wsX6_all ({ frames := 2, cells := 0, slots := 0, locals := 46 } : Room) (va_Pc [.ref ko, .int m, .int d] (xRp G (w_X6_all G ko ad w h la tp ft tr mv S))) (Q_X6_all G ko ad w h la tp ft tr mv S nc m d) 0 0 (fun _ => False) := by
  refine Met.ofW (cc := cX6_all) (maxL := 5) (ret := (some .int)) (by decide) rfl ?_
  intro pp ee ss mm aa below mt cd s₁ BB hml hv
  obtain ⟨rfl, hP, hK⟩ := hv
  have hx := BB.exec
  have hb := BB.bytes
  have hr := BB.returns
  have hts := atoms_spec (ws := wsX6_all) BB.pre
  have hown : ss.vm.findClass RX6 = some mm.cls := findClass_of_methodNamed BB.named
  have hlocks := BB.notSynchronized
  have hS : va_S (fun _ => False) ss.heap ss.heap [] := va_S.rf
  replace hP : xP G [oC ko 6 [.ref (ad 0), .ref (ad 1), .int (nI w), .int (nI h), .int (nI la), .ref (ad 2), .int (mv 0), .int (mv 1), .int (mv 2), .int (mv 3), .int (mv 4), .int (mv 5), .int (mv 6), .ref (ad 3), .int (nI tp), .int (mv 7), .int (mv 8), .int (mv 9), .int (mv 10), .int ft, .int (mv 11), .ref (ad 4), .ref (ad 5), .ref (ad 6), .ref (ad 7), .ref (ad 8), .ref (ad 9), .ref (ad 10), .int tr], iA G (ad 0) 255 S] ss.heap := hP
  have hin6 : ∀ w ∈ u_ws RX6 TX6 29, w ∈ wsX6_all := fun w h => List.mem_cons_of_mem _ (List.mem_append_right _ h)
  have hl := lv_entry ([.ref ko, .int m, .int d]) (n := 5) (Nat.le_of_ble_eq_true rfl)
  rw [lg_entry_eq]
  generalize (lg_sl ([.ref ko, .int m, .int d]) ++ List.replicate (5 - (lg_sl ([.ref ko, .int m, .int d])).length) Slot.unset).toArray = ls at hl ⊢
  replace hl : lv_has ls 5 [(0, .ref ko), (1, .int m), (2, .int d)] := hl
  refine lv_iload_n hx hb dX6_all_0 rfl (lv_at hl 1 rfl) ?_
  refine xs_i (As := [.int m]) (rest := []) ⟨hx, hb, hml, hown, hts⟩ (c_X6_isMark l G m ) (va_cwS 1 hts gX6_all_X6_isMark rfl rfl rfl (by decide +kernel) ⟨Nat.le_of_ble_eq_true rfl, Nat.le_of_ble_eq_true rfl⟩) hP hS rfl hl.1 rfl (Nat.le_of_ble_eq_true rfl) dX6_all_1 ⟨Nat.zero_le _, Nat.zero_le _⟩ (fun r1 H locs hp1 hP hS => ?_)
  rw [show r1 = _ from hp1]
  refine xb_if_eq (tgt := 15) hx hb dX6_all_4 rfl (fun b4 => ?_) (fun b4 => ?_)
  · skip
    refine lv_iconst (v := (-1)) hx hb dX6_all_15 (by decide) ?_
    refine W.iret (v := (-1)) hx hb hr (fun t ht hW => ⟨⟨(-1), (), rfl, ?_, trivial⟩, hS.F ht⟩) hS.2.2 dX6_all_16
    first | exact (if_neg (fun q => b4 q.1)).symm | exact (if_neg (fun q => b12 q.2)).symm | (rw [if_pos ⟨b4, inR_nI hd0 (by omega)⟩, tn_nI (by omega), hbits, show c = w * h by omega])
  · skip
    refine lv_aload_n hx hb dX6_all_7 rfl (lv_at hl 0 rfl) ?_
    refine lv_iload_n hx hb dX6_all_8 rfl (lv_at hl 2 rfl) ?_
    refine xr_i (As := [.int d]) (rest := []) ⟨hx, hb, hml, hown, hts⟩ (c_X6_isDay l G ko ad w h la tp ft tr mv d (by first | assumption | omega)) (cwV 1 hts gX6_all_X6_isDay rfl rfl rfl (by decide +kernel) ⟨Nat.le_of_ble_eq_true rfl, Nat.le_of_ble_eq_true rfl⟩) hK hP hS [0] rfl rfl rfl rfl hl.1 rfl (Nat.le_of_ble_eq_true rfl) dX6_all_9 ⟨Nat.zero_le _, Nat.zero_le _⟩ (fun r9 H locs hp9 hP hS => ?_)
    rw [show r9 = _ from hp9]
    refine xb_if_ne (tgt := 17) hx hb dX6_all_12 rfl (fun b12 => ?_) (fun b12 => ?_)
    · skip
      obtain ⟨d0, hd0, rfl⟩ := inR_nat b12
      refine lv_iconst (v := nI 0) hx hb dX6_all_17 (by decide) ?_
      refine lv_istore_n (lv' := [(3, .int (nI 0)), (0, .ref ko), (1, .int m), (2, .int (nI d0))]) hx hb dX6_all_18 rfl hl (by decide) rfl (fun ls hl => ?_)
      refine lv_iconst (v := nI 0) hx hb dX6_all_19 (by decide) ?_
      refine lv_istore (lv' := [(4, .int (nI 0)), (3, .int (nI 0)), (0, .ref ko), (1, .int m), (2, .int (nI d0))]) hx hb dX6_all_20 hl (by decide) rfl (fun ls hl => ?_)
      have hL22 : ∀ k : Nat, ∀ (c : Nat) (bits : Int32) (ls : Array Slot) (H : Heap) (locs : List Loc), w * h - c = k → (c ≤ w * h) → (bits = xbits (fun c => decide (mkM S nc c d0 = m)) c) → lv_has ls 5 [(0, .ref ko), (1, .int m), (2, .int (nI d0)), (3, .int bits), (4, .int (nI c))] → xP G [iA G (ad 0) 255 S, oC ko 6 [.ref (ad 0), .ref (ad 1), .int (nI w), .int (nI h), .int (nI la), .ref (ad 2), .int (mv 0), .int (mv 1), .int (mv 2), .int (mv 3), .int (mv 4), .int (mv 5), .int (mv 6), .ref (ad 3), .int (nI tp), .int (mv 7), .int (mv 8), .int (mv 9), .int (mv 10), .int ft, .int (mv 11), .ref (ad 4), .ref (ad 5), .ref (ad 6), .ref (ad 7), .ref (ad 8), .ref (ad 9), .ref (ad 10), .int tr]] H → va_S (fun _ => False) ss.heap H locs → W pp l ee ({ frames := 2, cells := 0, slots := 0, locals := 46 } : Room) ss mm ([.ref ko, .int m, .int (nI d0)] : List Value).toArray below mt cd H locs 0 0 (MQ below (Q_X6_all G ko ad w h la tp ft tr mv S nc m (nI d0)) ([.ref ko, .int m, .int (nI d0)] : List Value).toArray ss 0 0 (fun _ => False)) (F0 mm 22 ls []) := by
        intro k
        induction k using Nat.strongRecOn with
        | _ k ih22 =>
        intro c bits ls H locs hm22 hc hbits hl hP hS
        refine lv_iload hx hb dX6_all_22 (lv_at hl 4 rfl) ?_
        refine lv_aload_n hx hb dX6_all_24 rfl (lv_at hl 0 rfl) ?_
        refine xr_i (As := []) (rest := [.int (nI c)]) ⟨hx, hb, hml, hown, hts⟩ (c_X6_cellsNow l G ko ad w h la tp ft tr mv ) (cwV 0 hts gX6_all_X6_cellsNow rfl rfl rfl (by decide +kernel) ⟨Nat.le_of_ble_eq_true rfl, Nat.le_of_ble_eq_true rfl⟩) hK hP hS [1] rfl rfl rfl rfl hl.1 rfl (Nat.le_of_ble_eq_true rfl) dX6_all_25 ⟨Nat.zero_le _, Nat.zero_le _⟩ (fun r25 H locs hp25 hP hS => ?_)
        rw [show r25 = _ from hp25]
        refine xn_icmp_ge (tgt := 62) hx hb (by omega) (by omega) dX6_all_28 rfl (fun b28 => ?_) (fun b28 => ?_)
        · skip
          refine lv_iload_n hx hb dX6_all_62 rfl (lv_at hl 3 rfl) ?_
          refine W.iret (v := bits) hx hb hr (fun t ht hW => ⟨⟨bits, (), rfl, ?_, trivial⟩, hS.F ht⟩) hS.2.2 dX6_all_63
          first | exact (if_neg (fun q => b4 q.1)).symm | exact (if_neg (fun q => b12 q.2)).symm | (rw [if_pos ⟨b4, inR_nI hd0 (by omega)⟩, tn_nI (by omega), hbits, show c = w * h by omega])
        · skip
          refine lv_iload_n hx hb dX6_all_31 rfl (lv_at hl 3 rfl) ?_
          refine lv_aload_n hx hb dX6_all_32 rfl (lv_at hl 0 rfl) ?_
          refine lv_iload hx hb dX6_all_33 (lv_at hl 4 rfl) ?_
          refine lv_iload_n hx hb dX6_all_35 rfl (lv_at hl 2 rfl) ?_
          refine xr_i (As := [.int (nI c), .int (nI d0)]) (rest := [.int bits]) ⟨hx, hb, hml, hown, hts⟩ (c_X6_markOf l G ko ad w h la tp ft tr mv S _ c d0 (by first | assumption | omega) (by first | assumption | omega) (by first | assumption | omega) (by first | assumption | omega)) (cwV 2 hts gX6_all_X6_markOf rfl rfl rfl (by decide +kernel) ⟨Nat.le_of_ble_eq_true rfl, Nat.le_of_ble_eq_true rfl⟩) hK hP hS [1, 0] rfl rfl rfl rfl hl.1 rfl (Nat.le_of_ble_eq_true rfl) dX6_all_36 ⟨Nat.zero_le _, Nat.zero_le _⟩ (fun r36 H locs hp36 hP hS => ?_)
          rw [show r36 = _ from hp36]
          refine lv_iload_n hx hb dX6_all_39 rfl (lv_at hl 1 rfl) ?_
          refine lv_icmp_ne (tgt := 47) hx hb dX6_all_40 rfl (fun b40 => ?_) (fun b40 => ?_)
          · skip
            refine lv_iconst (v := nI 0) hx hb dX6_all_47 (by decide) ?_
            refine xs_i (As := [.int (nI 0)]) (rest := [.int bits]) ⟨hx, hb, hml, hown, hts⟩ (c_X6_flag_0 l G) (va_cwS 1 hts gX6_all_X6_flag rfl rfl rfl (by decide +kernel) ⟨Nat.le_of_ble_eq_true rfl, Nat.le_of_ble_eq_true rfl⟩) hP hS rfl hl.1 rfl (Nat.le_of_ble_eq_true rfl) dX6_all_48 ⟨Nat.zero_le _, Nat.zero_le _⟩ (fun r48 H locs hp48 hP hS => ?_)
            rw [show r48 = _ from hp48]
            refine lv_iload hx hb dX6_all_51 (lv_at hl 4 rfl) ?_
            refine lv_ishl hx hb dX6_all_53 ?_
            refine lv_ior hx hb dX6_all_54 ?_
            refine lv_istore_n (lv' := [(3, .int (bits ||| ((nI 0) <<< ((nI c) &&& 31)))), (0, .ref ko), (1, .int m), (2, .int (nI d0)), (4, .int (nI c))]) hx hb dX6_all_55 rfl hl (by decide) rfl (fun ls hl => ?_)
            refine lv_iinc (k := 4) (v := nI (c + 1)) (lv' := [(4, .int (nI (c + 1))), (3, .int (bits ||| ((nI 0) <<< ((nI c) &&& 31)))), (0, .ref ko), (1, .int m), (2, .int (nI d0))]) hx hb dX6_all_56 hl rfl (xn_inc c 1) (by decide) rfl (fun ls hl => ?_)
            refine lv_goto (tgt := 22) hx hb dX6_all_59 rfl ?_
            have hl := lv_sub hl (l' := [(0, .ref ko), (1, .int m), (2, .int (nI d0)), (3, .int (bits ||| ((nI 0) <<< ((nI c) &&& 31)))), (4, .int (nI (c + 1)))]) [2, 3, 4, 1, 0] rfl
            exact ih22 (w * h - (c + 1)) (by omega) (c + 1) (bits ||| ((nI 0) <<< ((nI c) &&& 31))) ls H locs rfl (by omega) (by first | exact xbits_T (decide_eq_true b40) hbits | exact xbits_Z (decide_eq_false b40) hbits) hl hP hS
          · skip
            refine lv_iconst (v := nI 1) hx hb dX6_all_43 (by decide) ?_
            refine lv_goto (tgt := 48) hx hb dX6_all_44 rfl ?_
            refine xs_i (As := [.int (nI 1)]) (rest := [.int bits]) ⟨hx, hb, hml, hown, hts⟩ (c_X6_flag_1 l G) (va_cwS 1 hts gX6_all_X6_flag rfl rfl rfl (by decide +kernel) ⟨Nat.le_of_ble_eq_true rfl, Nat.le_of_ble_eq_true rfl⟩) hP hS rfl hl.1 rfl (Nat.le_of_ble_eq_true rfl) dX6_all_48 ⟨Nat.zero_le _, Nat.zero_le _⟩ (fun r48 H locs hp48 hP hS => ?_)
            rw [show r48 = _ from hp48]
            refine lv_iload hx hb dX6_all_51 (lv_at hl 4 rfl) ?_
            refine lv_ishl hx hb dX6_all_53 ?_
            refine lv_ior hx hb dX6_all_54 ?_
            refine lv_istore_n (lv' := [(3, .int (bits ||| ((nI 1) <<< ((nI c) &&& 31)))), (0, .ref ko), (1, .int m), (2, .int (nI d0)), (4, .int (nI c))]) hx hb dX6_all_55 rfl hl (by decide) rfl (fun ls hl => ?_)
            refine lv_iinc (k := 4) (v := nI (c + 1)) (lv' := [(4, .int (nI (c + 1))), (3, .int (bits ||| ((nI 1) <<< ((nI c) &&& 31)))), (0, .ref ko), (1, .int m), (2, .int (nI d0))]) hx hb dX6_all_56 hl rfl (xn_inc c 1) (by decide) rfl (fun ls hl => ?_)
            refine lv_goto (tgt := 22) hx hb dX6_all_59 rfl ?_
            have hl := lv_sub hl (l' := [(0, .ref ko), (1, .int m), (2, .int (nI d0)), (3, .int (bits ||| ((nI 1) <<< ((nI c) &&& 31)))), (4, .int (nI (c + 1)))]) [2, 3, 4, 1, 0] rfl
            exact ih22 (w * h - (c + 1)) (by omega) (c + 1) (bits ||| ((nI 1) <<< ((nI c) &&& 31))) ls H locs rfl (by omega) (by first | exact xbits_T (decide_eq_true b40) hbits | exact xbits_Z (decide_eq_false b40) hbits) hl hP hS
      have hl := lv_sub hl (l' := [(0, .ref ko), (1, .int m), (2, .int (nI d0)), (3, .int (nI 0)), (4, .int (nI 0))]) [2, 3, 4, 1, 0] rfl
      have hP := hP.sub (ws' := [iA G (ad 0) 255 S, oC ko 6 [.ref (ad 0), .ref (ad 1), .int (nI w), .int (nI h), .int (nI la), .ref (ad 2), .int (mv 0), .int (mv 1), .int (mv 2), .int (mv 3), .int (mv 4), .int (mv 5), .int (mv 6), .ref (ad 3), .int (nI tp), .int (mv 7), .int (mv 8), .int (mv 9), .int (mv 10), .int ft, .int (mv 11), .ref (ad 4), .ref (ad 5), .ref (ad 6), .ref (ad 7), .ref (ad 8), .ref (ad 9), .ref (ad 10), .int tr]]) [1, 0] rfl
      exact hL22 (w * h - 0) 0 (nI 0) ls H locs rfl (by omega) (by rfl) hl hP hS
    · skip
      refine lv_iconst (v := (-1)) hx hb dX6_all_15 (by decide) ?_
      refine W.iret (v := (-1)) hx hb hr (fun t ht hW => ⟨⟨(-1), (), rfl, ?_, trivial⟩, hS.F ht⟩) hS.2.2 dX6_all_16
      first | exact (if_neg (fun q => b4 q.1)).symm | exact (if_neg (fun q => b12 q.2)).symm | (rw [if_pos ⟨b4, inR_nI hd0 (by omega)⟩, tn_nI (by omega), hbits, show c = w * h by omega])

abbrev w_X6_shows (G : XG) (ko : Nat) (ad : Nat → Nat) (w h la tp : Nat) (ft tr : Int32) (mv : Nat → Int32) (S mk : Nat → Int32) : va_W := [oC ko 6 [.ref (ad 0), .ref (ad 1), .int (nI w), .int (nI h), .int (nI la), .ref (ad 2), .int (mv 0), .int (mv 1), .int (mv 2), .int (mv 3), .int (mv 4), .int (mv 5), .int (mv 6), .ref (ad 3), .int (nI tp), .int (mv 7), .int (mv 8), .int (mv 9), .int (mv 10), .int ft, .int (mv 11), .ref (ad 4), .ref (ad 5), .ref (ad 6), .ref (ad 7), .ref (ad 8), .ref (ad 9), .ref (ad 10), .int tr], iA G (ad 0) 255 S, iA G (ad 4) 16 mk]
abbrev Q_X6_shows (G : XG) (sz : Nat) (ko : Nat) (ad : Nat → Nat) (w h la tp : Nat) (ft tr : Int32) (mv : Nat → Int32) (S mk : Nat → Int32) (nc : Nat) (nl : Nat) (l1 x c : Int32) : Array Value → State → Outcome → State → Prop := (va_Qi (fun (r : Int32) (u : (Nat → Int32)) => r = (if inR l1 nl ∧ inR x (w * h) ∧ inR c (w * h) then (if (shM w h S nc (tn l1) (tn x) >>> (nI (tn c) &&& 31)) &&& nI 1 = nI 1 then mkM S nc (tn c) (tn (S (48 + 2 * tn l1))) else (-4)) else (-1))) (xWb G sz (w_X6_shows G ko ad w h la tp ft tr mv S mk) (fun u : (Nat → Int32) => [oC ko 6 [.ref (ad 0), .ref (ad 1), .int (nI w), .int (nI h), .int (nI la), .ref (ad 2), .int (mv 0), .int (mv 1), .int (mv 2), .int (mv 3), .int (mv 4), .int (mv 5), .int (mv 6), .ref (ad 3), .int (nI tp), .int (mv 7), .int (mv 8), .int (mv 9), .int (mv 10), .int ft, .int (mv 11), .ref (ad 4), .ref (ad 5), .ref (ad 6), .ref (ad 7), .ref (ad 8), .ref (ad 9), .ref (ad 10), .int tr], iA G (ad 0) 255 S, iA G (ad 4) 16 u])) (va_A (w_X6_shows G ko ad w h la tp ft tr mv S mk) sz))
set_option maxHeartbeats 4000000 in
set_option maxRecDepth 100000 in
theorem c_X6_shows (l : Launch) (G : XG) (sz : Nat) (ko : Nat) (ad : Nat → Nat) (w h la tp : Nat) (ft tr : Int32) (mv : Nat → Int32) (S mk : Nat → Int32) (nc : Nat) (nl : Nat) (l1 x c : Int32) (hw : 1 ≤ w) (hwb : w ≤ 16) (hhb : h ≤ 16) (hwh1 : 1 ≤ w * h) (hwh : w * h ≤ 16) (hla : la ≤ 9) (hs16 : S 16 = nI nc) (hnc : nc ≤ 10) (hs47 : S 47 = nI nl) (hnl : nl ≤ 6) (hlens : ∀ i, i < nl → inR (S (48 + 2 * i)) (la + 1)) : Met l yX6_shows wsX6_shows ({ frames := 5, cells := 0, slots := 0, locals := 111 } : Room) (va_Pc [.ref ko, .int l1, .int x, .int c] (xWp G sz (w_X6_shows G ko ad w h la tp ft tr mv S mk))) (Q_X6_shows G sz ko ad w h la tp ft tr mv S mk nc nl l1 x c) 0 0 (va_A (w_X6_shows G ko ad w h la tp ft tr mv S mk) sz) := by
  refine Met.ofW (cc := cX6_shows) (maxL := 4) (ret := (some .int)) (by decide) rfl ?_
  intro pp ee ss mm aa below mt cd s₁ BB hml hv
  obtain ⟨rfl, hsz, hP, hK, hD0⟩ := hv
  have hx := BB.exec
  have hb := BB.bytes
  have hr := BB.returns
  have hts := atoms_spec (ws := wsX6_shows) BB.pre
  have hown : ss.vm.findClass RX6 = some mm.cls := findClass_of_methodNamed BB.named
  have hlocks := BB.notSynchronized
  subst hsz
  have hD := hD0.self (sz := ss.heap.size)
  have hA : ∀ q : Nat, ss.heap.size ≤ q → va_A (w_X6_shows G ko ad w h la tp ft tr mv S mk) ss.heap.size q := fun q h => Or.inr h
  have hS : va_S (va_A (w_X6_shows G ko ad w h la tp ft tr mv S mk) ss.heap.size) ss.heap ss.heap [] := va_S.rf
  replace hD : va_D (va_A (w_X6_shows G ko ad w h la tp ft tr mv S mk) ss.heap.size) [oC ko 6 [.ref (ad 0), .ref (ad 1), .int (nI w), .int (nI h), .int (nI la), .ref (ad 2), .int (mv 0), .int (mv 1), .int (mv 2), .int (mv 3), .int (mv 4), .int (mv 5), .int (mv 6), .ref (ad 3), .int (nI tp), .int (mv 7), .int (mv 8), .int (mv 9), .int (mv 10), .int ft, .int (mv 11), .ref (ad 4), .ref (ad 5), .ref (ad 6), .ref (ad 7), .ref (ad 8), .ref (ad 9), .ref (ad 10), .int tr], iA G (ad 0) 255 S, iA G (ad 4) 16 mk] := hD
  replace hP : xP G [oC ko 6 [.ref (ad 0), .ref (ad 1), .int (nI w), .int (nI h), .int (nI la), .ref (ad 2), .int (mv 0), .int (mv 1), .int (mv 2), .int (mv 3), .int (mv 4), .int (mv 5), .int (mv 6), .ref (ad 3), .int (nI tp), .int (mv 7), .int (mv 8), .int (mv 9), .int (mv 10), .int ft, .int (mv 11), .ref (ad 4), .ref (ad 5), .ref (ad 6), .ref (ad 7), .ref (ad 8), .ref (ad 9), .ref (ad 10), .int tr], iA G (ad 0) 255 S, iA G (ad 4) 16 mk] ss.heap := hP
  have hin6 : ∀ w ∈ u_ws RX6 TX6 29, w ∈ wsX6_shows := fun w h => List.mem_cons_of_mem _ (List.mem_append_right _ h)
  have hl := lv_entry ([.ref ko, .int l1, .int x, .int c]) (n := 4) (Nat.le_of_ble_eq_true rfl)
  rw [lg_entry_eq]
  generalize (lg_sl ([.ref ko, .int l1, .int x, .int c]) ++ List.replicate (4 - (lg_sl ([.ref ko, .int l1, .int x, .int c])).length) Slot.unset).toArray = ls at hl ⊢
  replace hl : lv_has ls 4 [(0, .ref ko), (1, .int l1), (2, .int x), (3, .int c)] := hl
  refine lv_aload_n hx hb dX6_shows_0 rfl (lv_at hl 0 rfl) ?_
  refine lv_iload_n hx hb dX6_shows_1 rfl (lv_at hl 1 rfl) ?_
  refine xr_i (As := [.int l1]) (rest := []) ⟨hx, hb, hml, hown, hts⟩ (c_X6_isLens l G ko ad w h la tp ft tr mv S _ l1 (by first | assumption | omega) (by first | assumption | omega)) (cwV 1 hts gX6_shows_X6_isLens rfl rfl rfl (by decide +kernel) ⟨Nat.le_of_ble_eq_true rfl, Nat.le_of_ble_eq_true rfl⟩) hK hP hS [0, 1] rfl rfl rfl rfl hl.1 rfl (Nat.le_of_ble_eq_true rfl) dX6_shows_2 ⟨Nat.zero_le _, Nat.zero_le _⟩ (fun r2 H locs hp2 hP hS => ?_)
  rw [show r2 = _ from hp2]
  refine xb_if_eq (tgt := 24) hx hb dX6_shows_5 rfl (fun b5 => ?_) (fun b5 => ?_)
  · skip
    refine lv_iconst (v := (-1)) hx hb dX6_shows_24 (by decide) ?_
    have hP := hP.sub (ws' := [oC ko 6 [.ref (ad 0), .ref (ad 1), .int (nI w), .int (nI h), .int (nI la), .ref (ad 2), .int (mv 0), .int (mv 1), .int (mv 2), .int (mv 3), .int (mv 4), .int (mv 5), .int (mv 6), .ref (ad 3), .int (nI tp), .int (mv 7), .int (mv 8), .int (mv 9), .int (mv 10), .int ft, .int (mv 11), .ref (ad 4), .ref (ad 5), .ref (ad 6), .ref (ad 7), .ref (ad 8), .ref (ad 9), .ref (ad 10), .int tr], iA G (ad 0) 255 S, iA G (ad 4) 16 mk]) [0, 1, 2] rfl
    have hD := hD.sub (ws' := [oC ko 6 [.ref (ad 0), .ref (ad 1), .int (nI w), .int (nI h), .int (nI la), .ref (ad 2), .int (mv 0), .int (mv 1), .int (mv 2), .int (mv 3), .int (mv 4), .int (mv 5), .int (mv 6), .ref (ad 3), .int (nI tp), .int (mv 7), .int (mv 8), .int (mv 9), .int (mv 10), .int ft, .int (mv 11), .ref (ad 4), .ref (ad 5), .ref (ad 6), .ref (ad 7), .ref (ad 8), .ref (ad 9), .ref (ad 10), .int tr], iA G (ad 0) 255 S, iA G (ad 4) 16 mk]) [0, 1, 2] (by decide) rfl
    refine W.iret (v := (-1)) hx hb hr (fun t ht hW => ⟨⟨(-1), (mk), rfl, ?_, by rw [ht]; exact hP, hD⟩, hS.F ht⟩) hS.2.2 dX6_shows_25
    first | exact (if_neg (fun q => b5 q.1)).symm | exact (if_neg (fun q => b13 q.2.1)).symm | exact (if_neg (fun q => b21 q.2.2)).symm | (rw [if_pos ⟨inR_nI hl0 (by omega), inR_nI hx0 (by omega), inR_nI hc0 (by omega)⟩, tn_nI (by omega), tn_nI (by omega), tn_nI (by omega)]; first | exact (if_neg b37).symm | (rw [if_pos b37, ed0, tn_nI (by omega)]))
  · skip
    refine lv_aload_n hx hb dX6_shows_8 rfl (lv_at hl 0 rfl) ?_
    refine lv_iload_n hx hb dX6_shows_9 rfl (lv_at hl 2 rfl) ?_
    refine xr_i (As := [.int x]) (rest := []) ⟨hx, hb, hml, hown, hts⟩ (c_X6_isCell l G ko ad w h la tp ft tr mv x (by first | assumption | omega) (by first | assumption | omega)) (cwV 1 hts gX6_shows_X6_isCell rfl rfl rfl (by decide +kernel) ⟨Nat.le_of_ble_eq_true rfl, Nat.le_of_ble_eq_true rfl⟩) hK hP hS [0] rfl rfl rfl rfl hl.1 rfl (Nat.le_of_ble_eq_true rfl) dX6_shows_10 ⟨Nat.zero_le _, Nat.zero_le _⟩ (fun r10 H locs hp10 hP hS => ?_)
    rw [show r10 = _ from hp10]
    refine xb_if_eq (tgt := 24) hx hb dX6_shows_13 rfl (fun b13 => ?_) (fun b13 => ?_)
    · skip
      refine lv_iconst (v := (-1)) hx hb dX6_shows_24 (by decide) ?_
      have hP := hP.sub (ws' := [oC ko 6 [.ref (ad 0), .ref (ad 1), .int (nI w), .int (nI h), .int (nI la), .ref (ad 2), .int (mv 0), .int (mv 1), .int (mv 2), .int (mv 3), .int (mv 4), .int (mv 5), .int (mv 6), .ref (ad 3), .int (nI tp), .int (mv 7), .int (mv 8), .int (mv 9), .int (mv 10), .int ft, .int (mv 11), .ref (ad 4), .ref (ad 5), .ref (ad 6), .ref (ad 7), .ref (ad 8), .ref (ad 9), .ref (ad 10), .int tr], iA G (ad 0) 255 S, iA G (ad 4) 16 mk]) [0, 1, 2] rfl
      have hD := hD.sub (ws' := [oC ko 6 [.ref (ad 0), .ref (ad 1), .int (nI w), .int (nI h), .int (nI la), .ref (ad 2), .int (mv 0), .int (mv 1), .int (mv 2), .int (mv 3), .int (mv 4), .int (mv 5), .int (mv 6), .ref (ad 3), .int (nI tp), .int (mv 7), .int (mv 8), .int (mv 9), .int (mv 10), .int ft, .int (mv 11), .ref (ad 4), .ref (ad 5), .ref (ad 6), .ref (ad 7), .ref (ad 8), .ref (ad 9), .ref (ad 10), .int tr], iA G (ad 0) 255 S, iA G (ad 4) 16 mk]) [0, 1, 2] (by decide) rfl
      refine W.iret (v := (-1)) hx hb hr (fun t ht hW => ⟨⟨(-1), (mk), rfl, ?_, by rw [ht]; exact hP, hD⟩, hS.F ht⟩) hS.2.2 dX6_shows_25
      first | exact (if_neg (fun q => b5 q.1)).symm | exact (if_neg (fun q => b13 q.2.1)).symm | exact (if_neg (fun q => b21 q.2.2)).symm | (rw [if_pos ⟨inR_nI hl0 (by omega), inR_nI hx0 (by omega), inR_nI hc0 (by omega)⟩, tn_nI (by omega), tn_nI (by omega), tn_nI (by omega)]; first | exact (if_neg b37).symm | (rw [if_pos b37, ed0, tn_nI (by omega)]))
    · skip
      refine lv_aload_n hx hb dX6_shows_16 rfl (lv_at hl 0 rfl) ?_
      refine lv_iload_n hx hb dX6_shows_17 rfl (lv_at hl 3 rfl) ?_
      refine xr_i (As := [.int c]) (rest := []) ⟨hx, hb, hml, hown, hts⟩ (c_X6_isCell l G ko ad w h la tp ft tr mv c (by first | assumption | omega) (by first | assumption | omega)) (cwV 1 hts gX6_shows_X6_isCell rfl rfl rfl (by decide +kernel) ⟨Nat.le_of_ble_eq_true rfl, Nat.le_of_ble_eq_true rfl⟩) hK hP hS [0] rfl rfl rfl rfl hl.1 rfl (Nat.le_of_ble_eq_true rfl) dX6_shows_18 ⟨Nat.zero_le _, Nat.zero_le _⟩ (fun r18 H locs hp18 hP hS => ?_)
      rw [show r18 = _ from hp18]
      refine xb_if_ne (tgt := 26) hx hb dX6_shows_21 rfl (fun b21 => ?_) (fun b21 => ?_)
      · skip
        obtain ⟨l0, hl0, rfl⟩ := inR_nat b5
        obtain ⟨x0, hx0, rfl⟩ := inR_nat b13
        obtain ⟨c0, hc0, rfl⟩ := inR_nat b21
        refine lv_aload_n hx hb dX6_shows_26 rfl (lv_at hl 0 rfl) ?_
        refine lv_iload_n hx hb dX6_shows_27 rfl (lv_at hl 1 rfl) ?_
        refine lv_iload_n hx hb dX6_shows_28 rfl (lv_at hl 2 rfl) ?_
        refine xw_i (As := [.int (nI l0), .int (nI x0)]) (rest := []) (wr := []) ⟨hx, hb, hml, hown, hts⟩ (c_X6_shownBy l G H.size ko ad w h la tp ft tr mv S mk _ _ l0 x0 (by first | assumption | omega) (by first | assumption | omega) (by first | assumption | omega) (by first | assumption | omega) (by first | assumption | omega) (by first | assumption | omega) (by first | assumption | omega) (by first | assumption | omega) (by first | assumption | omega) (by first | assumption | omega) (by first | assumption | omega) (by first | assumption | omega) (by first | assumption | omega)) (cwV 2 hts gX6_shows_X6_shownBy rfl rfl rfl (by decide +kernel) ⟨Nat.le_of_ble_eq_true rfl, Nat.le_of_ble_eq_true rfl⟩) hK hP hD hS hA [0, 1, 2] [] rfl rfl (by decide) (by decide) (by decide) rfl rfl rfl hl.1 rfl (Nat.le_of_ble_eq_true rfl) dX6_shows_29 ⟨Nat.le_of_ble_eq_true rfl, Nat.le_of_ble_eq_true rfl⟩ (fun r29 u H locs hp29 hP hD hS => ?_)
        obtain ⟨mk2_29, rfl⟩ : ∃ z, z = u := ⟨_, rfl⟩
        try dsimp only at hp29 hP hD
        obtain rfl := hp29
        replace hP : xP G [oC ko 6 [.ref (ad 0), .ref (ad 1), .int (nI w), .int (nI h), .int (nI la), .ref (ad 2), .int (mv 0), .int (mv 1), .int (mv 2), .int (mv 3), .int (mv 4), .int (mv 5), .int (mv 6), .ref (ad 3), .int (nI tp), .int (mv 7), .int (mv 8), .int (mv 9), .int (mv 10), .int ft, .int (mv 11), .ref (ad 4), .ref (ad 5), .ref (ad 6), .ref (ad 7), .ref (ad 8), .ref (ad 9), .ref (ad 10), .int tr], iA G (ad 0) 255 S, iA G (ad 4) 16 mk2_29] H := hP
        replace hD : va_D (va_A (w_X6_shows G ko ad w h la tp ft tr mv S mk) ss.heap.size) [oC ko 6 [.ref (ad 0), .ref (ad 1), .int (nI w), .int (nI h), .int (nI la), .ref (ad 2), .int (mv 0), .int (mv 1), .int (mv 2), .int (mv 3), .int (mv 4), .int (mv 5), .int (mv 6), .ref (ad 3), .int (nI tp), .int (mv 7), .int (mv 8), .int (mv 9), .int (mv 10), .int ft, .int (mv 11), .ref (ad 4), .ref (ad 5), .ref (ad 6), .ref (ad 7), .ref (ad 8), .ref (ad 9), .ref (ad 10), .int tr], iA G (ad 0) 255 S, iA G (ad 4) 16 mk2_29] := hD
        refine lv_iload_n hx hb dX6_shows_32 rfl (lv_at hl 3 rfl) ?_
        refine lv_ishr hx hb dX6_shows_33 ?_
        refine lv_iconst (v := nI 1) hx hb dX6_shows_34 (by decide) ?_
        refine lv_iand hx hb dX6_shows_35 ?_
        refine lv_iconst (v := nI 1) hx hb dX6_shows_36 (by decide) ?_
        refine lv_icmp_ne (tgt := 59) hx hb dX6_shows_37 rfl (fun b37 => ?_) (fun b37 => ?_)
        · skip
          refine lv_bipush (v := (-4)) hx hb dX6_shows_59 (by decide) ?_
          have hP := hP.sub (ws' := [oC ko 6 [.ref (ad 0), .ref (ad 1), .int (nI w), .int (nI h), .int (nI la), .ref (ad 2), .int (mv 0), .int (mv 1), .int (mv 2), .int (mv 3), .int (mv 4), .int (mv 5), .int (mv 6), .ref (ad 3), .int (nI tp), .int (mv 7), .int (mv 8), .int (mv 9), .int (mv 10), .int ft, .int (mv 11), .ref (ad 4), .ref (ad 5), .ref (ad 6), .ref (ad 7), .ref (ad 8), .ref (ad 9), .ref (ad 10), .int tr], iA G (ad 0) 255 S, iA G (ad 4) 16 mk2_29]) [0, 1, 2] rfl
          have hD := hD.sub (ws' := [oC ko 6 [.ref (ad 0), .ref (ad 1), .int (nI w), .int (nI h), .int (nI la), .ref (ad 2), .int (mv 0), .int (mv 1), .int (mv 2), .int (mv 3), .int (mv 4), .int (mv 5), .int (mv 6), .ref (ad 3), .int (nI tp), .int (mv 7), .int (mv 8), .int (mv 9), .int (mv 10), .int ft, .int (mv 11), .ref (ad 4), .ref (ad 5), .ref (ad 6), .ref (ad 7), .ref (ad 8), .ref (ad 9), .ref (ad 10), .int tr], iA G (ad 0) 255 S, iA G (ad 4) 16 mk2_29]) [0, 1, 2] (by decide) rfl
          refine W.iret (v := (-4)) hx hb hr (fun t ht hW => ⟨⟨(-4), (mk2_29), rfl, ?_, by rw [ht]; exact hP, hD⟩, hS.F ht⟩) hS.2.2 dX6_shows_61
          first | exact (if_neg (fun q => b5 q.1)).symm | exact (if_neg (fun q => b13 q.2.1)).symm | exact (if_neg (fun q => b21 q.2.2)).symm | (rw [if_pos ⟨inR_nI hl0 (by omega), inR_nI hx0 (by omega), inR_nI hc0 (by omega)⟩, tn_nI (by omega), tn_nI (by omega), tn_nI (by omega)]; first | exact (if_neg b37).symm | (rw [if_pos b37, ed0, tn_nI (by omega)]))
        · skip
          refine lv_aload_n hx hb dX6_shows_40 rfl (lv_at hl 0 rfl) ?_
          refine lv_iload_n hx hb dX6_shows_41 rfl (lv_at hl 3 rfl) ?_
          refine lv_aload_n hx hb dX6_shows_42 rfl (lv_at hl 0 rfl) ?_
          refine va_get (D := G.1) (ci := 6) (v := .ref (ad 0)) (C := RX6) (T := TX6) (N := 29) hx hb hts hin6 hown hK.1 hP 0 rfl rfl 0 (by decide) (hts (.fieldLink RX6 7 "BackLensesModel" "st" "[I") (List.mem_of_getElem? (i := 1) rfl)) (fun _ h9 => h9) rfl dX6_shows_43 ?_
          refine lv_bipush (v := nI 48) hx hb dX6_shows_46 (by decide) ?_
          refine lv_iconst (v := nI 2) hx hb dX6_shows_48 (by decide) ?_
          refine lv_iload_n hx hb dX6_shows_49 rfl (lv_at hl 1 rfl) ?_
          refine xn_imul hx hb dX6_shows_50 ?_
          refine xn_iadd hx hb dX6_shows_51 ?_
          refine xn_iald hx hb hK hP 1 rfl (by omega) (by omega) dX6_shows_52 ?_
          obtain ⟨d0, hd0, ed0⟩ := inR_nat (hlens l0 (by omega))
          refine xn_top ed0 ?_
          refine xr_i (As := [.int (nI c0), .int (nI d0)]) (rest := []) ⟨hx, hb, hml, hown, hts⟩ (c_X6_markOf l G ko ad w h la tp ft tr mv S _ c0 d0 (by first | assumption | omega) (by first | assumption | omega) (by first | assumption | omega) (by first | assumption | omega)) (cwV 2 hts gX6_shows_X6_markOf rfl rfl rfl (by decide +kernel) ⟨Nat.le_of_ble_eq_true rfl, Nat.le_of_ble_eq_true rfl⟩) hK hP hS [0, 1] rfl rfl rfl rfl hl.1 rfl (Nat.le_of_ble_eq_true rfl) dX6_shows_53 ⟨Nat.zero_le _, Nat.zero_le _⟩ (fun r53 H locs hp53 hP hS => ?_)
          rw [show r53 = _ from hp53]
          refine lv_goto (tgt := 61) hx hb dX6_shows_56 rfl ?_
          have hP := hP.sub (ws' := [oC ko 6 [.ref (ad 0), .ref (ad 1), .int (nI w), .int (nI h), .int (nI la), .ref (ad 2), .int (mv 0), .int (mv 1), .int (mv 2), .int (mv 3), .int (mv 4), .int (mv 5), .int (mv 6), .ref (ad 3), .int (nI tp), .int (mv 7), .int (mv 8), .int (mv 9), .int (mv 10), .int ft, .int (mv 11), .ref (ad 4), .ref (ad 5), .ref (ad 6), .ref (ad 7), .ref (ad 8), .ref (ad 9), .ref (ad 10), .int tr], iA G (ad 0) 255 S, iA G (ad 4) 16 mk2_29]) [0, 1, 2] rfl
          have hD := hD.sub (ws' := [oC ko 6 [.ref (ad 0), .ref (ad 1), .int (nI w), .int (nI h), .int (nI la), .ref (ad 2), .int (mv 0), .int (mv 1), .int (mv 2), .int (mv 3), .int (mv 4), .int (mv 5), .int (mv 6), .ref (ad 3), .int (nI tp), .int (mv 7), .int (mv 8), .int (mv 9), .int (mv 10), .int ft, .int (mv 11), .ref (ad 4), .ref (ad 5), .ref (ad 6), .ref (ad 7), .ref (ad 8), .ref (ad 9), .ref (ad 10), .int tr], iA G (ad 0) 255 S, iA G (ad 4) 16 mk2_29]) [0, 1, 2] (by decide) rfl
          refine W.iret (v := mkM S _ c0 d0) hx hb hr (fun t ht hW => ⟨⟨mkM S _ c0 d0, (mk2_29), rfl, ?_, by rw [ht]; exact hP, hD⟩, hS.F ht⟩) hS.2.2 dX6_shows_61
          first | exact (if_neg (fun q => b5 q.1)).symm | exact (if_neg (fun q => b13 q.2.1)).symm | exact (if_neg (fun q => b21 q.2.2)).symm | (rw [if_pos ⟨inR_nI hl0 (by omega), inR_nI hx0 (by omega), inR_nI hc0 (by omega)⟩, tn_nI (by omega), tn_nI (by omega), tn_nI (by omega)]; first | exact (if_neg b37).symm | (rw [if_pos b37, ed0, tn_nI (by omega)]))
      · skip
        refine lv_iconst (v := (-1)) hx hb dX6_shows_24 (by decide) ?_
        have hP := hP.sub (ws' := [oC ko 6 [.ref (ad 0), .ref (ad 1), .int (nI w), .int (nI h), .int (nI la), .ref (ad 2), .int (mv 0), .int (mv 1), .int (mv 2), .int (mv 3), .int (mv 4), .int (mv 5), .int (mv 6), .ref (ad 3), .int (nI tp), .int (mv 7), .int (mv 8), .int (mv 9), .int (mv 10), .int ft, .int (mv 11), .ref (ad 4), .ref (ad 5), .ref (ad 6), .ref (ad 7), .ref (ad 8), .ref (ad 9), .ref (ad 10), .int tr], iA G (ad 0) 255 S, iA G (ad 4) 16 mk]) [0, 1, 2] rfl
        have hD := hD.sub (ws' := [oC ko 6 [.ref (ad 0), .ref (ad 1), .int (nI w), .int (nI h), .int (nI la), .ref (ad 2), .int (mv 0), .int (mv 1), .int (mv 2), .int (mv 3), .int (mv 4), .int (mv 5), .int (mv 6), .ref (ad 3), .int (nI tp), .int (mv 7), .int (mv 8), .int (mv 9), .int (mv 10), .int ft, .int (mv 11), .ref (ad 4), .ref (ad 5), .ref (ad 6), .ref (ad 7), .ref (ad 8), .ref (ad 9), .ref (ad 10), .int tr], iA G (ad 0) 255 S, iA G (ad 4) 16 mk]) [0, 1, 2] (by decide) rfl
        refine W.iret (v := (-1)) hx hb hr (fun t ht hW => ⟨⟨(-1), (mk), rfl, ?_, by rw [ht]; exact hP, hD⟩, hS.F ht⟩) hS.2.2 dX6_shows_25
        first | exact (if_neg (fun q => b5 q.1)).symm | exact (if_neg (fun q => b13 q.2.1)).symm | exact (if_neg (fun q => b21 q.2.2)).symm | (rw [if_pos ⟨inR_nI hl0 (by omega), inR_nI hx0 (by omega), inR_nI hc0 (by omega)⟩, tn_nI (by omega), tn_nI (by omega), tn_nI (by omega)]; first | exact (if_neg b37).symm | (rw [if_pos b37, ed0, tn_nI (by omega)]))

abbrev w_X6_frame (G : XG) (ko : Nat) (ad : Nat → Nat) (w h la tp : Nat) (ft tr : Int32) (mv : Nat → Int32) (S mk : Nat → Int32) : va_W := [oC ko 6 [.ref (ad 0), .ref (ad 1), .int (nI w), .int (nI h), .int (nI la), .ref (ad 2), .int (mv 0), .int (mv 1), .int (mv 2), .int (mv 3), .int (mv 4), .int (mv 5), .int (mv 6), .ref (ad 3), .int (nI tp), .int (mv 7), .int (mv 8), .int (mv 9), .int (mv 10), .int ft, .int (mv 11), .ref (ad 4), .ref (ad 5), .ref (ad 6), .ref (ad 7), .ref (ad 8), .ref (ad 9), .ref (ad 10), .int tr], iA G (ad 0) 255 S, iA G (ad 4) 16 mk]
abbrev Q_X6_frame (G : XG) (sz : Nat) (ko : Nat) (ad : Nat → Nat) (w h la tp : Nat) (ft tr : Int32) (mv : Nat → Int32) (S mk : Nat → Int32) (nc : Nat) (nl : Nat) (l1 k1 x : Int32) : Array Value → State → Outcome → State → Prop := (va_Qi (fun (r : Int32) (u : (Nat → Int32)) => r = (if inR l1 nl ∧ inR k1 nl ∧ inR x (w * h) then ((shM w h S nc (tn l1) (tn x) &&& shM w h S nc (tn k1) (tn x)) &&& unM w h S nc (tn (S (48 + 2 * tn l1))) (tn (S (48 + 2 * tn k1)))) else (-1))) (xWb G sz (w_X6_frame G ko ad w h la tp ft tr mv S mk) (fun u : (Nat → Int32) => [oC ko 6 [.ref (ad 0), .ref (ad 1), .int (nI w), .int (nI h), .int (nI la), .ref (ad 2), .int (mv 0), .int (mv 1), .int (mv 2), .int (mv 3), .int (mv 4), .int (mv 5), .int (mv 6), .ref (ad 3), .int (nI tp), .int (mv 7), .int (mv 8), .int (mv 9), .int (mv 10), .int ft, .int (mv 11), .ref (ad 4), .ref (ad 5), .ref (ad 6), .ref (ad 7), .ref (ad 8), .ref (ad 9), .ref (ad 10), .int tr], iA G (ad 0) 255 S, iA G (ad 4) 16 u])) (va_A (w_X6_frame G ko ad w h la tp ft tr mv S mk) sz))
set_option maxHeartbeats 4000000 in
set_option maxRecDepth 100000 in
theorem c_X6_frame (l : Launch) (G : XG) (sz : Nat) (ko : Nat) (ad : Nat → Nat) (w h la tp : Nat) (ft tr : Int32) (mv : Nat → Int32) (S mk : Nat → Int32) (nc : Nat) (nl : Nat) (l1 k1 x : Int32) (hw : 1 ≤ w) (hwb : w ≤ 16) (hhb : h ≤ 16) (hwh1 : 1 ≤ w * h) (hwh : w * h ≤ 16) (hla : la ≤ 9) (hs16 : S 16 = nI nc) (hnc : nc ≤ 10) (hs47 : S 47 = nI nl) (hnl : nl ≤ 6) (hlens : ∀ i, i < nl → inR (S (48 + 2 * i)) (la + 1)) : Met l yX6_frame wsX6_frame ({ frames := 5, cells := 0, slots := 0, locals := 111 } : Room) (va_Pc [.ref ko, .int l1, .int k1, .int x] (xWp G sz (w_X6_frame G ko ad w h la tp ft tr mv S mk))) (Q_X6_frame G sz ko ad w h la tp ft tr mv S mk nc nl l1 k1 x) 0 0 (va_A (w_X6_frame G ko ad w h la tp ft tr mv S mk) sz) := by
  refine Met.ofW (cc := cX6_frame) (maxL := 4) (ret := (some .int)) (by decide) rfl ?_
  intro pp ee ss mm aa below mt cd s₁ BB hml hv
  obtain ⟨rfl, hsz, hP, hK, hD0⟩ := hv
  have hx := BB.exec
  have hb := BB.bytes
  have hr := BB.returns
  have hts := atoms_spec (ws := wsX6_frame) BB.pre
  have hown : ss.vm.findClass RX6 = some mm.cls := findClass_of_methodNamed BB.named
  have hlocks := BB.notSynchronized
  subst hsz
  have hD := hD0.self (sz := ss.heap.size)
  have hA : ∀ q : Nat, ss.heap.size ≤ q → va_A (w_X6_frame G ko ad w h la tp ft tr mv S mk) ss.heap.size q := fun q h => Or.inr h
  have hS : va_S (va_A (w_X6_frame G ko ad w h la tp ft tr mv S mk) ss.heap.size) ss.heap ss.heap [] := va_S.rf
  replace hD : va_D (va_A (w_X6_frame G ko ad w h la tp ft tr mv S mk) ss.heap.size) [oC ko 6 [.ref (ad 0), .ref (ad 1), .int (nI w), .int (nI h), .int (nI la), .ref (ad 2), .int (mv 0), .int (mv 1), .int (mv 2), .int (mv 3), .int (mv 4), .int (mv 5), .int (mv 6), .ref (ad 3), .int (nI tp), .int (mv 7), .int (mv 8), .int (mv 9), .int (mv 10), .int ft, .int (mv 11), .ref (ad 4), .ref (ad 5), .ref (ad 6), .ref (ad 7), .ref (ad 8), .ref (ad 9), .ref (ad 10), .int tr], iA G (ad 0) 255 S, iA G (ad 4) 16 mk] := hD
  replace hP : xP G [oC ko 6 [.ref (ad 0), .ref (ad 1), .int (nI w), .int (nI h), .int (nI la), .ref (ad 2), .int (mv 0), .int (mv 1), .int (mv 2), .int (mv 3), .int (mv 4), .int (mv 5), .int (mv 6), .ref (ad 3), .int (nI tp), .int (mv 7), .int (mv 8), .int (mv 9), .int (mv 10), .int ft, .int (mv 11), .ref (ad 4), .ref (ad 5), .ref (ad 6), .ref (ad 7), .ref (ad 8), .ref (ad 9), .ref (ad 10), .int tr], iA G (ad 0) 255 S, iA G (ad 4) 16 mk] ss.heap := hP
  have hin6 : ∀ w ∈ u_ws RX6 TX6 29, w ∈ wsX6_frame := fun w h => List.mem_cons_of_mem _ (List.mem_append_right _ h)
  have hl := lv_entry ([.ref ko, .int l1, .int k1, .int x]) (n := 4) (Nat.le_of_ble_eq_true rfl)
  rw [lg_entry_eq]
  generalize (lg_sl ([.ref ko, .int l1, .int k1, .int x]) ++ List.replicate (4 - (lg_sl ([.ref ko, .int l1, .int k1, .int x])).length) Slot.unset).toArray = ls at hl ⊢
  replace hl : lv_has ls 4 [(0, .ref ko), (1, .int l1), (2, .int k1), (3, .int x)] := hl
  refine lv_aload_n hx hb dX6_frame_0 rfl (lv_at hl 0 rfl) ?_
  refine lv_iload_n hx hb dX6_frame_1 rfl (lv_at hl 1 rfl) ?_
  refine xr_i (As := [.int l1]) (rest := []) ⟨hx, hb, hml, hown, hts⟩ (c_X6_isLens l G ko ad w h la tp ft tr mv S _ l1 (by first | assumption | omega) (by first | assumption | omega)) (cwV 1 hts gX6_frame_X6_isLens rfl rfl rfl (by decide +kernel) ⟨Nat.le_of_ble_eq_true rfl, Nat.le_of_ble_eq_true rfl⟩) hK hP hS [0, 1] rfl rfl rfl rfl hl.1 rfl (Nat.le_of_ble_eq_true rfl) dX6_frame_2 ⟨Nat.zero_le _, Nat.zero_le _⟩ (fun r2 H locs hp2 hP hS => ?_)
  rw [show r2 = _ from hp2]
  refine xb_if_eq (tgt := 24) hx hb dX6_frame_5 rfl (fun b5 => ?_) (fun b5 => ?_)
  · skip
    refine lv_iconst (v := (-1)) hx hb dX6_frame_24 (by decide) ?_
    have hP := hP.sub (ws' := [oC ko 6 [.ref (ad 0), .ref (ad 1), .int (nI w), .int (nI h), .int (nI la), .ref (ad 2), .int (mv 0), .int (mv 1), .int (mv 2), .int (mv 3), .int (mv 4), .int (mv 5), .int (mv 6), .ref (ad 3), .int (nI tp), .int (mv 7), .int (mv 8), .int (mv 9), .int (mv 10), .int ft, .int (mv 11), .ref (ad 4), .ref (ad 5), .ref (ad 6), .ref (ad 7), .ref (ad 8), .ref (ad 9), .ref (ad 10), .int tr], iA G (ad 0) 255 S, iA G (ad 4) 16 mk]) [0, 1, 2] rfl
    have hD := hD.sub (ws' := [oC ko 6 [.ref (ad 0), .ref (ad 1), .int (nI w), .int (nI h), .int (nI la), .ref (ad 2), .int (mv 0), .int (mv 1), .int (mv 2), .int (mv 3), .int (mv 4), .int (mv 5), .int (mv 6), .ref (ad 3), .int (nI tp), .int (mv 7), .int (mv 8), .int (mv 9), .int (mv 10), .int ft, .int (mv 11), .ref (ad 4), .ref (ad 5), .ref (ad 6), .ref (ad 7), .ref (ad 8), .ref (ad 9), .ref (ad 10), .int tr], iA G (ad 0) 255 S, iA G (ad 4) 16 mk]) [0, 1, 2] (by decide) rfl
    refine W.iret (v := (-1)) hx hb hr (fun t ht hW => ⟨⟨(-1), (mk), rfl, ?_, by rw [ht]; exact hP, hD⟩, hS.F ht⟩) hS.2.2 dX6_frame_25
    first | exact (if_neg (fun q => b5 q.1)).symm | exact (if_neg (fun q => b13 q.2.1)).symm | exact (if_neg (fun q => b21 q.2.2)).symm | (rw [if_pos ⟨inR_nI hl0 (by omega), inR_nI hk0 (by omega), inR_nI hx0 (by omega)⟩, tn_nI (by omega), tn_nI (by omega), tn_nI (by omega), ed0, ee0, tn_nI (by omega), tn_nI (by omega)])
  · skip
    refine lv_aload_n hx hb dX6_frame_8 rfl (lv_at hl 0 rfl) ?_
    refine lv_iload_n hx hb dX6_frame_9 rfl (lv_at hl 2 rfl) ?_
    refine xr_i (As := [.int k1]) (rest := []) ⟨hx, hb, hml, hown, hts⟩ (c_X6_isLens l G ko ad w h la tp ft tr mv S _ k1 (by first | assumption | omega) (by first | assumption | omega)) (cwV 1 hts gX6_frame_X6_isLens rfl rfl rfl (by decide +kernel) ⟨Nat.le_of_ble_eq_true rfl, Nat.le_of_ble_eq_true rfl⟩) hK hP hS [0, 1] rfl rfl rfl rfl hl.1 rfl (Nat.le_of_ble_eq_true rfl) dX6_frame_10 ⟨Nat.zero_le _, Nat.zero_le _⟩ (fun r10 H locs hp10 hP hS => ?_)
    rw [show r10 = _ from hp10]
    refine xb_if_eq (tgt := 24) hx hb dX6_frame_13 rfl (fun b13 => ?_) (fun b13 => ?_)
    · skip
      refine lv_iconst (v := (-1)) hx hb dX6_frame_24 (by decide) ?_
      have hP := hP.sub (ws' := [oC ko 6 [.ref (ad 0), .ref (ad 1), .int (nI w), .int (nI h), .int (nI la), .ref (ad 2), .int (mv 0), .int (mv 1), .int (mv 2), .int (mv 3), .int (mv 4), .int (mv 5), .int (mv 6), .ref (ad 3), .int (nI tp), .int (mv 7), .int (mv 8), .int (mv 9), .int (mv 10), .int ft, .int (mv 11), .ref (ad 4), .ref (ad 5), .ref (ad 6), .ref (ad 7), .ref (ad 8), .ref (ad 9), .ref (ad 10), .int tr], iA G (ad 0) 255 S, iA G (ad 4) 16 mk]) [0, 1, 2] rfl
      have hD := hD.sub (ws' := [oC ko 6 [.ref (ad 0), .ref (ad 1), .int (nI w), .int (nI h), .int (nI la), .ref (ad 2), .int (mv 0), .int (mv 1), .int (mv 2), .int (mv 3), .int (mv 4), .int (mv 5), .int (mv 6), .ref (ad 3), .int (nI tp), .int (mv 7), .int (mv 8), .int (mv 9), .int (mv 10), .int ft, .int (mv 11), .ref (ad 4), .ref (ad 5), .ref (ad 6), .ref (ad 7), .ref (ad 8), .ref (ad 9), .ref (ad 10), .int tr], iA G (ad 0) 255 S, iA G (ad 4) 16 mk]) [0, 1, 2] (by decide) rfl
      refine W.iret (v := (-1)) hx hb hr (fun t ht hW => ⟨⟨(-1), (mk), rfl, ?_, by rw [ht]; exact hP, hD⟩, hS.F ht⟩) hS.2.2 dX6_frame_25
      first | exact (if_neg (fun q => b5 q.1)).symm | exact (if_neg (fun q => b13 q.2.1)).symm | exact (if_neg (fun q => b21 q.2.2)).symm | (rw [if_pos ⟨inR_nI hl0 (by omega), inR_nI hk0 (by omega), inR_nI hx0 (by omega)⟩, tn_nI (by omega), tn_nI (by omega), tn_nI (by omega), ed0, ee0, tn_nI (by omega), tn_nI (by omega)])
    · skip
      refine lv_aload_n hx hb dX6_frame_16 rfl (lv_at hl 0 rfl) ?_
      refine lv_iload_n hx hb dX6_frame_17 rfl (lv_at hl 3 rfl) ?_
      refine xr_i (As := [.int x]) (rest := []) ⟨hx, hb, hml, hown, hts⟩ (c_X6_isCell l G ko ad w h la tp ft tr mv x (by first | assumption | omega) (by first | assumption | omega)) (cwV 1 hts gX6_frame_X6_isCell rfl rfl rfl (by decide +kernel) ⟨Nat.le_of_ble_eq_true rfl, Nat.le_of_ble_eq_true rfl⟩) hK hP hS [0] rfl rfl rfl rfl hl.1 rfl (Nat.le_of_ble_eq_true rfl) dX6_frame_18 ⟨Nat.zero_le _, Nat.zero_le _⟩ (fun r18 H locs hp18 hP hS => ?_)
      rw [show r18 = _ from hp18]
      refine xb_if_ne (tgt := 26) hx hb dX6_frame_21 rfl (fun b21 => ?_) (fun b21 => ?_)
      · skip
        obtain ⟨l0, hl0, rfl⟩ := inR_nat b5
        obtain ⟨k0, hk0, rfl⟩ := inR_nat b13
        obtain ⟨x0, hx0, rfl⟩ := inR_nat b21
        refine lv_aload_n hx hb dX6_frame_26 rfl (lv_at hl 0 rfl) ?_
        refine lv_iload_n hx hb dX6_frame_27 rfl (lv_at hl 1 rfl) ?_
        refine lv_iload_n hx hb dX6_frame_28 rfl (lv_at hl 3 rfl) ?_
        refine xw_i (As := [.int (nI l0), .int (nI x0)]) (rest := []) (wr := []) ⟨hx, hb, hml, hown, hts⟩ (c_X6_shownBy l G H.size ko ad w h la tp ft tr mv S mk _ _ l0 x0 (by first | assumption | omega) (by first | assumption | omega) (by first | assumption | omega) (by first | assumption | omega) (by first | assumption | omega) (by first | assumption | omega) (by first | assumption | omega) (by first | assumption | omega) (by first | assumption | omega) (by first | assumption | omega) (by first | assumption | omega) (by first | assumption | omega) (by first | assumption | omega)) (cwV 2 hts gX6_frame_X6_shownBy rfl rfl rfl (by decide +kernel) ⟨Nat.le_of_ble_eq_true rfl, Nat.le_of_ble_eq_true rfl⟩) hK hP hD hS hA [0, 1, 2] [] rfl rfl (by decide) (by decide) (by decide) rfl rfl rfl hl.1 rfl (Nat.le_of_ble_eq_true rfl) dX6_frame_29 ⟨Nat.le_of_ble_eq_true rfl, Nat.le_of_ble_eq_true rfl⟩ (fun r29 u H locs hp29 hP hD hS => ?_)
        obtain ⟨mk2_29, rfl⟩ : ∃ z, z = u := ⟨_, rfl⟩
        try dsimp only at hp29 hP hD
        obtain rfl := hp29
        replace hP : xP G [oC ko 6 [.ref (ad 0), .ref (ad 1), .int (nI w), .int (nI h), .int (nI la), .ref (ad 2), .int (mv 0), .int (mv 1), .int (mv 2), .int (mv 3), .int (mv 4), .int (mv 5), .int (mv 6), .ref (ad 3), .int (nI tp), .int (mv 7), .int (mv 8), .int (mv 9), .int (mv 10), .int ft, .int (mv 11), .ref (ad 4), .ref (ad 5), .ref (ad 6), .ref (ad 7), .ref (ad 8), .ref (ad 9), .ref (ad 10), .int tr], iA G (ad 0) 255 S, iA G (ad 4) 16 mk2_29] H := hP
        replace hD : va_D (va_A (w_X6_frame G ko ad w h la tp ft tr mv S mk) ss.heap.size) [oC ko 6 [.ref (ad 0), .ref (ad 1), .int (nI w), .int (nI h), .int (nI la), .ref (ad 2), .int (mv 0), .int (mv 1), .int (mv 2), .int (mv 3), .int (mv 4), .int (mv 5), .int (mv 6), .ref (ad 3), .int (nI tp), .int (mv 7), .int (mv 8), .int (mv 9), .int (mv 10), .int ft, .int (mv 11), .ref (ad 4), .ref (ad 5), .ref (ad 6), .ref (ad 7), .ref (ad 8), .ref (ad 9), .ref (ad 10), .int tr], iA G (ad 0) 255 S, iA G (ad 4) 16 mk2_29] := hD
        refine lv_aload_n hx hb dX6_frame_32 rfl (lv_at hl 0 rfl) ?_
        refine lv_iload_n hx hb dX6_frame_33 rfl (lv_at hl 2 rfl) ?_
        refine lv_iload_n hx hb dX6_frame_34 rfl (lv_at hl 3 rfl) ?_
        refine xw_i (As := [.int (nI k0), .int (nI x0)]) (rest := [.int (shM w h S _ l0 x0)]) (wr := []) ⟨hx, hb, hml, hown, hts⟩ (c_X6_shownBy l G H.size ko ad w h la tp ft tr mv S mk2_29 _ _ k0 x0 (by first | assumption | omega) (by first | assumption | omega) (by first | assumption | omega) (by first | assumption | omega) (by first | assumption | omega) (by first | assumption | omega) (by first | assumption | omega) (by first | assumption | omega) (by first | assumption | omega) (by first | assumption | omega) (by first | assumption | omega) (by first | assumption | omega) (by first | assumption | omega)) (cwV 2 hts gX6_frame_X6_shownBy rfl rfl rfl (by decide +kernel) ⟨Nat.le_of_ble_eq_true rfl, Nat.le_of_ble_eq_true rfl⟩) hK hP hD hS hA [0, 1, 2] [] rfl rfl (by decide) (by decide) (by decide) rfl rfl rfl hl.1 rfl (Nat.le_of_ble_eq_true rfl) dX6_frame_35 ⟨Nat.le_of_ble_eq_true rfl, Nat.le_of_ble_eq_true rfl⟩ (fun r35 u H locs hp35 hP hD hS => ?_)
        obtain ⟨mk2_35, rfl⟩ : ∃ z, z = u := ⟨_, rfl⟩
        try dsimp only at hp35 hP hD
        obtain rfl := hp35
        replace hP : xP G [oC ko 6 [.ref (ad 0), .ref (ad 1), .int (nI w), .int (nI h), .int (nI la), .ref (ad 2), .int (mv 0), .int (mv 1), .int (mv 2), .int (mv 3), .int (mv 4), .int (mv 5), .int (mv 6), .ref (ad 3), .int (nI tp), .int (mv 7), .int (mv 8), .int (mv 9), .int (mv 10), .int ft, .int (mv 11), .ref (ad 4), .ref (ad 5), .ref (ad 6), .ref (ad 7), .ref (ad 8), .ref (ad 9), .ref (ad 10), .int tr], iA G (ad 0) 255 S, iA G (ad 4) 16 mk2_35] H := hP
        replace hD : va_D (va_A (w_X6_frame G ko ad w h la tp ft tr mv S mk) ss.heap.size) [oC ko 6 [.ref (ad 0), .ref (ad 1), .int (nI w), .int (nI h), .int (nI la), .ref (ad 2), .int (mv 0), .int (mv 1), .int (mv 2), .int (mv 3), .int (mv 4), .int (mv 5), .int (mv 6), .ref (ad 3), .int (nI tp), .int (mv 7), .int (mv 8), .int (mv 9), .int (mv 10), .int ft, .int (mv 11), .ref (ad 4), .ref (ad 5), .ref (ad 6), .ref (ad 7), .ref (ad 8), .ref (ad 9), .ref (ad 10), .int tr], iA G (ad 0) 255 S, iA G (ad 4) 16 mk2_35] := hD
        refine lv_iand hx hb dX6_frame_38 ?_
        refine lv_aload_n hx hb dX6_frame_39 rfl (lv_at hl 0 rfl) ?_
        refine lv_aload_n hx hb dX6_frame_40 rfl (lv_at hl 0 rfl) ?_
        refine va_get (D := G.1) (ci := 6) (v := .ref (ad 0)) (C := RX6) (T := TX6) (N := 29) hx hb hts hin6 hown hK.1 hP 0 rfl rfl 0 (by decide) (hts (.fieldLink RX6 7 "BackLensesModel" "st" "[I") (List.mem_of_getElem? (i := 1) rfl)) (fun _ h9 => h9) rfl dX6_frame_41 ?_
        refine lv_bipush (v := nI 48) hx hb dX6_frame_44 (by decide) ?_
        refine lv_iconst (v := nI 2) hx hb dX6_frame_46 (by decide) ?_
        refine lv_iload_n hx hb dX6_frame_47 rfl (lv_at hl 1 rfl) ?_
        refine xn_imul hx hb dX6_frame_48 ?_
        refine xn_iadd hx hb dX6_frame_49 ?_
        refine xn_iald hx hb hK hP 1 rfl (by omega) (by omega) dX6_frame_50 ?_
        obtain ⟨d0, hd0, ed0⟩ := inR_nat (hlens l0 (by omega))
        refine xn_top ed0 ?_
        refine lv_aload_n hx hb dX6_frame_51 rfl (lv_at hl 0 rfl) ?_
        refine va_get (D := G.1) (ci := 6) (v := .ref (ad 0)) (C := RX6) (T := TX6) (N := 29) hx hb hts hin6 hown hK.1 hP 0 rfl rfl 0 (by decide) (hts (.fieldLink RX6 7 "BackLensesModel" "st" "[I") (List.mem_of_getElem? (i := 1) rfl)) (fun _ h9 => h9) rfl dX6_frame_52 ?_
        refine lv_bipush (v := nI 48) hx hb dX6_frame_55 (by decide) ?_
        refine lv_iconst (v := nI 2) hx hb dX6_frame_57 (by decide) ?_
        refine lv_iload_n hx hb dX6_frame_58 rfl (lv_at hl 2 rfl) ?_
        refine xn_imul hx hb dX6_frame_59 ?_
        refine xn_iadd hx hb dX6_frame_60 ?_
        refine xn_iald hx hb hK hP 1 rfl (by omega) (by omega) dX6_frame_61 ?_
        obtain ⟨e0, he0, ee0⟩ := inR_nat (hlens k0 (by omega))
        refine xn_top ee0 ?_
        refine xr_i (As := [.int (nI d0), .int (nI e0)]) (rest := [.int ((shM w h S _ l0 x0) &&& (shM w h S _ k0 x0))]) ⟨hx, hb, hml, hown, hts⟩ (c_X6_unlike l G ko ad w h la tp ft tr mv S _ d0 e0 (by first | assumption | omega) (by first | assumption | omega) (by first | assumption | omega) (by first | assumption | omega) (by first | assumption | omega) (by first | assumption | omega) (by first | assumption | omega) (by first | assumption | omega) (by first | assumption | omega) (by first | assumption | omega)) (cwV 2 hts gX6_frame_X6_unlike rfl rfl rfl (by decide +kernel) ⟨Nat.le_of_ble_eq_true rfl, Nat.le_of_ble_eq_true rfl⟩) hK hP hS [0, 1] rfl rfl rfl rfl hl.1 rfl (Nat.le_of_ble_eq_true rfl) dX6_frame_62 ⟨Nat.zero_le _, Nat.zero_le _⟩ (fun r62 H locs hp62 hP hS => ?_)
        rw [show r62 = _ from hp62]
        refine lv_iand hx hb dX6_frame_65 ?_
        have hP := hP.sub (ws' := [oC ko 6 [.ref (ad 0), .ref (ad 1), .int (nI w), .int (nI h), .int (nI la), .ref (ad 2), .int (mv 0), .int (mv 1), .int (mv 2), .int (mv 3), .int (mv 4), .int (mv 5), .int (mv 6), .ref (ad 3), .int (nI tp), .int (mv 7), .int (mv 8), .int (mv 9), .int (mv 10), .int ft, .int (mv 11), .ref (ad 4), .ref (ad 5), .ref (ad 6), .ref (ad 7), .ref (ad 8), .ref (ad 9), .ref (ad 10), .int tr], iA G (ad 0) 255 S, iA G (ad 4) 16 mk2_35]) [0, 1, 2] rfl
        have hD := hD.sub (ws' := [oC ko 6 [.ref (ad 0), .ref (ad 1), .int (nI w), .int (nI h), .int (nI la), .ref (ad 2), .int (mv 0), .int (mv 1), .int (mv 2), .int (mv 3), .int (mv 4), .int (mv 5), .int (mv 6), .ref (ad 3), .int (nI tp), .int (mv 7), .int (mv 8), .int (mv 9), .int (mv 10), .int ft, .int (mv 11), .ref (ad 4), .ref (ad 5), .ref (ad 6), .ref (ad 7), .ref (ad 8), .ref (ad 9), .ref (ad 10), .int tr], iA G (ad 0) 255 S, iA G (ad 4) 16 mk2_35]) [0, 1, 2] (by decide) rfl
        refine W.iret (v := ((shM w h S _ l0 x0) &&& (shM w h S _ k0 x0)) &&& (unM w h S _ d0 e0)) hx hb hr (fun t ht hW => ⟨⟨((shM w h S _ l0 x0) &&& (shM w h S _ k0 x0)) &&& (unM w h S _ d0 e0), (mk2_35), rfl, ?_, by rw [ht]; exact hP, hD⟩, hS.F ht⟩) hS.2.2 dX6_frame_66
        first | exact (if_neg (fun q => b5 q.1)).symm | exact (if_neg (fun q => b13 q.2.1)).symm | exact (if_neg (fun q => b21 q.2.2)).symm | (rw [if_pos ⟨inR_nI hl0 (by omega), inR_nI hk0 (by omega), inR_nI hx0 (by omega)⟩, tn_nI (by omega), tn_nI (by omega), tn_nI (by omega), ed0, ee0, tn_nI (by omega), tn_nI (by omega)])
      · skip
        refine lv_iconst (v := (-1)) hx hb dX6_frame_24 (by decide) ?_
        have hP := hP.sub (ws' := [oC ko 6 [.ref (ad 0), .ref (ad 1), .int (nI w), .int (nI h), .int (nI la), .ref (ad 2), .int (mv 0), .int (mv 1), .int (mv 2), .int (mv 3), .int (mv 4), .int (mv 5), .int (mv 6), .ref (ad 3), .int (nI tp), .int (mv 7), .int (mv 8), .int (mv 9), .int (mv 10), .int ft, .int (mv 11), .ref (ad 4), .ref (ad 5), .ref (ad 6), .ref (ad 7), .ref (ad 8), .ref (ad 9), .ref (ad 10), .int tr], iA G (ad 0) 255 S, iA G (ad 4) 16 mk]) [0, 1, 2] rfl
        have hD := hD.sub (ws' := [oC ko 6 [.ref (ad 0), .ref (ad 1), .int (nI w), .int (nI h), .int (nI la), .ref (ad 2), .int (mv 0), .int (mv 1), .int (mv 2), .int (mv 3), .int (mv 4), .int (mv 5), .int (mv 6), .ref (ad 3), .int (nI tp), .int (mv 7), .int (mv 8), .int (mv 9), .int (mv 10), .int ft, .int (mv 11), .ref (ad 4), .ref (ad 5), .ref (ad 6), .ref (ad 7), .ref (ad 8), .ref (ad 9), .ref (ad 10), .int tr], iA G (ad 0) 255 S, iA G (ad 4) 16 mk]) [0, 1, 2] (by decide) rfl
        refine W.iret (v := (-1)) hx hb hr (fun t ht hW => ⟨⟨(-1), (mk), rfl, ?_, by rw [ht]; exact hP, hD⟩, hS.F ht⟩) hS.2.2 dX6_frame_25
        first | exact (if_neg (fun q => b5 q.1)).symm | exact (if_neg (fun q => b13 q.2.1)).symm | exact (if_neg (fun q => b21 q.2.2)).symm | (rw [if_pos ⟨inR_nI hl0 (by omega), inR_nI hk0 (by omega), inR_nI hx0 (by omega)⟩, tn_nI (by omega), tn_nI (by omega), tn_nI (by omega), ed0, ee0, tn_nI (by omega), tn_nI (by omega)])

abbrev w_X6_again (G : XG) (ko : Nat) (ad : Nat → Nat) (w h la tp : Nat) (ft tr : Int32) (mv : Nat → Int32) (S : Nat → Int32) : va_W := [oC ko 6 [.ref (ad 0), .ref (ad 1), .int (nI w), .int (nI h), .int (nI la), .ref (ad 2), .int (mv 0), .int (mv 1), .int (mv 2), .int (mv 3), .int (mv 4), .int (mv 5), .int (mv 6), .ref (ad 3), .int (nI tp), .int (mv 7), .int (mv 8), .int (mv 9), .int (mv 10), .int ft, .int (mv 11), .ref (ad 4), .ref (ad 5), .ref (ad 6), .ref (ad 7), .ref (ad 8), .ref (ad 9), .ref (ad 10), .int tr], iA G (ad 0) 255 S]
abbrev Q_X6_again (G : XG) (ko : Nat) (ad : Nat → Nat) (w h la tp : Nat) (ft tr : Int32) (mv : Nat → Int32) (S : Nat → Int32) (nc : Nat) : Array Value → State → Outcome → State → Prop := (xRi (fun r => r = agM (fun d e => decide (unM w h S nc d e = 0)) (la + 1)))
set_option maxHeartbeats 4000000 in
set_option maxRecDepth 100000 in
theorem c_X6_again (l : Launch) (G : XG) (ko : Nat) (ad : Nat → Nat) (w h la tp : Nat) (ft tr : Int32) (mv : Nat → Int32) (S : Nat → Int32) (nc : Nat) (hw : 1 ≤ w) (hwb : w ≤ 16) (hhb : h ≤ 16) (hwh1 : 1 ≤ w * h) (hwh : w * h ≤ 16) (hla : la ≤ 9) (hs16 : S 16 = nI nc) (hnc : nc ≤ 10) : Met l yX6_again wsX6_again ({ frames := 2, cells := 0, slots := 0, locals := 51 } : Room) (va_Pc [.ref ko] (xRp G (w_X6_again G ko ad w h la tp ft tr mv S))) (Q_X6_again G ko ad w h la tp ft tr mv S nc) 0 0 (fun _ => False) := by
  refine Met.ofW (cc := cX6_again) (maxL := 4) (ret := (some .int)) (by decide) rfl ?_
  intro pp ee ss mm aa below mt cd s₁ BB hml hv
  obtain ⟨rfl, hP, hK⟩ := hv
  have hx := BB.exec
  have hb := BB.bytes
  have hr := BB.returns
  have hts := atoms_spec (ws := wsX6_again) BB.pre
  have hown : ss.vm.findClass RX6 = some mm.cls := findClass_of_methodNamed BB.named
  have hlocks := BB.notSynchronized
  have hS : va_S (fun _ => False) ss.heap ss.heap [] := va_S.rf
  replace hP : xP G [oC ko 6 [.ref (ad 0), .ref (ad 1), .int (nI w), .int (nI h), .int (nI la), .ref (ad 2), .int (mv 0), .int (mv 1), .int (mv 2), .int (mv 3), .int (mv 4), .int (mv 5), .int (mv 6), .ref (ad 3), .int (nI tp), .int (mv 7), .int (mv 8), .int (mv 9), .int (mv 10), .int ft, .int (mv 11), .ref (ad 4), .ref (ad 5), .ref (ad 6), .ref (ad 7), .ref (ad 8), .ref (ad 9), .ref (ad 10), .int tr], iA G (ad 0) 255 S] ss.heap := hP
  have hin6 : ∀ w ∈ u_ws RX6 TX6 29, w ∈ wsX6_again := fun w h => List.mem_cons_of_mem _ (List.mem_append_right _ h)
  have hl := lv_entry ([.ref ko]) (n := 4) (Nat.le_of_ble_eq_true rfl)
  rw [lg_entry_eq]
  generalize (lg_sl ([.ref ko]) ++ List.replicate (4 - (lg_sl ([.ref ko])).length) Slot.unset).toArray = ls at hl ⊢
  replace hl : lv_has ls 4 [(0, .ref ko)] := hl
  refine lv_iconst (v := nI 0) hx hb dX6_again_0 (by decide) ?_
  refine lv_istore_n (lv' := [(1, .int (nI 0)), (0, .ref ko)]) hx hb dX6_again_1 rfl hl (by decide) rfl (fun ls hl => ?_)
  refine lv_iconst (v := nI 0) hx hb dX6_again_2 (by decide) ?_
  refine lv_istore_n (lv' := [(2, .int (nI 0)), (1, .int (nI 0)), (0, .ref ko)]) hx hb dX6_again_3 rfl hl (by decide) rfl (fun ls hl => ?_)
  have hL4 : ∀ k : Nat, ∀ (d : Nat) (bits : Int32) (ls : Array Slot) (H : Heap) (locs : List Loc), la + 1 - d = k → (d ≤ la + 1) → (bits = agM (fun d e => decide (unM w h S nc d e = 0)) d) → lv_has ls 4 [(0, .ref ko), (1, .int bits), (2, .int (nI d))] → xP G [iA G (ad 0) 255 S, oC ko 6 [.ref (ad 0), .ref (ad 1), .int (nI w), .int (nI h), .int (nI la), .ref (ad 2), .int (mv 0), .int (mv 1), .int (mv 2), .int (mv 3), .int (mv 4), .int (mv 5), .int (mv 6), .ref (ad 3), .int (nI tp), .int (mv 7), .int (mv 8), .int (mv 9), .int (mv 10), .int ft, .int (mv 11), .ref (ad 4), .ref (ad 5), .ref (ad 6), .ref (ad 7), .ref (ad 8), .ref (ad 9), .ref (ad 10), .int tr]] H → va_S (fun _ => False) ss.heap H locs → W pp l ee ({ frames := 2, cells := 0, slots := 0, locals := 51 } : Room) ss mm ([.ref ko] : List Value).toArray below mt cd H locs 0 0 (MQ below (Q_X6_again G ko ad w h la tp ft tr mv S nc) ([.ref ko] : List Value).toArray ss 0 0 (fun _ => False)) (F0 mm 4 ls []) := by
    intro k
    induction k using Nat.strongRecOn with
    | _ k ih4 =>
    intro d bits ls H locs hm4 hd hbits hl hP hS
    refine lv_iload_n hx hb dX6_again_4 rfl (lv_at hl 2 rfl) ?_
    refine lv_aload_n hx hb dX6_again_5 rfl (lv_at hl 0 rfl) ?_
    refine va_get (D := G.1) (ci := 6) (v := .int (nI la)) (C := RX6) (T := TX6) (N := 29) hx hb hts hin6 hown hK.1 hP 1 rfl rfl 4 (by decide) (hts (.fieldLink RX6 78 "BackLensesModel" "last" "I") (List.mem_of_getElem? (i := 1) rfl)) (fun _ h9 => h9) rfl dX6_again_6 ?_
    refine xn_icmp_gt (tgt := 53) hx hb (by omega) (by omega) dX6_again_9 rfl (fun b9 => ?_) (fun b9 => ?_)
    · skip
      refine lv_iload_n hx hb dX6_again_53 rfl (lv_at hl 1 rfl) ?_
      refine W.iret (v := bits) hx hb hr (fun t ht hW => ⟨⟨bits, (), rfl, ?_, trivial⟩, hS.F ht⟩) hS.2.2 dX6_again_54
      rw [hbits, show d = la + 1 by omega]
    · skip
      refine lv_iconst (v := nI 0) hx hb dX6_again_12 (by decide) ?_
      refine lv_istore_n (lv' := [(3, .int (nI 0)), (0, .ref ko), (1, .int bits), (2, .int (nI d))]) hx hb dX6_again_13 rfl hl (by decide) rfl (fun ls hl => ?_)
      have hL14 : ∀ k : Nat, ∀ (e : Nat) (bits2 : Int32) (ls : Array Slot) (H : Heap) (locs : List Loc), d - e = k → (e ≤ d) → (bits2 = agI (fun e => decide (unM w h S nc d e = 0)) d (agM (fun d e => decide (unM w h S nc d e = 0)) d) e) → lv_has ls 4 [(0, .ref ko), (1, .int bits2), (2, .int (nI d)), (3, .int (nI e))] → xP G [iA G (ad 0) 255 S, oC ko 6 [.ref (ad 0), .ref (ad 1), .int (nI w), .int (nI h), .int (nI la), .ref (ad 2), .int (mv 0), .int (mv 1), .int (mv 2), .int (mv 3), .int (mv 4), .int (mv 5), .int (mv 6), .ref (ad 3), .int (nI tp), .int (mv 7), .int (mv 8), .int (mv 9), .int (mv 10), .int ft, .int (mv 11), .ref (ad 4), .ref (ad 5), .ref (ad 6), .ref (ad 7), .ref (ad 8), .ref (ad 9), .ref (ad 10), .int tr]] H → va_S (fun _ => False) ss.heap H locs → W pp l ee ({ frames := 2, cells := 0, slots := 0, locals := 51 } : Room) ss mm ([.ref ko] : List Value).toArray below mt cd H locs 0 0 (MQ below (Q_X6_again G ko ad w h la tp ft tr mv S nc) ([.ref ko] : List Value).toArray ss 0 0 (fun _ => False)) (F0 mm 14 ls []) := by
        intro k
        induction k using Nat.strongRecOn with
        | _ k ih14 =>
        intro e bits2 ls H locs hm14 hei hb2 hl hP hS
        refine lv_iload_n hx hb dX6_again_14 rfl (lv_at hl 3 rfl) ?_
        refine lv_iload_n hx hb dX6_again_15 rfl (lv_at hl 2 rfl) ?_
        refine xn_icmp_ge (tgt := 47) hx hb (by omega) (by omega) dX6_again_16 rfl (fun b16 => ?_) (fun b16 => ?_)
        · skip
          refine lv_iinc (k := 2) (v := nI (d + 1)) (lv' := [(2, .int (nI (d + 1))), (0, .ref ko), (1, .int bits2), (3, .int (nI e))]) hx hb dX6_again_47 hl rfl (xn_inc d 1) (by decide) rfl (fun ls hl => ?_)
          refine lv_goto (tgt := 4) hx hb dX6_again_50 rfl ?_
          have hl := lv_sub hl (l' := [(0, .ref ko), (1, .int bits2), (2, .int (nI (d + 1)))]) [1, 2, 0] rfl
          exact ih4 (la + 1 - (d + 1)) (by omega) (d + 1) bits2 ls H locs rfl (by omega) (by rw [hb2, show e = d by omega]; rfl) hl hP hS
        · skip
          refine lv_iload_n hx hb dX6_again_19 rfl (lv_at hl 1 rfl) ?_
          refine lv_aload_n hx hb dX6_again_20 rfl (lv_at hl 0 rfl) ?_
          refine lv_iload_n hx hb dX6_again_21 rfl (lv_at hl 2 rfl) ?_
          refine lv_iload_n hx hb dX6_again_22 rfl (lv_at hl 3 rfl) ?_
          refine xr_i (As := [.int (nI d), .int (nI e)]) (rest := [.int bits2]) ⟨hx, hb, hml, hown, hts⟩ (c_X6_unlike l G ko ad w h la tp ft tr mv S _ d e (by first | assumption | omega) (by first | assumption | omega) (by first | assumption | omega) (by first | assumption | omega) (by first | assumption | omega) (by first | assumption | omega) (by first | assumption | omega) (by first | assumption | omega) (by first | assumption | omega) (by first | assumption | omega)) (cwV 2 hts gX6_again_X6_unlike rfl rfl rfl (by decide +kernel) ⟨Nat.le_of_ble_eq_true rfl, Nat.le_of_ble_eq_true rfl⟩) hK hP hS [1, 0] rfl rfl rfl rfl hl.1 rfl (Nat.le_of_ble_eq_true rfl) dX6_again_23 ⟨Nat.zero_le _, Nat.zero_le _⟩ (fun r23 H locs hp23 hP hS => ?_)
          rw [show r23 = _ from hp23]
          refine lv_if_ne (tgt := 33) hx hb dX6_again_26 rfl (fun b26 => ?_) (fun b26 => ?_)
          · skip
            refine lv_iconst (v := nI 0) hx hb dX6_again_33 (by decide) ?_
            refine xs_i (As := [.int (nI 0)]) (rest := [.int bits2]) ⟨hx, hb, hml, hown, hts⟩ (c_X6_flag_0 l G) (va_cwS 1 hts gX6_again_X6_flag rfl rfl rfl (by decide +kernel) ⟨Nat.le_of_ble_eq_true rfl, Nat.le_of_ble_eq_true rfl⟩) hP hS rfl hl.1 rfl (Nat.le_of_ble_eq_true rfl) dX6_again_34 ⟨Nat.zero_le _, Nat.zero_le _⟩ (fun r34 H locs hp34 hP hS => ?_)
            rw [show r34 = _ from hp34]
            refine lv_iload_n hx hb dX6_again_37 rfl (lv_at hl 2 rfl) ?_
            refine lv_ishl hx hb dX6_again_38 ?_
            refine lv_ior hx hb dX6_again_39 ?_
            refine lv_istore_n (lv' := [(1, .int (bits2 ||| ((nI 0) <<< ((nI d) &&& 31)))), (0, .ref ko), (2, .int (nI d)), (3, .int (nI e))]) hx hb dX6_again_40 rfl hl (by decide) rfl (fun ls hl => ?_)
            refine lv_iinc (k := 3) (v := nI (e + 1)) (lv' := [(3, .int (nI (e + 1))), (1, .int (bits2 ||| ((nI 0) <<< ((nI d) &&& 31)))), (0, .ref ko), (2, .int (nI d))]) hx hb dX6_again_41 hl rfl (xn_inc e 1) (by decide) rfl (fun ls hl => ?_)
            refine lv_goto (tgt := 14) hx hb dX6_again_44 rfl ?_
            have hl := lv_sub hl (l' := [(0, .ref ko), (1, .int (bits2 ||| ((nI 0) <<< ((nI d) &&& 31)))), (2, .int (nI d)), (3, .int (nI (e + 1)))]) [2, 1, 3, 0] rfl
            exact ih14 (d - (e + 1)) (by omega) (e + 1) (bits2 ||| ((nI 0) <<< ((nI d) &&& 31))) ls H locs rfl (by omega) (by rw [hb2]; first | exact (agI_T (decide_eq_true b26)).symm | exact (agI_F (decide_eq_false b26)).symm) hl hP hS
          · skip
            refine lv_iconst (v := nI 1) hx hb dX6_again_29 (by decide) ?_
            refine lv_goto (tgt := 34) hx hb dX6_again_30 rfl ?_
            refine xs_i (As := [.int (nI 1)]) (rest := [.int bits2]) ⟨hx, hb, hml, hown, hts⟩ (c_X6_flag_1 l G) (va_cwS 1 hts gX6_again_X6_flag rfl rfl rfl (by decide +kernel) ⟨Nat.le_of_ble_eq_true rfl, Nat.le_of_ble_eq_true rfl⟩) hP hS rfl hl.1 rfl (Nat.le_of_ble_eq_true rfl) dX6_again_34 ⟨Nat.zero_le _, Nat.zero_le _⟩ (fun r34 H locs hp34 hP hS => ?_)
            rw [show r34 = _ from hp34]
            refine lv_iload_n hx hb dX6_again_37 rfl (lv_at hl 2 rfl) ?_
            refine lv_ishl hx hb dX6_again_38 ?_
            refine lv_ior hx hb dX6_again_39 ?_
            refine lv_istore_n (lv' := [(1, .int (bits2 ||| ((nI 1) <<< ((nI d) &&& 31)))), (0, .ref ko), (2, .int (nI d)), (3, .int (nI e))]) hx hb dX6_again_40 rfl hl (by decide) rfl (fun ls hl => ?_)
            refine lv_iinc (k := 3) (v := nI (e + 1)) (lv' := [(3, .int (nI (e + 1))), (1, .int (bits2 ||| ((nI 1) <<< ((nI d) &&& 31)))), (0, .ref ko), (2, .int (nI d))]) hx hb dX6_again_41 hl rfl (xn_inc e 1) (by decide) rfl (fun ls hl => ?_)
            refine lv_goto (tgt := 14) hx hb dX6_again_44 rfl ?_
            have hl := lv_sub hl (l' := [(0, .ref ko), (1, .int (bits2 ||| ((nI 1) <<< ((nI d) &&& 31)))), (2, .int (nI d)), (3, .int (nI (e + 1)))]) [2, 1, 3, 0] rfl
            exact ih14 (d - (e + 1)) (by omega) (e + 1) (bits2 ||| ((nI 1) <<< ((nI d) &&& 31))) ls H locs rfl (by omega) (by rw [hb2]; first | exact (agI_T (decide_eq_true b26)).symm | exact (agI_F (decide_eq_false b26)).symm) hl hP hS
      have hl := lv_sub hl (l' := [(0, .ref ko), (1, .int bits), (2, .int (nI d)), (3, .int (nI 0))]) [1, 2, 3, 0] rfl
      exact hL14 (d - 0) 0 bits ls H locs rfl (by omega) (by rw [hbits]; rfl) hl hP hS
  have hl := lv_sub hl (l' := [(0, .ref ko), (1, .int (nI 0)), (2, .int (nI 0))]) [2, 1, 0] rfl
  have hP := hP.sub (ws' := [iA G (ad 0) 255 S, oC ko 6 [.ref (ad 0), .ref (ad 1), .int (nI w), .int (nI h), .int (nI la), .ref (ad 2), .int (mv 0), .int (mv 1), .int (mv 2), .int (mv 3), .int (mv 4), .int (mv 5), .int (mv 6), .ref (ad 3), .int (nI tp), .int (mv 7), .int (mv 8), .int (mv 9), .int (mv 10), .int ft, .int (mv 11), .ref (ad 4), .ref (ad 5), .ref (ad 6), .ref (ad 7), .ref (ad 8), .ref (ad 9), .ref (ad 10), .int tr]]) [1, 0] rfl
  exact hL4 (la + 1 - 0) 0 (nI 0) ls ss.heap [] rfl (by omega) (by rfl) hl hP hS

abbrev w_X6_seenAs (G : XG) (ko : Nat) (ad : Nat → Nat) (w h la tp : Nat) (ft tr : Int32) (mv : Nat → Int32) (mk : Nat → Int32) : va_W := [oC ko 6 [.ref (ad 0), .ref (ad 1), .int (nI w), .int (nI h), .int (nI la), .ref (ad 2), .int (mv 0), .int (mv 1), .int (mv 2), .int (mv 3), .int (mv 4), .int (mv 5), .int (mv 6), .ref (ad 3), .int (nI tp), .int (mv 7), .int (mv 8), .int (mv 9), .int (mv 10), .int ft, .int (mv 11), .ref (ad 4), .ref (ad 5), .ref (ad 6), .ref (ad 7), .ref (ad 8), .ref (ad 9), .ref (ad 10), .int tr], iA G (ad 4) 16 mk]
abbrev Q_X6_seenAs (G : XG) (ko : Nat) (ad : Nat → Nat) (w h la tp : Nat) (ft tr : Int32) (mv : Nat → Int32) (mk : Nat → Int32) (x c : Nat) : Array Value → State → Outcome → State → Prop := (xRi (fun r => r = (if (sgF w h mk x >>> (nI c &&& 31)) &&& nI 1 = nI 1 then mk c else (-4))))
set_option maxHeartbeats 4000000 in
set_option maxRecDepth 100000 in
theorem c_X6_seenAs (l : Launch) (G : XG) (ko : Nat) (ad : Nat → Nat) (w h la tp : Nat) (ft tr : Int32) (mv : Nat → Int32) (mk : Nat → Int32) (x c : Nat) (hw : 1 ≤ w) (hwb : w ≤ 16) (hhb : h ≤ 16) (hwh1 : 1 ≤ w * h) (hwh : w * h ≤ 16) (hxx : x < w * h) (hcc : c < 16) : Met l yX6_seenAs wsX6_seenAs ({ frames := 3, cells := 0, slots := 0, locals := 67 } : Room) (va_Pc [.ref ko, .int (nI x), .int (nI c)] (xRp G (w_X6_seenAs G ko ad w h la tp ft tr mv mk))) (Q_X6_seenAs G ko ad w h la tp ft tr mv mk x c) 0 0 (fun _ => False) := by
  refine Met.ofW (cc := cX6_seenAs) (maxL := 3) (ret := (some .int)) (by decide) rfl ?_
  intro pp ee ss mm aa below mt cd s₁ BB hml hv
  obtain ⟨rfl, hP, hK⟩ := hv
  have hx := BB.exec
  have hb := BB.bytes
  have hr := BB.returns
  have hts := atoms_spec (ws := wsX6_seenAs) BB.pre
  have hown : ss.vm.findClass RX6 = some mm.cls := findClass_of_methodNamed BB.named
  have hlocks := BB.notSynchronized
  have hS : va_S (fun _ => False) ss.heap ss.heap [] := va_S.rf
  replace hP : xP G [oC ko 6 [.ref (ad 0), .ref (ad 1), .int (nI w), .int (nI h), .int (nI la), .ref (ad 2), .int (mv 0), .int (mv 1), .int (mv 2), .int (mv 3), .int (mv 4), .int (mv 5), .int (mv 6), .ref (ad 3), .int (nI tp), .int (mv 7), .int (mv 8), .int (mv 9), .int (mv 10), .int ft, .int (mv 11), .ref (ad 4), .ref (ad 5), .ref (ad 6), .ref (ad 7), .ref (ad 8), .ref (ad 9), .ref (ad 10), .int tr], iA G (ad 4) 16 mk] ss.heap := hP
  have hin6 : ∀ w ∈ u_ws RX6 TX6 29, w ∈ wsX6_seenAs := fun w h => List.mem_cons_of_mem _ (List.mem_append_right _ h)
  have hl := lv_entry ([.ref ko, .int (nI x), .int (nI c)]) (n := 3) (Nat.le_of_ble_eq_true rfl)
  rw [lg_entry_eq]
  generalize (lg_sl ([.ref ko, .int (nI x), .int (nI c)]) ++ List.replicate (3 - (lg_sl ([.ref ko, .int (nI x), .int (nI c)])).length) Slot.unset).toArray = ls at hl ⊢
  replace hl : lv_has ls 3 [(0, .ref ko), (1, .int (nI x)), (2, .int (nI c))] := hl
  refine lv_aload_n hx hb dX6_seenAs_0 rfl (lv_at hl 0 rfl) ?_
  refine lv_iload_n hx hb dX6_seenAs_1 rfl (lv_at hl 1 rfl) ?_
  refine xr_i (As := [.int (nI x)]) (rest := []) ⟨hx, hb, hml, hown, hts⟩ (c_X6_sight l G ko ad w h la tp ft tr mv mk x (by first | assumption | omega) (by first | assumption | omega) (by first | assumption | omega) (by first | assumption | omega) (by first | assumption | omega)) (cwV 1 hts gX6_seenAs_X6_sight rfl rfl rfl (by decide +kernel) ⟨Nat.le_of_ble_eq_true rfl, Nat.le_of_ble_eq_true rfl⟩) hK hP hS [0, 1] rfl rfl rfl rfl hl.1 rfl (Nat.le_of_ble_eq_true rfl) dX6_seenAs_2 ⟨Nat.zero_le _, Nat.zero_le _⟩ (fun r2 H locs hp2 hP hS => ?_)
  rw [show r2 = _ from hp2]
  refine lv_iload_n hx hb dX6_seenAs_5 rfl (lv_at hl 2 rfl) ?_
  refine lv_ishr hx hb dX6_seenAs_6 ?_
  refine lv_iconst (v := nI 1) hx hb dX6_seenAs_7 (by decide) ?_
  refine lv_iand hx hb dX6_seenAs_8 ?_
  refine lv_iconst (v := nI 1) hx hb dX6_seenAs_9 (by decide) ?_
  refine lv_icmp_ne (tgt := 22) hx hb dX6_seenAs_10 rfl (fun b10 => ?_) (fun b10 => ?_)
  · skip
    refine lv_bipush (v := (-4)) hx hb dX6_seenAs_22 (by decide) ?_
    refine W.iret (v := (-4)) hx hb hr (fun t ht hW => ⟨⟨(-4), (), rfl, ?_, trivial⟩, hS.F ht⟩) hS.2.2 dX6_seenAs_24
    first | exact (if_pos b10).symm | exact (if_neg b10).symm
  · skip
    refine lv_aload_n hx hb dX6_seenAs_13 rfl (lv_at hl 0 rfl) ?_
    refine va_get (D := G.1) (ci := 6) (v := .ref (ad 4)) (C := RX6) (T := TX6) (N := 29) hx hb hts hin6 hown hK.1 hP 0 rfl rfl 21 (by decide) (hts (.fieldLink RX6 23 "BackLensesModel" "marks" "[I") (List.mem_of_getElem? (i := 1) rfl)) (fun _ h9 => h9) rfl dX6_seenAs_14 ?_
    refine lv_iload_n hx hb dX6_seenAs_17 rfl (lv_at hl 2 rfl) ?_
    refine xn_iald hx hb hK hP 1 rfl (by omega) (by omega) dX6_seenAs_18 ?_
    refine lv_goto (tgt := 24) hx hb dX6_seenAs_19 rfl ?_
    refine W.iret (v := mk c) hx hb hr (fun t ht hW => ⟨⟨mk c, (), rfl, ?_, trivial⟩, hS.F ht⟩) hS.2.2 dX6_seenAs_24
    first | exact (if_pos b10).symm | exact (if_neg b10).symm

abbrev w_X6_daysBy (G : XG) (ko : Nat) (ad : Nat → Nat) (w h la tp : Nat) (ft tr : Int32) (mv : Nat → Int32) (S mk : Nat → Int32) : va_W := [oC ko 6 [.ref (ad 0), .ref (ad 1), .int (nI w), .int (nI h), .int (nI la), .ref (ad 2), .int (mv 0), .int (mv 1), .int (mv 2), .int (mv 3), .int (mv 4), .int (mv 5), .int (mv 6), .ref (ad 3), .int (nI tp), .int (mv 7), .int (mv 8), .int (mv 9), .int (mv 10), .int ft, .int (mv 11), .ref (ad 4), .ref (ad 5), .ref (ad 6), .ref (ad 7), .ref (ad 8), .ref (ad 9), .ref (ad 10), .int tr], iA G (ad 0) 255 S, iA G (ad 4) 16 mk]
abbrev Q_X6_daysBy (G : XG) (sz : Nat) (ko : Nat) (ad : Nat → Nat) (w h la tp : Nat) (ft tr : Int32) (mv : Nat → Int32) (S mk : Nat → Int32) (nc : Nat) (ns n : Nat) : Array Value → State → Outcome → State → Prop := (va_Qi (fun (r : Int32) (u : (Nat → Int32)) => r = dyM w h la S nc n) (xWb G sz (w_X6_daysBy G ko ad w h la tp ft tr mv S mk) (fun u : (Nat → Int32) => [oC ko 6 [.ref (ad 0), .ref (ad 1), .int (nI w), .int (nI h), .int (nI la), .ref (ad 2), .int (mv 0), .int (mv 1), .int (mv 2), .int (mv 3), .int (mv 4), .int (mv 5), .int (mv 6), .ref (ad 3), .int (nI tp), .int (mv 7), .int (mv 8), .int (mv 9), .int (mv 10), .int ft, .int (mv 11), .ref (ad 4), .ref (ad 5), .ref (ad 6), .ref (ad 7), .ref (ad 8), .ref (ad 9), .ref (ad 10), .int tr], iA G (ad 0) 255 S, iA G (ad 4) 16 u])) (va_A (w_X6_daysBy G ko ad w h la tp ft tr mv S mk) sz))
set_option maxHeartbeats 4000000 in
set_option maxRecDepth 100000 in
theorem c_X6_daysBy (l : Launch) (G : XG) (sz : Nat) (ko : Nat) (ad : Nat → Nat) (w h la tp : Nat) (ft tr : Int32) (mv : Nat → Int32) (S mk : Nat → Int32) (nc : Nat) (ns n : Nat) (hw : 1 ≤ w) (hwb : w ≤ 16) (hhb : h ≤ 16) (hwh1 : 1 ≤ w * h) (hwh : w * h ≤ 16) (hla : la ≤ 9) (hs16 : S 16 = nI nc) (hnc : nc ≤ 10) (hs60 : S 60 = nI ns) (hns : ns ≤ 8) (hshown : ∀ i, i < ns → inR (S (61 + 3 * i)) (w * h) ∧ inR (S (61 + 3 * i + 1)) (w * h)) (hnn : n ≤ ns) : Met l yX6_daysBy wsX6_daysBy ({ frames := 4, cells := 0, slots := 0, locals := 89 } : Room) (va_Pc [.ref ko, .int (nI n)] (xWp G sz (w_X6_daysBy G ko ad w h la tp ft tr mv S mk))) (Q_X6_daysBy G sz ko ad w h la tp ft tr mv S mk nc ns n) 0 0 (va_A (w_X6_daysBy G ko ad w h la tp ft tr mv S mk) sz) := by
  refine Met.ofW (cc := cX6_daysBy) (maxL := 7) (ret := (some .int)) (by decide) rfl ?_
  intro pp ee ss mm aa below mt cd s₁ BB hml hv
  obtain ⟨rfl, hsz, hP, hK, hD0⟩ := hv
  have hx := BB.exec
  have hb := BB.bytes
  have hr := BB.returns
  have hts := atoms_spec (ws := wsX6_daysBy) BB.pre
  have hown : ss.vm.findClass RX6 = some mm.cls := findClass_of_methodNamed BB.named
  have hlocks := BB.notSynchronized
  subst hsz
  have hD := hD0.self (sz := ss.heap.size)
  have hA : ∀ q : Nat, ss.heap.size ≤ q → va_A (w_X6_daysBy G ko ad w h la tp ft tr mv S mk) ss.heap.size q := fun q h => Or.inr h
  have hS : va_S (va_A (w_X6_daysBy G ko ad w h la tp ft tr mv S mk) ss.heap.size) ss.heap ss.heap [] := va_S.rf
  replace hD : va_D (va_A (w_X6_daysBy G ko ad w h la tp ft tr mv S mk) ss.heap.size) [oC ko 6 [.ref (ad 0), .ref (ad 1), .int (nI w), .int (nI h), .int (nI la), .ref (ad 2), .int (mv 0), .int (mv 1), .int (mv 2), .int (mv 3), .int (mv 4), .int (mv 5), .int (mv 6), .ref (ad 3), .int (nI tp), .int (mv 7), .int (mv 8), .int (mv 9), .int (mv 10), .int ft, .int (mv 11), .ref (ad 4), .ref (ad 5), .ref (ad 6), .ref (ad 7), .ref (ad 8), .ref (ad 9), .ref (ad 10), .int tr], iA G (ad 0) 255 S, iA G (ad 4) 16 mk] := hD
  replace hP : xP G [oC ko 6 [.ref (ad 0), .ref (ad 1), .int (nI w), .int (nI h), .int (nI la), .ref (ad 2), .int (mv 0), .int (mv 1), .int (mv 2), .int (mv 3), .int (mv 4), .int (mv 5), .int (mv 6), .ref (ad 3), .int (nI tp), .int (mv 7), .int (mv 8), .int (mv 9), .int (mv 10), .int ft, .int (mv 11), .ref (ad 4), .ref (ad 5), .ref (ad 6), .ref (ad 7), .ref (ad 8), .ref (ad 9), .ref (ad 10), .int tr], iA G (ad 0) 255 S, iA G (ad 4) 16 mk] ss.heap := hP
  have hin6 : ∀ w ∈ u_ws RX6 TX6 29, w ∈ wsX6_daysBy := fun w h => List.mem_cons_of_mem _ (List.mem_append_right _ h)
  have hl := lv_entry ([.ref ko, .int (nI n)]) (n := 7) (Nat.le_of_ble_eq_true rfl)
  rw [lg_entry_eq]
  generalize (lg_sl ([.ref ko, .int (nI n)]) ++ List.replicate (7 - (lg_sl ([.ref ko, .int (nI n)])).length) Slot.unset).toArray = ls at hl ⊢
  replace hl : lv_has ls 7 [(0, .ref ko), (1, .int (nI n))] := hl
  refine lv_iconst (v := nI 0) hx hb dX6_daysBy_0 (by decide) ?_
  refine lv_istore_n (lv' := [(2, .int (nI 0)), (0, .ref ko), (1, .int (nI n))]) hx hb dX6_daysBy_1 rfl hl (by decide) rfl (fun ls hl => ?_)
  refine lv_iconst (v := nI 0) hx hb dX6_daysBy_2 (by decide) ?_
  refine lv_istore_n (lv' := [(3, .int (nI 0)), (2, .int (nI 0)), (0, .ref ko), (1, .int (nI n))]) hx hb dX6_daysBy_3 rfl hl (by decide) rfl (fun ls hl => ?_)
  have hL4 : ∀ k : Nat, ∀ (d : Nat) (bits : Int32) (mk3 : Nat → Int32) (ls : Array Slot) (H : Heap) (locs : List Loc), la + 1 - d = k → (d ≤ la + 1) → (bits = xbits (fun d => allF (fitM w h S nc d) n) d) → lv_has ls 7 [(0, .ref ko), (1, .int (nI n)), (2, .int bits), (3, .int (nI d))] → xP G [iA G (ad 0) 255 S, iA G (ad 4) 16 mk3, oC ko 6 [.ref (ad 0), .ref (ad 1), .int (nI w), .int (nI h), .int (nI la), .ref (ad 2), .int (mv 0), .int (mv 1), .int (mv 2), .int (mv 3), .int (mv 4), .int (mv 5), .int (mv 6), .ref (ad 3), .int (nI tp), .int (mv 7), .int (mv 8), .int (mv 9), .int (mv 10), .int ft, .int (mv 11), .ref (ad 4), .ref (ad 5), .ref (ad 6), .ref (ad 7), .ref (ad 8), .ref (ad 9), .ref (ad 10), .int tr]] H → va_D (va_A (w_X6_daysBy G ko ad w h la tp ft tr mv S mk) ss.heap.size) [iA G (ad 0) 255 S, iA G (ad 4) 16 mk3, oC ko 6 [.ref (ad 0), .ref (ad 1), .int (nI w), .int (nI h), .int (nI la), .ref (ad 2), .int (mv 0), .int (mv 1), .int (mv 2), .int (mv 3), .int (mv 4), .int (mv 5), .int (mv 6), .ref (ad 3), .int (nI tp), .int (mv 7), .int (mv 8), .int (mv 9), .int (mv 10), .int ft, .int (mv 11), .ref (ad 4), .ref (ad 5), .ref (ad 6), .ref (ad 7), .ref (ad 8), .ref (ad 9), .ref (ad 10), .int tr]] → va_S (va_A (w_X6_daysBy G ko ad w h la tp ft tr mv S mk) ss.heap.size) ss.heap H locs → W pp l ee ({ frames := 4, cells := 0, slots := 0, locals := 89 } : Room) ss mm ([.ref ko, .int (nI n)] : List Value).toArray below mt cd H locs 0 0 (MQ below (Q_X6_daysBy G ss.heap.size ko ad w h la tp ft tr mv S mk nc ns n) ([.ref ko, .int (nI n)] : List Value).toArray ss 0 0 (va_A (w_X6_daysBy G ko ad w h la tp ft tr mv S mk) ss.heap.size)) (F0 mm 4 ls []) := by
    intro k
    induction k using Nat.strongRecOn with
    | _ k ih4 =>
    intro d bits mk3 ls H locs hm4 hd hbits hl hP hD hS
    refine lv_iload_n hx hb dX6_daysBy_4 rfl (lv_at hl 3 rfl) ?_
    refine lv_aload_n hx hb dX6_daysBy_5 rfl (lv_at hl 0 rfl) ?_
    refine va_get (D := G.1) (ci := 6) (v := .int (nI la)) (C := RX6) (T := TX6) (N := 29) hx hb hts hin6 hown hK.1 hP 2 rfl rfl 4 (by decide) (hts (.fieldLink RX6 78 "BackLensesModel" "last" "I") (List.mem_of_getElem? (i := 1) rfl)) (fun _ h9 => h9) rfl dX6_daysBy_6 ?_
    refine xn_icmp_gt (tgt := 104) hx hb (by omega) (by omega) dX6_daysBy_9 rfl (fun b9 => ?_) (fun b9 => ?_)
    · skip
      refine lv_iload_n hx hb dX6_daysBy_104 rfl (lv_at hl 2 rfl) ?_
      have hP := hP.sub (ws' := [oC ko 6 [.ref (ad 0), .ref (ad 1), .int (nI w), .int (nI h), .int (nI la), .ref (ad 2), .int (mv 0), .int (mv 1), .int (mv 2), .int (mv 3), .int (mv 4), .int (mv 5), .int (mv 6), .ref (ad 3), .int (nI tp), .int (mv 7), .int (mv 8), .int (mv 9), .int (mv 10), .int ft, .int (mv 11), .ref (ad 4), .ref (ad 5), .ref (ad 6), .ref (ad 7), .ref (ad 8), .ref (ad 9), .ref (ad 10), .int tr], iA G (ad 0) 255 S, iA G (ad 4) 16 mk3]) [2, 0, 1] rfl
      have hD := hD.sub (ws' := [oC ko 6 [.ref (ad 0), .ref (ad 1), .int (nI w), .int (nI h), .int (nI la), .ref (ad 2), .int (mv 0), .int (mv 1), .int (mv 2), .int (mv 3), .int (mv 4), .int (mv 5), .int (mv 6), .ref (ad 3), .int (nI tp), .int (mv 7), .int (mv 8), .int (mv 9), .int (mv 10), .int ft, .int (mv 11), .ref (ad 4), .ref (ad 5), .ref (ad 6), .ref (ad 7), .ref (ad 8), .ref (ad 9), .ref (ad 10), .int tr], iA G (ad 0) 255 S, iA G (ad 4) 16 mk3]) [2, 0, 1] (by decide) rfl
      refine W.iret (v := bits) hx hb hr (fun t ht hW => ⟨⟨bits, (mk3), rfl, ?_, by rw [ht]; exact hP, hD⟩, hS.F ht⟩) hS.2.2 dX6_daysBy_105
      rw [hbits, show d = la + 1 by omega]
    · skip
      refine lv_iconst (v := nI 1) hx hb dX6_daysBy_12 (by decide) ?_
      refine lv_istore (lv' := [(4, .int (nI 1)), (0, .ref ko), (1, .int (nI n)), (2, .int bits), (3, .int (nI d))]) hx hb dX6_daysBy_13 hl (by decide) rfl (fun ls hl => ?_)
      refine lv_aload_n hx hb dX6_daysBy_15 rfl (lv_at hl 1 rfl) ?_
      refine lv_iload_n hx hb dX6_daysBy_16 rfl (lv_at hl 4 rfl) ?_
      refine xw_v (As := [.int (nI d)]) (rest := []) (wr := []) ⟨hx, hb, hml, hown, hts⟩ (c_X6_shiftTo l G H.size ko ad w h la tp ft tr mv S mk3 _ d (by first | assumption | omega) (by first | assumption | omega) (by first | assumption | omega)) (cwV 1 hts gX6_daysBy_X6_shiftTo rfl rfl rfl (by decide +kernel) ⟨Nat.le_of_ble_eq_true rfl, Nat.le_of_ble_eq_true rfl⟩) hK hP hD hS hA [2, 0, 1] [] rfl rfl (by decide) (by decide) (by decide) rfl rfl rfl hl.1 rfl (Nat.le_of_ble_eq_true rfl) dX6_daysBy_17 ⟨Nat.le_of_ble_eq_true rfl, Nat.le_of_ble_eq_true rfl⟩ (fun u H locs hp17 hP hD hS => ?_)
      obtain ⟨mk2_17, rfl⟩ : ∃ z, z = u := ⟨_, rfl⟩
      try dsimp only at hp17 hP hD
      have he17 := hp17
      replace hP : xP G [oC ko 6 [.ref (ad 0), .ref (ad 1), .int (nI w), .int (nI h), .int (nI la), .ref (ad 2), .int (mv 0), .int (mv 1), .int (mv 2), .int (mv 3), .int (mv 4), .int (mv 5), .int (mv 6), .ref (ad 3), .int (nI tp), .int (mv 7), .int (mv 8), .int (mv 9), .int (mv 10), .int ft, .int (mv 11), .ref (ad 4), .ref (ad 5), .ref (ad 6), .ref (ad 7), .ref (ad 8), .ref (ad 9), .ref (ad 10), .int tr], iA G (ad 0) 255 S, iA G (ad 4) 16 mk2_17] H := hP
      replace hD : va_D (va_A (w_X6_daysBy G ko ad w h la tp ft tr mv S mk) ss.heap.size) [oC ko 6 [.ref (ad 0), .ref (ad 1), .int (nI w), .int (nI h), .int (nI la), .ref (ad 2), .int (mv 0), .int (mv 1), .int (mv 2), .int (mv 3), .int (mv 4), .int (mv 5), .int (mv 6), .ref (ad 3), .int (nI tp), .int (mv 7), .int (mv 8), .int (mv 9), .int (mv 10), .int ft, .int (mv 11), .ref (ad 4), .ref (ad 5), .ref (ad 6), .ref (ad 7), .ref (ad 8), .ref (ad 9), .ref (ad 10), .int tr], iA G (ad 0) 255 S, iA G (ad 4) 16 mk2_17] := hD
      refine lv_iconst (v := nI 0) hx hb dX6_daysBy_20 (by decide) ?_
      refine lv_istore (lv' := [(5, .int (nI 0)), (4, .int (nI 1)), (0, .ref ko), (1, .int (nI n)), (2, .int bits), (3, .int (nI d))]) hx hb dX6_daysBy_21 hl (by decide) rfl (fun ls hl => ?_)
      have hL23 : ∀ k : Nat, ∀ (i : Nat) (ftt : Int32) (ls : Array Slot) (H : Heap) (locs : List Loc), n - i = k → (i ≤ n) → (ftt = xb (allF (fitM w h S nc d) i = true)) → lv_has ls 7 [(0, .ref ko), (1, .int (nI n)), (2, .int bits), (3, .int (nI d)), (4, .int ftt), (5, .int (nI i))] → xP G [iA G (ad 0) 255 S, iA G (ad 4) 16 mk2_17, oC ko 6 [.ref (ad 0), .ref (ad 1), .int (nI w), .int (nI h), .int (nI la), .ref (ad 2), .int (mv 0), .int (mv 1), .int (mv 2), .int (mv 3), .int (mv 4), .int (mv 5), .int (mv 6), .ref (ad 3), .int (nI tp), .int (mv 7), .int (mv 8), .int (mv 9), .int (mv 10), .int ft, .int (mv 11), .ref (ad 4), .ref (ad 5), .ref (ad 6), .ref (ad 7), .ref (ad 8), .ref (ad 9), .ref (ad 10), .int tr]] H → va_D (va_A (w_X6_daysBy G ko ad w h la tp ft tr mv S mk) ss.heap.size) [iA G (ad 0) 255 S, iA G (ad 4) 16 mk2_17, oC ko 6 [.ref (ad 0), .ref (ad 1), .int (nI w), .int (nI h), .int (nI la), .ref (ad 2), .int (mv 0), .int (mv 1), .int (mv 2), .int (mv 3), .int (mv 4), .int (mv 5), .int (mv 6), .ref (ad 3), .int (nI tp), .int (mv 7), .int (mv 8), .int (mv 9), .int (mv 10), .int ft, .int (mv 11), .ref (ad 4), .ref (ad 5), .ref (ad 6), .ref (ad 7), .ref (ad 8), .ref (ad 9), .ref (ad 10), .int tr]] → va_S (va_A (w_X6_daysBy G ko ad w h la tp ft tr mv S mk) ss.heap.size) ss.heap H locs → W pp l ee ({ frames := 4, cells := 0, slots := 0, locals := 89 } : Room) ss mm ([.ref ko, .int (nI n)] : List Value).toArray below mt cd H locs 0 0 (MQ below (Q_X6_daysBy G ss.heap.size ko ad w h la tp ft tr mv S mk nc ns n) ([.ref ko, .int (nI n)] : List Value).toArray ss 0 0 (va_A (w_X6_daysBy G ko ad w h la tp ft tr mv S mk) ss.heap.size)) (F0 mm 23 ls []) := by
        intro k
        induction k using Nat.strongRecOn with
        | _ k ih23 =>
        intro i ftt ls H locs hm23 hi hft hl hP hD hS
        refine lv_iload hx hb dX6_daysBy_23 (lv_at hl 5 rfl) ?_
        refine lv_iload_n hx hb dX6_daysBy_25 rfl (lv_at hl 1 rfl) ?_
        refine xn_icmp_ge (tgt := 88) hx hb (by omega) (by omega) dX6_daysBy_26 rfl (fun b26 => ?_) (fun b26 => ?_)
        · skip
          refine lv_iload_n hx hb dX6_daysBy_88 rfl (lv_at hl 2 rfl) ?_
          refine lv_iload hx hb dX6_daysBy_89 (lv_at hl 4 rfl) ?_
          refine xn_top hft ?_
          refine xs_i (As := [.int (xb (allF (fitM w h S nc d) i = true))]) (rest := [.int bits]) ⟨hx, hb, hml, hown, hts⟩ (c_X6_flag l G (allF (fitM w h S nc d) i = true) _ ) (va_cwS 1 hts gX6_daysBy_X6_flag rfl rfl rfl (by decide +kernel) ⟨Nat.le_of_ble_eq_true rfl, Nat.le_of_ble_eq_true rfl⟩) hP hS rfl hl.1 rfl (Nat.le_of_ble_eq_true rfl) dX6_daysBy_91 ⟨Nat.zero_le _, Nat.zero_le _⟩ (fun r91 H locs hp91 hP hS => ?_)
          rw [show r91 = _ from hp91]
          refine lv_iload_n hx hb dX6_daysBy_94 rfl (lv_at hl 3 rfl) ?_
          refine lv_ishl hx hb dX6_daysBy_95 ?_
          refine lv_ior hx hb dX6_daysBy_96 ?_
          refine lv_istore_n (lv' := [(2, .int (bits ||| ((xb ((allF (fitM w h S nc d) i = true))) <<< ((nI d) &&& 31)))), (0, .ref ko), (1, .int (nI n)), (3, .int (nI d)), (4, .int ftt), (5, .int (nI i))]) hx hb dX6_daysBy_97 rfl hl (by decide) rfl (fun ls hl => ?_)
          refine lv_iinc (k := 3) (v := nI (d + 1)) (lv' := [(3, .int (nI (d + 1))), (2, .int (bits ||| ((xb ((allF (fitM w h S nc d) i = true))) <<< ((nI d) &&& 31)))), (0, .ref ko), (1, .int (nI n)), (4, .int ftt), (5, .int (nI i))]) hx hb dX6_daysBy_98 hl rfl (xn_inc d 1) (by decide) rfl (fun ls hl => ?_)
          refine lv_goto (tgt := 4) hx hb dX6_daysBy_101 rfl ?_
          have hl := lv_sub hl (l' := [(0, .ref ko), (1, .int (nI n)), (2, .int (bits ||| ((xb ((allF (fitM w h S nc d) i = true))) <<< ((nI d) &&& 31)))), (3, .int (nI (d + 1)))]) [2, 3, 1, 0] rfl
          exact ih4 (la + 1 - (d + 1)) (by omega) (d + 1) (bits ||| ((xb ((allF (fitM w h S nc d) i = true))) <<< ((nI d) &&& 31))) mk2_17 ls H locs rfl (by omega) (by exact xbits_flag (by rw [show i = n by omega]; simp) hbits) hl hP hD hS
        · skip
          refine lv_bipush (v := nI 61) hx hb dX6_daysBy_29 (by decide) ?_
          refine lv_iconst (v := nI 3) hx hb dX6_daysBy_31 (by decide) ?_
          refine lv_iload hx hb dX6_daysBy_32 (lv_at hl 5 rfl) ?_
          refine xn_imul hx hb dX6_daysBy_34 ?_
          refine xn_iadd hx hb dX6_daysBy_35 ?_
          refine lv_istore (lv' := [(6, .int (nI (61 + (3 * i)))), (0, .ref ko), (1, .int (nI n)), (2, .int bits), (3, .int (nI d)), (4, .int ftt), (5, .int (nI i))]) hx hb dX6_daysBy_36 hl (by decide) rfl (fun ls hl => ?_)
          refine lv_iload hx hb dX6_daysBy_38 (lv_at hl 5 rfl) ?_
          refine lv_if_eq (tgt := 79) hx hb dX6_daysBy_40 rfl (fun b40 => ?_) (fun b40 => ?_)
          · skip
            have hno : allF (fitM w h S nc d) i = false := (by rw [hft] at b40; exact Bool.eq_false_iff.mpr (xb_0.mp b40))
            refine lv_iconst (v := nI 0) hx hb dX6_daysBy_79 (by decide) ?_
            refine lv_istore (lv' := [(4, .int (nI 0)), (6, .int (nI (61 + (3 * i)))), (0, .ref ko), (1, .int (nI n)), (2, .int bits), (3, .int (nI d)), (5, .int (nI i))]) hx hb dX6_daysBy_80 hl (by decide) rfl (fun ls hl => ?_)
            refine lv_iinc (k := 6) (v := nI (i + 1)) (lv' := [(5, .int (nI (i + 1))), (4, .int (nI 0)), (6, .int (nI (61 + (3 * i)))), (0, .ref ko), (1, .int (nI n)), (2, .int bits), (3, .int (nI d))]) hx hb dX6_daysBy_82 hl rfl (xn_inc i 1) (by decide) rfl (fun ls hl => ?_)
            refine lv_goto (tgt := 23) hx hb dX6_daysBy_85 rfl ?_
            have hl := lv_sub hl (l' := [(0, .ref ko), (1, .int (nI n)), (2, .int bits), (3, .int (nI d)), (4, .int (nI 0)), (5, .int (nI (i + 1)))]) [3, 4, 5, 6, 1, 0] rfl
            exact ih23 (n - (i + 1)) (by omega) (i + 1) (nI 0) ls H locs rfl (by omega) (by first | exact (xb_f (fun q => by rw [allF, hno, Bool.false_and] at q; cases q)).symm | exact (xb_t (by rw [allF, hfi, Bool.true_and]; exact decide_eq_true (by rw [ex0, ec0, tn_nI (by omega), tn_nI (by omega)]; exact b72))).symm | exact (xb_f (fun q => by rw [allF, hfi, Bool.true_and] at q; have q2 := of_decide_eq_true q; rw [ex0, ec0, tn_nI (by omega), tn_nI (by omega)] at q2; exact b72 q2)).symm) hl hP hD hS
          · skip
            have hfi : allF (fitM w h S nc d) i = true := (by rw [hft] at b40; exact Decidable.not_not.mp (fun q => b40 (xb_0.mpr q)))
            refine lv_aload_n hx hb dX6_daysBy_43 rfl (lv_at hl 1 rfl) ?_
            refine lv_aload_n hx hb dX6_daysBy_44 rfl (lv_at hl 1 rfl) ?_
            refine va_get (D := G.1) (ci := 6) (v := .ref (ad 0)) (C := RX6) (T := TX6) (N := 29) hx hb hts hin6 hown hK.1 hP 2 rfl rfl 0 (by decide) (hts (.fieldLink RX6 7 "BackLensesModel" "st" "[I") (List.mem_of_getElem? (i := 2) rfl)) (fun _ h9 => h9) rfl dX6_daysBy_45 ?_
            refine lv_iload hx hb dX6_daysBy_48 (lv_at hl 0 rfl) ?_
            refine xn_iald hx hb hK hP 0 rfl (by omega) (by omega) dX6_daysBy_50 ?_
            obtain ⟨x0, hx0, ex0⟩ := inR_nat (hshown i (by omega)).1
            refine xn_top ex0 ?_
            refine lv_aload_n hx hb dX6_daysBy_51 rfl (lv_at hl 1 rfl) ?_
            refine va_get (D := G.1) (ci := 6) (v := .ref (ad 0)) (C := RX6) (T := TX6) (N := 29) hx hb hts hin6 hown hK.1 hP 2 rfl rfl 0 (by decide) (hts (.fieldLink RX6 7 "BackLensesModel" "st" "[I") (List.mem_of_getElem? (i := 2) rfl)) (fun _ h9 => h9) rfl dX6_daysBy_52 ?_
            refine lv_iload hx hb dX6_daysBy_55 (lv_at hl 0 rfl) ?_
            refine lv_iconst (v := nI 1) hx hb dX6_daysBy_57 (by decide) ?_
            refine xn_iadd hx hb dX6_daysBy_58 ?_
            refine xn_iald hx hb hK hP 0 rfl (by omega) (by omega) dX6_daysBy_59 ?_
            obtain ⟨c0, hc0, ec0⟩ := inR_nat (hshown i (by omega)).2
            refine xn_top ec0 ?_
            refine xr_i (As := [.int (nI x0), .int (nI c0)]) (rest := []) ⟨hx, hb, hml, hown, hts⟩ (c_X6_seenAs l G ko ad w h la tp ft tr mv mk2_17 x0 c0 (by first | assumption | omega) (by first | assumption | omega) (by first | assumption | omega) (by first | assumption | omega) (by first | assumption | omega) (by first | assumption | omega) (by first | assumption | omega)) (cwV 2 hts gX6_daysBy_X6_seenAs rfl rfl rfl (by decide +kernel) ⟨Nat.le_of_ble_eq_true rfl, Nat.le_of_ble_eq_true rfl⟩) hK hP hS [2, 1] rfl rfl rfl rfl hl.1 rfl (Nat.le_of_ble_eq_true rfl) dX6_daysBy_60 ⟨Nat.zero_le _, Nat.zero_le _⟩ (fun r60 H locs hp60 hP hS => ?_)
            rw [show r60 = _ from hp60]
            refine xn_top (show (if (sgF w h mk2_17 x0 >>> (nI c0 &&& 31)) &&& nI 1 = nI 1 then mk2_17 c0 else (-4)) = anM w h S nc x0 c0 d from (by rw [he17 c0 (by omega), sgF_congr (row := mk2_17) (row' := fun c => mkM S nc c d) (by omega) (by omega) (fun c q => he17 c (by omega))])) ?_
            refine lv_aload_n hx hb dX6_daysBy_63 rfl (lv_at hl 1 rfl) ?_
            refine va_get (D := G.1) (ci := 6) (v := .ref (ad 0)) (C := RX6) (T := TX6) (N := 29) hx hb hts hin6 hown hK.1 hP 2 rfl rfl 0 (by decide) (hts (.fieldLink RX6 7 "BackLensesModel" "st" "[I") (List.mem_of_getElem? (i := 2) rfl)) (fun _ h9 => h9) rfl dX6_daysBy_64 ?_
            refine lv_iload hx hb dX6_daysBy_67 (lv_at hl 0 rfl) ?_
            refine lv_iconst (v := nI 2) hx hb dX6_daysBy_69 (by decide) ?_
            refine xn_iadd hx hb dX6_daysBy_70 ?_
            refine xn_iald hx hb hK hP 0 rfl (by omega) (by omega) dX6_daysBy_71 ?_
            refine lv_icmp_ne (tgt := 79) hx hb dX6_daysBy_72 rfl (fun b72 => ?_) (fun b72 => ?_)
            · skip
              refine lv_iconst (v := nI 0) hx hb dX6_daysBy_79 (by decide) ?_
              refine lv_istore (lv' := [(4, .int (nI 0)), (6, .int (nI (61 + (3 * i)))), (0, .ref ko), (1, .int (nI n)), (2, .int bits), (3, .int (nI d)), (5, .int (nI i))]) hx hb dX6_daysBy_80 hl (by decide) rfl (fun ls hl => ?_)
              refine lv_iinc (k := 6) (v := nI (i + 1)) (lv' := [(5, .int (nI (i + 1))), (4, .int (nI 0)), (6, .int (nI (61 + (3 * i)))), (0, .ref ko), (1, .int (nI n)), (2, .int bits), (3, .int (nI d))]) hx hb dX6_daysBy_82 hl rfl (xn_inc i 1) (by decide) rfl (fun ls hl => ?_)
              refine lv_goto (tgt := 23) hx hb dX6_daysBy_85 rfl ?_
              have hl := lv_sub hl (l' := [(0, .ref ko), (1, .int (nI n)), (2, .int bits), (3, .int (nI d)), (4, .int (nI 0)), (5, .int (nI (i + 1)))]) [3, 4, 5, 6, 1, 0] rfl
              exact ih23 (n - (i + 1)) (by omega) (i + 1) (nI 0) ls H locs rfl (by omega) (by first | exact (xb_f (fun q => by rw [allF, hno, Bool.false_and] at q; cases q)).symm | exact (xb_t (by rw [allF, hfi, Bool.true_and]; exact decide_eq_true (by rw [ex0, ec0, tn_nI (by omega), tn_nI (by omega)]; exact b72))).symm | exact (xb_f (fun q => by rw [allF, hfi, Bool.true_and] at q; have q2 := of_decide_eq_true q; rw [ex0, ec0, tn_nI (by omega), tn_nI (by omega)] at q2; exact b72 q2)).symm) hl hP hD hS
            · skip
              refine lv_iconst (v := nI 1) hx hb dX6_daysBy_75 (by decide) ?_
              refine lv_goto (tgt := 80) hx hb dX6_daysBy_76 rfl ?_
              refine lv_istore (lv' := [(4, .int (nI 1)), (6, .int (nI (61 + (3 * i)))), (0, .ref ko), (1, .int (nI n)), (2, .int bits), (3, .int (nI d)), (5, .int (nI i))]) hx hb dX6_daysBy_80 hl (by decide) rfl (fun ls hl => ?_)
              refine lv_iinc (k := 6) (v := nI (i + 1)) (lv' := [(5, .int (nI (i + 1))), (4, .int (nI 1)), (6, .int (nI (61 + (3 * i)))), (0, .ref ko), (1, .int (nI n)), (2, .int bits), (3, .int (nI d))]) hx hb dX6_daysBy_82 hl rfl (xn_inc i 1) (by decide) rfl (fun ls hl => ?_)
              refine lv_goto (tgt := 23) hx hb dX6_daysBy_85 rfl ?_
              have hl := lv_sub hl (l' := [(0, .ref ko), (1, .int (nI n)), (2, .int bits), (3, .int (nI d)), (4, .int (nI 1)), (5, .int (nI (i + 1)))]) [3, 4, 5, 6, 1, 0] rfl
              exact ih23 (n - (i + 1)) (by omega) (i + 1) (nI 1) ls H locs rfl (by omega) (by first | exact (xb_f (fun q => by rw [allF, hno, Bool.false_and] at q; cases q)).symm | exact (xb_t (by rw [allF, hfi, Bool.true_and]; exact decide_eq_true (by rw [ex0, ec0, tn_nI (by omega), tn_nI (by omega)]; exact b72))).symm | exact (xb_f (fun q => by rw [allF, hfi, Bool.true_and] at q; have q2 := of_decide_eq_true q; rw [ex0, ec0, tn_nI (by omega), tn_nI (by omega)] at q2; exact b72 q2)).symm) hl hP hD hS
      have hl := lv_sub hl (l' := [(0, .ref ko), (1, .int (nI n)), (2, .int bits), (3, .int (nI d)), (4, .int (nI 1)), (5, .int (nI 0))]) [2, 3, 4, 5, 1, 0] rfl
      have hP := hP.sub (ws' := [iA G (ad 0) 255 S, iA G (ad 4) 16 mk2_17, oC ko 6 [.ref (ad 0), .ref (ad 1), .int (nI w), .int (nI h), .int (nI la), .ref (ad 2), .int (mv 0), .int (mv 1), .int (mv 2), .int (mv 3), .int (mv 4), .int (mv 5), .int (mv 6), .ref (ad 3), .int (nI tp), .int (mv 7), .int (mv 8), .int (mv 9), .int (mv 10), .int ft, .int (mv 11), .ref (ad 4), .ref (ad 5), .ref (ad 6), .ref (ad 7), .ref (ad 8), .ref (ad 9), .ref (ad 10), .int tr]]) [1, 2, 0] rfl
      have hD := hD.sub (ws' := [iA G (ad 0) 255 S, iA G (ad 4) 16 mk2_17, oC ko 6 [.ref (ad 0), .ref (ad 1), .int (nI w), .int (nI h), .int (nI la), .ref (ad 2), .int (mv 0), .int (mv 1), .int (mv 2), .int (mv 3), .int (mv 4), .int (mv 5), .int (mv 6), .ref (ad 3), .int (nI tp), .int (mv 7), .int (mv 8), .int (mv 9), .int (mv 10), .int ft, .int (mv 11), .ref (ad 4), .ref (ad 5), .ref (ad 6), .ref (ad 7), .ref (ad 8), .ref (ad 9), .ref (ad 10), .int tr]]) [1, 2, 0] (by decide) rfl
      exact hL23 (n - 0) 0 (nI 1) ls H locs rfl (by omega) (by exact (xb_t rfl).symm) hl hP hD hS
  have hl := lv_sub hl (l' := [(0, .ref ko), (1, .int (nI n)), (2, .int (nI 0)), (3, .int (nI 0))]) [2, 3, 1, 0] rfl
  have hP := hP.sub (ws' := [iA G (ad 0) 255 S, iA G (ad 4) 16 mk, oC ko 6 [.ref (ad 0), .ref (ad 1), .int (nI w), .int (nI h), .int (nI la), .ref (ad 2), .int (mv 0), .int (mv 1), .int (mv 2), .int (mv 3), .int (mv 4), .int (mv 5), .int (mv 6), .ref (ad 3), .int (nI tp), .int (mv 7), .int (mv 8), .int (mv 9), .int (mv 10), .int ft, .int (mv 11), .ref (ad 4), .ref (ad 5), .ref (ad 6), .ref (ad 7), .ref (ad 8), .ref (ad 9), .ref (ad 10), .int tr]]) [1, 2, 0] rfl
  have hD := hD.sub (ws' := [iA G (ad 0) 255 S, iA G (ad 4) 16 mk, oC ko 6 [.ref (ad 0), .ref (ad 1), .int (nI w), .int (nI h), .int (nI la), .ref (ad 2), .int (mv 0), .int (mv 1), .int (mv 2), .int (mv 3), .int (mv 4), .int (mv 5), .int (mv 6), .ref (ad 3), .int (nI tp), .int (mv 7), .int (mv 8), .int (mv 9), .int (mv 10), .int ft, .int (mv 11), .ref (ad 4), .ref (ad 5), .ref (ad 6), .ref (ad 7), .ref (ad 8), .ref (ad 9), .ref (ad 10), .int tr]]) [1, 2, 0] (by decide) rfl
  exact hL4 (la + 1 - 0) 0 (nI 0) mk ls ss.heap [] rfl (by omega) (by rfl) hl hP hD hS

abbrev w_X6_days (G : XG) (ko : Nat) (ad : Nat → Nat) (w h la tp : Nat) (ft tr : Int32) (mv : Nat → Int32) (S mk : Nat → Int32) : va_W := [oC ko 6 [.ref (ad 0), .ref (ad 1), .int (nI w), .int (nI h), .int (nI la), .ref (ad 2), .int (mv 0), .int (mv 1), .int (mv 2), .int (mv 3), .int (mv 4), .int (mv 5), .int (mv 6), .ref (ad 3), .int (nI tp), .int (mv 7), .int (mv 8), .int (mv 9), .int (mv 10), .int ft, .int (mv 11), .ref (ad 4), .ref (ad 5), .ref (ad 6), .ref (ad 7), .ref (ad 8), .ref (ad 9), .ref (ad 10), .int tr], iA G (ad 0) 255 S, iA G (ad 4) 16 mk]
abbrev Q_X6_days (G : XG) (sz : Nat) (ko : Nat) (ad : Nat → Nat) (w h la tp : Nat) (ft tr : Int32) (mv : Nat → Int32) (S mk : Nat → Int32) (nc : Nat) (ns : Nat) : Array Value → State → Outcome → State → Prop := (va_Qi (fun (r : Int32) (u : (Nat → Int32)) => r = dyM w h la S nc ns) (xWb G sz (w_X6_days G ko ad w h la tp ft tr mv S mk) (fun u : (Nat → Int32) => [oC ko 6 [.ref (ad 0), .ref (ad 1), .int (nI w), .int (nI h), .int (nI la), .ref (ad 2), .int (mv 0), .int (mv 1), .int (mv 2), .int (mv 3), .int (mv 4), .int (mv 5), .int (mv 6), .ref (ad 3), .int (nI tp), .int (mv 7), .int (mv 8), .int (mv 9), .int (mv 10), .int ft, .int (mv 11), .ref (ad 4), .ref (ad 5), .ref (ad 6), .ref (ad 7), .ref (ad 8), .ref (ad 9), .ref (ad 10), .int tr], iA G (ad 0) 255 S, iA G (ad 4) 16 u])) (va_A (w_X6_days G ko ad w h la tp ft tr mv S mk) sz))
set_option maxHeartbeats 4000000 in
set_option maxRecDepth 100000 in
theorem c_X6_days (l : Launch) (G : XG) (sz : Nat) (ko : Nat) (ad : Nat → Nat) (w h la tp : Nat) (ft tr : Int32) (mv : Nat → Int32) (S mk : Nat → Int32) (nc : Nat) (ns : Nat) (hw : 1 ≤ w) (hwb : w ≤ 16) (hhb : h ≤ 16) (hwh1 : 1 ≤ w * h) (hwh : w * h ≤ 16) (hla : la ≤ 9) (hs16 : S 16 = nI nc) (hnc : nc ≤ 10) (hs60 : S 60 = nI ns) (hns : ns ≤ 8) (hshown : ∀ i, i < ns → inR (S (61 + 3 * i)) (w * h) ∧ inR (S (61 + 3 * i + 1)) (w * h)) : Met l yX6_days wsX6_days ({ frames := 5, cells := 0, slots := 0, locals := 115 } : Room) (va_Pc [.ref ko] (xWp G sz (w_X6_days G ko ad w h la tp ft tr mv S mk))) (Q_X6_days G sz ko ad w h la tp ft tr mv S mk nc ns) 0 0 (va_A (w_X6_days G ko ad w h la tp ft tr mv S mk) sz) := by
  refine Met.ofW (cc := cX6_days) (maxL := 1) (ret := (some .int)) (by decide) rfl ?_
  intro pp ee ss mm aa below mt cd s₁ BB hml hv
  obtain ⟨rfl, hsz, hP, hK, hD0⟩ := hv
  have hx := BB.exec
  have hb := BB.bytes
  have hr := BB.returns
  have hts := atoms_spec (ws := wsX6_days) BB.pre
  have hown : ss.vm.findClass RX6 = some mm.cls := findClass_of_methodNamed BB.named
  have hlocks := BB.notSynchronized
  subst hsz
  have hD := hD0.self (sz := ss.heap.size)
  have hA : ∀ q : Nat, ss.heap.size ≤ q → va_A (w_X6_days G ko ad w h la tp ft tr mv S mk) ss.heap.size q := fun q h => Or.inr h
  have hS : va_S (va_A (w_X6_days G ko ad w h la tp ft tr mv S mk) ss.heap.size) ss.heap ss.heap [] := va_S.rf
  replace hD : va_D (va_A (w_X6_days G ko ad w h la tp ft tr mv S mk) ss.heap.size) [oC ko 6 [.ref (ad 0), .ref (ad 1), .int (nI w), .int (nI h), .int (nI la), .ref (ad 2), .int (mv 0), .int (mv 1), .int (mv 2), .int (mv 3), .int (mv 4), .int (mv 5), .int (mv 6), .ref (ad 3), .int (nI tp), .int (mv 7), .int (mv 8), .int (mv 9), .int (mv 10), .int ft, .int (mv 11), .ref (ad 4), .ref (ad 5), .ref (ad 6), .ref (ad 7), .ref (ad 8), .ref (ad 9), .ref (ad 10), .int tr], iA G (ad 0) 255 S, iA G (ad 4) 16 mk] := hD
  replace hP : xP G [oC ko 6 [.ref (ad 0), .ref (ad 1), .int (nI w), .int (nI h), .int (nI la), .ref (ad 2), .int (mv 0), .int (mv 1), .int (mv 2), .int (mv 3), .int (mv 4), .int (mv 5), .int (mv 6), .ref (ad 3), .int (nI tp), .int (mv 7), .int (mv 8), .int (mv 9), .int (mv 10), .int ft, .int (mv 11), .ref (ad 4), .ref (ad 5), .ref (ad 6), .ref (ad 7), .ref (ad 8), .ref (ad 9), .ref (ad 10), .int tr], iA G (ad 0) 255 S, iA G (ad 4) 16 mk] ss.heap := hP
  have hin6 : ∀ w ∈ u_ws RX6 TX6 29, w ∈ wsX6_days := fun w h => List.mem_cons_of_mem _ (List.mem_append_right _ h)
  have hl := lv_entry ([.ref ko]) (n := 1) (Nat.le_of_ble_eq_true rfl)
  rw [lg_entry_eq]
  generalize (lg_sl ([.ref ko]) ++ List.replicate (1 - (lg_sl ([.ref ko])).length) Slot.unset).toArray = ls at hl ⊢
  replace hl : lv_has ls 1 [(0, .ref ko)] := hl
  refine lv_aload_n hx hb dX6_days_0 rfl (lv_at hl 0 rfl) ?_
  refine lv_aload_n hx hb dX6_days_1 rfl (lv_at hl 0 rfl) ?_
  refine va_get (D := G.1) (ci := 6) (v := .ref (ad 0)) (C := RX6) (T := TX6) (N := 29) hx hb hts hin6 hown hK.1 hP 0 rfl rfl 0 (by decide) (hts (.fieldLink RX6 7 "BackLensesModel" "st" "[I") (List.mem_of_getElem? (i := 1) rfl)) (fun _ h9 => h9) rfl dX6_days_2 ?_
  refine lv_bipush (v := nI 60) hx hb dX6_days_5 (by decide) ?_
  refine xn_iald hx hb hK hP 1 rfl (by omega) (by omega) dX6_days_7 ?_
  refine xn_top (y := nI ns) (by exact hs60) ?_
  refine xw_i (As := [.int (nI ns)]) (rest := []) (wr := []) ⟨hx, hb, hml, hown, hts⟩ (c_X6_daysBy l G ss.heap.size ko ad w h la tp ft tr mv S mk _ _ ns (by first | assumption | omega) (by first | assumption | omega) (by first | assumption | omega) (by first | assumption | omega) (by first | assumption | omega) (by first | assumption | omega) (by first | assumption | omega) (by first | assumption | omega) (by first | assumption | omega) (by first | assumption | omega) (by first | assumption | omega) (by first | assumption | omega)) (cwV 1 hts gX6_days_X6_daysBy rfl rfl rfl (by decide +kernel) ⟨Nat.le_of_ble_eq_true rfl, Nat.le_of_ble_eq_true rfl⟩) hK hP hD hS hA [0, 1, 2] [] rfl rfl (by decide) (by decide) (by decide) rfl rfl rfl hl.1 rfl (Nat.le_of_ble_eq_true rfl) dX6_days_8 ⟨Nat.le_of_ble_eq_true rfl, Nat.le_of_ble_eq_true rfl⟩ (fun r8 u H locs hp8 hP hD hS => ?_)
  obtain ⟨mk2_8, rfl⟩ : ∃ z, z = u := ⟨_, rfl⟩
  try dsimp only at hp8 hP hD
  obtain rfl := hp8
  replace hP : xP G [oC ko 6 [.ref (ad 0), .ref (ad 1), .int (nI w), .int (nI h), .int (nI la), .ref (ad 2), .int (mv 0), .int (mv 1), .int (mv 2), .int (mv 3), .int (mv 4), .int (mv 5), .int (mv 6), .ref (ad 3), .int (nI tp), .int (mv 7), .int (mv 8), .int (mv 9), .int (mv 10), .int ft, .int (mv 11), .ref (ad 4), .ref (ad 5), .ref (ad 6), .ref (ad 7), .ref (ad 8), .ref (ad 9), .ref (ad 10), .int tr], iA G (ad 0) 255 S, iA G (ad 4) 16 mk2_8] H := hP
  replace hD : va_D (va_A (w_X6_days G ko ad w h la tp ft tr mv S mk) ss.heap.size) [oC ko 6 [.ref (ad 0), .ref (ad 1), .int (nI w), .int (nI h), .int (nI la), .ref (ad 2), .int (mv 0), .int (mv 1), .int (mv 2), .int (mv 3), .int (mv 4), .int (mv 5), .int (mv 6), .ref (ad 3), .int (nI tp), .int (mv 7), .int (mv 8), .int (mv 9), .int (mv 10), .int ft, .int (mv 11), .ref (ad 4), .ref (ad 5), .ref (ad 6), .ref (ad 7), .ref (ad 8), .ref (ad 9), .ref (ad 10), .int tr], iA G (ad 0) 255 S, iA G (ad 4) 16 mk2_8] := hD
  have hP := hP.sub (ws' := [oC ko 6 [.ref (ad 0), .ref (ad 1), .int (nI w), .int (nI h), .int (nI la), .ref (ad 2), .int (mv 0), .int (mv 1), .int (mv 2), .int (mv 3), .int (mv 4), .int (mv 5), .int (mv 6), .ref (ad 3), .int (nI tp), .int (mv 7), .int (mv 8), .int (mv 9), .int (mv 10), .int ft, .int (mv 11), .ref (ad 4), .ref (ad 5), .ref (ad 6), .ref (ad 7), .ref (ad 8), .ref (ad 9), .ref (ad 10), .int tr], iA G (ad 0) 255 S, iA G (ad 4) 16 mk2_8]) [0, 1, 2] rfl
  have hD := hD.sub (ws' := [oC ko 6 [.ref (ad 0), .ref (ad 1), .int (nI w), .int (nI h), .int (nI la), .ref (ad 2), .int (mv 0), .int (mv 1), .int (mv 2), .int (mv 3), .int (mv 4), .int (mv 5), .int (mv 6), .ref (ad 3), .int (nI tp), .int (mv 7), .int (mv 8), .int (mv 9), .int (mv 10), .int ft, .int (mv 11), .ref (ad 4), .ref (ad 5), .ref (ad 6), .ref (ad 7), .ref (ad 8), .ref (ad 9), .ref (ad 10), .int tr], iA G (ad 0) 255 S, iA G (ad 4) 16 mk2_8]) [0, 1, 2] (by decide) rfl
  refine W.iret (v := dyM w h la S _ ns) hx hb hr (fun t ht hW => ⟨⟨dyM w h la S _ ns, (mk2_8), rfl, ?_, by rw [ht]; exact hP, hD⟩, hS.F ht⟩) hS.2.2 dX6_days_11
  rfl

abbrev w_X6_lie (G : XG) (ko : Nat) (ad : Nat → Nat) (w h la tp : Nat) (ft tr : Int32) (mv : Nat → Int32) (S mk : Nat → Int32) : va_W := [oC ko 6 [.ref (ad 0), .ref (ad 1), .int (nI w), .int (nI h), .int (nI la), .ref (ad 2), .int (mv 0), .int (mv 1), .int (mv 2), .int (mv 3), .int (mv 4), .int (mv 5), .int (mv 6), .ref (ad 3), .int (nI tp), .int (mv 7), .int (mv 8), .int (mv 9), .int (mv 10), .int ft, .int (mv 11), .ref (ad 4), .ref (ad 5), .ref (ad 6), .ref (ad 7), .ref (ad 8), .ref (ad 9), .ref (ad 10), .int tr], iA G (ad 0) 255 S, iA G (ad 4) 16 mk]
abbrev Q_X6_lie (G : XG) (sz : Nat) (ko : Nat) (ad : Nat → Nat) (w h la tp : Nat) (ft tr : Int32) (mv : Nat → Int32) (S mk : Nat → Int32) (nc : Nat) (ns : Nat) : Array Value → State → Outcome → State → Prop := (va_Qi (fun (r : Int32) (u : (Nat → Int32)) => r = firstF (fun i => decide (dyM w h la S nc (i + 1) = 0)) ns 0) (xWb G sz (w_X6_lie G ko ad w h la tp ft tr mv S mk) (fun u : (Nat → Int32) => [oC ko 6 [.ref (ad 0), .ref (ad 1), .int (nI w), .int (nI h), .int (nI la), .ref (ad 2), .int (mv 0), .int (mv 1), .int (mv 2), .int (mv 3), .int (mv 4), .int (mv 5), .int (mv 6), .ref (ad 3), .int (nI tp), .int (mv 7), .int (mv 8), .int (mv 9), .int (mv 10), .int ft, .int (mv 11), .ref (ad 4), .ref (ad 5), .ref (ad 6), .ref (ad 7), .ref (ad 8), .ref (ad 9), .ref (ad 10), .int tr], iA G (ad 0) 255 S, iA G (ad 4) 16 u])) (va_A (w_X6_lie G ko ad w h la tp ft tr mv S mk) sz))
set_option maxHeartbeats 4000000 in
set_option maxRecDepth 100000 in
theorem c_X6_lie (l : Launch) (G : XG) (sz : Nat) (ko : Nat) (ad : Nat → Nat) (w h la tp : Nat) (ft tr : Int32) (mv : Nat → Int32) (S mk : Nat → Int32) (nc : Nat) (ns : Nat) (hw : 1 ≤ w) (hwb : w ≤ 16) (hhb : h ≤ 16) (hwh1 : 1 ≤ w * h) (hwh : w * h ≤ 16) (hla : la ≤ 9) (hs16 : S 16 = nI nc) (hnc : nc ≤ 10) (hs60 : S 60 = nI ns) (hns : ns ≤ 8) (hshown : ∀ i, i < ns → inR (S (61 + 3 * i)) (w * h) ∧ inR (S (61 + 3 * i + 1)) (w * h)) : Met l yX6_lie wsX6_lie ({ frames := 5, cells := 0, slots := 0, locals := 115 } : Room) (va_Pc [.ref ko] (xWp G sz (w_X6_lie G ko ad w h la tp ft tr mv S mk))) (Q_X6_lie G sz ko ad w h la tp ft tr mv S mk nc ns) 0 0 (va_A (w_X6_lie G ko ad w h la tp ft tr mv S mk) sz) := by
  refine Met.ofW (cc := cX6_lie) (maxL := 2) (ret := (some .int)) (by decide) rfl ?_
  intro pp ee ss mm aa below mt cd s₁ BB hml hv
  obtain ⟨rfl, hsz, hP, hK, hD0⟩ := hv
  have hx := BB.exec
  have hb := BB.bytes
  have hr := BB.returns
  have hts := atoms_spec (ws := wsX6_lie) BB.pre
  have hown : ss.vm.findClass RX6 = some mm.cls := findClass_of_methodNamed BB.named
  have hlocks := BB.notSynchronized
  subst hsz
  have hD := hD0.self (sz := ss.heap.size)
  have hA : ∀ q : Nat, ss.heap.size ≤ q → va_A (w_X6_lie G ko ad w h la tp ft tr mv S mk) ss.heap.size q := fun q h => Or.inr h
  have hS : va_S (va_A (w_X6_lie G ko ad w h la tp ft tr mv S mk) ss.heap.size) ss.heap ss.heap [] := va_S.rf
  replace hD : va_D (va_A (w_X6_lie G ko ad w h la tp ft tr mv S mk) ss.heap.size) [oC ko 6 [.ref (ad 0), .ref (ad 1), .int (nI w), .int (nI h), .int (nI la), .ref (ad 2), .int (mv 0), .int (mv 1), .int (mv 2), .int (mv 3), .int (mv 4), .int (mv 5), .int (mv 6), .ref (ad 3), .int (nI tp), .int (mv 7), .int (mv 8), .int (mv 9), .int (mv 10), .int ft, .int (mv 11), .ref (ad 4), .ref (ad 5), .ref (ad 6), .ref (ad 7), .ref (ad 8), .ref (ad 9), .ref (ad 10), .int tr], iA G (ad 0) 255 S, iA G (ad 4) 16 mk] := hD
  replace hP : xP G [oC ko 6 [.ref (ad 0), .ref (ad 1), .int (nI w), .int (nI h), .int (nI la), .ref (ad 2), .int (mv 0), .int (mv 1), .int (mv 2), .int (mv 3), .int (mv 4), .int (mv 5), .int (mv 6), .ref (ad 3), .int (nI tp), .int (mv 7), .int (mv 8), .int (mv 9), .int (mv 10), .int ft, .int (mv 11), .ref (ad 4), .ref (ad 5), .ref (ad 6), .ref (ad 7), .ref (ad 8), .ref (ad 9), .ref (ad 10), .int tr], iA G (ad 0) 255 S, iA G (ad 4) 16 mk] ss.heap := hP
  have hin6 : ∀ w ∈ u_ws RX6 TX6 29, w ∈ wsX6_lie := fun w h => List.mem_cons_of_mem _ (List.mem_append_right _ h)
  have hl := lv_entry ([.ref ko]) (n := 2) (Nat.le_of_ble_eq_true rfl)
  rw [lg_entry_eq]
  generalize (lg_sl ([.ref ko]) ++ List.replicate (2 - (lg_sl ([.ref ko])).length) Slot.unset).toArray = ls at hl ⊢
  replace hl : lv_has ls 2 [(0, .ref ko)] := hl
  refine lv_iconst (v := nI 0) hx hb dX6_lie_0 (by decide) ?_
  refine lv_istore_n (lv' := [(1, .int (nI 0)), (0, .ref ko)]) hx hb dX6_lie_1 rfl hl (by decide) rfl (fun ls hl => ?_)
  have hL2 : ∀ k : Nat, ∀ (i : Nat) (mk3 : Nat → Int32) (ls : Array Slot) (H : Heap) (locs : List Loc), ns - i = k → (i ≤ ns) → (firstF (fun i => decide (dyM w h la S nc (i + 1) = 0)) ns 0 = firstF (fun i => decide (dyM w h la S nc (i + 1) = 0)) (ns - i) i) → lv_has ls 2 [(0, .ref ko), (1, .int (nI i))] → xP G [iA G (ad 0) 255 S, iA G (ad 4) 16 mk3, oC ko 6 [.ref (ad 0), .ref (ad 1), .int (nI w), .int (nI h), .int (nI la), .ref (ad 2), .int (mv 0), .int (mv 1), .int (mv 2), .int (mv 3), .int (mv 4), .int (mv 5), .int (mv 6), .ref (ad 3), .int (nI tp), .int (mv 7), .int (mv 8), .int (mv 9), .int (mv 10), .int ft, .int (mv 11), .ref (ad 4), .ref (ad 5), .ref (ad 6), .ref (ad 7), .ref (ad 8), .ref (ad 9), .ref (ad 10), .int tr]] H → va_D (va_A (w_X6_lie G ko ad w h la tp ft tr mv S mk) ss.heap.size) [iA G (ad 0) 255 S, iA G (ad 4) 16 mk3, oC ko 6 [.ref (ad 0), .ref (ad 1), .int (nI w), .int (nI h), .int (nI la), .ref (ad 2), .int (mv 0), .int (mv 1), .int (mv 2), .int (mv 3), .int (mv 4), .int (mv 5), .int (mv 6), .ref (ad 3), .int (nI tp), .int (mv 7), .int (mv 8), .int (mv 9), .int (mv 10), .int ft, .int (mv 11), .ref (ad 4), .ref (ad 5), .ref (ad 6), .ref (ad 7), .ref (ad 8), .ref (ad 9), .ref (ad 10), .int tr]] → va_S (va_A (w_X6_lie G ko ad w h la tp ft tr mv S mk) ss.heap.size) ss.heap H locs → W pp l ee ({ frames := 5, cells := 0, slots := 0, locals := 115 } : Room) ss mm ([.ref ko] : List Value).toArray below mt cd H locs 0 0 (MQ below (Q_X6_lie G ss.heap.size ko ad w h la tp ft tr mv S mk nc ns) ([.ref ko] : List Value).toArray ss 0 0 (va_A (w_X6_lie G ko ad w h la tp ft tr mv S mk) ss.heap.size)) (F0 mm 2 ls []) := by
    intro k
    induction k using Nat.strongRecOn with
    | _ k ih2 =>
    intro i mk3 ls H locs hm2 hi hf hl hP hD hS
    refine lv_iload_n hx hb dX6_lie_2 rfl (lv_at hl 1 rfl) ?_
    refine lv_aload_n hx hb dX6_lie_3 rfl (lv_at hl 0 rfl) ?_
    refine va_get (D := G.1) (ci := 6) (v := .ref (ad 0)) (C := RX6) (T := TX6) (N := 29) hx hb hts hin6 hown hK.1 hP 2 rfl rfl 0 (by decide) (hts (.fieldLink RX6 7 "BackLensesModel" "st" "[I") (List.mem_of_getElem? (i := 1) rfl)) (fun _ h9 => h9) rfl dX6_lie_4 ?_
    refine lv_bipush (v := nI 60) hx hb dX6_lie_7 (by decide) ?_
    refine xn_iald hx hb hK hP 0 rfl (by omega) (by omega) dX6_lie_9 ?_
    refine xn_top (y := nI ns) (by exact hs60) ?_
    refine xn_icmp_ge (tgt := 31) hx hb (by omega) (by omega) dX6_lie_10 rfl (fun b10 => ?_) (fun b10 => ?_)
    · skip
      refine lv_bipush (v := (-4)) hx hb dX6_lie_31 (by decide) ?_
      have hP := hP.sub (ws' := [oC ko 6 [.ref (ad 0), .ref (ad 1), .int (nI w), .int (nI h), .int (nI la), .ref (ad 2), .int (mv 0), .int (mv 1), .int (mv 2), .int (mv 3), .int (mv 4), .int (mv 5), .int (mv 6), .ref (ad 3), .int (nI tp), .int (mv 7), .int (mv 8), .int (mv 9), .int (mv 10), .int ft, .int (mv 11), .ref (ad 4), .ref (ad 5), .ref (ad 6), .ref (ad 7), .ref (ad 8), .ref (ad 9), .ref (ad 10), .int tr], iA G (ad 0) 255 S, iA G (ad 4) 16 mk3]) [2, 0, 1] rfl
      have hD := hD.sub (ws' := [oC ko 6 [.ref (ad 0), .ref (ad 1), .int (nI w), .int (nI h), .int (nI la), .ref (ad 2), .int (mv 0), .int (mv 1), .int (mv 2), .int (mv 3), .int (mv 4), .int (mv 5), .int (mv 6), .ref (ad 3), .int (nI tp), .int (mv 7), .int (mv 8), .int (mv 9), .int (mv 10), .int ft, .int (mv 11), .ref (ad 4), .ref (ad 5), .ref (ad 6), .ref (ad 7), .ref (ad 8), .ref (ad 9), .ref (ad 10), .int tr], iA G (ad 0) 255 S, iA G (ad 4) 16 mk3]) [2, 0, 1] (by decide) rfl
      refine W.iret (v := (-4)) hx hb hr (fun t ht hW => ⟨⟨(-4), (mk3), rfl, ?_, by rw [ht]; exact hP, hD⟩, hS.F ht⟩) hS.2.2 dX6_lie_33
      first | (rw [hf, show ns - i = 0 by omega, firstF]) | (rw [hf, show ns - i = (ns - (i + 1)) + 1 by omega, firstF, if_pos (decide_eq_true b20)])
    · skip
      refine lv_aload_n hx hb dX6_lie_13 rfl (lv_at hl 0 rfl) ?_
      refine lv_iload_n hx hb dX6_lie_14 rfl (lv_at hl 1 rfl) ?_
      refine lv_iconst (v := nI 1) hx hb dX6_lie_15 (by decide) ?_
      refine xn_iadd hx hb dX6_lie_16 ?_
      refine xw_i (As := [.int (nI (i + 1))]) (rest := []) (wr := []) ⟨hx, hb, hml, hown, hts⟩ (c_X6_daysBy l G H.size ko ad w h la tp ft tr mv S mk3 _ _ (i + 1) (by first | assumption | omega) (by first | assumption | omega) (by first | assumption | omega) (by first | assumption | omega) (by first | assumption | omega) (by first | assumption | omega) (by first | assumption | omega) (by first | assumption | omega) (by first | assumption | omega) (by first | assumption | omega) (by first | assumption | omega) (by first | assumption | omega)) (cwV 1 hts gX6_lie_X6_daysBy rfl rfl rfl (by decide +kernel) ⟨Nat.le_of_ble_eq_true rfl, Nat.le_of_ble_eq_true rfl⟩) hK hP hD hS hA [2, 0, 1] [] rfl rfl (by decide) (by decide) (by decide) rfl rfl rfl hl.1 rfl (Nat.le_of_ble_eq_true rfl) dX6_lie_17 ⟨Nat.le_of_ble_eq_true rfl, Nat.le_of_ble_eq_true rfl⟩ (fun r17 u H locs hp17 hP hD hS => ?_)
      obtain ⟨mk2_17, rfl⟩ : ∃ z, z = u := ⟨_, rfl⟩
      try dsimp only at hp17 hP hD
      obtain rfl := hp17
      replace hP : xP G [oC ko 6 [.ref (ad 0), .ref (ad 1), .int (nI w), .int (nI h), .int (nI la), .ref (ad 2), .int (mv 0), .int (mv 1), .int (mv 2), .int (mv 3), .int (mv 4), .int (mv 5), .int (mv 6), .ref (ad 3), .int (nI tp), .int (mv 7), .int (mv 8), .int (mv 9), .int (mv 10), .int ft, .int (mv 11), .ref (ad 4), .ref (ad 5), .ref (ad 6), .ref (ad 7), .ref (ad 8), .ref (ad 9), .ref (ad 10), .int tr], iA G (ad 0) 255 S, iA G (ad 4) 16 mk2_17] H := hP
      replace hD : va_D (va_A (w_X6_lie G ko ad w h la tp ft tr mv S mk) ss.heap.size) [oC ko 6 [.ref (ad 0), .ref (ad 1), .int (nI w), .int (nI h), .int (nI la), .ref (ad 2), .int (mv 0), .int (mv 1), .int (mv 2), .int (mv 3), .int (mv 4), .int (mv 5), .int (mv 6), .ref (ad 3), .int (nI tp), .int (mv 7), .int (mv 8), .int (mv 9), .int (mv 10), .int ft, .int (mv 11), .ref (ad 4), .ref (ad 5), .ref (ad 6), .ref (ad 7), .ref (ad 8), .ref (ad 9), .ref (ad 10), .int tr], iA G (ad 0) 255 S, iA G (ad 4) 16 mk2_17] := hD
      refine lv_if_ne (tgt := 25) hx hb dX6_lie_20 rfl (fun b20 => ?_) (fun b20 => ?_)
      · skip
        refine lv_iinc (k := 1) (v := nI (i + 1)) (lv' := [(1, .int (nI (i + 1))), (0, .ref ko)]) hx hb dX6_lie_25 hl rfl (xn_inc i 1) (by decide) rfl (fun ls hl => ?_)
        refine lv_goto (tgt := 2) hx hb dX6_lie_28 rfl ?_
        have hl := lv_sub hl (l' := [(0, .ref ko), (1, .int (nI (i + 1)))]) [1, 0] rfl
        have hP := hP.sub (ws' := [iA G (ad 0) 255 S, iA G (ad 4) 16 mk2_17, oC ko 6 [.ref (ad 0), .ref (ad 1), .int (nI w), .int (nI h), .int (nI la), .ref (ad 2), .int (mv 0), .int (mv 1), .int (mv 2), .int (mv 3), .int (mv 4), .int (mv 5), .int (mv 6), .ref (ad 3), .int (nI tp), .int (mv 7), .int (mv 8), .int (mv 9), .int (mv 10), .int ft, .int (mv 11), .ref (ad 4), .ref (ad 5), .ref (ad 6), .ref (ad 7), .ref (ad 8), .ref (ad 9), .ref (ad 10), .int tr]]) [1, 2, 0] rfl
        have hD := hD.sub (ws' := [iA G (ad 0) 255 S, iA G (ad 4) 16 mk2_17, oC ko 6 [.ref (ad 0), .ref (ad 1), .int (nI w), .int (nI h), .int (nI la), .ref (ad 2), .int (mv 0), .int (mv 1), .int (mv 2), .int (mv 3), .int (mv 4), .int (mv 5), .int (mv 6), .ref (ad 3), .int (nI tp), .int (mv 7), .int (mv 8), .int (mv 9), .int (mv 10), .int ft, .int (mv 11), .ref (ad 4), .ref (ad 5), .ref (ad 6), .ref (ad 7), .ref (ad 8), .ref (ad 9), .ref (ad 10), .int tr]]) [1, 2, 0] (by decide) rfl
        exact ih2 (ns - (i + 1)) (by omega) (i + 1) mk2_17 ls H locs rfl (by omega) (by rw [hf, show ns - i = (ns - (i + 1)) + 1 by omega, firstF, if_neg (by rw [decide_eq_false b20]; decide)]) hl hP hD hS
      · skip
        refine lv_iload_n hx hb dX6_lie_23 rfl (lv_at hl 1 rfl) ?_
        have hP := hP.sub (ws' := [oC ko 6 [.ref (ad 0), .ref (ad 1), .int (nI w), .int (nI h), .int (nI la), .ref (ad 2), .int (mv 0), .int (mv 1), .int (mv 2), .int (mv 3), .int (mv 4), .int (mv 5), .int (mv 6), .ref (ad 3), .int (nI tp), .int (mv 7), .int (mv 8), .int (mv 9), .int (mv 10), .int ft, .int (mv 11), .ref (ad 4), .ref (ad 5), .ref (ad 6), .ref (ad 7), .ref (ad 8), .ref (ad 9), .ref (ad 10), .int tr], iA G (ad 0) 255 S, iA G (ad 4) 16 mk2_17]) [0, 1, 2] rfl
        have hD := hD.sub (ws' := [oC ko 6 [.ref (ad 0), .ref (ad 1), .int (nI w), .int (nI h), .int (nI la), .ref (ad 2), .int (mv 0), .int (mv 1), .int (mv 2), .int (mv 3), .int (mv 4), .int (mv 5), .int (mv 6), .ref (ad 3), .int (nI tp), .int (mv 7), .int (mv 8), .int (mv 9), .int (mv 10), .int ft, .int (mv 11), .ref (ad 4), .ref (ad 5), .ref (ad 6), .ref (ad 7), .ref (ad 8), .ref (ad 9), .ref (ad 10), .int tr], iA G (ad 0) 255 S, iA G (ad 4) 16 mk2_17]) [0, 1, 2] (by decide) rfl
        refine W.iret (v := nI i) hx hb hr (fun t ht hW => ⟨⟨nI i, (mk2_17), rfl, ?_, by rw [ht]; exact hP, hD⟩, hS.F ht⟩) hS.2.2 dX6_lie_24
        first | (rw [hf, show ns - i = 0 by omega, firstF]) | (rw [hf, show ns - i = (ns - (i + 1)) + 1 by omega, firstF, if_pos (decide_eq_true b20)])
  have hl := lv_sub hl (l' := [(0, .ref ko), (1, .int (nI 0))]) [1, 0] rfl
  have hP := hP.sub (ws' := [iA G (ad 0) 255 S, iA G (ad 4) 16 mk, oC ko 6 [.ref (ad 0), .ref (ad 1), .int (nI w), .int (nI h), .int (nI la), .ref (ad 2), .int (mv 0), .int (mv 1), .int (mv 2), .int (mv 3), .int (mv 4), .int (mv 5), .int (mv 6), .ref (ad 3), .int (nI tp), .int (mv 7), .int (mv 8), .int (mv 9), .int (mv 10), .int ft, .int (mv 11), .ref (ad 4), .ref (ad 5), .ref (ad 6), .ref (ad 7), .ref (ad 8), .ref (ad 9), .ref (ad 10), .int tr]]) [1, 2, 0] rfl
  have hD := hD.sub (ws' := [iA G (ad 0) 255 S, iA G (ad 4) 16 mk, oC ko 6 [.ref (ad 0), .ref (ad 1), .int (nI w), .int (nI h), .int (nI la), .ref (ad 2), .int (mv 0), .int (mv 1), .int (mv 2), .int (mv 3), .int (mv 4), .int (mv 5), .int (mv 6), .ref (ad 3), .int (nI tp), .int (mv 7), .int (mv 8), .int (mv 9), .int (mv 10), .int ft, .int (mv 11), .ref (ad 4), .ref (ad 5), .ref (ad 6), .ref (ad 7), .ref (ad 8), .ref (ad 9), .ref (ad 10), .int tr]]) [1, 2, 0] (by decide) rfl
  exact hL2 (ns - 0) 0 mk ls ss.heap [] rfl (by omega) (by rfl) hl hP hD hS
end
section
/-! rows on bits, shifts and unsigned numbers, to paste: each family out of a closed proof of our own, whole with what it rests on; each by itself clean at Lean in its own claim (generation 39, form 5). Take a family whole -/
/-! ===== Int32 by its bits: bt x i ===== -/
def bt (x : Int32) (i : Nat) : Bool := x.toBitVec.getLsbD i
theorem b_ext {x y : Int32} (h : ∀ i, i < 32 → bt x i = bt y i) : x = y := Int32.toBitVec_inj.mp (BitVec.eq_of_getLsbD_eq (fun i hi => h i hi))
theorem b_or (x y : Int32) (i : Nat) : bt (x ||| y) i = (bt x i || bt y i) := by unfold bt; rw [Int32.toBitVec_or, BitVec.getLsbD_or]
theorem b_and (x y : Int32) (i : Nat) : bt (x &&& y) i = (bt x i && bt y i) := by unfold bt; rw [Int32.toBitVec_and, BitVec.getLsbD_and]
theorem b_xor (x y : Int32) (i : Nat) : bt (x ^^^ y) i = (bt x i ^^ bt y i) := by unfold bt; rw [Int32.toBitVec_xor, BitVec.getLsbD_xor]
theorem b_big {x : Int32} {i : Nat} (h : 32 ≤ i) : bt x i = false := BitVec.getLsbD_of_ge _ _ h
theorem b_255 (i : Nat) : bt 255 i = decide (i < 8) := by
  rcases Nat.lt_or_ge i 32 with h | h
  · exact (by decide +kernel : ∀ i, i < 32 → bt 255 i = decide (i < 8)) i h
  · rw [b_big h, decide_eq_false (by omega)]
theorem b_65535 (i : Nat) : bt 65535 i = decide (i < 16) := by
  rcases Nat.lt_or_ge i 32 with h | h
  · exact (by decide +kernel : ∀ i, i < 32 → bt 65535 i = decide (i < 16)) i h
  · rw [b_big h, decide_eq_false (by omega)]
theorem b_m1 : ∀ i, i < 32 → bt (-1) i = true := by decide +kernel
theorem b_0 (i : Nat) : bt 0 i = false := BitVec.getLsbD_zero
theorem s_l : ∀ n, n < 32 → ((nI n &&& 31).toBitVec.smod 32).toNat = n := by decide +kernel
theorem s_u : ∀ n, n < 32 → (((nI n).toUInt32 &&& Int32.toUInt32 31).toBitVec % 32).toNat = n := by decide +kernel
theorem b_shl (n : Nat) (hn : n < 32) (x : Int32) {i : Nat} (hi : i < 32) : bt (x <<< (nI n &&& 31)) i = (decide (n ≤ i) && bt x (i - n)) := by
  unfold bt
  rw [Int32.toBitVec_shiftLeft]
  show (x.toBitVec <<< ((nI n &&& 31).toBitVec.smod 32).toNat).getLsbD i = _
  rw [s_l n hn, BitVec.getLsbD_shiftLeft]
  rcases Nat.lt_or_ge i n with h | h
  · simp [h, Nat.not_le.mpr h]
  · simp [hi, h, Nat.not_lt.mpr h]
theorem b_ushr (n : Nat) (hn : n < 32) (x : Int32) (i : Nat) : bt ((x.toUInt32 >>> ((nI n).toUInt32 &&& Int32.toUInt32 31)).toInt32) i = bt x (n + i) := by
  show (x.toUInt32 >>> ((nI n).toUInt32 &&& Int32.toUInt32 31)).toBitVec.getLsbD i = x.toUInt32.toBitVec.getLsbD (n + i)
  rw [UInt32.toBitVec_shiftRight]
  show (x.toUInt32.toBitVec >>> (((nI n).toUInt32 &&& Int32.toUInt32 31).toBitVec % 32).toNat).getLsbD i = _
  rw [s_u n hn, BitVec.getLsbD_ushiftRight]
theorem b_sshr (n : Nat) (hn : n < 32) (x : Int32) {i : Nat} (hi : i < 32) : bt (x >>> (nI n &&& 31)) i = if n + i < 32 then bt x (n + i) else bt x 31 := by
  unfold bt
  rw [Int32.toBitVec_shiftRight]
  show (x.toBitVec.sshiftRight ((nI n &&& 31).toBitVec.smod 32).toNat).getLsbD i = _
  rw [s_l n hn, BitVec.getLsbD_sshiftRight, BitVec.msb_eq_getLsbD_last]
  simp [hi]
theorem b_shl8 (x : Int32) {i : Nat} (hi : i < 32) : bt (x <<< ((8 : Int32) &&& 31)) i = (decide (8 ≤ i) && bt x (i - 8)) := b_shl 8 (by omega) x hi
theorem b_shl16 (x : Int32) {i : Nat} (hi : i < 32) : bt (x <<< ((16 : Int32) &&& 31)) i = (decide (16 ≤ i) && bt x (i - 16)) := b_shl 16 (by omega) x hi
theorem b_shl24 (x : Int32) {i : Nat} (hi : i < 32) : bt (x <<< ((24 : Int32) &&& 31)) i = (decide (24 ≤ i) && bt x (i - 24)) := b_shl 24 (by omega) x hi
theorem b_sshr8 (x : Int32) {i : Nat} (hi : i < 32) : bt (x >>> ((8 : Int32) &&& 31)) i = if 8 + i < 32 then bt x (8 + i) else bt x 31 := b_sshr 8 (by omega) x hi
end
section
theorem bt_sshr1 {x : Int32} {k : Nat} (hk : k < 32) : (x >>> (nI k &&& 31)) &&& nI 1 = 0 ↔ bt x k = false := by
  constructor
  · intro h
    have h2 : bt ((x >>> (nI k &&& 31)) &&& nI 1) 0 = bt 0 0 := by rw [h]
    rw [b_and, b_sshr k hk x (by decide), b_0, if_pos (by omega), Nat.add_zero, show bt (nI 1) 0 = true from (by decide), Bool.and_true] at h2
    exact h2
  · intro h
    refine b_ext (fun i hi => ?_)
    rw [b_and, b_0, b_sshr k hk x hi]
    rcases Nat.eq_zero_or_pos i with q | q
    · subst q
      rw [if_pos (by omega), Nat.add_zero, h, Bool.false_and]
    · rw [show bt (nI 1) i = false from ((by decide +kernel : ∀ i, i < 32 → 0 < i → bt (nI 1) i = false) i hi q), Bool.and_false]
theorem bitB_bt {x : Int32} {k : Nat} (hk : k < 32) : bitB x k = bt x k := by
  cases h : bt x k with
  | false => simp only [bitB, decide_eq_true ((bt_sshr1 hk).mpr h)]; rfl
  | true => simp only [bitB, decide_eq_false (fun q => by rw [(bt_sshr1 hk).mp q] at h; cases h)]; rfl
theorem bt_xbit : ∀ c, c < 32 → ∀ k, k < 32 → bt (xbit c) k = decide (c = k) := by decide +kernel
theorem bt_xbits {p : Nat → Bool} : ∀ n, n ≤ 32 → ∀ k, k < 32 → bt (xbits p n) k = (decide (k < n) && p k)
  | 0, _, k, _ => by rw [xbits, show nI 0 = (0 : Int32) from rfl, b_0, decide_eq_false (Nat.not_lt_zero k), Bool.false_and]
  | n + 1, hn, k, hk => by
    have ih := bt_xbits (p := p) n (by omega) k hk
    rw [xbits]
    by_cases hp : p n = true
    · rw [if_pos hp, b_or, ih, bt_xbit n (by omega) k hk]
      rcases Nat.lt_trichotomy k n with q | q | q
      · rw [decide_eq_true q, decide_eq_true (show k < n + 1 by omega), decide_eq_false (show ¬ n = k by omega)]; simp
      · subst q; rw [decide_eq_true (show k < k + 1 by omega), hp]; simp
      · rw [decide_eq_false (show ¬ k < n by omega), decide_eq_false (show ¬ k < n + 1 by omega), decide_eq_false (show ¬ n = k by omega)]; simp
    · rw [if_neg hp, ih]
      by_cases q : k = n
      · subst q
        rw [show p k = false from Bool.eq_false_iff.mpr hp, Bool.and_false, Bool.and_false]
      · rw [show decide (k < n) = decide (k < n + 1) from decide_eq_decide.mpr (by omega)]
theorem bcM_cnt (x : Int32) : ∀ n, bcM x n = nI (cntF (fun k => bitB x k) n)
  | 0 => rfl
  | n + 1 => by rw [bcM, bcM_cnt x n]; exact cnt_and rfl
theorem cntF_pos {p : Nat → Bool} : ∀ {n i : Nat}, i < n → p i = true → 0 < cntF p n
  | 0, i, h, _ => absurd h (Nat.not_lt_zero i)
  | n + 1, i, h, hp => by
    rw [cntF]
    rcases Nat.lt_succ_iff_lt_or_eq.mp h with q | q
    · have := cntF_pos q hp
      split <;> omega
    · subst q
      rw [if_pos hp]; omega
theorem xbits_pos {p : Nat → Bool} {n : Nat} (hn : n ≤ 16) (h : ¬ xbits p n = 0) : 0 < cntF (fun k => bitB (xbits p n) k) 16 := by
  have : ∃ k, k < 16 ∧ bt (xbits p n) k = true := by
    by_cases q : ∃ k, k < 16 ∧ bt (xbits p n) k = true
    · exact q
    · exfalso
      apply h
      refine b_ext (fun i hi => ?_)
      rw [b_0]
      by_cases q2 : i < 16
      · exact Bool.eq_false_iff.mpr (fun q3 => q ⟨i, q2, q3⟩)
      · rw [bt_xbits n (by omega) i hi, decide_eq_false (by omega), Bool.false_and]
  obtain ⟨k, hk, hb⟩ := this
  exact cntF_pos hk (by rw [bitB_bt (by omega)]; exact hb)
theorem lN_ne0 {n : Nat} (h0 : 0 < n) (h : n < 2 ^ 63) : ¬ lN n = 0 := fun q => by
  have := (pk_lEQ h (by decide : 0 < 2 ^ 63)).mp (q.trans (show (0 : Int64) = lN 0 from rfl))
  omega
end
section
abbrev Q_X6_common (G : XG) (a b : Nat) : Array Value → State → Outcome → State → Prop := (xRl (fun r => r = lN (Nat.gcd a b)))
set_option maxHeartbeats 4000000 in
set_option maxRecDepth 100000 in
theorem c_X6_common (l : Launch) (G : XG) (a b : Nat) (ha : a < 1000000000000) (hb0 : b < 1000000000000) : Met l yX6_common wsX6_common ({ frames := 0, cells := 0, slots := 0, locals := 0 } : Room) (va_Pc [.long (lN a), .long (lN b)] (fun _ => True)) (Q_X6_common G a b) 0 0 (fun _ => False) := by
  refine Met.ofW (cc := cX6_common) (maxL := 10) (ret := (some .long)) (by decide) rfl ?_
  intro pp ee ss mm aa below mt cd s₁ BB hml hv
  obtain ⟨rfl, -⟩ := hv
  have hx := BB.exec
  have hb := BB.bytes
  have hr := BB.returns
  have hts := atoms_spec (ws := wsX6_common) BB.pre
  have hown : ss.vm.findClass RX6 = some mm.cls := findClass_of_methodNamed BB.named
  have hlocks := BB.notSynchronized
  have hS : va_S (fun _ => False) ss.heap ss.heap [] := va_S.rf
  have hP : xP (G) [] ss.heap := fun k q h => by cases h
  have hl := lv_entry ([.long (lN a), .long (lN b)]) (n := 10) (Nat.le_of_ble_eq_true rfl)
  rw [lg_entry_eq]
  generalize (lg_sl ([.long (lN a), .long (lN b)]) ++ List.replicate (10 - (lg_sl ([.long (lN a), .long (lN b)])).length) Slot.unset).toArray = ls at hl ⊢
  replace hl : lv_has ls 10 [(0, .long (lN a)), (2, .long (lN b))] := hl
  refine lv_lload_n hx hb dX6_common_0 rfl (lv_at hl 0 rfl) ?_
  refine lv_lstore (lv' := [(4, .long (lN a)), (0, .long (lN a)), (2, .long (lN b))]) hx hb dX6_common_1 hl (by decide) rfl (fun ls hl => ?_)
  refine lv_lload_n hx hb dX6_common_3 rfl (lv_at hl 2 rfl) ?_
  refine lv_lstore (lv' := [(6, .long (lN b)), (4, .long (lN a)), (0, .long (lN a)), (2, .long (lN b))]) hx hb dX6_common_4 hl (by decide) rfl (fun ls hl => ?_)
  have hL6 : ∀ k : Nat, ∀ (x : Nat) (y : Nat) (ls : Array Slot) (H : Heap) (locs : List Loc), y = k → (x < 1000000000000) → (y < 1000000000000) → (Nat.gcd a b = Nat.gcd x y) → lv_has ls 10 [(0, .long (lN a)), (2, .long (lN b)), (4, .long (lN x)), (6, .long (lN y))] → xP G [] H → va_S (fun _ => False) ss.heap H locs → W pp l ee ({ frames := 0, cells := 0, slots := 0, locals := 0 } : Room) ss mm ([.long (lN a), .long (lN b)] : List Value).toArray below mt cd H locs 0 0 (MQ below (Q_X6_common G a b) ([.long (lN a), .long (lN b)] : List Value).toArray ss 0 0 (fun _ => False)) (F0 mm 6 ls []) := by
    intro k
    induction k using Nat.strongRecOn with
    | _ k ih6 =>
    intro x y ls H locs hm6 hxl hyl hg hl hP hS
    refine lv_lload hx hb dX6_common_6 (lv_at hl 3 rfl) ?_
    refine lv_lconst (v := lN 0) hx hb dX6_common_8 (by decide) ?_
    refine W.lcmp hx hb dX6_common_9 ?_
    refine xl_if_eq (tgt := 31) hx hb dX6_common_10 rfl (fun b10 => ?_) (fun b10 => ?_)
    · skip
      refine lv_lload hx hb dX6_common_31 (lv_at hl 2 rfl) ?_
      refine W.lret (v := lN x) hx hb hr (fun t ht hW => ⟨⟨lN x, (), rfl, ?_, trivial⟩, hS.F ht⟩) hS.2.2 dX6_common_33
      have hy0 : y = 0 := (pk_lEQ (by omega) (by omega)).mp b10; rw [hg, hy0, Nat.gcd_zero_right]
    · skip
      have hy0 : 0 < y := (by rcases Nat.eq_zero_or_pos y with q | q; (subst q; exact absurd rfl b10); exact q)
      refine lv_lload hx hb dX6_common_13 (lv_at hl 2 rfl) ?_
      refine lv_lload hx hb dX6_common_15 (lv_at hl 3 rfl) ?_
      refine lv_lrem hx hb dX6_common_17 (lN_ne0 (by omega) (by omega)) ?_
      refine xl_top (pk_lRem (by omega) (by omega) (by omega)) ?_
      refine lv_lstore (lv' := [(8, .long (lN (x % y))), (0, .long (lN a)), (2, .long (lN b)), (4, .long (lN x)), (6, .long (lN y))]) hx hb dX6_common_18 hl (by decide) rfl (fun ls hl => ?_)
      refine lv_lload hx hb dX6_common_20 (lv_at hl 4 rfl) ?_
      refine lv_lstore (lv' := [(4, .long (lN y)), (8, .long (lN (x % y))), (0, .long (lN a)), (2, .long (lN b)), (6, .long (lN y))]) hx hb dX6_common_22 hl (by decide) rfl (fun ls hl => ?_)
      refine lv_lload hx hb dX6_common_24 (lv_at hl 1 rfl) ?_
      refine lv_lstore (lv' := [(6, .long (lN (x % y))), (4, .long (lN y)), (8, .long (lN (x % y))), (0, .long (lN a)), (2, .long (lN b))]) hx hb dX6_common_26 hl (by decide) rfl (fun ls hl => ?_)
      refine lv_goto (tgt := 6) hx hb dX6_common_28 rfl ?_
      have hl := lv_sub hl (l' := [(0, .long (lN a)), (2, .long (lN b)), (4, .long (lN y)), (6, .long (lN (x % y)))]) [3, 4, 1, 0] rfl
      exact ih6 (x % y) (by have := Nat.mod_lt x (show 0 < y by omega); omega) y (x % y) ls H locs rfl (by omega) (by have := Nat.mod_lt x (show 0 < y by omega); omega) (by rw [hg, Nat.gcd_comm x y, Nat.gcd_rec, Nat.gcd_comm]) hl hP hS
  have hl := lv_sub hl (l' := [(0, .long (lN a)), (2, .long (lN b)), (4, .long (lN a)), (6, .long (lN b))]) [2, 3, 1, 0] rfl
  exact hL6 b a b ls ss.heap [] rfl (by omega) (by omega) (by rfl) hl hP hS

abbrev Q_X6_told (G : XG) (o u : Nat) (a : Int32) : Array Value → State → Outcome → State → Prop := (xRl (fun r => r = (if a = 0 then lN (o / Nat.gcd u o) else lN (u / Nat.gcd u o))))
set_option maxHeartbeats 4000000 in
set_option maxRecDepth 100000 in
theorem c_X6_told (l : Launch) (G : XG) (o u : Nat) (a : Int32) (ho : o < 1000000000000) (hu : u < 1000000000000) (hu0 : 0 < u) : Met l yX6_told wsX6_told ({ frames := 1, cells := 0, slots := 0, locals := 29 } : Room) (va_Pc [.long (lN o), .long (lN u), .int a] (fun _ => True)) (Q_X6_told G o u a) 0 0 (fun _ => False) := by
  refine Met.ofW (cc := cX6_told) (maxL := 7) (ret := (some .long)) (by decide) rfl ?_
  intro pp ee ss mm aa below mt cd s₁ BB hml hv
  obtain ⟨rfl, -⟩ := hv
  have hx := BB.exec
  have hb := BB.bytes
  have hr := BB.returns
  have hts := atoms_spec (ws := wsX6_told) BB.pre
  have hown : ss.vm.findClass RX6 = some mm.cls := findClass_of_methodNamed BB.named
  have hlocks := BB.notSynchronized
  have hS : va_S (fun _ => False) ss.heap ss.heap [] := va_S.rf
  have hP : xP (G) [] ss.heap := fun k q h => by cases h
  have hl := lv_entry ([.long (lN o), .long (lN u), .int a]) (n := 7) (Nat.le_of_ble_eq_true rfl)
  rw [lg_entry_eq]
  generalize (lg_sl ([.long (lN o), .long (lN u), .int a]) ++ List.replicate (7 - (lg_sl ([.long (lN o), .long (lN u), .int a])).length) Slot.unset).toArray = ls at hl ⊢
  replace hl : lv_has ls 7 [(0, .long (lN o)), (2, .long (lN u)), (4, .int a)] := hl
  refine lv_lload_n hx hb dX6_told_0 rfl (lv_at hl 1 rfl) ?_
  refine lv_lload_n hx hb dX6_told_1 rfl (lv_at hl 0 rfl) ?_
  refine xs_l (As := [.long (lN u), .long (lN o)]) (rest := []) ⟨hx, hb, hml, hown, hts⟩ (c_X6_common l G u o (by first | assumption | omega) (by first | assumption | omega)) (va_cwS 2 hts gX6_told_X6_common rfl rfl rfl (by decide +kernel) ⟨Nat.le_of_ble_eq_true rfl, Nat.le_of_ble_eq_true rfl⟩) hP hS rfl hl.1 rfl (Nat.le_of_ble_eq_true rfl) dX6_told_2 ⟨Nat.zero_le _, Nat.zero_le _⟩ (fun r2 H locs hp2 hP hS => ?_)
  rw [show r2 = _ from hp2]
  have hg0 : 0 < Nat.gcd u o := Nat.gcd_pos_of_pos_left o hu0
  have hgl : Nat.gcd u o ≤ u := Nat.gcd_le_left o hu0
  refine lv_lstore (lv' := [(5, .long (lN (Nat.gcd u o))), (0, .long (lN o)), (2, .long (lN u)), (4, .int a)]) hx hb dX6_told_5 hl (by decide) rfl (fun ls hl => ?_)
  refine lv_iload hx hb dX6_told_7 (lv_at hl 3 rfl) ?_
  refine lv_if_ne (tgt := 19) hx hb dX6_told_9 rfl (fun b9 => ?_) (fun b9 => ?_)
  · skip
    refine lv_lload_n hx hb dX6_told_19 rfl (lv_at hl 2 rfl) ?_
    refine lv_lload hx hb dX6_told_20 (lv_at hl 0 rfl) ?_
    refine lv_ldiv hx hb dX6_told_22 (lN_ne0 (by omega) (by omega)) ?_
    refine xl_top (pk_lDiv (by omega) (by omega) (by omega)) ?_
    refine W.lret (v := lN (u / (Nat.gcd u o))) hx hb hr (fun t ht hW => ⟨⟨lN (u / (Nat.gcd u o)), (), rfl, ?_, trivial⟩, hS.F ht⟩) hS.2.2 dX6_told_23
    first | exact (if_pos b9).symm | exact (if_neg b9).symm
  · skip
    refine lv_lload_n hx hb dX6_told_12 rfl (lv_at hl 1 rfl) ?_
    refine lv_lload hx hb dX6_told_13 (lv_at hl 0 rfl) ?_
    refine lv_ldiv hx hb dX6_told_15 (lN_ne0 (by omega) (by omega)) ?_
    refine xl_top (pk_lDiv (by omega) (by omega) (by omega)) ?_
    refine lv_goto (tgt := 23) hx hb dX6_told_16 rfl ?_
    refine W.lret (v := lN (o / (Nat.gcd u o))) hx hb hr (fun t ht hW => ⟨⟨lN (o / (Nat.gcd u o)), (), rfl, ?_, trivial⟩, hS.F ht⟩) hS.2.2 dX6_told_23
    first | exact (if_pos b9).symm | exact (if_neg b9).symm

abbrev Q_X6_power (G : XG) (v n : Nat) : Array Value → State → Outcome → State → Prop := (xRl (fun r => r = lN (v ^ n)))
set_option maxHeartbeats 4000000 in
set_option maxRecDepth 100000 in
theorem c_X6_power (l : Launch) (G : XG) (v n : Nat) (hv : v ≤ 10) (hn : n ≤ 6) : Met l yX6_power wsX6_power ({ frames := 0, cells := 0, slots := 0, locals := 0 } : Room) (va_Pc [.int (nI v), .int (nI n)] (fun _ => True)) (Q_X6_power G v n) 0 0 (fun _ => False) := by
  refine Met.ofW (cc := cX6_power) (maxL := 5) (ret := (some .long)) (by decide) rfl ?_
  intro pp ee ss mm aa below mt cd s₁ BB hml hv
  obtain ⟨rfl, -⟩ := hv
  have hx := BB.exec
  have hb := BB.bytes
  have hr := BB.returns
  have hts := atoms_spec (ws := wsX6_power) BB.pre
  have hown : ss.vm.findClass RX6 = some mm.cls := findClass_of_methodNamed BB.named
  have hlocks := BB.notSynchronized
  have hS : va_S (fun _ => False) ss.heap ss.heap [] := va_S.rf
  have hP : xP (G) [] ss.heap := fun k q h => by cases h
  have hl := lv_entry ([.int (nI v), .int (nI n)]) (n := 5) (Nat.le_of_ble_eq_true rfl)
  rw [lg_entry_eq]
  generalize (lg_sl ([.int (nI v), .int (nI n)]) ++ List.replicate (5 - (lg_sl ([.int (nI v), .int (nI n)])).length) Slot.unset).toArray = ls at hl ⊢
  replace hl : lv_has ls 5 [(0, .int (nI v)), (1, .int (nI n))] := hl
  refine lv_lconst (v := lN 1) hx hb dX6_power_0 (by decide) ?_
  refine lv_lstore_n (lv' := [(2, .long (lN 1)), (0, .int (nI v)), (1, .int (nI n))]) hx hb dX6_power_1 rfl hl (by decide) rfl (fun ls hl => ?_)
  refine lv_iconst (v := nI 0) hx hb dX6_power_2 (by decide) ?_
  refine lv_istore (lv' := [(4, .int (nI 0)), (2, .long (lN 1)), (0, .int (nI v)), (1, .int (nI n))]) hx hb dX6_power_3 hl (by decide) rfl (fun ls hl => ?_)
  have hL5 : ∀ k : Nat, ∀ (k1 : Nat) (ls : Array Slot) (H : Heap) (locs : List Loc), n - k1 = k → (k1 ≤ n) → lv_has ls 5 [(0, .int (nI v)), (1, .int (nI n)), (2, .long (lN (v ^ k1))), (4, .int (nI k1))] → xP G [] H → va_S (fun _ => False) ss.heap H locs → W pp l ee ({ frames := 0, cells := 0, slots := 0, locals := 0 } : Room) ss mm ([.int (nI v), .int (nI n)] : List Value).toArray below mt cd H locs 0 0 (MQ below (Q_X6_power G v n) ([.int (nI v), .int (nI n)] : List Value).toArray ss 0 0 (fun _ => False)) (F0 mm 5 ls []) := by
    intro k
    induction k using Nat.strongRecOn with
    | _ k ih5 =>
    intro k1 ls H locs hm5 hk hl hP hS
    refine lv_iload hx hb dX6_power_5 (lv_at hl 3 rfl) ?_
    refine lv_iload_n hx hb dX6_power_7 rfl (lv_at hl 1 rfl) ?_
    refine xn_icmp_ge (tgt := 22) hx hb (by omega) (by omega) dX6_power_8 rfl (fun b8 => ?_) (fun b8 => ?_)
    · skip
      refine lv_lload_n hx hb dX6_power_22 rfl (lv_at hl 2 rfl) ?_
      refine W.lret (v := lN (v ^ k1)) hx hb hr (fun t ht hW => ⟨⟨lN (v ^ k1), (), rfl, ?_, trivial⟩, hS.F ht⟩) hS.2.2 dX6_power_23
      rw [show n = k1 by omega]
    · skip
      refine lv_lload_n hx hb dX6_power_11 rfl (lv_at hl 2 rfl) ?_
      refine lv_iload_n hx hb dX6_power_12 rfl (lv_at hl 0 rfl) ?_
      refine xn_i2l hx hb (by omega) dX6_power_13 ?_
      refine lv_lmul hx hb dX6_power_14 ?_
      refine xl_top (lN_mul _ _) ?_
      refine lv_lstore_n (lv' := [(2, .long (lN ((v ^ k1) * v))), (0, .int (nI v)), (1, .int (nI n)), (4, .int (nI k1))]) hx hb dX6_power_15 rfl hl (by decide) rfl (fun ls hl => ?_)
      rw [show v ^ k1 * v = v ^ (k1 + 1) from (Nat.pow_succ v k1).symm] at hl
      refine lv_iinc (k := 3) (v := nI (k1 + 1)) (lv' := [(4, .int (nI (k1 + 1))), (2, .long (lN (v ^ (k1 + 1)))), (0, .int (nI v)), (1, .int (nI n))]) hx hb dX6_power_16 hl rfl (xn_inc k1 1) (by decide) rfl (fun ls hl => ?_)
      refine lv_goto (tgt := 5) hx hb dX6_power_19 rfl ?_
      have hl := lv_sub hl (l' := [(0, .int (nI v)), (1, .int (nI n)), (2, .long (lN (v ^ (k1 + 1)))), (4, .int (nI (k1 + 1)))]) [2, 3, 1, 0] rfl
      exact ih5 (n - (k1 + 1)) (by omega) (k1 + 1) ls H locs rfl (by omega) hl hP hS
  have hl := lv_sub hl (l' := [(0, .int (nI v)), (1, .int (nI n)), (2, .long (lN 1)), (4, .int (nI 0))]) [2, 3, 1, 0] rfl
  exact hL5 (n - 0) 0 ls ss.heap [] rfl (by omega) hl hP hS

abbrev w_X6_showersOf (G : XG) (ko : Nat) (ad : Nat → Nat) (w h la tp : Nat) (ft tr : Int32) (mv : Nat → Int32) (S mk : Nat → Int32) : va_W := [oC ko 6 [.ref (ad 0), .ref (ad 1), .int (nI w), .int (nI h), .int (nI la), .ref (ad 2), .int (mv 0), .int (mv 1), .int (mv 2), .int (mv 3), .int (mv 4), .int (mv 5), .int (mv 6), .ref (ad 3), .int (nI tp), .int (mv 7), .int (mv 8), .int (mv 9), .int (mv 10), .int ft, .int (mv 11), .ref (ad 4), .ref (ad 5), .ref (ad 6), .ref (ad 7), .ref (ad 8), .ref (ad 9), .ref (ad 10), .int tr], iA G (ad 0) 255 S, iA G (ad 4) 16 mk]
abbrev Q_X6_showersOf (G : XG) (sz : Nat) (ko : Nat) (ad : Nat → Nat) (w h la tp : Nat) (ft tr : Int32) (mv : Nat → Int32) (S mk : Nat → Int32) (nc : Nat) (nl : Nat) (x c : Nat) : Array Value → State → Outcome → State → Prop := (va_Qi (fun (r : Int32) (u : (Nat → Int32)) => r = nI (cntF (fun l => bitB (shM w h S nc l x) c) nl)) (xWb G sz (w_X6_showersOf G ko ad w h la tp ft tr mv S mk) (fun u : (Nat → Int32) => [oC ko 6 [.ref (ad 0), .ref (ad 1), .int (nI w), .int (nI h), .int (nI la), .ref (ad 2), .int (mv 0), .int (mv 1), .int (mv 2), .int (mv 3), .int (mv 4), .int (mv 5), .int (mv 6), .ref (ad 3), .int (nI tp), .int (mv 7), .int (mv 8), .int (mv 9), .int (mv 10), .int ft, .int (mv 11), .ref (ad 4), .ref (ad 5), .ref (ad 6), .ref (ad 7), .ref (ad 8), .ref (ad 9), .ref (ad 10), .int tr], iA G (ad 0) 255 S, iA G (ad 4) 16 u])) (va_A (w_X6_showersOf G ko ad w h la tp ft tr mv S mk) sz))
set_option maxHeartbeats 4000000 in
set_option maxRecDepth 100000 in
theorem c_X6_showersOf (l : Launch) (G : XG) (sz : Nat) (ko : Nat) (ad : Nat → Nat) (w h la tp : Nat) (ft tr : Int32) (mv : Nat → Int32) (S mk : Nat → Int32) (nc : Nat) (nl : Nat) (x c : Nat) (hw : 1 ≤ w) (hwb : w ≤ 16) (hhb : h ≤ 16) (hwh1 : 1 ≤ w * h) (hwh : w * h ≤ 16) (hla : la ≤ 9) (hs16 : S 16 = nI nc) (hnc : nc ≤ 10) (hs47 : S 47 = nI nl) (hnl : nl ≤ 6) (hlens : ∀ i, i < nl → inR (S (48 + 2 * i)) (la + 1)) (hxx : x < w * h) (hcc : c < w * h) : Met l yX6_showersOf wsX6_showersOf ({ frames := 5, cells := 0, slots := 0, locals := 111 } : Room) (va_Pc [.ref ko, .int (nI x), .int (nI c)] (xWp G sz (w_X6_showersOf G ko ad w h la tp ft tr mv S mk))) (Q_X6_showersOf G sz ko ad w h la tp ft tr mv S mk nc nl x c) 0 0 (va_A (w_X6_showersOf G ko ad w h la tp ft tr mv S mk) sz) := by
  refine Met.ofW (cc := cX6_showersOf) (maxL := 5) (ret := (some .int)) (by decide) rfl ?_
  intro pp ee ss mm aa below mt cd s₁ BB hml hv
  obtain ⟨rfl, hsz, hP, hK, hD0⟩ := hv
  have hx := BB.exec
  have hb := BB.bytes
  have hr := BB.returns
  have hts := atoms_spec (ws := wsX6_showersOf) BB.pre
  have hown : ss.vm.findClass RX6 = some mm.cls := findClass_of_methodNamed BB.named
  have hlocks := BB.notSynchronized
  subst hsz
  have hD := hD0.self (sz := ss.heap.size)
  have hA : ∀ q : Nat, ss.heap.size ≤ q → va_A (w_X6_showersOf G ko ad w h la tp ft tr mv S mk) ss.heap.size q := fun q h => Or.inr h
  have hS : va_S (va_A (w_X6_showersOf G ko ad w h la tp ft tr mv S mk) ss.heap.size) ss.heap ss.heap [] := va_S.rf
  replace hD : va_D (va_A (w_X6_showersOf G ko ad w h la tp ft tr mv S mk) ss.heap.size) [oC ko 6 [.ref (ad 0), .ref (ad 1), .int (nI w), .int (nI h), .int (nI la), .ref (ad 2), .int (mv 0), .int (mv 1), .int (mv 2), .int (mv 3), .int (mv 4), .int (mv 5), .int (mv 6), .ref (ad 3), .int (nI tp), .int (mv 7), .int (mv 8), .int (mv 9), .int (mv 10), .int ft, .int (mv 11), .ref (ad 4), .ref (ad 5), .ref (ad 6), .ref (ad 7), .ref (ad 8), .ref (ad 9), .ref (ad 10), .int tr], iA G (ad 0) 255 S, iA G (ad 4) 16 mk] := hD
  replace hP : xP G [oC ko 6 [.ref (ad 0), .ref (ad 1), .int (nI w), .int (nI h), .int (nI la), .ref (ad 2), .int (mv 0), .int (mv 1), .int (mv 2), .int (mv 3), .int (mv 4), .int (mv 5), .int (mv 6), .ref (ad 3), .int (nI tp), .int (mv 7), .int (mv 8), .int (mv 9), .int (mv 10), .int ft, .int (mv 11), .ref (ad 4), .ref (ad 5), .ref (ad 6), .ref (ad 7), .ref (ad 8), .ref (ad 9), .ref (ad 10), .int tr], iA G (ad 0) 255 S, iA G (ad 4) 16 mk] ss.heap := hP
  have hin6 : ∀ w ∈ u_ws RX6 TX6 29, w ∈ wsX6_showersOf := fun w h => List.mem_cons_of_mem _ (List.mem_append_right _ h)
  have hl := lv_entry ([.ref ko, .int (nI x), .int (nI c)]) (n := 5) (Nat.le_of_ble_eq_true rfl)
  rw [lg_entry_eq]
  generalize (lg_sl ([.ref ko, .int (nI x), .int (nI c)]) ++ List.replicate (5 - (lg_sl ([.ref ko, .int (nI x), .int (nI c)])).length) Slot.unset).toArray = ls at hl ⊢
  replace hl : lv_has ls 5 [(0, .ref ko), (1, .int (nI x)), (2, .int (nI c))] := hl
  refine lv_iconst (v := nI 0) hx hb dX6_showersOf_0 (by decide) ?_
  refine lv_istore_n (lv' := [(3, .int (nI 0)), (0, .ref ko), (1, .int (nI x)), (2, .int (nI c))]) hx hb dX6_showersOf_1 rfl hl (by decide) rfl (fun ls hl => ?_)
  refine lv_iconst (v := nI 0) hx hb dX6_showersOf_2 (by decide) ?_
  refine lv_istore (lv' := [(4, .int (nI 0)), (3, .int (nI 0)), (0, .ref ko), (1, .int (nI x)), (2, .int (nI c))]) hx hb dX6_showersOf_3 hl (by decide) rfl (fun ls hl => ?_)
  have hL5 : ∀ k : Nat, ∀ (i : Nat) (n : Nat) (mk3 : Nat → Int32) (ls : Array Slot) (H : Heap) (locs : List Loc), nl - i = k → (i ≤ nl) → (n = cntF (fun l => bitB (shM w h S nc l x) c) i) → lv_has ls 5 [(0, .ref ko), (1, .int (nI x)), (2, .int (nI c)), (3, .int (nI n)), (4, .int (nI i))] → xP G [iA G (ad 0) 255 S, iA G (ad 4) 16 mk3, oC ko 6 [.ref (ad 0), .ref (ad 1), .int (nI w), .int (nI h), .int (nI la), .ref (ad 2), .int (mv 0), .int (mv 1), .int (mv 2), .int (mv 3), .int (mv 4), .int (mv 5), .int (mv 6), .ref (ad 3), .int (nI tp), .int (mv 7), .int (mv 8), .int (mv 9), .int (mv 10), .int ft, .int (mv 11), .ref (ad 4), .ref (ad 5), .ref (ad 6), .ref (ad 7), .ref (ad 8), .ref (ad 9), .ref (ad 10), .int tr]] H → va_D (va_A (w_X6_showersOf G ko ad w h la tp ft tr mv S mk) ss.heap.size) [iA G (ad 0) 255 S, iA G (ad 4) 16 mk3, oC ko 6 [.ref (ad 0), .ref (ad 1), .int (nI w), .int (nI h), .int (nI la), .ref (ad 2), .int (mv 0), .int (mv 1), .int (mv 2), .int (mv 3), .int (mv 4), .int (mv 5), .int (mv 6), .ref (ad 3), .int (nI tp), .int (mv 7), .int (mv 8), .int (mv 9), .int (mv 10), .int ft, .int (mv 11), .ref (ad 4), .ref (ad 5), .ref (ad 6), .ref (ad 7), .ref (ad 8), .ref (ad 9), .ref (ad 10), .int tr]] → va_S (va_A (w_X6_showersOf G ko ad w h la tp ft tr mv S mk) ss.heap.size) ss.heap H locs → W pp l ee ({ frames := 5, cells := 0, slots := 0, locals := 111 } : Room) ss mm ([.ref ko, .int (nI x), .int (nI c)] : List Value).toArray below mt cd H locs 0 0 (MQ below (Q_X6_showersOf G ss.heap.size ko ad w h la tp ft tr mv S mk nc nl x c) ([.ref ko, .int (nI x), .int (nI c)] : List Value).toArray ss 0 0 (va_A (w_X6_showersOf G ko ad w h la tp ft tr mv S mk) ss.heap.size)) (F0 mm 5 ls []) := by
    intro k
    induction k using Nat.strongRecOn with
    | _ k ih5 =>
    intro i n mk3 ls H locs hm5 hi hn hl hP hD hS
    refine lv_iload hx hb dX6_showersOf_5 (lv_at hl 4 rfl) ?_
    refine lv_aload_n hx hb dX6_showersOf_7 rfl (lv_at hl 0 rfl) ?_
    refine va_get (D := G.1) (ci := 6) (v := .ref (ad 0)) (C := RX6) (T := TX6) (N := 29) hx hb hts hin6 hown hK.1 hP 2 rfl rfl 0 (by decide) (hts (.fieldLink RX6 7 "BackLensesModel" "st" "[I") (List.mem_of_getElem? (i := 1) rfl)) (fun _ h9 => h9) rfl dX6_showersOf_8 ?_
    refine lv_bipush (v := nI 47) hx hb dX6_showersOf_11 (by decide) ?_
    refine xn_iald hx hb hK hP 0 rfl (by omega) (by omega) dX6_showersOf_13 ?_
    refine xn_top (y := nI nl) (by exact hs47) ?_
    refine xn_icmp_ge (tgt := 37) hx hb (by omega) (by omega) dX6_showersOf_14 rfl (fun b14 => ?_) (fun b14 => ?_)
    · skip
      refine lv_iload_n hx hb dX6_showersOf_37 rfl (lv_at hl 3 rfl) ?_
      have hP := hP.sub (ws' := [oC ko 6 [.ref (ad 0), .ref (ad 1), .int (nI w), .int (nI h), .int (nI la), .ref (ad 2), .int (mv 0), .int (mv 1), .int (mv 2), .int (mv 3), .int (mv 4), .int (mv 5), .int (mv 6), .ref (ad 3), .int (nI tp), .int (mv 7), .int (mv 8), .int (mv 9), .int (mv 10), .int ft, .int (mv 11), .ref (ad 4), .ref (ad 5), .ref (ad 6), .ref (ad 7), .ref (ad 8), .ref (ad 9), .ref (ad 10), .int tr], iA G (ad 0) 255 S, iA G (ad 4) 16 mk3]) [2, 0, 1] rfl
      have hD := hD.sub (ws' := [oC ko 6 [.ref (ad 0), .ref (ad 1), .int (nI w), .int (nI h), .int (nI la), .ref (ad 2), .int (mv 0), .int (mv 1), .int (mv 2), .int (mv 3), .int (mv 4), .int (mv 5), .int (mv 6), .ref (ad 3), .int (nI tp), .int (mv 7), .int (mv 8), .int (mv 9), .int (mv 10), .int ft, .int (mv 11), .ref (ad 4), .ref (ad 5), .ref (ad 6), .ref (ad 7), .ref (ad 8), .ref (ad 9), .ref (ad 10), .int tr], iA G (ad 0) 255 S, iA G (ad 4) 16 mk3]) [2, 0, 1] (by decide) rfl
      refine W.iret (v := nI n) hx hb hr (fun t ht hW => ⟨⟨nI n, (mk3), rfl, ?_, by rw [ht]; exact hP, hD⟩, hS.F ht⟩) hS.2.2 dX6_showersOf_38
      rw [hn, show i = nl by omega]
    · skip
      refine lv_iload_n hx hb dX6_showersOf_17 rfl (lv_at hl 3 rfl) ?_
      refine lv_aload_n hx hb dX6_showersOf_18 rfl (lv_at hl 0 rfl) ?_
      refine lv_iload hx hb dX6_showersOf_19 (lv_at hl 4 rfl) ?_
      refine lv_iload_n hx hb dX6_showersOf_21 rfl (lv_at hl 1 rfl) ?_
      refine xw_i (As := [.int (nI i), .int (nI x)]) (rest := [.int (nI n)]) (wr := []) ⟨hx, hb, hml, hown, hts⟩ (c_X6_shownBy l G H.size ko ad w h la tp ft tr mv S mk3 _ _ i x (by first | assumption | omega) (by first | assumption | omega) (by first | assumption | omega) (by first | assumption | omega) (by first | assumption | omega) (by first | assumption | omega) (by first | assumption | omega) (by first | assumption | omega) (by first | assumption | omega) (by first | assumption | omega) (by first | assumption | omega) (by first | assumption | omega) (by first | assumption | omega)) (cwV 2 hts gX6_showersOf_X6_shownBy rfl rfl rfl (by decide +kernel) ⟨Nat.le_of_ble_eq_true rfl, Nat.le_of_ble_eq_true rfl⟩) hK hP hD hS hA [2, 0, 1] [] rfl rfl (by decide) (by decide) (by decide) rfl rfl rfl hl.1 rfl (Nat.le_of_ble_eq_true rfl) dX6_showersOf_22 ⟨Nat.le_of_ble_eq_true rfl, Nat.le_of_ble_eq_true rfl⟩ (fun r22 u H locs hp22 hP hD hS => ?_)
      obtain ⟨mk2_22, rfl⟩ : ∃ z, z = u := ⟨_, rfl⟩
      try dsimp only at hp22 hP hD
      obtain rfl := hp22
      replace hP : xP G [oC ko 6 [.ref (ad 0), .ref (ad 1), .int (nI w), .int (nI h), .int (nI la), .ref (ad 2), .int (mv 0), .int (mv 1), .int (mv 2), .int (mv 3), .int (mv 4), .int (mv 5), .int (mv 6), .ref (ad 3), .int (nI tp), .int (mv 7), .int (mv 8), .int (mv 9), .int (mv 10), .int ft, .int (mv 11), .ref (ad 4), .ref (ad 5), .ref (ad 6), .ref (ad 7), .ref (ad 8), .ref (ad 9), .ref (ad 10), .int tr], iA G (ad 0) 255 S, iA G (ad 4) 16 mk2_22] H := hP
      replace hD : va_D (va_A (w_X6_showersOf G ko ad w h la tp ft tr mv S mk) ss.heap.size) [oC ko 6 [.ref (ad 0), .ref (ad 1), .int (nI w), .int (nI h), .int (nI la), .ref (ad 2), .int (mv 0), .int (mv 1), .int (mv 2), .int (mv 3), .int (mv 4), .int (mv 5), .int (mv 6), .ref (ad 3), .int (nI tp), .int (mv 7), .int (mv 8), .int (mv 9), .int (mv 10), .int ft, .int (mv 11), .ref (ad 4), .ref (ad 5), .ref (ad 6), .ref (ad 7), .ref (ad 8), .ref (ad 9), .ref (ad 10), .int tr], iA G (ad 0) 255 S, iA G (ad 4) 16 mk2_22] := hD
      refine lv_iload_n hx hb dX6_showersOf_25 rfl (lv_at hl 2 rfl) ?_
      refine lv_ishr hx hb dX6_showersOf_26 ?_
      refine lv_iconst (v := nI 1) hx hb dX6_showersOf_27 (by decide) ?_
      refine lv_iand hx hb dX6_showersOf_28 ?_
      refine lv_iadd hx hb dX6_showersOf_29 ?_
      refine xn_top (y := nI (cntF (fun l => bitB (shM w h S nc l x) c) (i + 1))) (by rw [hn]; exact cnt_and rfl) ?_
      refine lv_istore_n (lv' := [(3, .int (nI (cntF (fun l => bitB (shM w h S nc l x) c) (i + 1)))), (0, .ref ko), (1, .int (nI x)), (2, .int (nI c)), (4, .int (nI i))]) hx hb dX6_showersOf_30 rfl hl (by decide) rfl (fun ls hl => ?_)
      refine lv_iinc (k := 4) (v := nI (i + 1)) (lv' := [(4, .int (nI (i + 1))), (3, .int (nI (cntF (fun l => bitB (shM w h S nc l x) c) (i + 1)))), (0, .ref ko), (1, .int (nI x)), (2, .int (nI c))]) hx hb dX6_showersOf_31 hl rfl (xn_inc i 1) (by decide) rfl (fun ls hl => ?_)
      refine lv_goto (tgt := 5) hx hb dX6_showersOf_34 rfl ?_
      have hl := lv_sub hl (l' := [(0, .ref ko), (1, .int (nI x)), (2, .int (nI c)), (3, .int (nI (cntF (fun l => bitB (shM w h S nc l x) c) (i + 1)))), (4, .int (nI (i + 1)))]) [2, 3, 4, 1, 0] rfl
      have hP := hP.sub (ws' := [iA G (ad 0) 255 S, iA G (ad 4) 16 mk2_22, oC ko 6 [.ref (ad 0), .ref (ad 1), .int (nI w), .int (nI h), .int (nI la), .ref (ad 2), .int (mv 0), .int (mv 1), .int (mv 2), .int (mv 3), .int (mv 4), .int (mv 5), .int (mv 6), .ref (ad 3), .int (nI tp), .int (mv 7), .int (mv 8), .int (mv 9), .int (mv 10), .int ft, .int (mv 11), .ref (ad 4), .ref (ad 5), .ref (ad 6), .ref (ad 7), .ref (ad 8), .ref (ad 9), .ref (ad 10), .int tr]]) [1, 2, 0] rfl
      have hD := hD.sub (ws' := [iA G (ad 0) 255 S, iA G (ad 4) 16 mk2_22, oC ko 6 [.ref (ad 0), .ref (ad 1), .int (nI w), .int (nI h), .int (nI la), .ref (ad 2), .int (mv 0), .int (mv 1), .int (mv 2), .int (mv 3), .int (mv 4), .int (mv 5), .int (mv 6), .ref (ad 3), .int (nI tp), .int (mv 7), .int (mv 8), .int (mv 9), .int (mv 10), .int ft, .int (mv 11), .ref (ad 4), .ref (ad 5), .ref (ad 6), .ref (ad 7), .ref (ad 8), .ref (ad 9), .ref (ad 10), .int tr]]) [1, 2, 0] (by decide) rfl
      exact ih5 (nl - (i + 1)) (by omega) (i + 1) (cntF (fun l => bitB (shM w h S nc l x) c) (i + 1)) mk2_22 ls H locs rfl (by omega) (by rfl) hl hP hD hS
  have hl := lv_sub hl (l' := [(0, .ref ko), (1, .int (nI x)), (2, .int (nI c)), (3, .int (nI 0)), (4, .int (nI 0))]) [2, 3, 4, 1, 0] rfl
  have hP := hP.sub (ws' := [iA G (ad 0) 255 S, iA G (ad 4) 16 mk, oC ko 6 [.ref (ad 0), .ref (ad 1), .int (nI w), .int (nI h), .int (nI la), .ref (ad 2), .int (mv 0), .int (mv 1), .int (mv 2), .int (mv 3), .int (mv 4), .int (mv 5), .int (mv 6), .ref (ad 3), .int (nI tp), .int (mv 7), .int (mv 8), .int (mv 9), .int (mv 10), .int ft, .int (mv 11), .ref (ad 4), .ref (ad 5), .ref (ad 6), .ref (ad 7), .ref (ad 8), .ref (ad 9), .ref (ad 10), .int tr]]) [1, 2, 0] rfl
  have hD := hD.sub (ws' := [iA G (ad 0) 255 S, iA G (ad 4) 16 mk, oC ko 6 [.ref (ad 0), .ref (ad 1), .int (nI w), .int (nI h), .int (nI la), .ref (ad 2), .int (mv 0), .int (mv 1), .int (mv 2), .int (mv 3), .int (mv 4), .int (mv 5), .int (mv 6), .ref (ad 3), .int (nI tp), .int (mv 7), .int (mv 8), .int (mv 9), .int (mv 10), .int ft, .int (mv 11), .ref (ad 4), .ref (ad 5), .ref (ad 6), .ref (ad 7), .ref (ad 8), .ref (ad 9), .ref (ad 10), .int tr]]) [1, 2, 0] (by decide) rfl
  exact hL5 (nl - 0) 0 0 mk ls ss.heap [] rfl (by omega) (by rfl) hl hP hD hS

abbrev w_X6_luck (G : XG) (ko : Nat) (ad : Nat → Nat) (w h la tp : Nat) (ft tr : Int32) (mv : Nat → Int32) (S mk : Nat → Int32) : va_W := [oC ko 6 [.ref (ad 0), .ref (ad 1), .int (nI w), .int (nI h), .int (nI la), .ref (ad 2), .int (mv 0), .int (mv 1), .int (mv 2), .int (mv 3), .int (mv 4), .int (mv 5), .int (mv 6), .ref (ad 3), .int (nI tp), .int (mv 7), .int (mv 8), .int (mv 9), .int (mv 10), .int ft, .int (mv 11), .ref (ad 4), .ref (ad 5), .ref (ad 6), .ref (ad 7), .ref (ad 8), .ref (ad 9), .ref (ad 10), .int tr], iA G (ad 0) 255 S, iA G (ad 4) 16 mk]
abbrev Q_X6_luck (G : XG) (sz : Nat) (ko : Nat) (ad : Nat → Nat) (w h la tp : Nat) (ft tr : Int32) (mv : Nat → Int32) (S mk : Nat → Int32) (nc : Nat) (nl : Nat) (v x c a : Int32) : Array Value → State → Outcome → State → Prop := (va_Ql (fun (r : Int64) (u : (Nat → Int32)) => r = (if inR v 11 ∧ inR x (w * h) ∧ inR c (w * h) ∧ inR a 2 then (if a = 0 then lN (((10 ^ (cntF (fun l => bitB (shM w h S nc l (tn x)) (tn c)) nl) - tn v ^ (cntF (fun l => bitB (shM w h S nc l (tn x)) (tn c)) nl))) / Nat.gcd (10 ^ (cntF (fun l => bitB (shM w h S nc l (tn x)) (tn c)) nl)) ((10 ^ (cntF (fun l => bitB (shM w h S nc l (tn x)) (tn c)) nl) - tn v ^ (cntF (fun l => bitB (shM w h S nc l (tn x)) (tn c)) nl)))) else lN ((10 ^ (cntF (fun l => bitB (shM w h S nc l (tn x)) (tn c)) nl)) / Nat.gcd (10 ^ (cntF (fun l => bitB (shM w h S nc l (tn x)) (tn c)) nl)) ((10 ^ (cntF (fun l => bitB (shM w h S nc l (tn x)) (tn c)) nl) - tn v ^ (cntF (fun l => bitB (shM w h S nc l (tn x)) (tn c)) nl))))) else (-1))) (xWb G sz (w_X6_luck G ko ad w h la tp ft tr mv S mk) (fun u : (Nat → Int32) => [oC ko 6 [.ref (ad 0), .ref (ad 1), .int (nI w), .int (nI h), .int (nI la), .ref (ad 2), .int (mv 0), .int (mv 1), .int (mv 2), .int (mv 3), .int (mv 4), .int (mv 5), .int (mv 6), .ref (ad 3), .int (nI tp), .int (mv 7), .int (mv 8), .int (mv 9), .int (mv 10), .int ft, .int (mv 11), .ref (ad 4), .ref (ad 5), .ref (ad 6), .ref (ad 7), .ref (ad 8), .ref (ad 9), .ref (ad 10), .int tr], iA G (ad 0) 255 S, iA G (ad 4) 16 u])) (va_A (w_X6_luck G ko ad w h la tp ft tr mv S mk) sz))
set_option maxHeartbeats 4000000 in
set_option maxRecDepth 100000 in
theorem c_X6_luck (l : Launch) (G : XG) (sz : Nat) (ko : Nat) (ad : Nat → Nat) (w h la tp : Nat) (ft tr : Int32) (mv : Nat → Int32) (S mk : Nat → Int32) (nc : Nat) (nl : Nat) (v x c a : Int32) (hw : 1 ≤ w) (hwb : w ≤ 16) (hhb : h ≤ 16) (hwh1 : 1 ≤ w * h) (hwh : w * h ≤ 16) (hla : la ≤ 9) (hs16 : S 16 = nI nc) (hnc : nc ≤ 10) (hs47 : S 47 = nI nl) (hnl : nl ≤ 6) (hlens : ∀ i, i < nl → inR (S (48 + 2 * i)) (la + 1)) : Met l yX6_luck wsX6_luck ({ frames := 6, cells := 0, slots := 0, locals := 135 } : Room) (va_Pc [.ref ko, .int v, .int x, .int c, .int a] (xWp G sz (w_X6_luck G ko ad w h la tp ft tr mv S mk))) (Q_X6_luck G sz ko ad w h la tp ft tr mv S mk nc nl v x c a) 0 0 (va_A (w_X6_luck G ko ad w h la tp ft tr mv S mk) sz) := by
  refine Met.ofW (cc := cX6_luck) (maxL := 6) (ret := (some .long)) (by decide) rfl ?_
  intro pp ee ss mm aa below mt cd s₁ BB hml hv
  obtain ⟨rfl, hsz, hP, hK, hD0⟩ := hv
  have hx := BB.exec
  have hb := BB.bytes
  have hr := BB.returns
  have hts := atoms_spec (ws := wsX6_luck) BB.pre
  have hown : ss.vm.findClass RX6 = some mm.cls := findClass_of_methodNamed BB.named
  have hlocks := BB.notSynchronized
  subst hsz
  have hD := hD0.self (sz := ss.heap.size)
  have hA : ∀ q : Nat, ss.heap.size ≤ q → va_A (w_X6_luck G ko ad w h la tp ft tr mv S mk) ss.heap.size q := fun q h => Or.inr h
  have hS : va_S (va_A (w_X6_luck G ko ad w h la tp ft tr mv S mk) ss.heap.size) ss.heap ss.heap [] := va_S.rf
  replace hD : va_D (va_A (w_X6_luck G ko ad w h la tp ft tr mv S mk) ss.heap.size) [oC ko 6 [.ref (ad 0), .ref (ad 1), .int (nI w), .int (nI h), .int (nI la), .ref (ad 2), .int (mv 0), .int (mv 1), .int (mv 2), .int (mv 3), .int (mv 4), .int (mv 5), .int (mv 6), .ref (ad 3), .int (nI tp), .int (mv 7), .int (mv 8), .int (mv 9), .int (mv 10), .int ft, .int (mv 11), .ref (ad 4), .ref (ad 5), .ref (ad 6), .ref (ad 7), .ref (ad 8), .ref (ad 9), .ref (ad 10), .int tr], iA G (ad 0) 255 S, iA G (ad 4) 16 mk] := hD
  replace hP : xP G [oC ko 6 [.ref (ad 0), .ref (ad 1), .int (nI w), .int (nI h), .int (nI la), .ref (ad 2), .int (mv 0), .int (mv 1), .int (mv 2), .int (mv 3), .int (mv 4), .int (mv 5), .int (mv 6), .ref (ad 3), .int (nI tp), .int (mv 7), .int (mv 8), .int (mv 9), .int (mv 10), .int ft, .int (mv 11), .ref (ad 4), .ref (ad 5), .ref (ad 6), .ref (ad 7), .ref (ad 8), .ref (ad 9), .ref (ad 10), .int tr], iA G (ad 0) 255 S, iA G (ad 4) 16 mk] ss.heap := hP
  have hin6 : ∀ w ∈ u_ws RX6 TX6 29, w ∈ wsX6_luck := fun w h => List.mem_cons_of_mem _ (List.mem_append_right _ h)
  have hl := lv_entry ([.ref ko, .int v, .int x, .int c, .int a]) (n := 6) (Nat.le_of_ble_eq_true rfl)
  rw [lg_entry_eq]
  generalize (lg_sl ([.ref ko, .int v, .int x, .int c, .int a]) ++ List.replicate (6 - (lg_sl ([.ref ko, .int v, .int x, .int c, .int a])).length) Slot.unset).toArray = ls at hl ⊢
  replace hl : lv_has ls 6 [(0, .ref ko), (1, .int v), (2, .int x), (3, .int c), (4, .int a)] := hl
  refine lv_iload_n hx hb dX6_luck_0 rfl (lv_at hl 1 rfl) ?_
  refine xi_i2l hx hb dX6_luck_1 ?_
  refine lv_lconst (v := lN 0) hx hb dX6_luck_2 (by decide) ?_
  refine lv_ldc2 (v := lN 10) hx hb hown (hts (.constantLong RX6 247 (lN 10)) (List.mem_of_getElem? (i := 1) rfl)) dX6_luck_3 ?_
  refine xs_i (As := [.long v.toInt64, .long (lN 0), .long (lN 10)]) (rest := []) ⟨hx, hb, hml, hown, hts⟩ (c_X6_in_r l G v 10 (by first | assumption | omega)) (va_cwS 3 hts gX6_luck_X6_in rfl rfl rfl (by decide +kernel) ⟨Nat.le_of_ble_eq_true rfl, Nat.le_of_ble_eq_true rfl⟩) hP hS rfl hl.1 rfl (Nat.le_of_ble_eq_true rfl) dX6_luck_6 ⟨Nat.zero_le _, Nat.zero_le _⟩ (fun r6 H locs hp6 hP hS => ?_)
  rw [show r6 = _ from hp6]
  refine xb_if_eq (tgt := 36) hx hb dX6_luck_9 rfl (fun b9 => ?_) (fun b9 => ?_)
  · skip
    refine lv_ldc2 (v := (-1)) hx hb hown (hts (.constantLong RX6 229 ((-1))) (List.mem_of_getElem? (i := 2) rfl)) dX6_luck_36 ?_
    have hP := hP.sub (ws' := [oC ko 6 [.ref (ad 0), .ref (ad 1), .int (nI w), .int (nI h), .int (nI la), .ref (ad 2), .int (mv 0), .int (mv 1), .int (mv 2), .int (mv 3), .int (mv 4), .int (mv 5), .int (mv 6), .ref (ad 3), .int (nI tp), .int (mv 7), .int (mv 8), .int (mv 9), .int (mv 10), .int ft, .int (mv 11), .ref (ad 4), .ref (ad 5), .ref (ad 6), .ref (ad 7), .ref (ad 8), .ref (ad 9), .ref (ad 10), .int tr], iA G (ad 0) 255 S, iA G (ad 4) 16 mk]) [0, 1, 2] rfl
    have hD := hD.sub (ws' := [oC ko 6 [.ref (ad 0), .ref (ad 1), .int (nI w), .int (nI h), .int (nI la), .ref (ad 2), .int (mv 0), .int (mv 1), .int (mv 2), .int (mv 3), .int (mv 4), .int (mv 5), .int (mv 6), .ref (ad 3), .int (nI tp), .int (mv 7), .int (mv 8), .int (mv 9), .int (mv 10), .int ft, .int (mv 11), .ref (ad 4), .ref (ad 5), .ref (ad 6), .ref (ad 7), .ref (ad 8), .ref (ad 9), .ref (ad 10), .int tr], iA G (ad 0) 255 S, iA G (ad 4) 16 mk]) [0, 1, 2] (by decide) rfl
    refine W.lret (v := (-1)) hx hb hr (fun t ht hW => ⟨⟨(-1), (mk), rfl, ?_, by rw [ht]; exact hP, hD⟩, hS.F ht⟩) hS.2.2 dX6_luck_39
    first | exact (if_neg (fun q => b9 q.1)).symm | exact (if_neg (fun q => b17 q.2.1)).symm | exact (if_neg (fun q => b25 q.2.2.1)).symm | exact (if_neg (fun q => b33 q.2.2.2)).symm | (rw [if_pos ⟨inR_nI hv0 (by omega), inR_nI hx0 (by omega), inR_nI hc0 (by omega), b33⟩, tn_nI (by omega), tn_nI (by omega), tn_nI (by omega)])
  · skip
    refine lv_aload_n hx hb dX6_luck_12 rfl (lv_at hl 0 rfl) ?_
    refine lv_iload_n hx hb dX6_luck_13 rfl (lv_at hl 2 rfl) ?_
    refine xr_i (As := [.int x]) (rest := []) ⟨hx, hb, hml, hown, hts⟩ (c_X6_isCell l G ko ad w h la tp ft tr mv x (by first | assumption | omega) (by first | assumption | omega)) (cwV 1 hts gX6_luck_X6_isCell rfl rfl rfl (by decide +kernel) ⟨Nat.le_of_ble_eq_true rfl, Nat.le_of_ble_eq_true rfl⟩) hK hP hS [0] rfl rfl rfl rfl hl.1 rfl (Nat.le_of_ble_eq_true rfl) dX6_luck_14 ⟨Nat.zero_le _, Nat.zero_le _⟩ (fun r14 H locs hp14 hP hS => ?_)
    rw [show r14 = _ from hp14]
    refine xb_if_eq (tgt := 36) hx hb dX6_luck_17 rfl (fun b17 => ?_) (fun b17 => ?_)
    · skip
      refine lv_ldc2 (v := (-1)) hx hb hown (hts (.constantLong RX6 229 ((-1))) (List.mem_of_getElem? (i := 2) rfl)) dX6_luck_36 ?_
      have hP := hP.sub (ws' := [oC ko 6 [.ref (ad 0), .ref (ad 1), .int (nI w), .int (nI h), .int (nI la), .ref (ad 2), .int (mv 0), .int (mv 1), .int (mv 2), .int (mv 3), .int (mv 4), .int (mv 5), .int (mv 6), .ref (ad 3), .int (nI tp), .int (mv 7), .int (mv 8), .int (mv 9), .int (mv 10), .int ft, .int (mv 11), .ref (ad 4), .ref (ad 5), .ref (ad 6), .ref (ad 7), .ref (ad 8), .ref (ad 9), .ref (ad 10), .int tr], iA G (ad 0) 255 S, iA G (ad 4) 16 mk]) [0, 1, 2] rfl
      have hD := hD.sub (ws' := [oC ko 6 [.ref (ad 0), .ref (ad 1), .int (nI w), .int (nI h), .int (nI la), .ref (ad 2), .int (mv 0), .int (mv 1), .int (mv 2), .int (mv 3), .int (mv 4), .int (mv 5), .int (mv 6), .ref (ad 3), .int (nI tp), .int (mv 7), .int (mv 8), .int (mv 9), .int (mv 10), .int ft, .int (mv 11), .ref (ad 4), .ref (ad 5), .ref (ad 6), .ref (ad 7), .ref (ad 8), .ref (ad 9), .ref (ad 10), .int tr], iA G (ad 0) 255 S, iA G (ad 4) 16 mk]) [0, 1, 2] (by decide) rfl
      refine W.lret (v := (-1)) hx hb hr (fun t ht hW => ⟨⟨(-1), (mk), rfl, ?_, by rw [ht]; exact hP, hD⟩, hS.F ht⟩) hS.2.2 dX6_luck_39
      first | exact (if_neg (fun q => b9 q.1)).symm | exact (if_neg (fun q => b17 q.2.1)).symm | exact (if_neg (fun q => b25 q.2.2.1)).symm | exact (if_neg (fun q => b33 q.2.2.2)).symm | (rw [if_pos ⟨inR_nI hv0 (by omega), inR_nI hx0 (by omega), inR_nI hc0 (by omega), b33⟩, tn_nI (by omega), tn_nI (by omega), tn_nI (by omega)])
    · skip
      refine lv_aload_n hx hb dX6_luck_20 rfl (lv_at hl 0 rfl) ?_
      refine lv_iload_n hx hb dX6_luck_21 rfl (lv_at hl 3 rfl) ?_
      refine xr_i (As := [.int c]) (rest := []) ⟨hx, hb, hml, hown, hts⟩ (c_X6_isCell l G ko ad w h la tp ft tr mv c (by first | assumption | omega) (by first | assumption | omega)) (cwV 1 hts gX6_luck_X6_isCell rfl rfl rfl (by decide +kernel) ⟨Nat.le_of_ble_eq_true rfl, Nat.le_of_ble_eq_true rfl⟩) hK hP hS [0] rfl rfl rfl rfl hl.1 rfl (Nat.le_of_ble_eq_true rfl) dX6_luck_22 ⟨Nat.zero_le _, Nat.zero_le _⟩ (fun r22 H locs hp22 hP hS => ?_)
      rw [show r22 = _ from hp22]
      refine xb_if_eq (tgt := 36) hx hb dX6_luck_25 rfl (fun b25 => ?_) (fun b25 => ?_)
      · skip
        refine lv_ldc2 (v := (-1)) hx hb hown (hts (.constantLong RX6 229 ((-1))) (List.mem_of_getElem? (i := 2) rfl)) dX6_luck_36 ?_
        have hP := hP.sub (ws' := [oC ko 6 [.ref (ad 0), .ref (ad 1), .int (nI w), .int (nI h), .int (nI la), .ref (ad 2), .int (mv 0), .int (mv 1), .int (mv 2), .int (mv 3), .int (mv 4), .int (mv 5), .int (mv 6), .ref (ad 3), .int (nI tp), .int (mv 7), .int (mv 8), .int (mv 9), .int (mv 10), .int ft, .int (mv 11), .ref (ad 4), .ref (ad 5), .ref (ad 6), .ref (ad 7), .ref (ad 8), .ref (ad 9), .ref (ad 10), .int tr], iA G (ad 0) 255 S, iA G (ad 4) 16 mk]) [0, 1, 2] rfl
        have hD := hD.sub (ws' := [oC ko 6 [.ref (ad 0), .ref (ad 1), .int (nI w), .int (nI h), .int (nI la), .ref (ad 2), .int (mv 0), .int (mv 1), .int (mv 2), .int (mv 3), .int (mv 4), .int (mv 5), .int (mv 6), .ref (ad 3), .int (nI tp), .int (mv 7), .int (mv 8), .int (mv 9), .int (mv 10), .int ft, .int (mv 11), .ref (ad 4), .ref (ad 5), .ref (ad 6), .ref (ad 7), .ref (ad 8), .ref (ad 9), .ref (ad 10), .int tr], iA G (ad 0) 255 S, iA G (ad 4) 16 mk]) [0, 1, 2] (by decide) rfl
        refine W.lret (v := (-1)) hx hb hr (fun t ht hW => ⟨⟨(-1), (mk), rfl, ?_, by rw [ht]; exact hP, hD⟩, hS.F ht⟩) hS.2.2 dX6_luck_39
        first | exact (if_neg (fun q => b9 q.1)).symm | exact (if_neg (fun q => b17 q.2.1)).symm | exact (if_neg (fun q => b25 q.2.2.1)).symm | exact (if_neg (fun q => b33 q.2.2.2)).symm | (rw [if_pos ⟨inR_nI hv0 (by omega), inR_nI hx0 (by omega), inR_nI hc0 (by omega), b33⟩, tn_nI (by omega), tn_nI (by omega), tn_nI (by omega)])
      · skip
        refine lv_iload hx hb dX6_luck_28 (lv_at hl 4 rfl) ?_
        refine xs_i (As := [.int a]) (rest := []) ⟨hx, hb, hml, hown, hts⟩ (c_X6_isPart l G a ) (va_cwS 1 hts gX6_luck_X6_isPart rfl rfl rfl (by decide +kernel) ⟨Nat.le_of_ble_eq_true rfl, Nat.le_of_ble_eq_true rfl⟩) hP hS rfl hl.1 rfl (Nat.le_of_ble_eq_true rfl) dX6_luck_30 ⟨Nat.zero_le _, Nat.zero_le _⟩ (fun r30 H locs hp30 hP hS => ?_)
        rw [show r30 = _ from hp30]
        refine xb_if_ne (tgt := 40) hx hb dX6_luck_33 rfl (fun b33 => ?_) (fun b33 => ?_)
        · skip
          obtain ⟨v0, hv0, rfl⟩ := inR_nat b9
          obtain ⟨x0, hx0, rfl⟩ := inR_nat b17
          obtain ⟨c0, hc0, rfl⟩ := inR_nat b25
          refine lv_aload_n hx hb dX6_luck_40 rfl (lv_at hl 0 rfl) ?_
          refine lv_iload_n hx hb dX6_luck_41 rfl (lv_at hl 2 rfl) ?_
          refine lv_iload_n hx hb dX6_luck_42 rfl (lv_at hl 3 rfl) ?_
          refine xw_i (As := [.int (nI x0), .int (nI c0)]) (rest := []) (wr := []) ⟨hx, hb, hml, hown, hts⟩ (c_X6_showersOf l G H.size ko ad w h la tp ft tr mv S mk _ _ x0 c0 (by first | assumption | omega) (by first | assumption | omega) (by first | assumption | omega) (by first | assumption | omega) (by first | assumption | omega) (by first | assumption | omega) (by first | assumption | omega) (by first | assumption | omega) (by first | assumption | omega) (by first | assumption | omega) (by first | assumption | omega) (by first | assumption | omega) (by first | assumption | omega)) (cwV 2 hts gX6_luck_X6_showersOf rfl rfl rfl (by decide +kernel) ⟨Nat.le_of_ble_eq_true rfl, Nat.le_of_ble_eq_true rfl⟩) hK hP hD hS hA [0, 1, 2] [] rfl rfl (by decide) (by decide) (by decide) rfl rfl rfl hl.1 rfl (Nat.le_of_ble_eq_true rfl) dX6_luck_43 ⟨Nat.le_of_ble_eq_true rfl, Nat.le_of_ble_eq_true rfl⟩ (fun r43 u H locs hp43 hP hD hS => ?_)
          obtain ⟨mk2_43, rfl⟩ : ∃ z, z = u := ⟨_, rfl⟩
          try dsimp only at hp43 hP hD
          obtain rfl := hp43
          replace hP : xP G [oC ko 6 [.ref (ad 0), .ref (ad 1), .int (nI w), .int (nI h), .int (nI la), .ref (ad 2), .int (mv 0), .int (mv 1), .int (mv 2), .int (mv 3), .int (mv 4), .int (mv 5), .int (mv 6), .ref (ad 3), .int (nI tp), .int (mv 7), .int (mv 8), .int (mv 9), .int (mv 10), .int ft, .int (mv 11), .ref (ad 4), .ref (ad 5), .ref (ad 6), .ref (ad 7), .ref (ad 8), .ref (ad 9), .ref (ad 10), .int tr], iA G (ad 0) 255 S, iA G (ad 4) 16 mk2_43] H := hP
          replace hD : va_D (va_A (w_X6_luck G ko ad w h la tp ft tr mv S mk) ss.heap.size) [oC ko 6 [.ref (ad 0), .ref (ad 1), .int (nI w), .int (nI h), .int (nI la), .ref (ad 2), .int (mv 0), .int (mv 1), .int (mv 2), .int (mv 3), .int (mv 4), .int (mv 5), .int (mv 6), .ref (ad 3), .int (nI tp), .int (mv 7), .int (mv 8), .int (mv 9), .int (mv 10), .int ft, .int (mv 11), .ref (ad 4), .ref (ad 5), .ref (ad 6), .ref (ad 7), .ref (ad 8), .ref (ad 9), .ref (ad 10), .int tr], iA G (ad 0) 255 S, iA G (ad 4) 16 mk2_43] := hD
          have hcl := cntF_le (fun l => bitB (shM w h S nc l x0) c0) nl
          have hpl := Nat.pow_le_pow_left (show v0 ≤ 10 by omega) (cntF (fun l => bitB (shM w h S nc l x0) c0) nl)
          have hp6 : 10 ^ (cntF (fun l => bitB (shM w h S nc l x0) c0) nl) ≤ 1000000 := Nat.pow_le_pow_right (n := 10) (by omega) (show cntF (fun l => bitB (shM w h S nc l x0) c0) nl ≤ 6 by omega)
          have hp1 : 0 < 10 ^ (cntF (fun l => bitB (shM w h S nc l x0) c0) nl) := Nat.pow_pos (by omega)
          refine lv_istore (lv' := [(5, .int (nI (cntF (fun l => bitB (shM w h S _ l x0) c0) _))), (0, .ref ko), (1, .int (nI v0)), (2, .int (nI x0)), (3, .int (nI c0)), (4, .int a)]) hx hb dX6_luck_46 hl (by decide) rfl (fun ls hl => ?_)
          refine lv_bipush (v := nI 10) hx hb dX6_luck_48 (by decide) ?_
          refine lv_iload hx hb dX6_luck_50 (lv_at hl 0 rfl) ?_
          refine xs_l (As := [.int (nI 10), .int (nI (cntF (fun l => bitB (shM w h S _ l x0) c0) _))]) (rest := []) ⟨hx, hb, hml, hown, hts⟩ (c_X6_power l G 10 (cntF (fun l => bitB (shM w h S _ l x0) c0) _) (by first | assumption | omega) (by first | assumption | omega)) (va_cwS 2 hts gX6_luck_X6_power rfl rfl rfl (by decide +kernel) ⟨Nat.le_of_ble_eq_true rfl, Nat.le_of_ble_eq_true rfl⟩) hP hS rfl hl.1 rfl (Nat.le_of_ble_eq_true rfl) dX6_luck_52 ⟨Nat.zero_le _, Nat.zero_le _⟩ (fun r52 H locs hp52 hP hS => ?_)
          rw [show r52 = _ from hp52]
          refine lv_iload_n hx hb dX6_luck_55 rfl (lv_at hl 2 rfl) ?_
          refine lv_iload hx hb dX6_luck_56 (lv_at hl 0 rfl) ?_
          refine xs_l (As := [.int (nI v0), .int (nI (cntF (fun l => bitB (shM w h S _ l x0) c0) _))]) (rest := [.long (lN (10 ^ (cntF (fun l => bitB (shM w h S _ l x0) c0) _)))]) ⟨hx, hb, hml, hown, hts⟩ (c_X6_power l G v0 (cntF (fun l => bitB (shM w h S _ l x0) c0) _) (by first | assumption | omega) (by first | assumption | omega)) (va_cwS 2 hts gX6_luck_X6_power rfl rfl rfl (by decide +kernel) ⟨Nat.le_of_ble_eq_true rfl, Nat.le_of_ble_eq_true rfl⟩) hP hS rfl hl.1 rfl (Nat.le_of_ble_eq_true rfl) dX6_luck_58 ⟨Nat.zero_le _, Nat.zero_le _⟩ (fun r58 H locs hp58 hP hS => ?_)
          rw [show r58 = _ from hp58]
          refine lv_lsub hx hb dX6_luck_61 ?_
          refine xl_top (lN_sub (by omega)) ?_
          refine lv_bipush (v := nI 10) hx hb dX6_luck_62 (by decide) ?_
          refine lv_iload hx hb dX6_luck_64 (lv_at hl 0 rfl) ?_
          refine xs_l (As := [.int (nI 10), .int (nI (cntF (fun l => bitB (shM w h S _ l x0) c0) _))]) (rest := [.long (lN ((10 ^ (cntF (fun l => bitB (shM w h S _ l x0) c0) _)) - (v0 ^ (cntF (fun l => bitB (shM w h S _ l x0) c0) _))))]) ⟨hx, hb, hml, hown, hts⟩ (c_X6_power l G 10 (cntF (fun l => bitB (shM w h S _ l x0) c0) _) (by first | assumption | omega) (by first | assumption | omega)) (va_cwS 2 hts gX6_luck_X6_power rfl rfl rfl (by decide +kernel) ⟨Nat.le_of_ble_eq_true rfl, Nat.le_of_ble_eq_true rfl⟩) hP hS rfl hl.1 rfl (Nat.le_of_ble_eq_true rfl) dX6_luck_66 ⟨Nat.zero_le _, Nat.zero_le _⟩ (fun r66 H locs hp66 hP hS => ?_)
          rw [show r66 = _ from hp66]
          refine lv_iload hx hb dX6_luck_69 (lv_at hl 5 rfl) ?_
          refine xs_l (As := [.long (lN ((10 ^ (cntF (fun l => bitB (shM w h S _ l x0) c0) _)) - (v0 ^ (cntF (fun l => bitB (shM w h S _ l x0) c0) _)))), .long (lN (10 ^ (cntF (fun l => bitB (shM w h S _ l x0) c0) _))), .int a]) (rest := []) ⟨hx, hb, hml, hown, hts⟩ (c_X6_told l G ((10 ^ (cntF (fun l => bitB (shM w h S _ l x0) c0) _)) - (v0 ^ (cntF (fun l => bitB (shM w h S _ l x0) c0) _))) (10 ^ (cntF (fun l => bitB (shM w h S _ l x0) c0) _)) a (by first | assumption | omega) (by first | assumption | omega) (by first | assumption | omega)) (va_cwS 3 hts gX6_luck_X6_told rfl rfl rfl (by decide +kernel) ⟨Nat.le_of_ble_eq_true rfl, Nat.le_of_ble_eq_true rfl⟩) hP hS rfl hl.1 rfl (Nat.le_of_ble_eq_true rfl) dX6_luck_71 ⟨Nat.zero_le _, Nat.zero_le _⟩ (fun r71 H locs hp71 hP hS => ?_)
          rw [show r71 = _ from hp71]
          have hP := hP.sub (ws' := [oC ko 6 [.ref (ad 0), .ref (ad 1), .int (nI w), .int (nI h), .int (nI la), .ref (ad 2), .int (mv 0), .int (mv 1), .int (mv 2), .int (mv 3), .int (mv 4), .int (mv 5), .int (mv 6), .ref (ad 3), .int (nI tp), .int (mv 7), .int (mv 8), .int (mv 9), .int (mv 10), .int ft, .int (mv 11), .ref (ad 4), .ref (ad 5), .ref (ad 6), .ref (ad 7), .ref (ad 8), .ref (ad 9), .ref (ad 10), .int tr], iA G (ad 0) 255 S, iA G (ad 4) 16 mk2_43]) [0, 1, 2] rfl
          have hD := hD.sub (ws' := [oC ko 6 [.ref (ad 0), .ref (ad 1), .int (nI w), .int (nI h), .int (nI la), .ref (ad 2), .int (mv 0), .int (mv 1), .int (mv 2), .int (mv 3), .int (mv 4), .int (mv 5), .int (mv 6), .ref (ad 3), .int (nI tp), .int (mv 7), .int (mv 8), .int (mv 9), .int (mv 10), .int ft, .int (mv 11), .ref (ad 4), .ref (ad 5), .ref (ad 6), .ref (ad 7), .ref (ad 8), .ref (ad 9), .ref (ad 10), .int tr], iA G (ad 0) 255 S, iA G (ad 4) 16 mk2_43]) [0, 1, 2] (by decide) rfl
          refine W.lret (v := (if a = 0 then lN (((10 ^ (cntF (fun l => bitB (shM w h S _ l x0) c0) _)) - (v0 ^ (cntF (fun l => bitB (shM w h S _ l x0) c0) _))) / Nat.gcd (10 ^ (cntF (fun l => bitB (shM w h S _ l x0) c0) _)) ((10 ^ (cntF (fun l => bitB (shM w h S _ l x0) c0) _)) - (v0 ^ (cntF (fun l => bitB (shM w h S _ l x0) c0) _)))) else lN ((10 ^ (cntF (fun l => bitB (shM w h S _ l x0) c0) _)) / Nat.gcd (10 ^ (cntF (fun l => bitB (shM w h S _ l x0) c0) _)) ((10 ^ (cntF (fun l => bitB (shM w h S _ l x0) c0) _)) - (v0 ^ (cntF (fun l => bitB (shM w h S _ l x0) c0) _)))))) hx hb hr (fun t ht hW => ⟨⟨(if a = 0 then lN (((10 ^ (cntF (fun l => bitB (shM w h S _ l x0) c0) _)) - (v0 ^ (cntF (fun l => bitB (shM w h S _ l x0) c0) _))) / Nat.gcd (10 ^ (cntF (fun l => bitB (shM w h S _ l x0) c0) _)) ((10 ^ (cntF (fun l => bitB (shM w h S _ l x0) c0) _)) - (v0 ^ (cntF (fun l => bitB (shM w h S _ l x0) c0) _)))) else lN ((10 ^ (cntF (fun l => bitB (shM w h S _ l x0) c0) _)) / Nat.gcd (10 ^ (cntF (fun l => bitB (shM w h S _ l x0) c0) _)) ((10 ^ (cntF (fun l => bitB (shM w h S _ l x0) c0) _)) - (v0 ^ (cntF (fun l => bitB (shM w h S _ l x0) c0) _))))), (mk2_43), rfl, ?_, by rw [ht]; exact hP, hD⟩, hS.F ht⟩) hS.2.2 dX6_luck_74
          first | exact (if_neg (fun q => b9 q.1)).symm | exact (if_neg (fun q => b17 q.2.1)).symm | exact (if_neg (fun q => b25 q.2.2.1)).symm | exact (if_neg (fun q => b33 q.2.2.2)).symm | (rw [if_pos ⟨inR_nI hv0 (by omega), inR_nI hx0 (by omega), inR_nI hc0 (by omega), b33⟩, tn_nI (by omega), tn_nI (by omega), tn_nI (by omega)])
        · skip
          refine lv_ldc2 (v := (-1)) hx hb hown (hts (.constantLong RX6 229 ((-1))) (List.mem_of_getElem? (i := 2) rfl)) dX6_luck_36 ?_
          have hP := hP.sub (ws' := [oC ko 6 [.ref (ad 0), .ref (ad 1), .int (nI w), .int (nI h), .int (nI la), .ref (ad 2), .int (mv 0), .int (mv 1), .int (mv 2), .int (mv 3), .int (mv 4), .int (mv 5), .int (mv 6), .ref (ad 3), .int (nI tp), .int (mv 7), .int (mv 8), .int (mv 9), .int (mv 10), .int ft, .int (mv 11), .ref (ad 4), .ref (ad 5), .ref (ad 6), .ref (ad 7), .ref (ad 8), .ref (ad 9), .ref (ad 10), .int tr], iA G (ad 0) 255 S, iA G (ad 4) 16 mk]) [0, 1, 2] rfl
          have hD := hD.sub (ws' := [oC ko 6 [.ref (ad 0), .ref (ad 1), .int (nI w), .int (nI h), .int (nI la), .ref (ad 2), .int (mv 0), .int (mv 1), .int (mv 2), .int (mv 3), .int (mv 4), .int (mv 5), .int (mv 6), .ref (ad 3), .int (nI tp), .int (mv 7), .int (mv 8), .int (mv 9), .int (mv 10), .int ft, .int (mv 11), .ref (ad 4), .ref (ad 5), .ref (ad 6), .ref (ad 7), .ref (ad 8), .ref (ad 9), .ref (ad 10), .int tr], iA G (ad 0) 255 S, iA G (ad 4) 16 mk]) [0, 1, 2] (by decide) rfl
          refine W.lret (v := (-1)) hx hb hr (fun t ht hW => ⟨⟨(-1), (mk), rfl, ?_, by rw [ht]; exact hP, hD⟩, hS.F ht⟩) hS.2.2 dX6_luck_39
          first | exact (if_neg (fun q => b9 q.1)).symm | exact (if_neg (fun q => b17 q.2.1)).symm | exact (if_neg (fun q => b25 q.2.2.1)).symm | exact (if_neg (fun q => b33 q.2.2.2)).symm | (rw [if_pos ⟨inR_nI hv0 (by omega), inR_nI hx0 (by omega), inR_nI hc0 (by omega), b33⟩, tn_nI (by omega), tn_nI (by omega), tn_nI (by omega)])
end
section
def suN (f : Nat → Nat) : Nat → Nat
  | 0 => 0
  | i + 1 => suN f i + f i
def anF (f : Nat → Int32) (b : Int32) : Nat → Int32
  | 0 => b
  | i + 1 => anF f b i &&& (f i ^^^ (-1))
end
section
abbrev w_X6_mean (G : XG) (ko : Nat) (ad : Nat → Nat) (w h la tp : Nat) (ft tr : Int32) (mv : Nat → Int32) (S mk : Nat → Int32) : va_W := [oC ko 6 [.ref (ad 0), .ref (ad 1), .int (nI w), .int (nI h), .int (nI la), .ref (ad 2), .int (mv 0), .int (mv 1), .int (mv 2), .int (mv 3), .int (mv 4), .int (mv 5), .int (mv 6), .ref (ad 3), .int (nI tp), .int (mv 7), .int (mv 8), .int (mv 9), .int (mv 10), .int ft, .int (mv 11), .ref (ad 4), .ref (ad 5), .ref (ad 6), .ref (ad 7), .ref (ad 8), .ref (ad 9), .ref (ad 10), .int tr], iA G (ad 0) 255 S, iA G (ad 4) 16 mk]
abbrev Q_X6_mean (G : XG) (sz : Nat) (ko : Nat) (ad : Nat → Nat) (w h la tp : Nat) (ft tr : Int32) (mv : Nat → Int32) (S mk : Nat → Int32) (nc : Nat) (nl : Nat) (v x a : Int32) : Array Value → State → Outcome → State → Prop := (va_Ql (fun (r : Int64) (u : (Nat → Int32)) => r = (if inR v 11 ∧ inR x (w * h) ∧ inR a 2 then (if a = 0 then lN ((suN (fun c => (10 ^ (cntF (fun l => bitB (shM w h S nc l (tn x)) c) nl) - tn v ^ (cntF (fun l => bitB (shM w h S nc l (tn x)) c) nl)) * 10 ^ (6 - (cntF (fun l => bitB (shM w h S nc l (tn x)) c) nl))) (w * h)) / Nat.gcd (1000000) (suN (fun c => (10 ^ (cntF (fun l => bitB (shM w h S nc l (tn x)) c) nl) - tn v ^ (cntF (fun l => bitB (shM w h S nc l (tn x)) c) nl)) * 10 ^ (6 - (cntF (fun l => bitB (shM w h S nc l (tn x)) c) nl))) (w * h))) else lN ((1000000) / Nat.gcd (1000000) (suN (fun c => (10 ^ (cntF (fun l => bitB (shM w h S nc l (tn x)) c) nl) - tn v ^ (cntF (fun l => bitB (shM w h S nc l (tn x)) c) nl)) * 10 ^ (6 - (cntF (fun l => bitB (shM w h S nc l (tn x)) c) nl))) (w * h)))) else (-1))) (xWb G sz (w_X6_mean G ko ad w h la tp ft tr mv S mk) (fun u : (Nat → Int32) => [oC ko 6 [.ref (ad 0), .ref (ad 1), .int (nI w), .int (nI h), .int (nI la), .ref (ad 2), .int (mv 0), .int (mv 1), .int (mv 2), .int (mv 3), .int (mv 4), .int (mv 5), .int (mv 6), .ref (ad 3), .int (nI tp), .int (mv 7), .int (mv 8), .int (mv 9), .int (mv 10), .int ft, .int (mv 11), .ref (ad 4), .ref (ad 5), .ref (ad 6), .ref (ad 7), .ref (ad 8), .ref (ad 9), .ref (ad 10), .int tr], iA G (ad 0) 255 S, iA G (ad 4) 16 u])) (va_A (w_X6_mean G ko ad w h la tp ft tr mv S mk) sz))
set_option maxHeartbeats 4000000 in
set_option maxRecDepth 100000 in
theorem c_X6_mean (l : Launch) (G : XG) (sz : Nat) (ko : Nat) (ad : Nat → Nat) (w h la tp : Nat) (ft tr : Int32) (mv : Nat → Int32) (S mk : Nat → Int32) (nc : Nat) (nl : Nat) (v x a : Int32) (hw : 1 ≤ w) (hwb : w ≤ 16) (hhb : h ≤ 16) (hwh1 : 1 ≤ w * h) (hwh : w * h ≤ 16) (hla : la ≤ 9) (hs16 : S 16 = nI nc) (hnc : nc ≤ 10) (hs47 : S 47 = nI nl) (hnl : nl ≤ 6) (hlens : ∀ i, i < nl → inR (S (48 + 2 * i)) (la + 1)) : Met l yX6_mean wsX6_mean ({ frames := 6, cells := 0, slots := 0, locals := 135 } : Room) (va_Pc [.ref ko, .int v, .int x, .int a] (xWp G sz (w_X6_mean G ko ad w h la tp ft tr mv S mk))) (Q_X6_mean G sz ko ad w h la tp ft tr mv S mk nc nl v x a) 0 0 (va_A (w_X6_mean G ko ad w h la tp ft tr mv S mk) sz) := by
  refine Met.ofW (cc := cX6_mean) (maxL := 8) (ret := (some .long)) (by decide) rfl ?_
  intro pp ee ss mm aa below mt cd s₁ BB hml hv
  obtain ⟨rfl, hsz, hP, hK, hD0⟩ := hv
  have hx := BB.exec
  have hb := BB.bytes
  have hr := BB.returns
  have hts := atoms_spec (ws := wsX6_mean) BB.pre
  have hown : ss.vm.findClass RX6 = some mm.cls := findClass_of_methodNamed BB.named
  have hlocks := BB.notSynchronized
  subst hsz
  have hD := hD0.self (sz := ss.heap.size)
  have hA : ∀ q : Nat, ss.heap.size ≤ q → va_A (w_X6_mean G ko ad w h la tp ft tr mv S mk) ss.heap.size q := fun q h => Or.inr h
  have hS : va_S (va_A (w_X6_mean G ko ad w h la tp ft tr mv S mk) ss.heap.size) ss.heap ss.heap [] := va_S.rf
  replace hD : va_D (va_A (w_X6_mean G ko ad w h la tp ft tr mv S mk) ss.heap.size) [oC ko 6 [.ref (ad 0), .ref (ad 1), .int (nI w), .int (nI h), .int (nI la), .ref (ad 2), .int (mv 0), .int (mv 1), .int (mv 2), .int (mv 3), .int (mv 4), .int (mv 5), .int (mv 6), .ref (ad 3), .int (nI tp), .int (mv 7), .int (mv 8), .int (mv 9), .int (mv 10), .int ft, .int (mv 11), .ref (ad 4), .ref (ad 5), .ref (ad 6), .ref (ad 7), .ref (ad 8), .ref (ad 9), .ref (ad 10), .int tr], iA G (ad 0) 255 S, iA G (ad 4) 16 mk] := hD
  replace hP : xP G [oC ko 6 [.ref (ad 0), .ref (ad 1), .int (nI w), .int (nI h), .int (nI la), .ref (ad 2), .int (mv 0), .int (mv 1), .int (mv 2), .int (mv 3), .int (mv 4), .int (mv 5), .int (mv 6), .ref (ad 3), .int (nI tp), .int (mv 7), .int (mv 8), .int (mv 9), .int (mv 10), .int ft, .int (mv 11), .ref (ad 4), .ref (ad 5), .ref (ad 6), .ref (ad 7), .ref (ad 8), .ref (ad 9), .ref (ad 10), .int tr], iA G (ad 0) 255 S, iA G (ad 4) 16 mk] ss.heap := hP
  have hin6 : ∀ w ∈ u_ws RX6 TX6 29, w ∈ wsX6_mean := fun w h => List.mem_cons_of_mem _ (List.mem_append_right _ h)
  have hl := lv_entry ([.ref ko, .int v, .int x, .int a]) (n := 8) (Nat.le_of_ble_eq_true rfl)
  rw [lg_entry_eq]
  generalize (lg_sl ([.ref ko, .int v, .int x, .int a]) ++ List.replicate (8 - (lg_sl ([.ref ko, .int v, .int x, .int a])).length) Slot.unset).toArray = ls at hl ⊢
  replace hl : lv_has ls 8 [(0, .ref ko), (1, .int v), (2, .int x), (3, .int a)] := hl
  refine lv_iload_n hx hb dX6_mean_0 rfl (lv_at hl 1 rfl) ?_
  refine xi_i2l hx hb dX6_mean_1 ?_
  refine lv_lconst (v := lN 0) hx hb dX6_mean_2 (by decide) ?_
  refine lv_ldc2 (v := lN 10) hx hb hown (hts (.constantLong RX6 247 (lN 10)) (List.mem_of_getElem? (i := 1) rfl)) dX6_mean_3 ?_
  refine xs_i (As := [.long v.toInt64, .long (lN 0), .long (lN 10)]) (rest := []) ⟨hx, hb, hml, hown, hts⟩ (c_X6_in_r l G v 10 (by first | assumption | omega)) (va_cwS 3 hts gX6_mean_X6_in rfl rfl rfl (by decide +kernel) ⟨Nat.le_of_ble_eq_true rfl, Nat.le_of_ble_eq_true rfl⟩) hP hS rfl hl.1 rfl (Nat.le_of_ble_eq_true rfl) dX6_mean_6 ⟨Nat.zero_le _, Nat.zero_le _⟩ (fun r6 H locs hp6 hP hS => ?_)
  rw [show r6 = _ from hp6]
  refine xb_if_eq (tgt := 27) hx hb dX6_mean_9 rfl (fun b9 => ?_) (fun b9 => ?_)
  · skip
    refine lv_ldc2 (v := (-1)) hx hb hown (hts (.constantLong RX6 229 ((-1))) (List.mem_of_getElem? (i := 2) rfl)) dX6_mean_27 ?_
    have hP := hP.sub (ws' := [oC ko 6 [.ref (ad 0), .ref (ad 1), .int (nI w), .int (nI h), .int (nI la), .ref (ad 2), .int (mv 0), .int (mv 1), .int (mv 2), .int (mv 3), .int (mv 4), .int (mv 5), .int (mv 6), .ref (ad 3), .int (nI tp), .int (mv 7), .int (mv 8), .int (mv 9), .int (mv 10), .int ft, .int (mv 11), .ref (ad 4), .ref (ad 5), .ref (ad 6), .ref (ad 7), .ref (ad 8), .ref (ad 9), .ref (ad 10), .int tr], iA G (ad 0) 255 S, iA G (ad 4) 16 mk]) [0, 1, 2] rfl
    have hD := hD.sub (ws' := [oC ko 6 [.ref (ad 0), .ref (ad 1), .int (nI w), .int (nI h), .int (nI la), .ref (ad 2), .int (mv 0), .int (mv 1), .int (mv 2), .int (mv 3), .int (mv 4), .int (mv 5), .int (mv 6), .ref (ad 3), .int (nI tp), .int (mv 7), .int (mv 8), .int (mv 9), .int (mv 10), .int ft, .int (mv 11), .ref (ad 4), .ref (ad 5), .ref (ad 6), .ref (ad 7), .ref (ad 8), .ref (ad 9), .ref (ad 10), .int tr], iA G (ad 0) 255 S, iA G (ad 4) 16 mk]) [0, 1, 2] (by decide) rfl
    refine W.lret (v := (-1)) hx hb hr (fun t ht hW => ⟨⟨(-1), (mk), rfl, ?_, by rw [ht]; exact hP, hD⟩, hS.F ht⟩) hS.2.2 dX6_mean_30
    first | exact (if_neg (fun q => b9 q.1)).symm | exact (if_neg (fun q => b17 q.2.1)).symm | exact (if_neg (fun q => b24 q.2.2)).symm | (rw [if_pos ⟨inR_nI hv0 (by omega), inR_nI hx0 (by omega), b24⟩, tn_nI (by omega), tn_nI (by omega), hsm, show c = w * h by omega])
  · skip
    refine lv_aload_n hx hb dX6_mean_12 rfl (lv_at hl 0 rfl) ?_
    refine lv_iload_n hx hb dX6_mean_13 rfl (lv_at hl 2 rfl) ?_
    refine xr_i (As := [.int x]) (rest := []) ⟨hx, hb, hml, hown, hts⟩ (c_X6_isCell l G ko ad w h la tp ft tr mv x (by first | assumption | omega) (by first | assumption | omega)) (cwV 1 hts gX6_mean_X6_isCell rfl rfl rfl (by decide +kernel) ⟨Nat.le_of_ble_eq_true rfl, Nat.le_of_ble_eq_true rfl⟩) hK hP hS [0] rfl rfl rfl rfl hl.1 rfl (Nat.le_of_ble_eq_true rfl) dX6_mean_14 ⟨Nat.zero_le _, Nat.zero_le _⟩ (fun r14 H locs hp14 hP hS => ?_)
    rw [show r14 = _ from hp14]
    refine xb_if_eq (tgt := 27) hx hb dX6_mean_17 rfl (fun b17 => ?_) (fun b17 => ?_)
    · skip
      refine lv_ldc2 (v := (-1)) hx hb hown (hts (.constantLong RX6 229 ((-1))) (List.mem_of_getElem? (i := 2) rfl)) dX6_mean_27 ?_
      have hP := hP.sub (ws' := [oC ko 6 [.ref (ad 0), .ref (ad 1), .int (nI w), .int (nI h), .int (nI la), .ref (ad 2), .int (mv 0), .int (mv 1), .int (mv 2), .int (mv 3), .int (mv 4), .int (mv 5), .int (mv 6), .ref (ad 3), .int (nI tp), .int (mv 7), .int (mv 8), .int (mv 9), .int (mv 10), .int ft, .int (mv 11), .ref (ad 4), .ref (ad 5), .ref (ad 6), .ref (ad 7), .ref (ad 8), .ref (ad 9), .ref (ad 10), .int tr], iA G (ad 0) 255 S, iA G (ad 4) 16 mk]) [0, 1, 2] rfl
      have hD := hD.sub (ws' := [oC ko 6 [.ref (ad 0), .ref (ad 1), .int (nI w), .int (nI h), .int (nI la), .ref (ad 2), .int (mv 0), .int (mv 1), .int (mv 2), .int (mv 3), .int (mv 4), .int (mv 5), .int (mv 6), .ref (ad 3), .int (nI tp), .int (mv 7), .int (mv 8), .int (mv 9), .int (mv 10), .int ft, .int (mv 11), .ref (ad 4), .ref (ad 5), .ref (ad 6), .ref (ad 7), .ref (ad 8), .ref (ad 9), .ref (ad 10), .int tr], iA G (ad 0) 255 S, iA G (ad 4) 16 mk]) [0, 1, 2] (by decide) rfl
      refine W.lret (v := (-1)) hx hb hr (fun t ht hW => ⟨⟨(-1), (mk), rfl, ?_, by rw [ht]; exact hP, hD⟩, hS.F ht⟩) hS.2.2 dX6_mean_30
      first | exact (if_neg (fun q => b9 q.1)).symm | exact (if_neg (fun q => b17 q.2.1)).symm | exact (if_neg (fun q => b24 q.2.2)).symm | (rw [if_pos ⟨inR_nI hv0 (by omega), inR_nI hx0 (by omega), b24⟩, tn_nI (by omega), tn_nI (by omega), hsm, show c = w * h by omega])
    · skip
      refine lv_iload_n hx hb dX6_mean_20 rfl (lv_at hl 3 rfl) ?_
      refine xs_i (As := [.int a]) (rest := []) ⟨hx, hb, hml, hown, hts⟩ (c_X6_isPart l G a ) (va_cwS 1 hts gX6_mean_X6_isPart rfl rfl rfl (by decide +kernel) ⟨Nat.le_of_ble_eq_true rfl, Nat.le_of_ble_eq_true rfl⟩) hP hS rfl hl.1 rfl (Nat.le_of_ble_eq_true rfl) dX6_mean_21 ⟨Nat.zero_le _, Nat.zero_le _⟩ (fun r21 H locs hp21 hP hS => ?_)
      rw [show r21 = _ from hp21]
      refine xb_if_ne (tgt := 31) hx hb dX6_mean_24 rfl (fun b24 => ?_) (fun b24 => ?_)
      · skip
        obtain ⟨v0, hv0, rfl⟩ := inR_nat b9
        obtain ⟨x0, hx0, rfl⟩ := inR_nat b17
        refine lv_lconst (v := lN 0) hx hb dX6_mean_31 (by decide) ?_
        refine lv_lstore (lv' := [(4, .long (lN 0)), (0, .ref ko), (1, .int (nI v0)), (2, .int (nI x0)), (3, .int a)]) hx hb dX6_mean_32 hl (by decide) rfl (fun ls hl => ?_)
        refine lv_iconst (v := nI 0) hx hb dX6_mean_34 (by decide) ?_
        refine lv_istore (lv' := [(6, .int (nI 0)), (4, .long (lN 0)), (0, .ref ko), (1, .int (nI v0)), (2, .int (nI x0)), (3, .int a)]) hx hb dX6_mean_35 hl (by decide) rfl (fun ls hl => ?_)
        have hL37 : ∀ k : Nat, ∀ (c : Nat) (sm : Nat) (mk3 : Nat → Int32) (ls : Array Slot) (H : Heap) (locs : List Loc), w * h - c = k → (c ≤ w * h) → (sm = suN (fun c => (10 ^ (cntF (fun l => bitB (shM w h S nc l x0) c) nl) - v0 ^ (cntF (fun l => bitB (shM w h S nc l x0) c) nl)) * 10 ^ (6 - (cntF (fun l => bitB (shM w h S nc l x0) c) nl))) c) → (sm ≤ c * 1000000) → lv_has ls 8 [(0, .ref ko), (1, .int (nI v0)), (2, .int (nI x0)), (3, .int a), (4, .long (lN sm)), (6, .int (nI c))] → xP G [iA G (ad 0) 255 S, iA G (ad 4) 16 mk3, oC ko 6 [.ref (ad 0), .ref (ad 1), .int (nI w), .int (nI h), .int (nI la), .ref (ad 2), .int (mv 0), .int (mv 1), .int (mv 2), .int (mv 3), .int (mv 4), .int (mv 5), .int (mv 6), .ref (ad 3), .int (nI tp), .int (mv 7), .int (mv 8), .int (mv 9), .int (mv 10), .int ft, .int (mv 11), .ref (ad 4), .ref (ad 5), .ref (ad 6), .ref (ad 7), .ref (ad 8), .ref (ad 9), .ref (ad 10), .int tr]] H → va_D (va_A (w_X6_mean G ko ad w h la tp ft tr mv S mk) ss.heap.size) [iA G (ad 0) 255 S, iA G (ad 4) 16 mk3, oC ko 6 [.ref (ad 0), .ref (ad 1), .int (nI w), .int (nI h), .int (nI la), .ref (ad 2), .int (mv 0), .int (mv 1), .int (mv 2), .int (mv 3), .int (mv 4), .int (mv 5), .int (mv 6), .ref (ad 3), .int (nI tp), .int (mv 7), .int (mv 8), .int (mv 9), .int (mv 10), .int ft, .int (mv 11), .ref (ad 4), .ref (ad 5), .ref (ad 6), .ref (ad 7), .ref (ad 8), .ref (ad 9), .ref (ad 10), .int tr]] → va_S (va_A (w_X6_mean G ko ad w h la tp ft tr mv S mk) ss.heap.size) ss.heap H locs → W pp l ee ({ frames := 6, cells := 0, slots := 0, locals := 135 } : Room) ss mm ([.ref ko, .int (nI v0), .int (nI x0), .int a] : List Value).toArray below mt cd H locs 0 0 (MQ below (Q_X6_mean G ss.heap.size ko ad w h la tp ft tr mv S mk nc nl (nI v0) (nI x0) a) ([.ref ko, .int (nI v0), .int (nI x0), .int a] : List Value).toArray ss 0 0 (va_A (w_X6_mean G ko ad w h la tp ft tr mv S mk) ss.heap.size)) (F0 mm 37 ls []) := by
          intro k
          induction k using Nat.strongRecOn with
          | _ k ih37 =>
          intro c sm mk3 ls H locs hm37 hci hsm hsl hl hP hD hS
          refine lv_iload hx hb dX6_mean_37 (lv_at hl 5 rfl) ?_
          refine lv_aload_n hx hb dX6_mean_39 rfl (lv_at hl 0 rfl) ?_
          refine xr_i (As := []) (rest := [.int (nI c)]) ⟨hx, hb, hml, hown, hts⟩ (c_X6_cellsNow l G ko ad w h la tp ft tr mv ) (cwV 0 hts gX6_mean_X6_cellsNow rfl rfl rfl (by decide +kernel) ⟨Nat.le_of_ble_eq_true rfl, Nat.le_of_ble_eq_true rfl⟩) hK hP hS [2] rfl rfl rfl rfl hl.1 rfl (Nat.le_of_ble_eq_true rfl) dX6_mean_40 ⟨Nat.zero_le _, Nat.zero_le _⟩ (fun r40 H locs hp40 hP hS => ?_)
          rw [show r40 = _ from hp40]
          refine xn_icmp_ge (tgt := 91) hx hb (by omega) (by omega) dX6_mean_43 rfl (fun b43 => ?_) (fun b43 => ?_)
          · skip
            refine lv_lload hx hb dX6_mean_91 (lv_at hl 4 rfl) ?_
            refine lv_bipush (v := nI 10) hx hb dX6_mean_93 (by decide) ?_
            refine lv_bipush (v := nI 6) hx hb dX6_mean_95 (by decide) ?_
            refine xs_l (As := [.int (nI 10), .int (nI 6)]) (rest := [.long (lN sm)]) ⟨hx, hb, hml, hown, hts⟩ (c_X6_power l G 10 6 (by first | assumption | omega) (by first | assumption | omega)) (va_cwS 2 hts gX6_mean_X6_power rfl rfl rfl (by decide +kernel) ⟨Nat.le_of_ble_eq_true rfl, Nat.le_of_ble_eq_true rfl⟩) hP hS rfl hl.1 rfl (Nat.le_of_ble_eq_true rfl) dX6_mean_97 ⟨Nat.zero_le _, Nat.zero_le _⟩ (fun r97 H locs hp97 hP hS => ?_)
            rw [show r97 = _ from hp97]
            have hcm : c * 1000000 ≤ 16 * 1000000 := Nat.mul_le_mul_right _ (by omega)
            refine xl_top (y := lN 1000000) (by rfl) ?_
            refine lv_iload_n hx hb dX6_mean_100 rfl (lv_at hl 3 rfl) ?_
            refine xs_l (As := [.long (lN sm), .long (lN 1000000), .int a]) (rest := []) ⟨hx, hb, hml, hown, hts⟩ (c_X6_told l G sm 1000000 a (by first | assumption | omega) (by first | assumption | omega) (by first | assumption | omega)) (va_cwS 3 hts gX6_mean_X6_told rfl rfl rfl (by decide +kernel) ⟨Nat.le_of_ble_eq_true rfl, Nat.le_of_ble_eq_true rfl⟩) hP hS rfl hl.1 rfl (Nat.le_of_ble_eq_true rfl) dX6_mean_101 ⟨Nat.zero_le _, Nat.zero_le _⟩ (fun r101 H locs hp101 hP hS => ?_)
            rw [show r101 = _ from hp101]
            have hP := hP.sub (ws' := [oC ko 6 [.ref (ad 0), .ref (ad 1), .int (nI w), .int (nI h), .int (nI la), .ref (ad 2), .int (mv 0), .int (mv 1), .int (mv 2), .int (mv 3), .int (mv 4), .int (mv 5), .int (mv 6), .ref (ad 3), .int (nI tp), .int (mv 7), .int (mv 8), .int (mv 9), .int (mv 10), .int ft, .int (mv 11), .ref (ad 4), .ref (ad 5), .ref (ad 6), .ref (ad 7), .ref (ad 8), .ref (ad 9), .ref (ad 10), .int tr], iA G (ad 0) 255 S, iA G (ad 4) 16 mk3]) [2, 0, 1] rfl
            have hD := hD.sub (ws' := [oC ko 6 [.ref (ad 0), .ref (ad 1), .int (nI w), .int (nI h), .int (nI la), .ref (ad 2), .int (mv 0), .int (mv 1), .int (mv 2), .int (mv 3), .int (mv 4), .int (mv 5), .int (mv 6), .ref (ad 3), .int (nI tp), .int (mv 7), .int (mv 8), .int (mv 9), .int (mv 10), .int ft, .int (mv 11), .ref (ad 4), .ref (ad 5), .ref (ad 6), .ref (ad 7), .ref (ad 8), .ref (ad 9), .ref (ad 10), .int tr], iA G (ad 0) 255 S, iA G (ad 4) 16 mk3]) [2, 0, 1] (by decide) rfl
            refine W.lret (v := (if a = 0 then lN (sm / Nat.gcd 1000000 sm) else lN (1000000 / Nat.gcd 1000000 sm))) hx hb hr (fun t ht hW => ⟨⟨(if a = 0 then lN (sm / Nat.gcd 1000000 sm) else lN (1000000 / Nat.gcd 1000000 sm)), (mk3), rfl, ?_, by rw [ht]; exact hP, hD⟩, hS.F ht⟩) hS.2.2 dX6_mean_104
            first | exact (if_neg (fun q => b9 q.1)).symm | exact (if_neg (fun q => b17 q.2.1)).symm | exact (if_neg (fun q => b24 q.2.2)).symm | (rw [if_pos ⟨inR_nI hv0 (by omega), inR_nI hx0 (by omega), b24⟩, tn_nI (by omega), tn_nI (by omega), hsm, show c = w * h by omega])
          · skip
            refine lv_aload_n hx hb dX6_mean_46 rfl (lv_at hl 0 rfl) ?_
            refine lv_iload_n hx hb dX6_mean_47 rfl (lv_at hl 2 rfl) ?_
            refine lv_iload hx hb dX6_mean_48 (lv_at hl 5 rfl) ?_
            refine xw_i (As := [.int (nI x0), .int (nI c)]) (rest := []) (wr := []) ⟨hx, hb, hml, hown, hts⟩ (c_X6_showersOf l G H.size ko ad w h la tp ft tr mv S mk3 nc nl x0 c (by first | assumption | omega) (by first | assumption | omega) (by first | assumption | omega) (by first | assumption | omega) (by first | assumption | omega) (by first | assumption | omega) (by first | assumption | omega) (by first | assumption | omega) (by first | assumption | omega) (by first | assumption | omega) (by first | assumption | omega) (by first | assumption | omega) (by first | assumption | omega)) (cwV 2 hts gX6_mean_X6_showersOf rfl rfl rfl (by decide +kernel) ⟨Nat.le_of_ble_eq_true rfl, Nat.le_of_ble_eq_true rfl⟩) hK hP hD hS hA [2, 0, 1] [] rfl rfl (by decide) (by decide) (by decide) rfl rfl rfl hl.1 rfl (Nat.le_of_ble_eq_true rfl) dX6_mean_50 ⟨Nat.le_of_ble_eq_true rfl, Nat.le_of_ble_eq_true rfl⟩ (fun r50 u H locs hp50 hP hD hS => ?_)
            obtain ⟨mk2_50, rfl⟩ : ∃ z, z = u := ⟨_, rfl⟩
            try dsimp only at hp50 hP hD
            obtain rfl := hp50
            replace hP : xP G [oC ko 6 [.ref (ad 0), .ref (ad 1), .int (nI w), .int (nI h), .int (nI la), .ref (ad 2), .int (mv 0), .int (mv 1), .int (mv 2), .int (mv 3), .int (mv 4), .int (mv 5), .int (mv 6), .ref (ad 3), .int (nI tp), .int (mv 7), .int (mv 8), .int (mv 9), .int (mv 10), .int ft, .int (mv 11), .ref (ad 4), .ref (ad 5), .ref (ad 6), .ref (ad 7), .ref (ad 8), .ref (ad 9), .ref (ad 10), .int tr], iA G (ad 0) 255 S, iA G (ad 4) 16 mk2_50] H := hP
            replace hD : va_D (va_A (w_X6_mean G ko ad w h la tp ft tr mv S mk) ss.heap.size) [oC ko 6 [.ref (ad 0), .ref (ad 1), .int (nI w), .int (nI h), .int (nI la), .ref (ad 2), .int (mv 0), .int (mv 1), .int (mv 2), .int (mv 3), .int (mv 4), .int (mv 5), .int (mv 6), .ref (ad 3), .int (nI tp), .int (mv 7), .int (mv 8), .int (mv 9), .int (mv 10), .int ft, .int (mv 11), .ref (ad 4), .ref (ad 5), .ref (ad 6), .ref (ad 7), .ref (ad 8), .ref (ad 9), .ref (ad 10), .int tr], iA G (ad 0) 255 S, iA G (ad 4) 16 mk2_50] := hD
            have hcl := cntF_le (fun l => bitB (shM w h S nc l x0) c) nl
            have hpl := Nat.pow_le_pow_left (show v0 ≤ 10 by omega) (cntF (fun l => bitB (shM w h S nc l x0) c) nl)
            refine lv_istore (lv' := [(7, .int (nI (cntF (fun l => bitB (shM w h S nc l x0) c) nl))), (0, .ref ko), (1, .int (nI v0)), (2, .int (nI x0)), (3, .int a), (4, .long (lN sm)), (6, .int (nI c))]) hx hb dX6_mean_53 hl (by decide) rfl (fun ls hl => ?_)
            refine lv_lload hx hb dX6_mean_55 (lv_at hl 5 rfl) ?_
            refine lv_bipush (v := nI 10) hx hb dX6_mean_57 (by decide) ?_
            refine lv_iload hx hb dX6_mean_59 (lv_at hl 0 rfl) ?_
            refine xs_l (As := [.int (nI 10), .int (nI (cntF (fun l => bitB (shM w h S nc l x0) c) nl))]) (rest := [.long (lN sm)]) ⟨hx, hb, hml, hown, hts⟩ (c_X6_power l G 10 (cntF (fun l => bitB (shM w h S nc l x0) c) nl) (by first | assumption | omega) (by first | assumption | omega)) (va_cwS 2 hts gX6_mean_X6_power rfl rfl rfl (by decide +kernel) ⟨Nat.le_of_ble_eq_true rfl, Nat.le_of_ble_eq_true rfl⟩) hP hS rfl hl.1 rfl (Nat.le_of_ble_eq_true rfl) dX6_mean_61 ⟨Nat.zero_le _, Nat.zero_le _⟩ (fun r61 H locs hp61 hP hS => ?_)
            rw [show r61 = _ from hp61]
            refine lv_iload_n hx hb dX6_mean_64 rfl (lv_at hl 2 rfl) ?_
            refine lv_iload hx hb dX6_mean_65 (lv_at hl 0 rfl) ?_
            refine xs_l (As := [.int (nI v0), .int (nI (cntF (fun l => bitB (shM w h S nc l x0) c) nl))]) (rest := [.long (lN (10 ^ (cntF (fun l => bitB (shM w h S nc l x0) c) nl))), .long (lN sm)]) ⟨hx, hb, hml, hown, hts⟩ (c_X6_power l G v0 (cntF (fun l => bitB (shM w h S nc l x0) c) nl) (by first | assumption | omega) (by first | assumption | omega)) (va_cwS 2 hts gX6_mean_X6_power rfl rfl rfl (by decide +kernel) ⟨Nat.le_of_ble_eq_true rfl, Nat.le_of_ble_eq_true rfl⟩) hP hS rfl hl.1 rfl (Nat.le_of_ble_eq_true rfl) dX6_mean_67 ⟨Nat.zero_le _, Nat.zero_le _⟩ (fun r67 H locs hp67 hP hS => ?_)
            rw [show r67 = _ from hp67]
            refine lv_lsub hx hb dX6_mean_70 ?_
            refine xl_top (lN_sub (by omega)) ?_
            refine lv_bipush (v := nI 10) hx hb dX6_mean_71 (by decide) ?_
            refine lv_bipush (v := nI 6) hx hb dX6_mean_73 (by decide) ?_
            refine lv_iload hx hb dX6_mean_75 (lv_at hl 0 rfl) ?_
            refine xn_isub hx hb (by omega) dX6_mean_77 ?_
            refine xs_l (As := [.int (nI 10), .int (nI (6 - (cntF (fun l => bitB (shM w h S nc l x0) c) nl)))]) (rest := [.long (lN ((10 ^ (cntF (fun l => bitB (shM w h S nc l x0) c) nl)) - (v0 ^ (cntF (fun l => bitB (shM w h S nc l x0) c) nl)))), .long (lN sm)]) ⟨hx, hb, hml, hown, hts⟩ (c_X6_power l G 10 (6 - (cntF (fun l => bitB (shM w h S nc l x0) c) nl)) (by first | assumption | omega) (by first | assumption | omega)) (va_cwS 2 hts gX6_mean_X6_power rfl rfl rfl (by decide +kernel) ⟨Nat.le_of_ble_eq_true rfl, Nat.le_of_ble_eq_true rfl⟩) hP hS rfl hl.1 rfl (Nat.le_of_ble_eq_true rfl) dX6_mean_78 ⟨Nat.zero_le _, Nat.zero_le _⟩ (fun r78 H locs hp78 hP hS => ?_)
            rw [show r78 = _ from hp78]
            refine lv_lmul hx hb dX6_mean_81 ?_
            refine xl_top (lN_mul _ _) ?_
            refine lv_ladd hx hb dX6_mean_82 ?_
            refine xl_top (lN_add _ _) ?_
            refine lv_lstore (lv' := [(4, .long (lN (sm + (((10 ^ (cntF (fun l => bitB (shM w h S nc l x0) c) nl)) - (v0 ^ (cntF (fun l => bitB (shM w h S nc l x0) c) nl))) * (10 ^ (6 - (cntF (fun l => bitB (shM w h S nc l x0) c) nl))))))), (7, .int (nI (cntF (fun l => bitB (shM w h S nc l x0) c) nl))), (0, .ref ko), (1, .int (nI v0)), (2, .int (nI x0)), (3, .int a), (6, .int (nI c))]) hx hb dX6_mean_83 hl (by decide) rfl (fun ls hl => ?_)
            refine lv_iinc (k := 6) (v := nI (c + 1)) (lv' := [(6, .int (nI (c + 1))), (4, .long (lN (sm + (((10 ^ (cntF (fun l => bitB (shM w h S nc l x0) c) nl)) - (v0 ^ (cntF (fun l => bitB (shM w h S nc l x0) c) nl))) * (10 ^ (6 - (cntF (fun l => bitB (shM w h S nc l x0) c) nl))))))), (7, .int (nI (cntF (fun l => bitB (shM w h S nc l x0) c) nl))), (0, .ref ko), (1, .int (nI v0)), (2, .int (nI x0)), (3, .int a)]) hx hb dX6_mean_85 hl rfl (xn_inc c 1) (by decide) rfl (fun ls hl => ?_)
            refine lv_goto (tgt := 37) hx hb dX6_mean_88 rfl ?_
            have hl := lv_sub hl (l' := [(0, .ref ko), (1, .int (nI v0)), (2, .int (nI x0)), (3, .int a), (4, .long (lN (sm + (((10 ^ (cntF (fun l => bitB (shM w h S nc l x0) c) nl)) - (v0 ^ (cntF (fun l => bitB (shM w h S nc l x0) c) nl))) * (10 ^ (6 - (cntF (fun l => bitB (shM w h S nc l x0) c) nl))))))), (6, .int (nI (c + 1)))]) [3, 4, 5, 6, 1, 0] rfl
            have hP := hP.sub (ws' := [iA G (ad 0) 255 S, iA G (ad 4) 16 mk2_50, oC ko 6 [.ref (ad 0), .ref (ad 1), .int (nI w), .int (nI h), .int (nI la), .ref (ad 2), .int (mv 0), .int (mv 1), .int (mv 2), .int (mv 3), .int (mv 4), .int (mv 5), .int (mv 6), .ref (ad 3), .int (nI tp), .int (mv 7), .int (mv 8), .int (mv 9), .int (mv 10), .int ft, .int (mv 11), .ref (ad 4), .ref (ad 5), .ref (ad 6), .ref (ad 7), .ref (ad 8), .ref (ad 9), .ref (ad 10), .int tr]]) [1, 2, 0] rfl
            have hD := hD.sub (ws' := [iA G (ad 0) 255 S, iA G (ad 4) 16 mk2_50, oC ko 6 [.ref (ad 0), .ref (ad 1), .int (nI w), .int (nI h), .int (nI la), .ref (ad 2), .int (mv 0), .int (mv 1), .int (mv 2), .int (mv 3), .int (mv 4), .int (mv 5), .int (mv 6), .ref (ad 3), .int (nI tp), .int (mv 7), .int (mv 8), .int (mv 9), .int (mv 10), .int ft, .int (mv 11), .ref (ad 4), .ref (ad 5), .ref (ad 6), .ref (ad 7), .ref (ad 8), .ref (ad 9), .ref (ad 10), .int tr]]) [1, 2, 0] (by decide) rfl
            exact ih37 (w * h - (c + 1)) (by omega) (c + 1) (sm + (((10 ^ (cntF (fun l => bitB (shM w h S nc l x0) c) nl)) - (v0 ^ (cntF (fun l => bitB (shM w h S nc l x0) c) nl))) * (10 ^ (6 - (cntF (fun l => bitB (shM w h S nc l x0) c) nl))))) mk2_50 ls H locs rfl (by omega) (by rw [hsm]; rfl) (by rw [Nat.succ_mul]; have hpm := Nat.mul_le_mul (show 10 ^ (cntF (fun l => bitB (shM w h S nc l x0) c) nl) - v0 ^ (cntF (fun l => bitB (shM w h S nc l x0) c) nl) ≤ 10 ^ (cntF (fun l => bitB (shM w h S nc l x0) c) nl) from Nat.sub_le _ _) (Nat.le_refl (10 ^ (6 - (cntF (fun l => bitB (shM w h S nc l x0) c) nl)))); rw [← Nat.pow_add, show cntF (fun l => bitB (shM w h S nc l x0) c) nl + (6 - (cntF (fun l => bitB (shM w h S nc l x0) c) nl)) = 6 by omega] at hpm; omega) hl hP hD hS
        have hl := lv_sub hl (l' := [(0, .ref ko), (1, .int (nI v0)), (2, .int (nI x0)), (3, .int a), (4, .long (lN 0)), (6, .int (nI 0))]) [2, 3, 4, 5, 1, 0] rfl
        have hP := hP.sub (ws' := [iA G (ad 0) 255 S, iA G (ad 4) 16 mk, oC ko 6 [.ref (ad 0), .ref (ad 1), .int (nI w), .int (nI h), .int (nI la), .ref (ad 2), .int (mv 0), .int (mv 1), .int (mv 2), .int (mv 3), .int (mv 4), .int (mv 5), .int (mv 6), .ref (ad 3), .int (nI tp), .int (mv 7), .int (mv 8), .int (mv 9), .int (mv 10), .int ft, .int (mv 11), .ref (ad 4), .ref (ad 5), .ref (ad 6), .ref (ad 7), .ref (ad 8), .ref (ad 9), .ref (ad 10), .int tr]]) [1, 2, 0] rfl
        have hD := hD.sub (ws' := [iA G (ad 0) 255 S, iA G (ad 4) 16 mk, oC ko 6 [.ref (ad 0), .ref (ad 1), .int (nI w), .int (nI h), .int (nI la), .ref (ad 2), .int (mv 0), .int (mv 1), .int (mv 2), .int (mv 3), .int (mv 4), .int (mv 5), .int (mv 6), .ref (ad 3), .int (nI tp), .int (mv 7), .int (mv 8), .int (mv 9), .int (mv 10), .int ft, .int (mv 11), .ref (ad 4), .ref (ad 5), .ref (ad 6), .ref (ad 7), .ref (ad 8), .ref (ad 9), .ref (ad 10), .int tr]]) [1, 2, 0] (by decide) rfl
        exact hL37 (w * h - 0) 0 0 mk ls H locs rfl (by omega) (by rfl) (by omega) hl hP hD hS
      · skip
        refine lv_ldc2 (v := (-1)) hx hb hown (hts (.constantLong RX6 229 ((-1))) (List.mem_of_getElem? (i := 2) rfl)) dX6_mean_27 ?_
        have hP := hP.sub (ws' := [oC ko 6 [.ref (ad 0), .ref (ad 1), .int (nI w), .int (nI h), .int (nI la), .ref (ad 2), .int (mv 0), .int (mv 1), .int (mv 2), .int (mv 3), .int (mv 4), .int (mv 5), .int (mv 6), .ref (ad 3), .int (nI tp), .int (mv 7), .int (mv 8), .int (mv 9), .int (mv 10), .int ft, .int (mv 11), .ref (ad 4), .ref (ad 5), .ref (ad 6), .ref (ad 7), .ref (ad 8), .ref (ad 9), .ref (ad 10), .int tr], iA G (ad 0) 255 S, iA G (ad 4) 16 mk]) [0, 1, 2] rfl
        have hD := hD.sub (ws' := [oC ko 6 [.ref (ad 0), .ref (ad 1), .int (nI w), .int (nI h), .int (nI la), .ref (ad 2), .int (mv 0), .int (mv 1), .int (mv 2), .int (mv 3), .int (mv 4), .int (mv 5), .int (mv 6), .ref (ad 3), .int (nI tp), .int (mv 7), .int (mv 8), .int (mv 9), .int (mv 10), .int ft, .int (mv 11), .ref (ad 4), .ref (ad 5), .ref (ad 6), .ref (ad 7), .ref (ad 8), .ref (ad 9), .ref (ad 10), .int tr], iA G (ad 0) 255 S, iA G (ad 4) 16 mk]) [0, 1, 2] (by decide) rfl
        refine W.lret (v := (-1)) hx hb hr (fun t ht hW => ⟨⟨(-1), (mk), rfl, ?_, by rw [ht]; exact hP, hD⟩, hS.F ht⟩) hS.2.2 dX6_mean_30
        first | exact (if_neg (fun q => b9 q.1)).symm | exact (if_neg (fun q => b17 q.2.1)).symm | exact (if_neg (fun q => b24 q.2.2)).symm | (rw [if_pos ⟨inR_nI hv0 (by omega), inR_nI hx0 (by omega), b24⟩, tn_nI (by omega), tn_nI (by omega), hsm, show c = w * h by omega])

abbrev w_X6_likely (G : XG) (ko : Nat) (ad : Nat → Nat) (w h la tp : Nat) (ft tr : Int32) (mv : Nat → Int32) (S mk : Nat → Int32) : va_W := [oC ko 6 [.ref (ad 0), .ref (ad 1), .int (nI w), .int (nI h), .int (nI la), .ref (ad 2), .int (mv 0), .int (mv 1), .int (mv 2), .int (mv 3), .int (mv 4), .int (mv 5), .int (mv 6), .ref (ad 3), .int (nI tp), .int (mv 7), .int (mv 8), .int (mv 9), .int (mv 10), .int ft, .int (mv 11), .ref (ad 4), .ref (ad 5), .ref (ad 6), .ref (ad 7), .ref (ad 8), .ref (ad 9), .ref (ad 10), .int tr], iA G (ad 0) 255 S, iA G (ad 4) 16 mk]
abbrev Q_X6_likely (G : XG) (sz : Nat) (ko : Nat) (ad : Nat → Nat) (w h la tp : Nat) (ft tr : Int32) (mv : Nat → Int32) (S mk : Nat → Int32) (nc : Nat) (ns : Nat) (c m a : Int32) : Array Value → State → Outcome → State → Prop := (va_Ql (fun (r : Int64) (u : (Nat → Int32)) => r = (if inR c (w * h) ∧ inR m 6 ∧ inR a 2 then (if dyM w h la S nc ns = 0 then (-4) else (if a = 0 then lN ((cntF (fun d => decide ((dyM w h la S nc ns >>> (nI d &&& 31)) &&& nI 1 = nI 1) && decide (mkM S nc (tn c) d = m)) (la + 1)) / Nat.gcd (cntF (fun k => bitB (dyM w h la S nc ns) k) 16) (cntF (fun d => decide ((dyM w h la S nc ns >>> (nI d &&& 31)) &&& nI 1 = nI 1) && decide (mkM S nc (tn c) d = m)) (la + 1))) else lN ((cntF (fun k => bitB (dyM w h la S nc ns) k) 16) / Nat.gcd (cntF (fun k => bitB (dyM w h la S nc ns) k) 16) (cntF (fun d => decide ((dyM w h la S nc ns >>> (nI d &&& 31)) &&& nI 1 = nI 1) && decide (mkM S nc (tn c) d = m)) (la + 1))))) else (-1))) (xWb G sz (w_X6_likely G ko ad w h la tp ft tr mv S mk) (fun u : (Nat → Int32) => [oC ko 6 [.ref (ad 0), .ref (ad 1), .int (nI w), .int (nI h), .int (nI la), .ref (ad 2), .int (mv 0), .int (mv 1), .int (mv 2), .int (mv 3), .int (mv 4), .int (mv 5), .int (mv 6), .ref (ad 3), .int (nI tp), .int (mv 7), .int (mv 8), .int (mv 9), .int (mv 10), .int ft, .int (mv 11), .ref (ad 4), .ref (ad 5), .ref (ad 6), .ref (ad 7), .ref (ad 8), .ref (ad 9), .ref (ad 10), .int tr], iA G (ad 0) 255 S, iA G (ad 4) 16 u])) (va_A (w_X6_likely G ko ad w h la tp ft tr mv S mk) sz))
set_option maxHeartbeats 4000000 in
set_option maxRecDepth 100000 in
theorem c_X6_likely (l : Launch) (G : XG) (sz : Nat) (ko : Nat) (ad : Nat → Nat) (w h la tp : Nat) (ft tr : Int32) (mv : Nat → Int32) (S mk : Nat → Int32) (nc : Nat) (ns : Nat) (c m a : Int32) (hw : 1 ≤ w) (hwb : w ≤ 16) (hhb : h ≤ 16) (hwh1 : 1 ≤ w * h) (hwh : w * h ≤ 16) (hla : la ≤ 9) (hs16 : S 16 = nI nc) (hnc : nc ≤ 10) (hs60 : S 60 = nI ns) (hns : ns ≤ 8) (hshown : ∀ i, i < ns → inR (S (61 + 3 * i)) (w * h) ∧ inR (S (61 + 3 * i + 1)) (w * h)) : Met l yX6_likely wsX6_likely ({ frames := 6, cells := 0, slots := 0, locals := 135 } : Room) (va_Pc [.ref ko, .int c, .int m, .int a] (xWp G sz (w_X6_likely G ko ad w h la tp ft tr mv S mk))) (Q_X6_likely G sz ko ad w h la tp ft tr mv S mk nc ns c m a) 0 0 (va_A (w_X6_likely G ko ad w h la tp ft tr mv S mk) sz) := by
  refine Met.ofW (cc := cX6_likely) (maxL := 7) (ret := (some .long)) (by decide) rfl ?_
  intro pp ee ss mm aa below mt cd s₁ BB hml hv
  obtain ⟨rfl, hsz, hP, hK, hD0⟩ := hv
  have hx := BB.exec
  have hb := BB.bytes
  have hr := BB.returns
  have hts := atoms_spec (ws := wsX6_likely) BB.pre
  have hown : ss.vm.findClass RX6 = some mm.cls := findClass_of_methodNamed BB.named
  have hlocks := BB.notSynchronized
  subst hsz
  have hD := hD0.self (sz := ss.heap.size)
  have hA : ∀ q : Nat, ss.heap.size ≤ q → va_A (w_X6_likely G ko ad w h la tp ft tr mv S mk) ss.heap.size q := fun q h => Or.inr h
  have hS : va_S (va_A (w_X6_likely G ko ad w h la tp ft tr mv S mk) ss.heap.size) ss.heap ss.heap [] := va_S.rf
  replace hD : va_D (va_A (w_X6_likely G ko ad w h la tp ft tr mv S mk) ss.heap.size) [oC ko 6 [.ref (ad 0), .ref (ad 1), .int (nI w), .int (nI h), .int (nI la), .ref (ad 2), .int (mv 0), .int (mv 1), .int (mv 2), .int (mv 3), .int (mv 4), .int (mv 5), .int (mv 6), .ref (ad 3), .int (nI tp), .int (mv 7), .int (mv 8), .int (mv 9), .int (mv 10), .int ft, .int (mv 11), .ref (ad 4), .ref (ad 5), .ref (ad 6), .ref (ad 7), .ref (ad 8), .ref (ad 9), .ref (ad 10), .int tr], iA G (ad 0) 255 S, iA G (ad 4) 16 mk] := hD
  replace hP : xP G [oC ko 6 [.ref (ad 0), .ref (ad 1), .int (nI w), .int (nI h), .int (nI la), .ref (ad 2), .int (mv 0), .int (mv 1), .int (mv 2), .int (mv 3), .int (mv 4), .int (mv 5), .int (mv 6), .ref (ad 3), .int (nI tp), .int (mv 7), .int (mv 8), .int (mv 9), .int (mv 10), .int ft, .int (mv 11), .ref (ad 4), .ref (ad 5), .ref (ad 6), .ref (ad 7), .ref (ad 8), .ref (ad 9), .ref (ad 10), .int tr], iA G (ad 0) 255 S, iA G (ad 4) 16 mk] ss.heap := hP
  have hin6 : ∀ w ∈ u_ws RX6 TX6 29, w ∈ wsX6_likely := fun w h => List.mem_cons_of_mem _ (List.mem_append_right _ h)
  have hl := lv_entry ([.ref ko, .int c, .int m, .int a]) (n := 7) (Nat.le_of_ble_eq_true rfl)
  rw [lg_entry_eq]
  generalize (lg_sl ([.ref ko, .int c, .int m, .int a]) ++ List.replicate (7 - (lg_sl ([.ref ko, .int c, .int m, .int a])).length) Slot.unset).toArray = ls at hl ⊢
  replace hl : lv_has ls 7 [(0, .ref ko), (1, .int c), (2, .int m), (3, .int a)] := hl
  refine lv_aload_n hx hb dX6_likely_0 rfl (lv_at hl 0 rfl) ?_
  refine lv_iload_n hx hb dX6_likely_1 rfl (lv_at hl 1 rfl) ?_
  refine xr_i (As := [.int c]) (rest := []) ⟨hx, hb, hml, hown, hts⟩ (c_X6_isCell l G ko ad w h la tp ft tr mv c (by first | assumption | omega) (by first | assumption | omega)) (cwV 1 hts gX6_likely_X6_isCell rfl rfl rfl (by decide +kernel) ⟨Nat.le_of_ble_eq_true rfl, Nat.le_of_ble_eq_true rfl⟩) hK hP hS [0] rfl rfl rfl rfl hl.1 rfl (Nat.le_of_ble_eq_true rfl) dX6_likely_2 ⟨Nat.zero_le _, Nat.zero_le _⟩ (fun r2 H locs hp2 hP hS => ?_)
  rw [show r2 = _ from hp2]
  refine xb_if_eq (tgt := 22) hx hb dX6_likely_5 rfl (fun b5 => ?_) (fun b5 => ?_)
  · skip
    refine lv_ldc2 (v := (-1)) hx hb hown (hts (.constantLong RX6 229 ((-1))) (List.mem_of_getElem? (i := 1) rfl)) dX6_likely_22 ?_
    have hP := hP.sub (ws' := [oC ko 6 [.ref (ad 0), .ref (ad 1), .int (nI w), .int (nI h), .int (nI la), .ref (ad 2), .int (mv 0), .int (mv 1), .int (mv 2), .int (mv 3), .int (mv 4), .int (mv 5), .int (mv 6), .ref (ad 3), .int (nI tp), .int (mv 7), .int (mv 8), .int (mv 9), .int (mv 10), .int ft, .int (mv 11), .ref (ad 4), .ref (ad 5), .ref (ad 6), .ref (ad 7), .ref (ad 8), .ref (ad 9), .ref (ad 10), .int tr], iA G (ad 0) 255 S, iA G (ad 4) 16 mk]) [0, 1, 2] rfl
    have hD := hD.sub (ws' := [oC ko 6 [.ref (ad 0), .ref (ad 1), .int (nI w), .int (nI h), .int (nI la), .ref (ad 2), .int (mv 0), .int (mv 1), .int (mv 2), .int (mv 3), .int (mv 4), .int (mv 5), .int (mv 6), .ref (ad 3), .int (nI tp), .int (mv 7), .int (mv 8), .int (mv 9), .int (mv 10), .int ft, .int (mv 11), .ref (ad 4), .ref (ad 5), .ref (ad 6), .ref (ad 7), .ref (ad 8), .ref (ad 9), .ref (ad 10), .int tr], iA G (ad 0) 255 S, iA G (ad 4) 16 mk]) [0, 1, 2] (by decide) rfl
    refine W.lret (v := (-1)) hx hb hr (fun t ht hW => ⟨⟨(-1), (mk), rfl, ?_, by rw [ht]; exact hP, hD⟩, hS.F ht⟩) hS.2.2 dX6_likely_25
    first | exact (if_neg (fun q => b5 q.1)).symm | exact (if_neg (fun q => b12 q.2.1)).symm | exact (if_neg (fun q => b19 q.2.2)).symm | (rw [if_pos ⟨inR_nI hc0 (by omega), b12, b19⟩]; first | exact (if_pos b34).symm | (rw [if_neg b34, tn_nI (by omega), hn, show d = la + 1 by omega]))
  · skip
    refine lv_iload_n hx hb dX6_likely_8 rfl (lv_at hl 2 rfl) ?_
    refine xs_i (As := [.int m]) (rest := []) ⟨hx, hb, hml, hown, hts⟩ (c_X6_isMark l G m ) (va_cwS 1 hts gX6_likely_X6_isMark rfl rfl rfl (by decide +kernel) ⟨Nat.le_of_ble_eq_true rfl, Nat.le_of_ble_eq_true rfl⟩) hP hS rfl hl.1 rfl (Nat.le_of_ble_eq_true rfl) dX6_likely_9 ⟨Nat.zero_le _, Nat.zero_le _⟩ (fun r9 H locs hp9 hP hS => ?_)
    rw [show r9 = _ from hp9]
    refine xb_if_eq (tgt := 22) hx hb dX6_likely_12 rfl (fun b12 => ?_) (fun b12 => ?_)
    · skip
      refine lv_ldc2 (v := (-1)) hx hb hown (hts (.constantLong RX6 229 ((-1))) (List.mem_of_getElem? (i := 1) rfl)) dX6_likely_22 ?_
      have hP := hP.sub (ws' := [oC ko 6 [.ref (ad 0), .ref (ad 1), .int (nI w), .int (nI h), .int (nI la), .ref (ad 2), .int (mv 0), .int (mv 1), .int (mv 2), .int (mv 3), .int (mv 4), .int (mv 5), .int (mv 6), .ref (ad 3), .int (nI tp), .int (mv 7), .int (mv 8), .int (mv 9), .int (mv 10), .int ft, .int (mv 11), .ref (ad 4), .ref (ad 5), .ref (ad 6), .ref (ad 7), .ref (ad 8), .ref (ad 9), .ref (ad 10), .int tr], iA G (ad 0) 255 S, iA G (ad 4) 16 mk]) [0, 1, 2] rfl
      have hD := hD.sub (ws' := [oC ko 6 [.ref (ad 0), .ref (ad 1), .int (nI w), .int (nI h), .int (nI la), .ref (ad 2), .int (mv 0), .int (mv 1), .int (mv 2), .int (mv 3), .int (mv 4), .int (mv 5), .int (mv 6), .ref (ad 3), .int (nI tp), .int (mv 7), .int (mv 8), .int (mv 9), .int (mv 10), .int ft, .int (mv 11), .ref (ad 4), .ref (ad 5), .ref (ad 6), .ref (ad 7), .ref (ad 8), .ref (ad 9), .ref (ad 10), .int tr], iA G (ad 0) 255 S, iA G (ad 4) 16 mk]) [0, 1, 2] (by decide) rfl
      refine W.lret (v := (-1)) hx hb hr (fun t ht hW => ⟨⟨(-1), (mk), rfl, ?_, by rw [ht]; exact hP, hD⟩, hS.F ht⟩) hS.2.2 dX6_likely_25
      first | exact (if_neg (fun q => b5 q.1)).symm | exact (if_neg (fun q => b12 q.2.1)).symm | exact (if_neg (fun q => b19 q.2.2)).symm | (rw [if_pos ⟨inR_nI hc0 (by omega), b12, b19⟩]; first | exact (if_pos b34).symm | (rw [if_neg b34, tn_nI (by omega), hn, show d = la + 1 by omega]))
    · skip
      refine lv_iload_n hx hb dX6_likely_15 rfl (lv_at hl 3 rfl) ?_
      refine xs_i (As := [.int a]) (rest := []) ⟨hx, hb, hml, hown, hts⟩ (c_X6_isPart l G a ) (va_cwS 1 hts gX6_likely_X6_isPart rfl rfl rfl (by decide +kernel) ⟨Nat.le_of_ble_eq_true rfl, Nat.le_of_ble_eq_true rfl⟩) hP hS rfl hl.1 rfl (Nat.le_of_ble_eq_true rfl) dX6_likely_16 ⟨Nat.zero_le _, Nat.zero_le _⟩ (fun r16 H locs hp16 hP hS => ?_)
      rw [show r16 = _ from hp16]
      refine xb_if_ne (tgt := 26) hx hb dX6_likely_19 rfl (fun b19 => ?_) (fun b19 => ?_)
      · skip
        obtain ⟨c0, hc0, rfl⟩ := inR_nat b5
        refine lv_aload_n hx hb dX6_likely_26 rfl (lv_at hl 0 rfl) ?_
        refine xw_i (As := []) (rest := []) (wr := []) ⟨hx, hb, hml, hown, hts⟩ (c_X6_days l G H.size ko ad w h la tp ft tr mv S mk nc ns (by first | assumption | omega) (by first | assumption | omega) (by first | assumption | omega) (by first | assumption | omega) (by first | assumption | omega) (by first | assumption | omega) (by first | assumption | omega) (by first | assumption | omega) (by first | assumption | omega) (by first | assumption | omega) (by first | assumption | omega)) (cwV 0 hts gX6_likely_X6_days rfl rfl rfl (by decide +kernel) ⟨Nat.le_of_ble_eq_true rfl, Nat.le_of_ble_eq_true rfl⟩) hK hP hD hS hA [0, 1, 2] [] rfl rfl (by decide) (by decide) (by decide) rfl rfl rfl hl.1 rfl (Nat.le_of_ble_eq_true rfl) dX6_likely_27 ⟨Nat.le_of_ble_eq_true rfl, Nat.le_of_ble_eq_true rfl⟩ (fun r27 u H locs hp27 hP hD hS => ?_)
        obtain ⟨mk2_27, rfl⟩ : ∃ z, z = u := ⟨_, rfl⟩
        try dsimp only at hp27 hP hD
        obtain rfl := hp27
        replace hP : xP G [oC ko 6 [.ref (ad 0), .ref (ad 1), .int (nI w), .int (nI h), .int (nI la), .ref (ad 2), .int (mv 0), .int (mv 1), .int (mv 2), .int (mv 3), .int (mv 4), .int (mv 5), .int (mv 6), .ref (ad 3), .int (nI tp), .int (mv 7), .int (mv 8), .int (mv 9), .int (mv 10), .int ft, .int (mv 11), .ref (ad 4), .ref (ad 5), .ref (ad 6), .ref (ad 7), .ref (ad 8), .ref (ad 9), .ref (ad 10), .int tr], iA G (ad 0) 255 S, iA G (ad 4) 16 mk2_27] H := hP
        replace hD : va_D (va_A (w_X6_likely G ko ad w h la tp ft tr mv S mk) ss.heap.size) [oC ko 6 [.ref (ad 0), .ref (ad 1), .int (nI w), .int (nI h), .int (nI la), .ref (ad 2), .int (mv 0), .int (mv 1), .int (mv 2), .int (mv 3), .int (mv 4), .int (mv 5), .int (mv 6), .ref (ad 3), .int (nI tp), .int (mv 7), .int (mv 8), .int (mv 9), .int (mv 10), .int ft, .int (mv 11), .ref (ad 4), .ref (ad 5), .ref (ad 6), .ref (ad 7), .ref (ad 8), .ref (ad 9), .ref (ad 10), .int tr], iA G (ad 0) 255 S, iA G (ad 4) 16 mk2_27] := hD
        refine lv_istore (lv' := [(4, .int (dyM w h la S nc ns)), (0, .ref ko), (1, .int (nI c0)), (2, .int m), (3, .int a)]) hx hb dX6_likely_30 hl (by decide) rfl (fun ls hl => ?_)
        refine lv_iload hx hb dX6_likely_32 (lv_at hl 0 rfl) ?_
        refine lv_if_ne (tgt := 41) hx hb dX6_likely_34 rfl (fun b34 => ?_) (fun b34 => ?_)
        · skip
          refine lv_iconst (v := nI 0) hx hb dX6_likely_41 (by decide) ?_
          refine lv_istore (lv' := [(5, .int (nI 0)), (4, .int (dyM w h la S nc ns)), (0, .ref ko), (1, .int (nI c0)), (2, .int m), (3, .int a)]) hx hb dX6_likely_42 hl (by decide) rfl (fun ls hl => ?_)
          refine lv_iconst (v := nI 0) hx hb dX6_likely_44 (by decide) ?_
          refine lv_istore (lv' := [(6, .int (nI 0)), (5, .int (nI 0)), (4, .int (dyM w h la S nc ns)), (0, .ref ko), (1, .int (nI c0)), (2, .int m), (3, .int a)]) hx hb dX6_likely_45 hl (by decide) rfl (fun ls hl => ?_)
          have hL47 : ∀ k : Nat, ∀ (d : Nat) (n : Nat) (ls : Array Slot) (H : Heap) (locs : List Loc), la + 1 - d = k → (d ≤ la + 1) → (n = cntF (fun d => decide ((dyM w h la S nc ns >>> (nI d &&& 31)) &&& nI 1 = nI 1) && decide (mkM S nc c0 d = m)) d) → lv_has ls 7 [(0, .ref ko), (1, .int (nI c0)), (2, .int m), (3, .int a), (4, .int (dyM w h la S nc ns)), (5, .int (nI n)), (6, .int (nI d))] → xP G [iA G (ad 0) 255 S, iA G (ad 4) 16 mk2_27, oC ko 6 [.ref (ad 0), .ref (ad 1), .int (nI w), .int (nI h), .int (nI la), .ref (ad 2), .int (mv 0), .int (mv 1), .int (mv 2), .int (mv 3), .int (mv 4), .int (mv 5), .int (mv 6), .ref (ad 3), .int (nI tp), .int (mv 7), .int (mv 8), .int (mv 9), .int (mv 10), .int ft, .int (mv 11), .ref (ad 4), .ref (ad 5), .ref (ad 6), .ref (ad 7), .ref (ad 8), .ref (ad 9), .ref (ad 10), .int tr]] H → va_D (va_A (w_X6_likely G ko ad w h la tp ft tr mv S mk) ss.heap.size) [iA G (ad 0) 255 S, iA G (ad 4) 16 mk2_27, oC ko 6 [.ref (ad 0), .ref (ad 1), .int (nI w), .int (nI h), .int (nI la), .ref (ad 2), .int (mv 0), .int (mv 1), .int (mv 2), .int (mv 3), .int (mv 4), .int (mv 5), .int (mv 6), .ref (ad 3), .int (nI tp), .int (mv 7), .int (mv 8), .int (mv 9), .int (mv 10), .int ft, .int (mv 11), .ref (ad 4), .ref (ad 5), .ref (ad 6), .ref (ad 7), .ref (ad 8), .ref (ad 9), .ref (ad 10), .int tr]] → va_S (va_A (w_X6_likely G ko ad w h la tp ft tr mv S mk) ss.heap.size) ss.heap H locs → W pp l ee ({ frames := 6, cells := 0, slots := 0, locals := 135 } : Room) ss mm ([.ref ko, .int (nI c0), .int m, .int a] : List Value).toArray below mt cd H locs 0 0 (MQ below (Q_X6_likely G ss.heap.size ko ad w h la tp ft tr mv S mk nc ns (nI c0) m a) ([.ref ko, .int (nI c0), .int m, .int a] : List Value).toArray ss 0 0 (va_A (w_X6_likely G ko ad w h la tp ft tr mv S mk) ss.heap.size)) (F0 mm 47 ls []) := by
            intro k
            induction k using Nat.strongRecOn with
            | _ k ih47 =>
            intro d n ls H locs hm47 hd hn hl hP hD hS
            have hcl := cntF_le (fun d => decide ((dyM w h la S nc ns >>> (nI d &&& 31)) &&& nI 1 = nI 1) && decide (mkM S nc c0 d = m)) d
            refine lv_iload hx hb dX6_likely_47 (lv_at hl 6 rfl) ?_
            refine lv_aload_n hx hb dX6_likely_49 rfl (lv_at hl 0 rfl) ?_
            refine va_get (D := G.1) (ci := 6) (v := .int (nI la)) (C := RX6) (T := TX6) (N := 29) hx hb hts hin6 hown hK.1 hP 2 rfl rfl 4 (by decide) (hts (.fieldLink RX6 78 "BackLensesModel" "last" "I") (List.mem_of_getElem? (i := 3) rfl)) (fun _ h9 => h9) rfl dX6_likely_50 ?_
            refine xn_icmp_gt (tgt := 97) hx hb (by omega) (by omega) dX6_likely_53 rfl (fun b53 => ?_) (fun b53 => ?_)
            · skip
              refine lv_iload hx hb dX6_likely_97 (lv_at hl 5 rfl) ?_
              refine xn_i2l hx hb (by omega) dX6_likely_99 ?_
              refine lv_iload hx hb dX6_likely_100 (lv_at hl 4 rfl) ?_
              refine xs_i (As := [.int (dyM w h la S nc ns)]) (rest := [.long (lN n)]) ⟨hx, hb, hml, hown, hts⟩ (c_X6_bitsOf l G (dyM w h la S nc ns) ) (va_cwS 1 hts gX6_likely_X6_bitsOf rfl rfl rfl (by decide +kernel) ⟨Nat.le_of_ble_eq_true rfl, Nat.le_of_ble_eq_true rfl⟩) hP hS rfl hl.1 rfl (Nat.le_of_ble_eq_true rfl) dX6_likely_102 ⟨Nat.zero_le _, Nat.zero_le _⟩ (fun r102 H locs hp102 hP hS => ?_)
              rw [show r102 = _ from hp102]
              have hpc := xbits_pos (p := fun d => allF (fitM w h S nc d) ns) (n := la + 1) (by omega) b34
              have hpc2 := cntF_le (fun k => bitB (dyM w h la S nc ns) k) 16
              refine xn_top (y := nI (cntF (fun k => bitB (dyM w h la S nc ns) k) 16)) (bcM_cnt _ 16) ?_
              refine xn_i2l hx hb (by omega) dX6_likely_105 ?_
              refine lv_iload_n hx hb dX6_likely_106 rfl (lv_at hl 3 rfl) ?_
              refine xs_l (As := [.long (lN n), .long (lN (cntF (fun k => bitB (dyM w h la S nc ns) k) 16)), .int a]) (rest := []) ⟨hx, hb, hml, hown, hts⟩ (c_X6_told l G n (cntF (fun k => bitB (dyM w h la S nc ns) k) 16) a (by first | assumption | omega) (by first | assumption | omega) (by first | assumption | omega)) (va_cwS 3 hts gX6_likely_X6_told rfl rfl rfl (by decide +kernel) ⟨Nat.le_of_ble_eq_true rfl, Nat.le_of_ble_eq_true rfl⟩) hP hS rfl hl.1 rfl (Nat.le_of_ble_eq_true rfl) dX6_likely_107 ⟨Nat.zero_le _, Nat.zero_le _⟩ (fun r107 H locs hp107 hP hS => ?_)
              rw [show r107 = _ from hp107]
              have hP := hP.sub (ws' := [oC ko 6 [.ref (ad 0), .ref (ad 1), .int (nI w), .int (nI h), .int (nI la), .ref (ad 2), .int (mv 0), .int (mv 1), .int (mv 2), .int (mv 3), .int (mv 4), .int (mv 5), .int (mv 6), .ref (ad 3), .int (nI tp), .int (mv 7), .int (mv 8), .int (mv 9), .int (mv 10), .int ft, .int (mv 11), .ref (ad 4), .ref (ad 5), .ref (ad 6), .ref (ad 7), .ref (ad 8), .ref (ad 9), .ref (ad 10), .int tr], iA G (ad 0) 255 S, iA G (ad 4) 16 mk2_27]) [2, 0, 1] rfl
              have hD := hD.sub (ws' := [oC ko 6 [.ref (ad 0), .ref (ad 1), .int (nI w), .int (nI h), .int (nI la), .ref (ad 2), .int (mv 0), .int (mv 1), .int (mv 2), .int (mv 3), .int (mv 4), .int (mv 5), .int (mv 6), .ref (ad 3), .int (nI tp), .int (mv 7), .int (mv 8), .int (mv 9), .int (mv 10), .int ft, .int (mv 11), .ref (ad 4), .ref (ad 5), .ref (ad 6), .ref (ad 7), .ref (ad 8), .ref (ad 9), .ref (ad 10), .int tr], iA G (ad 0) 255 S, iA G (ad 4) 16 mk2_27]) [2, 0, 1] (by decide) rfl
              refine W.lret (v := (if a = 0 then lN (n / Nat.gcd (cntF (fun k => bitB (dyM w h la S nc ns) k) 16) n) else lN ((cntF (fun k => bitB (dyM w h la S nc ns) k) 16) / Nat.gcd (cntF (fun k => bitB (dyM w h la S nc ns) k) 16) n))) hx hb hr (fun t ht hW => ⟨⟨(if a = 0 then lN (n / Nat.gcd (cntF (fun k => bitB (dyM w h la S nc ns) k) 16) n) else lN ((cntF (fun k => bitB (dyM w h la S nc ns) k) 16) / Nat.gcd (cntF (fun k => bitB (dyM w h la S nc ns) k) 16) n)), (mk2_27), rfl, ?_, by rw [ht]; exact hP, hD⟩, hS.F ht⟩) hS.2.2 dX6_likely_110
              first | exact (if_neg (fun q => b5 q.1)).symm | exact (if_neg (fun q => b12 q.2.1)).symm | exact (if_neg (fun q => b19 q.2.2)).symm | (rw [if_pos ⟨inR_nI hc0 (by omega), b12, b19⟩]; first | exact (if_pos b34).symm | (rw [if_neg b34, tn_nI (by omega), hn, show d = la + 1 by omega]))
            · skip
              refine lv_iload hx hb dX6_likely_56 (lv_at hl 5 rfl) ?_
              refine lv_iload hx hb dX6_likely_58 (lv_at hl 4 rfl) ?_
              refine lv_iload hx hb dX6_likely_60 (lv_at hl 6 rfl) ?_
              refine lv_ishr hx hb dX6_likely_62 ?_
              refine lv_iconst (v := nI 1) hx hb dX6_likely_63 (by decide) ?_
              refine lv_iand hx hb dX6_likely_64 ?_
              refine lv_iconst (v := nI 1) hx hb dX6_likely_65 (by decide) ?_
              refine lv_icmp_ne (tgt := 84) hx hb dX6_likely_66 rfl (fun b66 => ?_) (fun b66 => ?_)
              · skip
                refine lv_iconst (v := nI 0) hx hb dX6_likely_84 (by decide) ?_
                refine xs_i (As := [.int (nI 0)]) (rest := [.int (nI n)]) ⟨hx, hb, hml, hown, hts⟩ (c_X6_flag_0 l G) (va_cwS 1 hts gX6_likely_X6_flag rfl rfl rfl (by decide +kernel) ⟨Nat.le_of_ble_eq_true rfl, Nat.le_of_ble_eq_true rfl⟩) hP hS rfl hl.1 rfl (Nat.le_of_ble_eq_true rfl) dX6_likely_85 ⟨Nat.zero_le _, Nat.zero_le _⟩ (fun r85 H locs hp85 hP hS => ?_)
                rw [show r85 = _ from hp85]
                refine xn_iadd hx hb dX6_likely_88 ?_
                refine lv_istore (lv' := [(5, .int (nI (n + 0))), (0, .ref ko), (1, .int (nI c0)), (2, .int m), (3, .int a), (4, .int (dyM w h la S nc ns)), (6, .int (nI d))]) hx hb dX6_likely_89 hl (by decide) rfl (fun ls hl => ?_)
                refine lv_iinc (k := 6) (v := nI (d + 1)) (lv' := [(6, .int (nI (d + 1))), (5, .int (nI (n + 0))), (0, .ref ko), (1, .int (nI c0)), (2, .int m), (3, .int a), (4, .int (dyM w h la S nc ns))]) hx hb dX6_likely_91 hl rfl (xn_inc d 1) (by decide) rfl (fun ls hl => ?_)
                refine lv_goto (tgt := 47) hx hb dX6_likely_94 rfl ?_
                have hl := lv_sub hl (l' := [(0, .ref ko), (1, .int (nI c0)), (2, .int m), (3, .int a), (4, .int (dyM w h la S nc ns)), (5, .int (nI (n + 0))), (6, .int (nI (d + 1)))]) [2, 3, 4, 5, 6, 1, 0] rfl
                exact ih47 (la + 1 - (d + 1)) (by omega) (d + 1) (n + 0) ls H locs rfl (by omega) (by first | exact cntF_N (by simp only [decide_eq_false b66, Bool.false_and]) hn | exact cntF_N (by simp only [decide_eq_false b77, Bool.and_false]) hn | exact cntF_T (by simp only [decide_eq_true b66, decide_eq_true b77]; rfl) hn) hl hP hD hS
              · skip
                refine lv_aload_n hx hb dX6_likely_69 rfl (lv_at hl 0 rfl) ?_
                refine lv_iload_n hx hb dX6_likely_70 rfl (lv_at hl 1 rfl) ?_
                refine lv_iload hx hb dX6_likely_71 (lv_at hl 6 rfl) ?_
                refine xr_i (As := [.int (nI c0), .int (nI d)]) (rest := [.int (nI n)]) ⟨hx, hb, hml, hown, hts⟩ (c_X6_markOf l G ko ad w h la tp ft tr mv S nc c0 d (by first | assumption | omega) (by first | assumption | omega) (by first | assumption | omega) (by first | assumption | omega)) (cwV 2 hts gX6_likely_X6_markOf rfl rfl rfl (by decide +kernel) ⟨Nat.le_of_ble_eq_true rfl, Nat.le_of_ble_eq_true rfl⟩) hK hP hS [2, 0] rfl rfl rfl rfl hl.1 rfl (Nat.le_of_ble_eq_true rfl) dX6_likely_73 ⟨Nat.zero_le _, Nat.zero_le _⟩ (fun r73 H locs hp73 hP hS => ?_)
                rw [show r73 = _ from hp73]
                refine lv_iload_n hx hb dX6_likely_76 rfl (lv_at hl 2 rfl) ?_
                refine lv_icmp_ne (tgt := 84) hx hb dX6_likely_77 rfl (fun b77 => ?_) (fun b77 => ?_)
                · skip
                  refine lv_iconst (v := nI 0) hx hb dX6_likely_84 (by decide) ?_
                  refine xs_i (As := [.int (nI 0)]) (rest := [.int (nI n)]) ⟨hx, hb, hml, hown, hts⟩ (c_X6_flag_0 l G) (va_cwS 1 hts gX6_likely_X6_flag rfl rfl rfl (by decide +kernel) ⟨Nat.le_of_ble_eq_true rfl, Nat.le_of_ble_eq_true rfl⟩) hP hS rfl hl.1 rfl (Nat.le_of_ble_eq_true rfl) dX6_likely_85 ⟨Nat.zero_le _, Nat.zero_le _⟩ (fun r85 H locs hp85 hP hS => ?_)
                  rw [show r85 = _ from hp85]
                  refine xn_iadd hx hb dX6_likely_88 ?_
                  refine lv_istore (lv' := [(5, .int (nI (n + 0))), (0, .ref ko), (1, .int (nI c0)), (2, .int m), (3, .int a), (4, .int (dyM w h la S nc ns)), (6, .int (nI d))]) hx hb dX6_likely_89 hl (by decide) rfl (fun ls hl => ?_)
                  refine lv_iinc (k := 6) (v := nI (d + 1)) (lv' := [(6, .int (nI (d + 1))), (5, .int (nI (n + 0))), (0, .ref ko), (1, .int (nI c0)), (2, .int m), (3, .int a), (4, .int (dyM w h la S nc ns))]) hx hb dX6_likely_91 hl rfl (xn_inc d 1) (by decide) rfl (fun ls hl => ?_)
                  refine lv_goto (tgt := 47) hx hb dX6_likely_94 rfl ?_
                  have hl := lv_sub hl (l' := [(0, .ref ko), (1, .int (nI c0)), (2, .int m), (3, .int a), (4, .int (dyM w h la S nc ns)), (5, .int (nI (n + 0))), (6, .int (nI (d + 1)))]) [2, 3, 4, 5, 6, 1, 0] rfl
                  exact ih47 (la + 1 - (d + 1)) (by omega) (d + 1) (n + 0) ls H locs rfl (by omega) (by first | exact cntF_N (by simp only [decide_eq_false b66, Bool.false_and]) hn | exact cntF_N (by simp only [decide_eq_false b77, Bool.and_false]) hn | exact cntF_T (by simp only [decide_eq_true b66, decide_eq_true b77]; rfl) hn) hl hP hD hS
                · skip
                  refine lv_iconst (v := nI 1) hx hb dX6_likely_80 (by decide) ?_
                  refine lv_goto (tgt := 85) hx hb dX6_likely_81 rfl ?_
                  refine xs_i (As := [.int (nI 1)]) (rest := [.int (nI n)]) ⟨hx, hb, hml, hown, hts⟩ (c_X6_flag_1 l G) (va_cwS 1 hts gX6_likely_X6_flag rfl rfl rfl (by decide +kernel) ⟨Nat.le_of_ble_eq_true rfl, Nat.le_of_ble_eq_true rfl⟩) hP hS rfl hl.1 rfl (Nat.le_of_ble_eq_true rfl) dX6_likely_85 ⟨Nat.zero_le _, Nat.zero_le _⟩ (fun r85 H locs hp85 hP hS => ?_)
                  rw [show r85 = _ from hp85]
                  refine xn_iadd hx hb dX6_likely_88 ?_
                  refine lv_istore (lv' := [(5, .int (nI (n + 1))), (0, .ref ko), (1, .int (nI c0)), (2, .int m), (3, .int a), (4, .int (dyM w h la S nc ns)), (6, .int (nI d))]) hx hb dX6_likely_89 hl (by decide) rfl (fun ls hl => ?_)
                  refine lv_iinc (k := 6) (v := nI (d + 1)) (lv' := [(6, .int (nI (d + 1))), (5, .int (nI (n + 1))), (0, .ref ko), (1, .int (nI c0)), (2, .int m), (3, .int a), (4, .int (dyM w h la S nc ns))]) hx hb dX6_likely_91 hl rfl (xn_inc d 1) (by decide) rfl (fun ls hl => ?_)
                  refine lv_goto (tgt := 47) hx hb dX6_likely_94 rfl ?_
                  have hl := lv_sub hl (l' := [(0, .ref ko), (1, .int (nI c0)), (2, .int m), (3, .int a), (4, .int (dyM w h la S nc ns)), (5, .int (nI (n + 1))), (6, .int (nI (d + 1)))]) [2, 3, 4, 5, 6, 1, 0] rfl
                  exact ih47 (la + 1 - (d + 1)) (by omega) (d + 1) (n + 1) ls H locs rfl (by omega) (by first | exact cntF_N (by simp only [decide_eq_false b66, Bool.false_and]) hn | exact cntF_N (by simp only [decide_eq_false b77, Bool.and_false]) hn | exact cntF_T (by simp only [decide_eq_true b66, decide_eq_true b77]; rfl) hn) hl hP hD hS
          have hl := lv_sub hl (l' := [(0, .ref ko), (1, .int (nI c0)), (2, .int m), (3, .int a), (4, .int (dyM w h la S nc ns)), (5, .int (nI 0)), (6, .int (nI 0))]) [3, 4, 5, 6, 2, 1, 0] rfl
          have hP := hP.sub (ws' := [iA G (ad 0) 255 S, iA G (ad 4) 16 mk2_27, oC ko 6 [.ref (ad 0), .ref (ad 1), .int (nI w), .int (nI h), .int (nI la), .ref (ad 2), .int (mv 0), .int (mv 1), .int (mv 2), .int (mv 3), .int (mv 4), .int (mv 5), .int (mv 6), .ref (ad 3), .int (nI tp), .int (mv 7), .int (mv 8), .int (mv 9), .int (mv 10), .int ft, .int (mv 11), .ref (ad 4), .ref (ad 5), .ref (ad 6), .ref (ad 7), .ref (ad 8), .ref (ad 9), .ref (ad 10), .int tr]]) [1, 2, 0] rfl
          have hD := hD.sub (ws' := [iA G (ad 0) 255 S, iA G (ad 4) 16 mk2_27, oC ko 6 [.ref (ad 0), .ref (ad 1), .int (nI w), .int (nI h), .int (nI la), .ref (ad 2), .int (mv 0), .int (mv 1), .int (mv 2), .int (mv 3), .int (mv 4), .int (mv 5), .int (mv 6), .ref (ad 3), .int (nI tp), .int (mv 7), .int (mv 8), .int (mv 9), .int (mv 10), .int ft, .int (mv 11), .ref (ad 4), .ref (ad 5), .ref (ad 6), .ref (ad 7), .ref (ad 8), .ref (ad 9), .ref (ad 10), .int tr]]) [1, 2, 0] (by decide) rfl
          exact hL47 (la + 1 - 0) 0 0 ls H locs rfl (by omega) (by rfl) hl hP hD hS
        · skip
          refine lv_ldc2 (v := (-4)) hx hb hown (hts (.constantLong RX6 231 ((-4))) (List.mem_of_getElem? (i := 2) rfl)) dX6_likely_37 ?_
          have hP := hP.sub (ws' := [oC ko 6 [.ref (ad 0), .ref (ad 1), .int (nI w), .int (nI h), .int (nI la), .ref (ad 2), .int (mv 0), .int (mv 1), .int (mv 2), .int (mv 3), .int (mv 4), .int (mv 5), .int (mv 6), .ref (ad 3), .int (nI tp), .int (mv 7), .int (mv 8), .int (mv 9), .int (mv 10), .int ft, .int (mv 11), .ref (ad 4), .ref (ad 5), .ref (ad 6), .ref (ad 7), .ref (ad 8), .ref (ad 9), .ref (ad 10), .int tr], iA G (ad 0) 255 S, iA G (ad 4) 16 mk2_27]) [0, 1, 2] rfl
          have hD := hD.sub (ws' := [oC ko 6 [.ref (ad 0), .ref (ad 1), .int (nI w), .int (nI h), .int (nI la), .ref (ad 2), .int (mv 0), .int (mv 1), .int (mv 2), .int (mv 3), .int (mv 4), .int (mv 5), .int (mv 6), .ref (ad 3), .int (nI tp), .int (mv 7), .int (mv 8), .int (mv 9), .int (mv 10), .int ft, .int (mv 11), .ref (ad 4), .ref (ad 5), .ref (ad 6), .ref (ad 7), .ref (ad 8), .ref (ad 9), .ref (ad 10), .int tr], iA G (ad 0) 255 S, iA G (ad 4) 16 mk2_27]) [0, 1, 2] (by decide) rfl
          refine W.lret (v := (-4)) hx hb hr (fun t ht hW => ⟨⟨(-4), (mk2_27), rfl, ?_, by rw [ht]; exact hP, hD⟩, hS.F ht⟩) hS.2.2 dX6_likely_40
          first | exact (if_neg (fun q => b5 q.1)).symm | exact (if_neg (fun q => b12 q.2.1)).symm | exact (if_neg (fun q => b19 q.2.2)).symm | (rw [if_pos ⟨inR_nI hc0 (by omega), b12, b19⟩]; first | exact (if_pos b34).symm | (rw [if_neg b34, tn_nI (by omega), hn, show d = la + 1 by omega]))
      · skip
        refine lv_ldc2 (v := (-1)) hx hb hown (hts (.constantLong RX6 229 ((-1))) (List.mem_of_getElem? (i := 1) rfl)) dX6_likely_22 ?_
        have hP := hP.sub (ws' := [oC ko 6 [.ref (ad 0), .ref (ad 1), .int (nI w), .int (nI h), .int (nI la), .ref (ad 2), .int (mv 0), .int (mv 1), .int (mv 2), .int (mv 3), .int (mv 4), .int (mv 5), .int (mv 6), .ref (ad 3), .int (nI tp), .int (mv 7), .int (mv 8), .int (mv 9), .int (mv 10), .int ft, .int (mv 11), .ref (ad 4), .ref (ad 5), .ref (ad 6), .ref (ad 7), .ref (ad 8), .ref (ad 9), .ref (ad 10), .int tr], iA G (ad 0) 255 S, iA G (ad 4) 16 mk]) [0, 1, 2] rfl
        have hD := hD.sub (ws' := [oC ko 6 [.ref (ad 0), .ref (ad 1), .int (nI w), .int (nI h), .int (nI la), .ref (ad 2), .int (mv 0), .int (mv 1), .int (mv 2), .int (mv 3), .int (mv 4), .int (mv 5), .int (mv 6), .ref (ad 3), .int (nI tp), .int (mv 7), .int (mv 8), .int (mv 9), .int (mv 10), .int ft, .int (mv 11), .ref (ad 4), .ref (ad 5), .ref (ad 6), .ref (ad 7), .ref (ad 8), .ref (ad 9), .ref (ad 10), .int tr], iA G (ad 0) 255 S, iA G (ad 4) 16 mk]) [0, 1, 2] (by decide) rfl
        refine W.lret (v := (-1)) hx hb hr (fun t ht hW => ⟨⟨(-1), (mk), rfl, ?_, by rw [ht]; exact hP, hD⟩, hS.F ht⟩) hS.2.2 dX6_likely_25
        first | exact (if_neg (fun q => b5 q.1)).symm | exact (if_neg (fun q => b12 q.2.1)).symm | exact (if_neg (fun q => b19 q.2.2)).symm | (rw [if_pos ⟨inR_nI hc0 (by omega), b12, b19⟩]; first | exact (if_pos b34).symm | (rw [if_neg b34, tn_nI (by omega), hn, show d = la + 1 by omega]))

abbrev w_X6_could (G : XG) (ko : Nat) (ad : Nat → Nat) (w h la tp : Nat) (ft tr : Int32) (mv : Nat → Int32) (S mk : Nat → Int32) : va_W := [oC ko 6 [.ref (ad 0), .ref (ad 1), .int (nI w), .int (nI h), .int (nI la), .ref (ad 2), .int (mv 0), .int (mv 1), .int (mv 2), .int (mv 3), .int (mv 4), .int (mv 5), .int (mv 6), .ref (ad 3), .int (nI tp), .int (mv 7), .int (mv 8), .int (mv 9), .int (mv 10), .int ft, .int (mv 11), .ref (ad 4), .ref (ad 5), .ref (ad 6), .ref (ad 7), .ref (ad 8), .ref (ad 9), .ref (ad 10), .int tr], iA G (ad 0) 255 S, iA G (ad 4) 16 mk]
abbrev Q_X6_could (G : XG) (sz : Nat) (ko : Nat) (ad : Nat → Nat) (w h la tp : Nat) (ft tr : Int32) (mv : Nat → Int32) (S mk : Nat → Int32) (nc : Nat) (nl ns : Nat) : Array Value → State → Outcome → State → Prop := (va_Qi (fun (r : Int32) (u : (Nat → Int32)) => r = orF (fun l => ((dyM w h la S nc ns >>> (S (48 + 2 * l) &&& 31)) &&& nI 1) <<< (nI l &&& 31)) nl) (xWb G sz (w_X6_could G ko ad w h la tp ft tr mv S mk) (fun u : (Nat → Int32) => [oC ko 6 [.ref (ad 0), .ref (ad 1), .int (nI w), .int (nI h), .int (nI la), .ref (ad 2), .int (mv 0), .int (mv 1), .int (mv 2), .int (mv 3), .int (mv 4), .int (mv 5), .int (mv 6), .ref (ad 3), .int (nI tp), .int (mv 7), .int (mv 8), .int (mv 9), .int (mv 10), .int ft, .int (mv 11), .ref (ad 4), .ref (ad 5), .ref (ad 6), .ref (ad 7), .ref (ad 8), .ref (ad 9), .ref (ad 10), .int tr], iA G (ad 0) 255 S, iA G (ad 4) 16 u])) (va_A (w_X6_could G ko ad w h la tp ft tr mv S mk) sz))
set_option maxHeartbeats 4000000 in
set_option maxRecDepth 100000 in
theorem c_X6_could (l : Launch) (G : XG) (sz : Nat) (ko : Nat) (ad : Nat → Nat) (w h la tp : Nat) (ft tr : Int32) (mv : Nat → Int32) (S mk : Nat → Int32) (nc : Nat) (nl ns : Nat) (hw : 1 ≤ w) (hwb : w ≤ 16) (hhb : h ≤ 16) (hwh1 : 1 ≤ w * h) (hwh : w * h ≤ 16) (hla : la ≤ 9) (hs16 : S 16 = nI nc) (hnc : nc ≤ 10) (hs47 : S 47 = nI nl) (hnl : nl ≤ 6) (hs60 : S 60 = nI ns) (hns : ns ≤ 8) (hshown : ∀ i, i < ns → inR (S (61 + 3 * i)) (w * h) ∧ inR (S (61 + 3 * i + 1)) (w * h)) : Met l yX6_could wsX6_could ({ frames := 6, cells := 0, slots := 0, locals := 135 } : Room) (va_Pc [.ref ko] (xWp G sz (w_X6_could G ko ad w h la tp ft tr mv S mk))) (Q_X6_could G sz ko ad w h la tp ft tr mv S mk nc nl ns) 0 0 (va_A (w_X6_could G ko ad w h la tp ft tr mv S mk) sz) := by
  refine Met.ofW (cc := cX6_could) (maxL := 3) (ret := (some .int)) (by decide) rfl ?_
  intro pp ee ss mm aa below mt cd s₁ BB hml hv
  obtain ⟨rfl, hsz, hP, hK, hD0⟩ := hv
  have hx := BB.exec
  have hb := BB.bytes
  have hr := BB.returns
  have hts := atoms_spec (ws := wsX6_could) BB.pre
  have hown : ss.vm.findClass RX6 = some mm.cls := findClass_of_methodNamed BB.named
  have hlocks := BB.notSynchronized
  subst hsz
  have hD := hD0.self (sz := ss.heap.size)
  have hA : ∀ q : Nat, ss.heap.size ≤ q → va_A (w_X6_could G ko ad w h la tp ft tr mv S mk) ss.heap.size q := fun q h => Or.inr h
  have hS : va_S (va_A (w_X6_could G ko ad w h la tp ft tr mv S mk) ss.heap.size) ss.heap ss.heap [] := va_S.rf
  replace hD : va_D (va_A (w_X6_could G ko ad w h la tp ft tr mv S mk) ss.heap.size) [oC ko 6 [.ref (ad 0), .ref (ad 1), .int (nI w), .int (nI h), .int (nI la), .ref (ad 2), .int (mv 0), .int (mv 1), .int (mv 2), .int (mv 3), .int (mv 4), .int (mv 5), .int (mv 6), .ref (ad 3), .int (nI tp), .int (mv 7), .int (mv 8), .int (mv 9), .int (mv 10), .int ft, .int (mv 11), .ref (ad 4), .ref (ad 5), .ref (ad 6), .ref (ad 7), .ref (ad 8), .ref (ad 9), .ref (ad 10), .int tr], iA G (ad 0) 255 S, iA G (ad 4) 16 mk] := hD
  replace hP : xP G [oC ko 6 [.ref (ad 0), .ref (ad 1), .int (nI w), .int (nI h), .int (nI la), .ref (ad 2), .int (mv 0), .int (mv 1), .int (mv 2), .int (mv 3), .int (mv 4), .int (mv 5), .int (mv 6), .ref (ad 3), .int (nI tp), .int (mv 7), .int (mv 8), .int (mv 9), .int (mv 10), .int ft, .int (mv 11), .ref (ad 4), .ref (ad 5), .ref (ad 6), .ref (ad 7), .ref (ad 8), .ref (ad 9), .ref (ad 10), .int tr], iA G (ad 0) 255 S, iA G (ad 4) 16 mk] ss.heap := hP
  have hin6 : ∀ w ∈ u_ws RX6 TX6 29, w ∈ wsX6_could := fun w h => List.mem_cons_of_mem _ (List.mem_append_right _ h)
  have hl := lv_entry ([.ref ko]) (n := 3) (Nat.le_of_ble_eq_true rfl)
  rw [lg_entry_eq]
  generalize (lg_sl ([.ref ko]) ++ List.replicate (3 - (lg_sl ([.ref ko])).length) Slot.unset).toArray = ls at hl ⊢
  replace hl : lv_has ls 3 [(0, .ref ko)] := hl
  refine lv_iconst (v := nI 0) hx hb dX6_could_0 (by decide) ?_
  refine lv_istore_n (lv' := [(1, .int (nI 0)), (0, .ref ko)]) hx hb dX6_could_1 rfl hl (by decide) rfl (fun ls hl => ?_)
  refine lv_iconst (v := nI 0) hx hb dX6_could_2 (by decide) ?_
  refine lv_istore_n (lv' := [(2, .int (nI 0)), (1, .int (nI 0)), (0, .ref ko)]) hx hb dX6_could_3 rfl hl (by decide) rfl (fun ls hl => ?_)
  have hL4 : ∀ k : Nat, ∀ (i : Nat) (bits : Int32) (mk3 : Nat → Int32) (ls : Array Slot) (H : Heap) (locs : List Loc), nl - i = k → (i ≤ nl) → (bits = orF (fun l => ((dyM w h la S nc ns >>> (S (48 + 2 * l) &&& 31)) &&& nI 1) <<< (nI l &&& 31)) i) → lv_has ls 3 [(0, .ref ko), (1, .int bits), (2, .int (nI i))] → xP G [iA G (ad 0) 255 S, iA G (ad 4) 16 mk3, oC ko 6 [.ref (ad 0), .ref (ad 1), .int (nI w), .int (nI h), .int (nI la), .ref (ad 2), .int (mv 0), .int (mv 1), .int (mv 2), .int (mv 3), .int (mv 4), .int (mv 5), .int (mv 6), .ref (ad 3), .int (nI tp), .int (mv 7), .int (mv 8), .int (mv 9), .int (mv 10), .int ft, .int (mv 11), .ref (ad 4), .ref (ad 5), .ref (ad 6), .ref (ad 7), .ref (ad 8), .ref (ad 9), .ref (ad 10), .int tr]] H → va_D (va_A (w_X6_could G ko ad w h la tp ft tr mv S mk) ss.heap.size) [iA G (ad 0) 255 S, iA G (ad 4) 16 mk3, oC ko 6 [.ref (ad 0), .ref (ad 1), .int (nI w), .int (nI h), .int (nI la), .ref (ad 2), .int (mv 0), .int (mv 1), .int (mv 2), .int (mv 3), .int (mv 4), .int (mv 5), .int (mv 6), .ref (ad 3), .int (nI tp), .int (mv 7), .int (mv 8), .int (mv 9), .int (mv 10), .int ft, .int (mv 11), .ref (ad 4), .ref (ad 5), .ref (ad 6), .ref (ad 7), .ref (ad 8), .ref (ad 9), .ref (ad 10), .int tr]] → va_S (va_A (w_X6_could G ko ad w h la tp ft tr mv S mk) ss.heap.size) ss.heap H locs → W pp l ee ({ frames := 6, cells := 0, slots := 0, locals := 135 } : Room) ss mm ([.ref ko] : List Value).toArray below mt cd H locs 0 0 (MQ below (Q_X6_could G ss.heap.size ko ad w h la tp ft tr mv S mk nc nl ns) ([.ref ko] : List Value).toArray ss 0 0 (va_A (w_X6_could G ko ad w h la tp ft tr mv S mk) ss.heap.size)) (F0 mm 4 ls []) := by
    intro k
    induction k using Nat.strongRecOn with
    | _ k ih4 =>
    intro i bits mk3 ls H locs hm4 hi hbits hl hP hD hS
    refine lv_iload_n hx hb dX6_could_4 rfl (lv_at hl 2 rfl) ?_
    refine lv_aload_n hx hb dX6_could_5 rfl (lv_at hl 0 rfl) ?_
    refine va_get (D := G.1) (ci := 6) (v := .ref (ad 0)) (C := RX6) (T := TX6) (N := 29) hx hb hts hin6 hown hK.1 hP 2 rfl rfl 0 (by decide) (hts (.fieldLink RX6 7 "BackLensesModel" "st" "[I") (List.mem_of_getElem? (i := 1) rfl)) (fun _ h9 => h9) rfl dX6_could_6 ?_
    refine lv_bipush (v := nI 47) hx hb dX6_could_9 (by decide) ?_
    refine xn_iald hx hb hK hP 0 rfl (by omega) (by omega) dX6_could_11 ?_
    refine xn_top (y := nI nl) (by exact hs47) ?_
    refine xn_icmp_ge (tgt := 44) hx hb (by omega) (by omega) dX6_could_12 rfl (fun b12 => ?_) (fun b12 => ?_)
    · skip
      refine lv_iload_n hx hb dX6_could_44 rfl (lv_at hl 1 rfl) ?_
      have hP := hP.sub (ws' := [oC ko 6 [.ref (ad 0), .ref (ad 1), .int (nI w), .int (nI h), .int (nI la), .ref (ad 2), .int (mv 0), .int (mv 1), .int (mv 2), .int (mv 3), .int (mv 4), .int (mv 5), .int (mv 6), .ref (ad 3), .int (nI tp), .int (mv 7), .int (mv 8), .int (mv 9), .int (mv 10), .int ft, .int (mv 11), .ref (ad 4), .ref (ad 5), .ref (ad 6), .ref (ad 7), .ref (ad 8), .ref (ad 9), .ref (ad 10), .int tr], iA G (ad 0) 255 S, iA G (ad 4) 16 mk3]) [2, 0, 1] rfl
      have hD := hD.sub (ws' := [oC ko 6 [.ref (ad 0), .ref (ad 1), .int (nI w), .int (nI h), .int (nI la), .ref (ad 2), .int (mv 0), .int (mv 1), .int (mv 2), .int (mv 3), .int (mv 4), .int (mv 5), .int (mv 6), .ref (ad 3), .int (nI tp), .int (mv 7), .int (mv 8), .int (mv 9), .int (mv 10), .int ft, .int (mv 11), .ref (ad 4), .ref (ad 5), .ref (ad 6), .ref (ad 7), .ref (ad 8), .ref (ad 9), .ref (ad 10), .int tr], iA G (ad 0) 255 S, iA G (ad 4) 16 mk3]) [2, 0, 1] (by decide) rfl
      refine W.iret (v := bits) hx hb hr (fun t ht hW => ⟨⟨bits, (mk3), rfl, ?_, by rw [ht]; exact hP, hD⟩, hS.F ht⟩) hS.2.2 dX6_could_45
      rw [hbits, show i = nl by omega]
    · skip
      refine lv_iload_n hx hb dX6_could_15 rfl (lv_at hl 1 rfl) ?_
      refine lv_aload_n hx hb dX6_could_16 rfl (lv_at hl 0 rfl) ?_
      refine xw_i (As := []) (rest := [.int bits]) (wr := []) ⟨hx, hb, hml, hown, hts⟩ (c_X6_days l G H.size ko ad w h la tp ft tr mv S mk3 nc ns (by first | assumption | omega) (by first | assumption | omega) (by first | assumption | omega) (by first | assumption | omega) (by first | assumption | omega) (by first | assumption | omega) (by first | assumption | omega) (by first | assumption | omega) (by first | assumption | omega) (by first | assumption | omega) (by first | assumption | omega)) (cwV 0 hts gX6_could_X6_days rfl rfl rfl (by decide +kernel) ⟨Nat.le_of_ble_eq_true rfl, Nat.le_of_ble_eq_true rfl⟩) hK hP hD hS hA [2, 0, 1] [] rfl rfl (by decide) (by decide) (by decide) rfl rfl rfl hl.1 rfl (Nat.le_of_ble_eq_true rfl) dX6_could_17 ⟨Nat.le_of_ble_eq_true rfl, Nat.le_of_ble_eq_true rfl⟩ (fun r17 u H locs hp17 hP hD hS => ?_)
      obtain ⟨mk2_17, rfl⟩ : ∃ z, z = u := ⟨_, rfl⟩
      try dsimp only at hp17 hP hD
      obtain rfl := hp17
      replace hP : xP G [oC ko 6 [.ref (ad 0), .ref (ad 1), .int (nI w), .int (nI h), .int (nI la), .ref (ad 2), .int (mv 0), .int (mv 1), .int (mv 2), .int (mv 3), .int (mv 4), .int (mv 5), .int (mv 6), .ref (ad 3), .int (nI tp), .int (mv 7), .int (mv 8), .int (mv 9), .int (mv 10), .int ft, .int (mv 11), .ref (ad 4), .ref (ad 5), .ref (ad 6), .ref (ad 7), .ref (ad 8), .ref (ad 9), .ref (ad 10), .int tr], iA G (ad 0) 255 S, iA G (ad 4) 16 mk2_17] H := hP
      replace hD : va_D (va_A (w_X6_could G ko ad w h la tp ft tr mv S mk) ss.heap.size) [oC ko 6 [.ref (ad 0), .ref (ad 1), .int (nI w), .int (nI h), .int (nI la), .ref (ad 2), .int (mv 0), .int (mv 1), .int (mv 2), .int (mv 3), .int (mv 4), .int (mv 5), .int (mv 6), .ref (ad 3), .int (nI tp), .int (mv 7), .int (mv 8), .int (mv 9), .int (mv 10), .int ft, .int (mv 11), .ref (ad 4), .ref (ad 5), .ref (ad 6), .ref (ad 7), .ref (ad 8), .ref (ad 9), .ref (ad 10), .int tr], iA G (ad 0) 255 S, iA G (ad 4) 16 mk2_17] := hD
      refine lv_aload_n hx hb dX6_could_20 rfl (lv_at hl 0 rfl) ?_
      refine va_get (D := G.1) (ci := 6) (v := .ref (ad 0)) (C := RX6) (T := TX6) (N := 29) hx hb hts hin6 hown hK.1 hP 0 rfl rfl 0 (by decide) (hts (.fieldLink RX6 7 "BackLensesModel" "st" "[I") (List.mem_of_getElem? (i := 1) rfl)) (fun _ h9 => h9) rfl dX6_could_21 ?_
      refine lv_bipush (v := nI 48) hx hb dX6_could_24 (by decide) ?_
      refine lv_iconst (v := nI 2) hx hb dX6_could_26 (by decide) ?_
      refine lv_iload_n hx hb dX6_could_27 rfl (lv_at hl 2 rfl) ?_
      refine xn_imul hx hb dX6_could_28 ?_
      refine xn_iadd hx hb dX6_could_29 ?_
      refine xn_iald hx hb hK hP 1 rfl (by omega) (by omega) dX6_could_30 ?_
      refine lv_ishr hx hb dX6_could_31 ?_
      refine lv_iconst (v := nI 1) hx hb dX6_could_32 (by decide) ?_
      refine lv_iand hx hb dX6_could_33 ?_
      refine lv_iload_n hx hb dX6_could_34 rfl (lv_at hl 2 rfl) ?_
      refine lv_ishl hx hb dX6_could_35 ?_
      refine lv_ior hx hb dX6_could_36 ?_
      refine lv_istore_n (lv' := [(1, .int (bits ||| ((((dyM w h la S nc ns) >>> ((S (48 + (2 * i))) &&& 31)) &&& (nI 1)) <<< ((nI i) &&& 31)))), (0, .ref ko), (2, .int (nI i))]) hx hb dX6_could_37 rfl hl (by decide) rfl (fun ls hl => ?_)
      refine lv_iinc (k := 2) (v := nI (i + 1)) (lv' := [(2, .int (nI (i + 1))), (1, .int (bits ||| ((((dyM w h la S nc ns) >>> ((S (48 + (2 * i))) &&& 31)) &&& (nI 1)) <<< ((nI i) &&& 31)))), (0, .ref ko)]) hx hb dX6_could_38 hl rfl (xn_inc i 1) (by decide) rfl (fun ls hl => ?_)
      refine lv_goto (tgt := 4) hx hb dX6_could_41 rfl ?_
      have hl := lv_sub hl (l' := [(0, .ref ko), (1, .int (bits ||| ((((dyM w h la S nc ns) >>> ((S (48 + (2 * i))) &&& 31)) &&& (nI 1)) <<< ((nI i) &&& 31)))), (2, .int (nI (i + 1)))]) [2, 1, 0] rfl
      have hP := hP.sub (ws' := [iA G (ad 0) 255 S, iA G (ad 4) 16 mk2_17, oC ko 6 [.ref (ad 0), .ref (ad 1), .int (nI w), .int (nI h), .int (nI la), .ref (ad 2), .int (mv 0), .int (mv 1), .int (mv 2), .int (mv 3), .int (mv 4), .int (mv 5), .int (mv 6), .ref (ad 3), .int (nI tp), .int (mv 7), .int (mv 8), .int (mv 9), .int (mv 10), .int ft, .int (mv 11), .ref (ad 4), .ref (ad 5), .ref (ad 6), .ref (ad 7), .ref (ad 8), .ref (ad 9), .ref (ad 10), .int tr]]) [1, 2, 0] rfl
      have hD := hD.sub (ws' := [iA G (ad 0) 255 S, iA G (ad 4) 16 mk2_17, oC ko 6 [.ref (ad 0), .ref (ad 1), .int (nI w), .int (nI h), .int (nI la), .ref (ad 2), .int (mv 0), .int (mv 1), .int (mv 2), .int (mv 3), .int (mv 4), .int (mv 5), .int (mv 6), .ref (ad 3), .int (nI tp), .int (mv 7), .int (mv 8), .int (mv 9), .int (mv 10), .int ft, .int (mv 11), .ref (ad 4), .ref (ad 5), .ref (ad 6), .ref (ad 7), .ref (ad 8), .ref (ad 9), .ref (ad 10), .int tr]]) [1, 2, 0] (by decide) rfl
      exact ih4 (nl - (i + 1)) (by omega) (i + 1) (bits ||| ((((dyM w h la S nc ns) >>> ((S (48 + (2 * i))) &&& 31)) &&& (nI 1)) <<< ((nI i) &&& 31))) mk2_17 ls H locs rfl (by omega) (by rw [hbits]; rfl) hl hP hD hS
  have hl := lv_sub hl (l' := [(0, .ref ko), (1, .int (nI 0)), (2, .int (nI 0))]) [2, 1, 0] rfl
  have hP := hP.sub (ws' := [iA G (ad 0) 255 S, iA G (ad 4) 16 mk, oC ko 6 [.ref (ad 0), .ref (ad 1), .int (nI w), .int (nI h), .int (nI la), .ref (ad 2), .int (mv 0), .int (mv 1), .int (mv 2), .int (mv 3), .int (mv 4), .int (mv 5), .int (mv 6), .ref (ad 3), .int (nI tp), .int (mv 7), .int (mv 8), .int (mv 9), .int (mv 10), .int ft, .int (mv 11), .ref (ad 4), .ref (ad 5), .ref (ad 6), .ref (ad 7), .ref (ad 8), .ref (ad 9), .ref (ad 10), .int tr]]) [1, 2, 0] rfl
  have hD := hD.sub (ws' := [iA G (ad 0) 255 S, iA G (ad 4) 16 mk, oC ko 6 [.ref (ad 0), .ref (ad 1), .int (nI w), .int (nI h), .int (nI la), .ref (ad 2), .int (mv 0), .int (mv 1), .int (mv 2), .int (mv 3), .int (mv 4), .int (mv 5), .int (mv 6), .ref (ad 3), .int (nI tp), .int (mv 7), .int (mv 8), .int (mv 9), .int (mv 10), .int ft, .int (mv 11), .ref (ad 4), .ref (ad 5), .ref (ad 6), .ref (ad 7), .ref (ad 8), .ref (ad 9), .ref (ad 10), .int tr]]) [1, 2, 0] (by decide) rfl
  exact hL4 (nl - 0) 0 (nI 0) mk ls ss.heap [] rfl (by omega) (by rfl) hl hP hD hS

abbrev w_X6_findViews (G : XG) (ko : Nat) (ad : Nat → Nat) (w h la tp : Nat) (ft tr : Int32) (mv : Nat → Int32) (S mk : Nat → Int32) (vs : Nat → Int32) : va_W := [oC ko 6 [.ref (ad 0), .ref (ad 1), .int (nI w), .int (nI h), .int (nI la), .ref (ad 2), .int (mv 0), .int (mv 1), .int (mv 2), .int (mv 3), .int (mv 4), .int (mv 5), .int (mv 6), .ref (ad 3), .int (nI tp), .int (mv 7), .int (mv 8), .int (mv 9), .int (mv 10), .int ft, .int (mv 11), .ref (ad 4), .ref (ad 5), .ref (ad 6), .ref (ad 7), .ref (ad 8), .ref (ad 9), .ref (ad 10), .int tr], iA G (ad 0) 255 S, iA G (ad 4) 16 mk, iA G (ad 6) 160 vs]
abbrev Q_X6_findViews (G : XG) (sz : Nat) (ko : Nat) (ad : Nat → Nat) (w h la tp : Nat) (ft tr : Int32) (mv : Nat → Int32) (S mk : Nat → Int32) (nc : Nat) (vs : Nat → Int32) : Array Value → State → Outcome → State → Prop := (va_Qv (fun (u : (Nat → Int32) × (Nat → Int32)) => (∀ d2 x, d2 < la + 1 → x < w * h → u.2 (16 * d2 + x) = sgM w h S nc x d2)) (xWb G sz (w_X6_findViews G ko ad w h la tp ft tr mv S mk vs) (fun u : (Nat → Int32) × (Nat → Int32) => [oC ko 6 [.ref (ad 0), .ref (ad 1), .int (nI w), .int (nI h), .int (nI la), .ref (ad 2), .int (mv 0), .int (mv 1), .int (mv 2), .int (mv 3), .int (mv 4), .int (mv 5), .int (mv 6), .ref (ad 3), .int (nI tp), .int (mv 7), .int (mv 8), .int (mv 9), .int (mv 10), .int ft, .int (mv 11), .ref (ad 4), .ref (ad 5), .ref (ad 6), .ref (ad 7), .ref (ad 8), .ref (ad 9), .ref (ad 10), .int tr], iA G (ad 0) 255 S, iA G (ad 4) 16 u.1, iA G (ad 6) 160 u.2])) (va_A (w_X6_findViews G ko ad w h la tp ft tr mv S mk vs) sz))
set_option maxHeartbeats 4000000 in
set_option maxRecDepth 100000 in
theorem c_X6_findViews (l : Launch) (G : XG) (sz : Nat) (ko : Nat) (ad : Nat → Nat) (w h la tp : Nat) (ft tr : Int32) (mv : Nat → Int32) (S mk : Nat → Int32) (nc : Nat) (vs : Nat → Int32) (hw : 1 ≤ w) (hwb : w ≤ 16) (hhb : h ≤ 16) (hwh1 : 1 ≤ w * h) (hwh : w * h ≤ 16) (hla : la ≤ 9) (hs16 : S 16 = nI nc) (hnc : nc ≤ 10) : Met l yX6_findViews wsX6_findViews ({ frames := 3, cells := 0, slots := 0, locals := 67 } : Room) (va_Pc [.ref ko] (xWp G sz (w_X6_findViews G ko ad w h la tp ft tr mv S mk vs))) (Q_X6_findViews G sz ko ad w h la tp ft tr mv S mk nc vs) 0 0 (va_A (w_X6_findViews G ko ad w h la tp ft tr mv S mk vs) sz) := by
  refine Met.ofW (cc := cX6_findViews) (maxL := 3) (ret := none) (by decide) rfl ?_
  intro pp ee ss mm aa below mt cd s₁ BB hml hv
  obtain ⟨rfl, hsz, hP, hK, hD0⟩ := hv
  have hx := BB.exec
  have hb := BB.bytes
  have hr := BB.returns
  have hts := atoms_spec (ws := wsX6_findViews) BB.pre
  have hown : ss.vm.findClass RX6 = some mm.cls := findClass_of_methodNamed BB.named
  have hlocks := BB.notSynchronized
  subst hsz
  have hD := hD0.self (sz := ss.heap.size)
  have hA : ∀ q : Nat, ss.heap.size ≤ q → va_A (w_X6_findViews G ko ad w h la tp ft tr mv S mk vs) ss.heap.size q := fun q h => Or.inr h
  have hS : va_S (va_A (w_X6_findViews G ko ad w h la tp ft tr mv S mk vs) ss.heap.size) ss.heap ss.heap [] := va_S.rf
  replace hD : va_D (va_A (w_X6_findViews G ko ad w h la tp ft tr mv S mk vs) ss.heap.size) [oC ko 6 [.ref (ad 0), .ref (ad 1), .int (nI w), .int (nI h), .int (nI la), .ref (ad 2), .int (mv 0), .int (mv 1), .int (mv 2), .int (mv 3), .int (mv 4), .int (mv 5), .int (mv 6), .ref (ad 3), .int (nI tp), .int (mv 7), .int (mv 8), .int (mv 9), .int (mv 10), .int ft, .int (mv 11), .ref (ad 4), .ref (ad 5), .ref (ad 6), .ref (ad 7), .ref (ad 8), .ref (ad 9), .ref (ad 10), .int tr], iA G (ad 0) 255 S, iA G (ad 4) 16 mk, iA G (ad 6) 160 vs] := hD
  replace hP : xP G [oC ko 6 [.ref (ad 0), .ref (ad 1), .int (nI w), .int (nI h), .int (nI la), .ref (ad 2), .int (mv 0), .int (mv 1), .int (mv 2), .int (mv 3), .int (mv 4), .int (mv 5), .int (mv 6), .ref (ad 3), .int (nI tp), .int (mv 7), .int (mv 8), .int (mv 9), .int (mv 10), .int ft, .int (mv 11), .ref (ad 4), .ref (ad 5), .ref (ad 6), .ref (ad 7), .ref (ad 8), .ref (ad 9), .ref (ad 10), .int tr], iA G (ad 0) 255 S, iA G (ad 4) 16 mk, iA G (ad 6) 160 vs] ss.heap := hP
  have hin6 : ∀ w ∈ u_ws RX6 TX6 29, w ∈ wsX6_findViews := fun w h => List.mem_cons_of_mem _ (List.mem_append_right _ h)
  have hl := lv_entry ([.ref ko]) (n := 3) (Nat.le_of_ble_eq_true rfl)
  rw [lg_entry_eq]
  generalize (lg_sl ([.ref ko]) ++ List.replicate (3 - (lg_sl ([.ref ko])).length) Slot.unset).toArray = ls at hl ⊢
  replace hl : lv_has ls 3 [(0, .ref ko)] := hl
  refine lv_iconst (v := nI 0) hx hb dX6_findViews_0 (by decide) ?_
  refine lv_istore_n (lv' := [(1, .int (nI 0)), (0, .ref ko)]) hx hb dX6_findViews_1 rfl hl (by decide) rfl (fun ls hl => ?_)
  have hL2 : ∀ k : Nat, ∀ (d : Nat) (mk3 : Nat → Int32) (vs3 : Nat → Int32) (ls : Array Slot) (H : Heap) (locs : List Loc), la + 1 - d = k → (d ≤ la + 1) → (∀ d2 x, d2 < d → x < w * h → vs3 (16 * d2 + x) = sgM w h S nc x d2) → lv_has ls 3 [(0, .ref ko), (1, .int (nI d))] → xP G [iA G (ad 0) 255 S, iA G (ad 4) 16 mk3, iA G (ad 6) 160 vs3, oC ko 6 [.ref (ad 0), .ref (ad 1), .int (nI w), .int (nI h), .int (nI la), .ref (ad 2), .int (mv 0), .int (mv 1), .int (mv 2), .int (mv 3), .int (mv 4), .int (mv 5), .int (mv 6), .ref (ad 3), .int (nI tp), .int (mv 7), .int (mv 8), .int (mv 9), .int (mv 10), .int ft, .int (mv 11), .ref (ad 4), .ref (ad 5), .ref (ad 6), .ref (ad 7), .ref (ad 8), .ref (ad 9), .ref (ad 10), .int tr]] H → va_D (va_A (w_X6_findViews G ko ad w h la tp ft tr mv S mk vs) ss.heap.size) [iA G (ad 0) 255 S, iA G (ad 4) 16 mk3, iA G (ad 6) 160 vs3, oC ko 6 [.ref (ad 0), .ref (ad 1), .int (nI w), .int (nI h), .int (nI la), .ref (ad 2), .int (mv 0), .int (mv 1), .int (mv 2), .int (mv 3), .int (mv 4), .int (mv 5), .int (mv 6), .ref (ad 3), .int (nI tp), .int (mv 7), .int (mv 8), .int (mv 9), .int (mv 10), .int ft, .int (mv 11), .ref (ad 4), .ref (ad 5), .ref (ad 6), .ref (ad 7), .ref (ad 8), .ref (ad 9), .ref (ad 10), .int tr]] → va_S (va_A (w_X6_findViews G ko ad w h la tp ft tr mv S mk vs) ss.heap.size) ss.heap H locs → W pp l ee ({ frames := 3, cells := 0, slots := 0, locals := 67 } : Room) ss mm ([.ref ko] : List Value).toArray below mt cd H locs 0 0 (MQ below (Q_X6_findViews G ss.heap.size ko ad w h la tp ft tr mv S mk nc vs) ([.ref ko] : List Value).toArray ss 0 0 (va_A (w_X6_findViews G ko ad w h la tp ft tr mv S mk vs) ss.heap.size)) (F0 mm 2 ls []) := by
    intro k
    induction k using Nat.strongRecOn with
    | _ k ih2 =>
    intro d mk3 vs3 ls H locs hm2 hd hvs hl hP hD hS
    refine lv_iload_n hx hb dX6_findViews_2 rfl (lv_at hl 1 rfl) ?_
    refine lv_aload_n hx hb dX6_findViews_3 rfl (lv_at hl 0 rfl) ?_
    refine va_get (D := G.1) (ci := 6) (v := .int (nI la)) (C := RX6) (T := TX6) (N := 29) hx hb hts hin6 hown hK.1 hP 3 rfl rfl 4 (by decide) (hts (.fieldLink RX6 78 "BackLensesModel" "last" "I") (List.mem_of_getElem? (i := 1) rfl)) (fun _ h9 => h9) rfl dX6_findViews_4 ?_
    refine xn_icmp_gt (tgt := 53) hx hb (by omega) (by omega) dX6_findViews_7 rfl (fun b7 => ?_) (fun b7 => ?_)
    · skip
      have hP := hP.sub (ws' := [oC ko 6 [.ref (ad 0), .ref (ad 1), .int (nI w), .int (nI h), .int (nI la), .ref (ad 2), .int (mv 0), .int (mv 1), .int (mv 2), .int (mv 3), .int (mv 4), .int (mv 5), .int (mv 6), .ref (ad 3), .int (nI tp), .int (mv 7), .int (mv 8), .int (mv 9), .int (mv 10), .int ft, .int (mv 11), .ref (ad 4), .ref (ad 5), .ref (ad 6), .ref (ad 7), .ref (ad 8), .ref (ad 9), .ref (ad 10), .int tr], iA G (ad 0) 255 S, iA G (ad 4) 16 mk3, iA G (ad 6) 160 vs3]) [3, 0, 1, 2] rfl
      have hD := hD.sub (ws' := [oC ko 6 [.ref (ad 0), .ref (ad 1), .int (nI w), .int (nI h), .int (nI la), .ref (ad 2), .int (mv 0), .int (mv 1), .int (mv 2), .int (mv 3), .int (mv 4), .int (mv 5), .int (mv 6), .ref (ad 3), .int (nI tp), .int (mv 7), .int (mv 8), .int (mv 9), .int (mv 10), .int ft, .int (mv 11), .ref (ad 4), .ref (ad 5), .ref (ad 6), .ref (ad 7), .ref (ad 8), .ref (ad 9), .ref (ad 10), .int tr], iA G (ad 0) 255 S, iA G (ad 4) 16 mk3, iA G (ad 6) 160 vs3]) [3, 0, 1, 2] (by decide) rfl
      refine W.vret hx hb hr (fun t ht hW => ⟨⟨(mk3, vs3), rfl, ?_, by rw [ht]; exact hP, hD⟩, hS.F ht⟩) hS.2.2 dX6_findViews_53
      try dsimp only
      intro d2 x2 q1 q2; exact hvs d2 x2 (by omega) q2
    · skip
      refine lv_aload_n hx hb dX6_findViews_10 rfl (lv_at hl 0 rfl) ?_
      refine lv_iload_n hx hb dX6_findViews_11 rfl (lv_at hl 1 rfl) ?_
      refine xw_v (As := [.int (nI d)]) (rest := []) (wr := [iA G (ad 6) 160 vs3]) ⟨hx, hb, hml, hown, hts⟩ (c_X6_shiftTo l G H.size ko ad w h la tp ft tr mv S mk3 nc d (by first | assumption | omega) (by first | assumption | omega) (by first | assumption | omega)) (cwV 1 hts gX6_findViews_X6_shiftTo rfl rfl rfl (by decide +kernel) ⟨Nat.le_of_ble_eq_true rfl, Nat.le_of_ble_eq_true rfl⟩) hK hP hD hS hA [3, 0, 1] [2] rfl rfl (by decide) (by decide) (by decide) rfl rfl rfl hl.1 rfl (Nat.le_of_ble_eq_true rfl) dX6_findViews_12 ⟨Nat.le_of_ble_eq_true rfl, Nat.le_of_ble_eq_true rfl⟩ (fun u H locs hp12 hP hD hS => ?_)
      obtain ⟨mk2_12, rfl⟩ : ∃ z, z = u := ⟨_, rfl⟩
      try dsimp only at hp12 hP hD
      have he12 := hp12
      replace hP : xP G [iA G (ad 6) 160 vs3, oC ko 6 [.ref (ad 0), .ref (ad 1), .int (nI w), .int (nI h), .int (nI la), .ref (ad 2), .int (mv 0), .int (mv 1), .int (mv 2), .int (mv 3), .int (mv 4), .int (mv 5), .int (mv 6), .ref (ad 3), .int (nI tp), .int (mv 7), .int (mv 8), .int (mv 9), .int (mv 10), .int ft, .int (mv 11), .ref (ad 4), .ref (ad 5), .ref (ad 6), .ref (ad 7), .ref (ad 8), .ref (ad 9), .ref (ad 10), .int tr], iA G (ad 0) 255 S, iA G (ad 4) 16 mk2_12] H := hP
      replace hD : va_D (va_A (w_X6_findViews G ko ad w h la tp ft tr mv S mk vs) ss.heap.size) [iA G (ad 6) 160 vs3, oC ko 6 [.ref (ad 0), .ref (ad 1), .int (nI w), .int (nI h), .int (nI la), .ref (ad 2), .int (mv 0), .int (mv 1), .int (mv 2), .int (mv 3), .int (mv 4), .int (mv 5), .int (mv 6), .ref (ad 3), .int (nI tp), .int (mv 7), .int (mv 8), .int (mv 9), .int (mv 10), .int ft, .int (mv 11), .ref (ad 4), .ref (ad 5), .ref (ad 6), .ref (ad 7), .ref (ad 8), .ref (ad 9), .ref (ad 10), .int tr], iA G (ad 0) 255 S, iA G (ad 4) 16 mk2_12] := hD
      refine lv_iconst (v := nI 0) hx hb dX6_findViews_15 (by decide) ?_
      refine lv_istore_n (lv' := [(2, .int (nI 0)), (0, .ref ko), (1, .int (nI d))]) hx hb dX6_findViews_16 rfl hl (by decide) rfl (fun ls hl => ?_)
      have hL17 : ∀ k : Nat, ∀ (x : Nat) (vs4 : Nat → Int32) (ls : Array Slot) (H : Heap) (locs : List Loc), w * h - x = k → (x ≤ w * h) → (∀ d2 x, d2 < d → x < w * h → vs4 (16 * d2 + x) = sgM w h S nc x d2) → (∀ x2, x2 < x → vs4 (16 * d + x2) = sgM w h S nc x2 d) → lv_has ls 3 [(0, .ref ko), (1, .int (nI d)), (2, .int (nI x))] → xP G [iA G (ad 0) 255 S, iA G (ad 4) 16 mk2_12, iA G (ad 6) 160 vs4, oC ko 6 [.ref (ad 0), .ref (ad 1), .int (nI w), .int (nI h), .int (nI la), .ref (ad 2), .int (mv 0), .int (mv 1), .int (mv 2), .int (mv 3), .int (mv 4), .int (mv 5), .int (mv 6), .ref (ad 3), .int (nI tp), .int (mv 7), .int (mv 8), .int (mv 9), .int (mv 10), .int ft, .int (mv 11), .ref (ad 4), .ref (ad 5), .ref (ad 6), .ref (ad 7), .ref (ad 8), .ref (ad 9), .ref (ad 10), .int tr]] H → va_D (va_A (w_X6_findViews G ko ad w h la tp ft tr mv S mk vs) ss.heap.size) [iA G (ad 0) 255 S, iA G (ad 4) 16 mk2_12, iA G (ad 6) 160 vs4, oC ko 6 [.ref (ad 0), .ref (ad 1), .int (nI w), .int (nI h), .int (nI la), .ref (ad 2), .int (mv 0), .int (mv 1), .int (mv 2), .int (mv 3), .int (mv 4), .int (mv 5), .int (mv 6), .ref (ad 3), .int (nI tp), .int (mv 7), .int (mv 8), .int (mv 9), .int (mv 10), .int ft, .int (mv 11), .ref (ad 4), .ref (ad 5), .ref (ad 6), .ref (ad 7), .ref (ad 8), .ref (ad 9), .ref (ad 10), .int tr]] → va_S (va_A (w_X6_findViews G ko ad w h la tp ft tr mv S mk vs) ss.heap.size) ss.heap H locs → W pp l ee ({ frames := 3, cells := 0, slots := 0, locals := 67 } : Room) ss mm ([.ref ko] : List Value).toArray below mt cd H locs 0 0 (MQ below (Q_X6_findViews G ss.heap.size ko ad w h la tp ft tr mv S mk nc vs) ([.ref ko] : List Value).toArray ss 0 0 (va_A (w_X6_findViews G ko ad w h la tp ft tr mv S mk vs) ss.heap.size)) (F0 mm 17 ls []) := by
        intro k
        induction k using Nat.strongRecOn with
        | _ k ih17 =>
        intro x vs4 ls H locs hm17 hxi hvs4 hrow hl hP hD hS
        refine lv_iload_n hx hb dX6_findViews_17 rfl (lv_at hl 2 rfl) ?_
        refine lv_aload_n hx hb dX6_findViews_18 rfl (lv_at hl 0 rfl) ?_
        refine xr_i (As := []) (rest := [.int (nI x)]) ⟨hx, hb, hml, hown, hts⟩ (c_X6_cellsNow l G ko ad w h la tp ft tr mv ) (cwV 0 hts gX6_findViews_X6_cellsNow rfl rfl rfl (by decide +kernel) ⟨Nat.le_of_ble_eq_true rfl, Nat.le_of_ble_eq_true rfl⟩) hK hP hS [3] rfl rfl rfl rfl hl.1 rfl (Nat.le_of_ble_eq_true rfl) dX6_findViews_19 ⟨Nat.zero_le _, Nat.zero_le _⟩ (fun r19 H locs hp19 hP hS => ?_)
        rw [show r19 = _ from hp19]
        refine xn_icmp_ge (tgt := 47) hx hb (by omega) (by omega) dX6_findViews_22 rfl (fun b22 => ?_) (fun b22 => ?_)
        · skip
          refine lv_iinc (k := 1) (v := nI (d + 1)) (lv' := [(1, .int (nI (d + 1))), (0, .ref ko), (2, .int (nI x))]) hx hb dX6_findViews_47 hl rfl (xn_inc d 1) (by decide) rfl (fun ls hl => ?_)
          refine lv_goto (tgt := 2) hx hb dX6_findViews_50 rfl ?_
          have hl := lv_sub hl (l' := [(0, .ref ko), (1, .int (nI (d + 1)))]) [1, 0] rfl
          exact ih2 (la + 1 - (d + 1)) (by omega) (d + 1) mk2_12 vs4 ls H locs rfl (by omega) (by intro d2 x2 q1 q2; by_cases q3 : d2 = d; (subst q3; exact hrow x2 (by omega)); exact hvs4 d2 x2 (by omega) q2) hl hP hD hS
        · skip
          refine lv_aload_n hx hb dX6_findViews_25 rfl (lv_at hl 0 rfl) ?_
          refine va_get (D := G.1) (ci := 6) (v := .ref (ad 6)) (C := RX6) (T := TX6) (N := 29) hx hb hts hin6 hown hK.1 hP 3 rfl rfl 23 (by decide) (hts (.fieldLink RX6 29 "BackLensesModel" "views" "[I") (List.mem_of_getElem? (i := 2) rfl)) (fun _ h9 => h9) rfl dX6_findViews_26 ?_
          refine lv_bipush (v := nI 16) hx hb dX6_findViews_29 (by decide) ?_
          refine lv_iload_n hx hb dX6_findViews_31 rfl (lv_at hl 1 rfl) ?_
          refine xn_imul hx hb dX6_findViews_32 ?_
          refine lv_iload_n hx hb dX6_findViews_33 rfl (lv_at hl 2 rfl) ?_
          refine xn_iadd hx hb dX6_findViews_34 ?_
          refine lv_aload_n hx hb dX6_findViews_35 rfl (lv_at hl 0 rfl) ?_
          refine lv_iload_n hx hb dX6_findViews_36 rfl (lv_at hl 2 rfl) ?_
          refine xr_i (As := [.int (nI x)]) (rest := [.int (nI ((16 * d) + x)), .ref (ad 6)]) ⟨hx, hb, hml, hown, hts⟩ (c_X6_sight l G ko ad w h la tp ft tr mv mk2_12 x (by first | assumption | omega) (by first | assumption | omega) (by first | assumption | omega) (by first | assumption | omega) (by first | assumption | omega)) (cwV 1 hts gX6_findViews_X6_sight rfl rfl rfl (by decide +kernel) ⟨Nat.le_of_ble_eq_true rfl, Nat.le_of_ble_eq_true rfl⟩) hK hP hS [3, 1] rfl rfl rfl rfl hl.1 rfl (Nat.le_of_ble_eq_true rfl) dX6_findViews_37 ⟨Nat.zero_le _, Nat.zero_le _⟩ (fun r37 H locs hp37 hP hS => ?_)
          rw [show r37 = _ from hp37]
          refine xn_iast hx hb hK hP hD hS 2 rfl (by omega) (by omega) dX6_findViews_40 (fun H locs hP hD hS => ?_)
          replace hP : xP G [iA G (ad 0) 255 S, iA G (ad 4) 16 mk2_12, iA G (ad 6) 160 (upd vs4 ((16 * d) + x) (sgF w h mk2_12 x)), oC ko 6 [.ref (ad 0), .ref (ad 1), .int (nI w), .int (nI h), .int (nI la), .ref (ad 2), .int (mv 0), .int (mv 1), .int (mv 2), .int (mv 3), .int (mv 4), .int (mv 5), .int (mv 6), .ref (ad 3), .int (nI tp), .int (mv 7), .int (mv 8), .int (mv 9), .int (mv 10), .int ft, .int (mv 11), .ref (ad 4), .ref (ad 5), .ref (ad 6), .ref (ad 7), .ref (ad 8), .ref (ad 9), .ref (ad 10), .int tr]] H := hP
          replace hD : va_D (va_A (w_X6_findViews G ko ad w h la tp ft tr mv S mk vs) ss.heap.size) [iA G (ad 0) 255 S, iA G (ad 4) 16 mk2_12, iA G (ad 6) 160 (upd vs4 ((16 * d) + x) (sgF w h mk2_12 x)), oC ko 6 [.ref (ad 0), .ref (ad 1), .int (nI w), .int (nI h), .int (nI la), .ref (ad 2), .int (mv 0), .int (mv 1), .int (mv 2), .int (mv 3), .int (mv 4), .int (mv 5), .int (mv 6), .ref (ad 3), .int (nI tp), .int (mv 7), .int (mv 8), .int (mv 9), .int (mv 10), .int ft, .int (mv 11), .ref (ad 4), .ref (ad 5), .ref (ad 6), .ref (ad 7), .ref (ad 8), .ref (ad 9), .ref (ad 10), .int tr]] := hD
          refine lv_iinc (k := 2) (v := nI (x + 1)) (lv' := [(2, .int (nI (x + 1))), (0, .ref ko), (1, .int (nI d))]) hx hb dX6_findViews_41 hl rfl (xn_inc x 1) (by decide) rfl (fun ls hl => ?_)
          refine lv_goto (tgt := 17) hx hb dX6_findViews_44 rfl ?_
          have hl := lv_sub hl (l' := [(0, .ref ko), (1, .int (nI d)), (2, .int (nI (x + 1)))]) [1, 2, 0] rfl
          exact ih17 (w * h - (x + 1)) (by omega) (x + 1) (upd vs4 ((16 * d) + x) (sgF w h mk2_12 x)) ls H locs rfl (by omega) (by intro d2 x2 q1 q2; rw [upd_ne (by omega)]; exact hvs4 d2 x2 q1 q2) (by intro x2 q1; by_cases q3 : x2 = x; (subst q3; rw [upd_eq]; exact sgF_congr (by omega) (by omega) (fun c q => he12 c (by omega))); (rw [upd_ne (by omega)]; exact hrow x2 (by omega))) hl hP hD hS
      have hl := lv_sub hl (l' := [(0, .ref ko), (1, .int (nI d)), (2, .int (nI 0))]) [1, 2, 0] rfl
      have hP := hP.sub (ws' := [iA G (ad 0) 255 S, iA G (ad 4) 16 mk2_12, iA G (ad 6) 160 vs3, oC ko 6 [.ref (ad 0), .ref (ad 1), .int (nI w), .int (nI h), .int (nI la), .ref (ad 2), .int (mv 0), .int (mv 1), .int (mv 2), .int (mv 3), .int (mv 4), .int (mv 5), .int (mv 6), .ref (ad 3), .int (nI tp), .int (mv 7), .int (mv 8), .int (mv 9), .int (mv 10), .int ft, .int (mv 11), .ref (ad 4), .ref (ad 5), .ref (ad 6), .ref (ad 7), .ref (ad 8), .ref (ad 9), .ref (ad 10), .int tr]]) [2, 3, 0, 1] rfl
      have hD := hD.sub (ws' := [iA G (ad 0) 255 S, iA G (ad 4) 16 mk2_12, iA G (ad 6) 160 vs3, oC ko 6 [.ref (ad 0), .ref (ad 1), .int (nI w), .int (nI h), .int (nI la), .ref (ad 2), .int (mv 0), .int (mv 1), .int (mv 2), .int (mv 3), .int (mv 4), .int (mv 5), .int (mv 6), .ref (ad 3), .int (nI tp), .int (mv 7), .int (mv 8), .int (mv 9), .int (mv 10), .int ft, .int (mv 11), .ref (ad 4), .ref (ad 5), .ref (ad 6), .ref (ad 7), .ref (ad 8), .ref (ad 9), .ref (ad 10), .int tr]]) [2, 3, 0, 1] (by decide) rfl
      exact hL17 (w * h - 0) 0 vs3 ls H locs rfl (by omega) (by exact hvs) (by intro x2 q; omega) hl hP hD hS
  have hl := lv_sub hl (l' := [(0, .ref ko), (1, .int (nI 0))]) [1, 0] rfl
  have hP := hP.sub (ws' := [iA G (ad 0) 255 S, iA G (ad 4) 16 mk, iA G (ad 6) 160 vs, oC ko 6 [.ref (ad 0), .ref (ad 1), .int (nI w), .int (nI h), .int (nI la), .ref (ad 2), .int (mv 0), .int (mv 1), .int (mv 2), .int (mv 3), .int (mv 4), .int (mv 5), .int (mv 6), .ref (ad 3), .int (nI tp), .int (mv 7), .int (mv 8), .int (mv 9), .int (mv 10), .int ft, .int (mv 11), .ref (ad 4), .ref (ad 5), .ref (ad 6), .ref (ad 7), .ref (ad 8), .ref (ad 9), .ref (ad 10), .int tr]]) [1, 2, 3, 0] rfl
  have hD := hD.sub (ws' := [iA G (ad 0) 255 S, iA G (ad 4) 16 mk, iA G (ad 6) 160 vs, oC ko 6 [.ref (ad 0), .ref (ad 1), .int (nI w), .int (nI h), .int (nI la), .ref (ad 2), .int (mv 0), .int (mv 1), .int (mv 2), .int (mv 3), .int (mv 4), .int (mv 5), .int (mv 6), .ref (ad 3), .int (nI tp), .int (mv 7), .int (mv 8), .int (mv 9), .int (mv 10), .int ft, .int (mv 11), .ref (ad 4), .ref (ad 5), .ref (ad 6), .ref (ad 7), .ref (ad 8), .ref (ad 9), .ref (ad 10), .int tr]]) [1, 2, 3, 0] (by decide) rfl
  exact hL2 (la + 1 - 0) 0 mk vs ls ss.heap [] rfl (by omega) (by intro d2 x q1; omega) hl hP hD hS

abbrev w_X6_apartOf (G : XG) (ko : Nat) (ad : Nat → Nat) (w h la tp : Nat) (ft tr : Int32) (mv : Nat → Int32) (S vs : Nat → Int32) : va_W := [oC ko 6 [.ref (ad 0), .ref (ad 1), .int (nI w), .int (nI h), .int (nI la), .ref (ad 2), .int (mv 0), .int (mv 1), .int (mv 2), .int (mv 3), .int (mv 4), .int (mv 5), .int (mv 6), .ref (ad 3), .int (nI tp), .int (mv 7), .int (mv 8), .int (mv 9), .int (mv 10), .int ft, .int (mv 11), .ref (ad 4), .ref (ad 5), .ref (ad 6), .ref (ad 7), .ref (ad 8), .ref (ad 9), .ref (ad 10), .int tr], iA G (ad 0) 255 S, iA G (ad 6) 160 vs]
abbrev Q_X6_apartOf (G : XG) (ko : Nat) (ad : Nat → Nat) (w h la tp : Nat) (ft tr : Int32) (mv : Nat → Int32) (S vs : Nat → Int32) (nc d e : Nat) : Array Value → State → Outcome → State → Prop := (xRi (fun r => r = apM w h S nc d e))
set_option maxHeartbeats 4000000 in
set_option maxRecDepth 100000 in
theorem c_X6_apartOf (l : Launch) (G : XG) (ko : Nat) (ad : Nat → Nat) (w h la tp : Nat) (ft tr : Int32) (mv : Nat → Int32) (S vs : Nat → Int32) (nc d e : Nat) (hw : 1 ≤ w) (hwb : w ≤ 16) (hhb : h ≤ 16) (hwh1 : 1 ≤ w * h) (hwh : w * h ≤ 16) (hla : la ≤ 9) (hs16 : S 16 = nI nc) (hnc : nc ≤ 10) (hd : d ≤ la) (he : e ≤ la) (hvs : ∀ d2 x, d2 < la + 1 → x < w * h → vs (16 * d2 + x) = sgM w h S nc x d2) : Met l yX6_apartOf wsX6_apartOf ({ frames := 2, cells := 0, slots := 0, locals := 51 } : Room) (va_Pc [.ref ko, .int (nI d), .int (nI e)] (xRp G (w_X6_apartOf G ko ad w h la tp ft tr mv S vs))) (Q_X6_apartOf G ko ad w h la tp ft tr mv S vs nc d e) 0 0 (fun _ => False) := by
  refine Met.ofW (cc := cX6_apartOf) (maxL := 8) (ret := (some .int)) (by decide) rfl ?_
  intro pp ee ss mm aa below mt cd s₁ BB hml hv
  obtain ⟨rfl, hP, hK⟩ := hv
  have hx := BB.exec
  have hb := BB.bytes
  have hr := BB.returns
  have hts := atoms_spec (ws := wsX6_apartOf) BB.pre
  have hown : ss.vm.findClass RX6 = some mm.cls := findClass_of_methodNamed BB.named
  have hlocks := BB.notSynchronized
  have hS : va_S (fun _ => False) ss.heap ss.heap [] := va_S.rf
  replace hP : xP G [oC ko 6 [.ref (ad 0), .ref (ad 1), .int (nI w), .int (nI h), .int (nI la), .ref (ad 2), .int (mv 0), .int (mv 1), .int (mv 2), .int (mv 3), .int (mv 4), .int (mv 5), .int (mv 6), .ref (ad 3), .int (nI tp), .int (mv 7), .int (mv 8), .int (mv 9), .int (mv 10), .int ft, .int (mv 11), .ref (ad 4), .ref (ad 5), .ref (ad 6), .ref (ad 7), .ref (ad 8), .ref (ad 9), .ref (ad 10), .int tr], iA G (ad 0) 255 S, iA G (ad 6) 160 vs] ss.heap := hP
  have hin6 : ∀ w ∈ u_ws RX6 TX6 29, w ∈ wsX6_apartOf := fun w h => List.mem_cons_of_mem _ (List.mem_append_right _ h)
  have hl := lv_entry ([.ref ko, .int (nI d), .int (nI e)]) (n := 8) (Nat.le_of_ble_eq_true rfl)
  rw [lg_entry_eq]
  generalize (lg_sl ([.ref ko, .int (nI d), .int (nI e)]) ++ List.replicate (8 - (lg_sl ([.ref ko, .int (nI d), .int (nI e)])).length) Slot.unset).toArray = ls at hl ⊢
  replace hl : lv_has ls 8 [(0, .ref ko), (1, .int (nI d)), (2, .int (nI e))] := hl
  refine lv_iconst (v := nI 0) hx hb dX6_apartOf_0 (by decide) ?_
  refine lv_istore_n (lv' := [(3, .int (nI 0)), (0, .ref ko), (1, .int (nI d)), (2, .int (nI e))]) hx hb dX6_apartOf_1 rfl hl (by decide) rfl (fun ls hl => ?_)
  refine lv_aload_n hx hb dX6_apartOf_2 rfl (lv_at hl 1 rfl) ?_
  refine lv_iload_n hx hb dX6_apartOf_3 rfl (lv_at hl 2 rfl) ?_
  refine lv_iload_n hx hb dX6_apartOf_4 rfl (lv_at hl 3 rfl) ?_
  refine xr_i (As := [.int (nI d), .int (nI e)]) (rest := []) ⟨hx, hb, hml, hown, hts⟩ (c_X6_unlike l G ko ad w h la tp ft tr mv S nc d e (by first | assumption | omega) (by first | assumption | omega) (by first | assumption | omega) (by first | assumption | omega) (by first | assumption | omega) (by first | assumption | omega) (by first | assumption | omega) (by first | assumption | omega) (by first | assumption | omega) (by first | assumption | omega)) (cwV 2 hts gX6_apartOf_X6_unlike rfl rfl rfl (by decide +kernel) ⟨Nat.le_of_ble_eq_true rfl, Nat.le_of_ble_eq_true rfl⟩) hK hP hS [0, 1] rfl rfl rfl rfl hl.1 rfl (Nat.le_of_ble_eq_true rfl) dX6_apartOf_5 ⟨Nat.zero_le _, Nat.zero_le _⟩ (fun r5 H locs hp5 hP hS => ?_)
  rw [show r5 = _ from hp5]
  refine lv_istore (lv' := [(4, .int (unM w h S nc d e)), (3, .int (nI 0)), (0, .ref ko), (1, .int (nI d)), (2, .int (nI e))]) hx hb dX6_apartOf_8 hl (by decide) rfl (fun ls hl => ?_)
  refine lv_iconst (v := nI 0) hx hb dX6_apartOf_10 (by decide) ?_
  refine lv_istore (lv' := [(5, .int (nI 0)), (4, .int (unM w h S nc d e)), (3, .int (nI 0)), (0, .ref ko), (1, .int (nI d)), (2, .int (nI e))]) hx hb dX6_apartOf_11 hl (by decide) rfl (fun ls hl => ?_)
  have hL13 : ∀ k : Nat, ∀ (x : Nat) (bits : Int32) (ls : Array Slot) (H : Heap) (locs : List Loc), w * h - x = k → (x ≤ w * h) → (bits = xbits (fun x => !decide (vs (16 * d + x) = vs (16 * e + x)) || !decide (vs (16 * d + x) &&& unM w h S nc d e = 0)) x) → lv_has ls 8 [(0, .ref ko), (1, .int (nI d)), (2, .int (nI e)), (3, .int bits), (4, .int (unM w h S nc d e)), (5, .int (nI x))] → xP G [iA G (ad 0) 255 S, iA G (ad 6) 160 vs, oC ko 6 [.ref (ad 0), .ref (ad 1), .int (nI w), .int (nI h), .int (nI la), .ref (ad 2), .int (mv 0), .int (mv 1), .int (mv 2), .int (mv 3), .int (mv 4), .int (mv 5), .int (mv 6), .ref (ad 3), .int (nI tp), .int (mv 7), .int (mv 8), .int (mv 9), .int (mv 10), .int ft, .int (mv 11), .ref (ad 4), .ref (ad 5), .ref (ad 6), .ref (ad 7), .ref (ad 8), .ref (ad 9), .ref (ad 10), .int tr]] H → va_S (fun _ => False) ss.heap H locs → W pp l ee ({ frames := 2, cells := 0, slots := 0, locals := 51 } : Room) ss mm ([.ref ko, .int (nI d), .int (nI e)] : List Value).toArray below mt cd H locs 0 0 (MQ below (Q_X6_apartOf G ko ad w h la tp ft tr mv S vs nc d e) ([.ref ko, .int (nI d), .int (nI e)] : List Value).toArray ss 0 0 (fun _ => False)) (F0 mm 13 ls []) := by
    intro k
    induction k using Nat.strongRecOn with
    | _ k ih13 =>
    intro x bits ls H locs hm13 hxi hbits hl hP hS
    refine lv_iload hx hb dX6_apartOf_13 (lv_at hl 5 rfl) ?_
    refine lv_aload_n hx hb dX6_apartOf_15 rfl (lv_at hl 0 rfl) ?_
    refine xr_i (As := []) (rest := [.int (nI x)]) ⟨hx, hb, hml, hown, hts⟩ (c_X6_cellsNow l G ko ad w h la tp ft tr mv ) (cwV 0 hts gX6_apartOf_X6_cellsNow rfl rfl rfl (by decide +kernel) ⟨Nat.le_of_ble_eq_true rfl, Nat.le_of_ble_eq_true rfl⟩) hK hP hS [2] rfl rfl rfl rfl hl.1 rfl (Nat.le_of_ble_eq_true rfl) dX6_apartOf_16 ⟨Nat.zero_le _, Nat.zero_le _⟩ (fun r16 H locs hp16 hP hS => ?_)
    rw [show r16 = _ from hp16]
    refine xn_icmp_ge (tgt := 85) hx hb (by omega) (by omega) dX6_apartOf_19 rfl (fun b19 => ?_) (fun b19 => ?_)
    · skip
      refine lv_iload_n hx hb dX6_apartOf_85 rfl (lv_at hl 3 rfl) ?_
      refine W.iret (v := bits) hx hb hr (fun t ht hW => ⟨⟨bits, (), rfl, ?_, trivial⟩, hS.F ht⟩) hS.2.2 dX6_apartOf_86
      rw [hbits, show x = w * h by omega]; exact xbits_congr _ (fun x q => by rw [hvs d x (by omega) q, hvs e x (by omega) q])
    · skip
      refine lv_aload_n hx hb dX6_apartOf_22 rfl (lv_at hl 0 rfl) ?_
      refine va_get (D := G.1) (ci := 6) (v := .ref (ad 6)) (C := RX6) (T := TX6) (N := 29) hx hb hts hin6 hown hK.1 hP 2 rfl rfl 23 (by decide) (hts (.fieldLink RX6 29 "BackLensesModel" "views" "[I") (List.mem_of_getElem? (i := 1) rfl)) (fun _ h9 => h9) rfl dX6_apartOf_23 ?_
      refine lv_bipush (v := nI 16) hx hb dX6_apartOf_26 (by decide) ?_
      refine lv_iload_n hx hb dX6_apartOf_28 rfl (lv_at hl 1 rfl) ?_
      refine xn_imul hx hb dX6_apartOf_29 ?_
      refine lv_iload hx hb dX6_apartOf_30 (lv_at hl 5 rfl) ?_
      refine xn_iadd hx hb dX6_apartOf_32 ?_
      refine xn_iald hx hb hK hP 1 rfl (by omega) (by omega) dX6_apartOf_33 ?_
      refine lv_istore (lv' := [(6, .int (vs ((16 * d) + x))), (0, .ref ko), (1, .int (nI d)), (2, .int (nI e)), (3, .int bits), (4, .int (unM w h S nc d e)), (5, .int (nI x))]) hx hb dX6_apartOf_34 hl (by decide) rfl (fun ls hl => ?_)
      refine lv_aload_n hx hb dX6_apartOf_36 rfl (lv_at hl 1 rfl) ?_
      refine va_get (D := G.1) (ci := 6) (v := .ref (ad 6)) (C := RX6) (T := TX6) (N := 29) hx hb hts hin6 hown hK.1 hP 2 rfl rfl 23 (by decide) (hts (.fieldLink RX6 29 "BackLensesModel" "views" "[I") (List.mem_of_getElem? (i := 1) rfl)) (fun _ h9 => h9) rfl dX6_apartOf_37 ?_
      refine lv_bipush (v := nI 16) hx hb dX6_apartOf_40 (by decide) ?_
      refine lv_iload_n hx hb dX6_apartOf_42 rfl (lv_at hl 3 rfl) ?_
      refine xn_imul hx hb dX6_apartOf_43 ?_
      refine lv_iload hx hb dX6_apartOf_44 (lv_at hl 6 rfl) ?_
      refine xn_iadd hx hb dX6_apartOf_46 ?_
      refine xn_iald hx hb hK hP 1 rfl (by omega) (by omega) dX6_apartOf_47 ?_
      refine lv_istore (lv' := [(7, .int (vs ((16 * e) + x))), (6, .int (vs ((16 * d) + x))), (0, .ref ko), (1, .int (nI d)), (2, .int (nI e)), (3, .int bits), (4, .int (unM w h S nc d e)), (5, .int (nI x))]) hx hb dX6_apartOf_48 hl (by decide) rfl (fun ls hl => ?_)
      refine lv_iload_n hx hb dX6_apartOf_50 rfl (lv_at hl 5 rfl) ?_
      refine lv_iload hx hb dX6_apartOf_51 (lv_at hl 1 rfl) ?_
      refine lv_iload hx hb dX6_apartOf_53 (lv_at hl 0 rfl) ?_
      refine lv_icmp_ne (tgt := 66) hx hb dX6_apartOf_55 rfl (fun b55 => ?_) (fun b55 => ?_)
      · skip
        refine lv_iconst (v := nI 1) hx hb dX6_apartOf_66 (by decide) ?_
        refine lv_goto (tgt := 71) hx hb dX6_apartOf_67 rfl ?_
        refine xs_i (As := [.int (nI 1)]) (rest := [.int bits]) ⟨hx, hb, hml, hown, hts⟩ (c_X6_flag_1 l G) (va_cwS 1 hts gX6_apartOf_X6_flag rfl rfl rfl (by decide +kernel) ⟨Nat.le_of_ble_eq_true rfl, Nat.le_of_ble_eq_true rfl⟩) hP hS rfl hl.1 rfl (Nat.le_of_ble_eq_true rfl) dX6_apartOf_71 ⟨Nat.zero_le _, Nat.zero_le _⟩ (fun r71 H locs hp71 hP hS => ?_)
        rw [show r71 = _ from hp71]
        refine lv_iload hx hb dX6_apartOf_74 (lv_at hl 7 rfl) ?_
        refine lv_ishl hx hb dX6_apartOf_76 ?_
        refine lv_ior hx hb dX6_apartOf_77 ?_
        refine lv_istore_n (lv' := [(3, .int (bits ||| ((nI 1) <<< ((nI x) &&& 31)))), (7, .int (vs ((16 * e) + x))), (6, .int (vs ((16 * d) + x))), (0, .ref ko), (1, .int (nI d)), (2, .int (nI e)), (4, .int (unM w h S nc d e)), (5, .int (nI x))]) hx hb dX6_apartOf_78 rfl hl (by decide) rfl (fun ls hl => ?_)
        refine lv_iinc (k := 7) (v := nI (x + 1)) (lv' := [(5, .int (nI (x + 1))), (3, .int (bits ||| ((nI 1) <<< ((nI x) &&& 31)))), (7, .int (vs ((16 * e) + x))), (6, .int (vs ((16 * d) + x))), (0, .ref ko), (1, .int (nI d)), (2, .int (nI e)), (4, .int (unM w h S nc d e))]) hx hb dX6_apartOf_79 hl rfl (xn_inc x 1) (by decide) rfl (fun ls hl => ?_)
        refine lv_goto (tgt := 13) hx hb dX6_apartOf_82 rfl ?_
        have hl := lv_sub hl (l' := [(0, .ref ko), (1, .int (nI d)), (2, .int (nI e)), (3, .int (bits ||| ((nI 1) <<< ((nI x) &&& 31)))), (4, .int (unM w h S nc d e)), (5, .int (nI (x + 1)))]) [4, 5, 6, 1, 7, 0] rfl
        exact ih13 (w * h - (x + 1)) (by omega) (x + 1) (bits ||| ((nI 1) <<< ((nI x) &&& 31))) ls H locs rfl (by omega) (by first | exact xbits_Z (by simp only [decide_eq_true b55, decide_eq_true b63]; rfl) hbits | exact xbits_T (by simp only [decide_eq_false b63]; simp) hbits | exact xbits_T (by simp only [decide_eq_false b55]; simp) hbits) hl hP hS
      · skip
        refine lv_iload hx hb dX6_apartOf_58 (lv_at hl 1 rfl) ?_
        refine lv_iload hx hb dX6_apartOf_60 (lv_at hl 6 rfl) ?_
        refine lv_iand hx hb dX6_apartOf_62 ?_
        refine lv_if_eq (tgt := 70) hx hb dX6_apartOf_63 rfl (fun b63 => ?_) (fun b63 => ?_)
        · skip
          refine lv_iconst (v := nI 0) hx hb dX6_apartOf_70 (by decide) ?_
          refine xs_i (As := [.int (nI 0)]) (rest := [.int bits]) ⟨hx, hb, hml, hown, hts⟩ (c_X6_flag_0 l G) (va_cwS 1 hts gX6_apartOf_X6_flag rfl rfl rfl (by decide +kernel) ⟨Nat.le_of_ble_eq_true rfl, Nat.le_of_ble_eq_true rfl⟩) hP hS rfl hl.1 rfl (Nat.le_of_ble_eq_true rfl) dX6_apartOf_71 ⟨Nat.zero_le _, Nat.zero_le _⟩ (fun r71 H locs hp71 hP hS => ?_)
          rw [show r71 = _ from hp71]
          refine lv_iload hx hb dX6_apartOf_74 (lv_at hl 7 rfl) ?_
          refine lv_ishl hx hb dX6_apartOf_76 ?_
          refine lv_ior hx hb dX6_apartOf_77 ?_
          refine lv_istore_n (lv' := [(3, .int (bits ||| ((nI 0) <<< ((nI x) &&& 31)))), (7, .int (vs ((16 * e) + x))), (6, .int (vs ((16 * d) + x))), (0, .ref ko), (1, .int (nI d)), (2, .int (nI e)), (4, .int (unM w h S nc d e)), (5, .int (nI x))]) hx hb dX6_apartOf_78 rfl hl (by decide) rfl (fun ls hl => ?_)
          refine lv_iinc (k := 7) (v := nI (x + 1)) (lv' := [(5, .int (nI (x + 1))), (3, .int (bits ||| ((nI 0) <<< ((nI x) &&& 31)))), (7, .int (vs ((16 * e) + x))), (6, .int (vs ((16 * d) + x))), (0, .ref ko), (1, .int (nI d)), (2, .int (nI e)), (4, .int (unM w h S nc d e))]) hx hb dX6_apartOf_79 hl rfl (xn_inc x 1) (by decide) rfl (fun ls hl => ?_)
          refine lv_goto (tgt := 13) hx hb dX6_apartOf_82 rfl ?_
          have hl := lv_sub hl (l' := [(0, .ref ko), (1, .int (nI d)), (2, .int (nI e)), (3, .int (bits ||| ((nI 0) <<< ((nI x) &&& 31)))), (4, .int (unM w h S nc d e)), (5, .int (nI (x + 1)))]) [4, 5, 6, 1, 7, 0] rfl
          exact ih13 (w * h - (x + 1)) (by omega) (x + 1) (bits ||| ((nI 0) <<< ((nI x) &&& 31))) ls H locs rfl (by omega) (by first | exact xbits_Z (by simp only [decide_eq_true b55, decide_eq_true b63]; rfl) hbits | exact xbits_T (by simp only [decide_eq_false b63]; simp) hbits | exact xbits_T (by simp only [decide_eq_false b55]; simp) hbits) hl hP hS
        · skip
          refine lv_iconst (v := nI 1) hx hb dX6_apartOf_66 (by decide) ?_
          refine lv_goto (tgt := 71) hx hb dX6_apartOf_67 rfl ?_
          refine xs_i (As := [.int (nI 1)]) (rest := [.int bits]) ⟨hx, hb, hml, hown, hts⟩ (c_X6_flag_1 l G) (va_cwS 1 hts gX6_apartOf_X6_flag rfl rfl rfl (by decide +kernel) ⟨Nat.le_of_ble_eq_true rfl, Nat.le_of_ble_eq_true rfl⟩) hP hS rfl hl.1 rfl (Nat.le_of_ble_eq_true rfl) dX6_apartOf_71 ⟨Nat.zero_le _, Nat.zero_le _⟩ (fun r71 H locs hp71 hP hS => ?_)
          rw [show r71 = _ from hp71]
          refine lv_iload hx hb dX6_apartOf_74 (lv_at hl 7 rfl) ?_
          refine lv_ishl hx hb dX6_apartOf_76 ?_
          refine lv_ior hx hb dX6_apartOf_77 ?_
          refine lv_istore_n (lv' := [(3, .int (bits ||| ((nI 1) <<< ((nI x) &&& 31)))), (7, .int (vs ((16 * e) + x))), (6, .int (vs ((16 * d) + x))), (0, .ref ko), (1, .int (nI d)), (2, .int (nI e)), (4, .int (unM w h S nc d e)), (5, .int (nI x))]) hx hb dX6_apartOf_78 rfl hl (by decide) rfl (fun ls hl => ?_)
          refine lv_iinc (k := 7) (v := nI (x + 1)) (lv' := [(5, .int (nI (x + 1))), (3, .int (bits ||| ((nI 1) <<< ((nI x) &&& 31)))), (7, .int (vs ((16 * e) + x))), (6, .int (vs ((16 * d) + x))), (0, .ref ko), (1, .int (nI d)), (2, .int (nI e)), (4, .int (unM w h S nc d e))]) hx hb dX6_apartOf_79 hl rfl (xn_inc x 1) (by decide) rfl (fun ls hl => ?_)
          refine lv_goto (tgt := 13) hx hb dX6_apartOf_82 rfl ?_
          have hl := lv_sub hl (l' := [(0, .ref ko), (1, .int (nI d)), (2, .int (nI e)), (3, .int (bits ||| ((nI 1) <<< ((nI x) &&& 31)))), (4, .int (unM w h S nc d e)), (5, .int (nI (x + 1)))]) [4, 5, 6, 1, 7, 0] rfl
          exact ih13 (w * h - (x + 1)) (by omega) (x + 1) (bits ||| ((nI 1) <<< ((nI x) &&& 31))) ls H locs rfl (by omega) (by first | exact xbits_Z (by simp only [decide_eq_true b55, decide_eq_true b63]; rfl) hbits | exact xbits_T (by simp only [decide_eq_false b63]; simp) hbits | exact xbits_T (by simp only [decide_eq_false b55]; simp) hbits) hl hP hS
  have hl := lv_sub hl (l' := [(0, .ref ko), (1, .int (nI d)), (2, .int (nI e)), (3, .int (nI 0)), (4, .int (unM w h S nc d e)), (5, .int (nI 0))]) [3, 4, 5, 2, 1, 0] rfl
  have hP := hP.sub (ws' := [iA G (ad 0) 255 S, iA G (ad 6) 160 vs, oC ko 6 [.ref (ad 0), .ref (ad 1), .int (nI w), .int (nI h), .int (nI la), .ref (ad 2), .int (mv 0), .int (mv 1), .int (mv 2), .int (mv 3), .int (mv 4), .int (mv 5), .int (mv 6), .ref (ad 3), .int (nI tp), .int (mv 7), .int (mv 8), .int (mv 9), .int (mv 10), .int ft, .int (mv 11), .ref (ad 4), .ref (ad 5), .ref (ad 6), .ref (ad 7), .ref (ad 8), .ref (ad 9), .ref (ad 10), .int tr]]) [1, 2, 0] rfl
  exact hL13 (w * h - 0) 0 (nI 0) ls H locs rfl (by omega) (by rfl) hl hP hS

abbrev w_X6_apart (G : XG) (ko : Nat) (ad : Nat → Nat) (w h la tp : Nat) (ft tr : Int32) (mv : Nat → Int32) (S mk : Nat → Int32) (vs : Nat → Int32) : va_W := [oC ko 6 [.ref (ad 0), .ref (ad 1), .int (nI w), .int (nI h), .int (nI la), .ref (ad 2), .int (mv 0), .int (mv 1), .int (mv 2), .int (mv 3), .int (mv 4), .int (mv 5), .int (mv 6), .ref (ad 3), .int (nI tp), .int (mv 7), .int (mv 8), .int (mv 9), .int (mv 10), .int ft, .int (mv 11), .ref (ad 4), .ref (ad 5), .ref (ad 6), .ref (ad 7), .ref (ad 8), .ref (ad 9), .ref (ad 10), .int tr], iA G (ad 0) 255 S, iA G (ad 4) 16 mk, iA G (ad 6) 160 vs]
abbrev Q_X6_apart (G : XG) (sz : Nat) (ko : Nat) (ad : Nat → Nat) (w h la tp : Nat) (ft tr : Int32) (mv : Nat → Int32) (S mk : Nat → Int32) (nc : Nat) (vs : Nat → Int32) (d e : Int32) : Array Value → State → Outcome → State → Prop := (va_Qi (fun (r : Int32) (u : (Nat → Int32) × (Nat → Int32)) => r = (if inR d (la + 1) ∧ inR e (la + 1) then apM w h S nc (tn d) (tn e) else (-1))) (xWb G sz (w_X6_apart G ko ad w h la tp ft tr mv S mk vs) (fun u : (Nat → Int32) × (Nat → Int32) => [oC ko 6 [.ref (ad 0), .ref (ad 1), .int (nI w), .int (nI h), .int (nI la), .ref (ad 2), .int (mv 0), .int (mv 1), .int (mv 2), .int (mv 3), .int (mv 4), .int (mv 5), .int (mv 6), .ref (ad 3), .int (nI tp), .int (mv 7), .int (mv 8), .int (mv 9), .int (mv 10), .int ft, .int (mv 11), .ref (ad 4), .ref (ad 5), .ref (ad 6), .ref (ad 7), .ref (ad 8), .ref (ad 9), .ref (ad 10), .int tr], iA G (ad 0) 255 S, iA G (ad 4) 16 u.1, iA G (ad 6) 160 u.2])) (va_A (w_X6_apart G ko ad w h la tp ft tr mv S mk vs) sz))
set_option maxHeartbeats 4000000 in
set_option maxRecDepth 100000 in
theorem c_X6_apart (l : Launch) (G : XG) (sz : Nat) (ko : Nat) (ad : Nat → Nat) (w h la tp : Nat) (ft tr : Int32) (mv : Nat → Int32) (S mk : Nat → Int32) (nc : Nat) (vs : Nat → Int32) (d e : Int32) (hw : 1 ≤ w) (hwb : w ≤ 16) (hhb : h ≤ 16) (hwh1 : 1 ≤ w * h) (hwh : w * h ≤ 16) (hla : la ≤ 9) (hs16 : S 16 = nI nc) (hnc : nc ≤ 10) : Met l yX6_apart wsX6_apart ({ frames := 4, cells := 0, slots := 0, locals := 89 } : Room) (va_Pc [.ref ko, .int d, .int e] (xWp G sz (w_X6_apart G ko ad w h la tp ft tr mv S mk vs))) (Q_X6_apart G sz ko ad w h la tp ft tr mv S mk nc vs d e) 0 0 (va_A (w_X6_apart G ko ad w h la tp ft tr mv S mk vs) sz) := by
  refine Met.ofW (cc := cX6_apart) (maxL := 3) (ret := (some .int)) (by decide) rfl ?_
  intro pp ee ss mm aa below mt cd s₁ BB hml hv
  obtain ⟨rfl, hsz, hP, hK, hD0⟩ := hv
  have hx := BB.exec
  have hb := BB.bytes
  have hr := BB.returns
  have hts := atoms_spec (ws := wsX6_apart) BB.pre
  have hown : ss.vm.findClass RX6 = some mm.cls := findClass_of_methodNamed BB.named
  have hlocks := BB.notSynchronized
  subst hsz
  have hD := hD0.self (sz := ss.heap.size)
  have hA : ∀ q : Nat, ss.heap.size ≤ q → va_A (w_X6_apart G ko ad w h la tp ft tr mv S mk vs) ss.heap.size q := fun q h => Or.inr h
  have hS : va_S (va_A (w_X6_apart G ko ad w h la tp ft tr mv S mk vs) ss.heap.size) ss.heap ss.heap [] := va_S.rf
  replace hD : va_D (va_A (w_X6_apart G ko ad w h la tp ft tr mv S mk vs) ss.heap.size) [oC ko 6 [.ref (ad 0), .ref (ad 1), .int (nI w), .int (nI h), .int (nI la), .ref (ad 2), .int (mv 0), .int (mv 1), .int (mv 2), .int (mv 3), .int (mv 4), .int (mv 5), .int (mv 6), .ref (ad 3), .int (nI tp), .int (mv 7), .int (mv 8), .int (mv 9), .int (mv 10), .int ft, .int (mv 11), .ref (ad 4), .ref (ad 5), .ref (ad 6), .ref (ad 7), .ref (ad 8), .ref (ad 9), .ref (ad 10), .int tr], iA G (ad 0) 255 S, iA G (ad 4) 16 mk, iA G (ad 6) 160 vs] := hD
  replace hP : xP G [oC ko 6 [.ref (ad 0), .ref (ad 1), .int (nI w), .int (nI h), .int (nI la), .ref (ad 2), .int (mv 0), .int (mv 1), .int (mv 2), .int (mv 3), .int (mv 4), .int (mv 5), .int (mv 6), .ref (ad 3), .int (nI tp), .int (mv 7), .int (mv 8), .int (mv 9), .int (mv 10), .int ft, .int (mv 11), .ref (ad 4), .ref (ad 5), .ref (ad 6), .ref (ad 7), .ref (ad 8), .ref (ad 9), .ref (ad 10), .int tr], iA G (ad 0) 255 S, iA G (ad 4) 16 mk, iA G (ad 6) 160 vs] ss.heap := hP
  have hin6 : ∀ w ∈ u_ws RX6 TX6 29, w ∈ wsX6_apart := fun w h => List.mem_cons_of_mem _ (List.mem_append_right _ h)
  have hl := lv_entry ([.ref ko, .int d, .int e]) (n := 3) (Nat.le_of_ble_eq_true rfl)
  rw [lg_entry_eq]
  generalize (lg_sl ([.ref ko, .int d, .int e]) ++ List.replicate (3 - (lg_sl ([.ref ko, .int d, .int e])).length) Slot.unset).toArray = ls at hl ⊢
  replace hl : lv_has ls 3 [(0, .ref ko), (1, .int d), (2, .int e)] := hl
  refine lv_aload_n hx hb dX6_apart_0 rfl (lv_at hl 0 rfl) ?_
  refine lv_iload_n hx hb dX6_apart_1 rfl (lv_at hl 1 rfl) ?_
  refine xr_i (As := [.int d]) (rest := []) ⟨hx, hb, hml, hown, hts⟩ (c_X6_isDay l G ko ad w h la tp ft tr mv d (by first | assumption | omega)) (cwV 1 hts gX6_apart_X6_isDay rfl rfl rfl (by decide +kernel) ⟨Nat.le_of_ble_eq_true rfl, Nat.le_of_ble_eq_true rfl⟩) hK hP hS [0] rfl rfl rfl rfl hl.1 rfl (Nat.le_of_ble_eq_true rfl) dX6_apart_2 ⟨Nat.zero_le _, Nat.zero_le _⟩ (fun r2 H locs hp2 hP hS => ?_)
  rw [show r2 = _ from hp2]
  refine xb_if_eq (tgt := 16) hx hb dX6_apart_5 rfl (fun b5 => ?_) (fun b5 => ?_)
  · skip
    refine lv_iconst (v := (-1)) hx hb dX6_apart_16 (by decide) ?_
    have hP := hP.sub (ws' := [oC ko 6 [.ref (ad 0), .ref (ad 1), .int (nI w), .int (nI h), .int (nI la), .ref (ad 2), .int (mv 0), .int (mv 1), .int (mv 2), .int (mv 3), .int (mv 4), .int (mv 5), .int (mv 6), .ref (ad 3), .int (nI tp), .int (mv 7), .int (mv 8), .int (mv 9), .int (mv 10), .int ft, .int (mv 11), .ref (ad 4), .ref (ad 5), .ref (ad 6), .ref (ad 7), .ref (ad 8), .ref (ad 9), .ref (ad 10), .int tr], iA G (ad 0) 255 S, iA G (ad 4) 16 mk, iA G (ad 6) 160 vs]) [0, 1, 2, 3] rfl
    have hD := hD.sub (ws' := [oC ko 6 [.ref (ad 0), .ref (ad 1), .int (nI w), .int (nI h), .int (nI la), .ref (ad 2), .int (mv 0), .int (mv 1), .int (mv 2), .int (mv 3), .int (mv 4), .int (mv 5), .int (mv 6), .ref (ad 3), .int (nI tp), .int (mv 7), .int (mv 8), .int (mv 9), .int (mv 10), .int ft, .int (mv 11), .ref (ad 4), .ref (ad 5), .ref (ad 6), .ref (ad 7), .ref (ad 8), .ref (ad 9), .ref (ad 10), .int tr], iA G (ad 0) 255 S, iA G (ad 4) 16 mk, iA G (ad 6) 160 vs]) [0, 1, 2, 3] (by decide) rfl
    refine W.iret (v := (-1)) hx hb hr (fun t ht hW => ⟨⟨(-1), (mk, vs), rfl, ?_, by rw [ht]; exact hP, hD⟩, hS.F ht⟩) hS.2.2 dX6_apart_17
    try dsimp only
    first | exact (if_neg (fun q => b5 q.1)).symm | exact (if_neg (fun q => b13 q.2)).symm | (rw [if_pos ⟨inR_nI hd0 (by omega), inR_nI he0 (by omega)⟩, tn_nI (by omega), tn_nI (by omega)])
  · skip
    refine lv_aload_n hx hb dX6_apart_8 rfl (lv_at hl 0 rfl) ?_
    refine lv_iload_n hx hb dX6_apart_9 rfl (lv_at hl 2 rfl) ?_
    refine xr_i (As := [.int e]) (rest := []) ⟨hx, hb, hml, hown, hts⟩ (c_X6_isDay l G ko ad w h la tp ft tr mv e (by first | assumption | omega)) (cwV 1 hts gX6_apart_X6_isDay rfl rfl rfl (by decide +kernel) ⟨Nat.le_of_ble_eq_true rfl, Nat.le_of_ble_eq_true rfl⟩) hK hP hS [0] rfl rfl rfl rfl hl.1 rfl (Nat.le_of_ble_eq_true rfl) dX6_apart_10 ⟨Nat.zero_le _, Nat.zero_le _⟩ (fun r10 H locs hp10 hP hS => ?_)
    rw [show r10 = _ from hp10]
    refine xb_if_ne (tgt := 18) hx hb dX6_apart_13 rfl (fun b13 => ?_) (fun b13 => ?_)
    · skip
      obtain ⟨d0, hd0, rfl⟩ := inR_nat b5
      obtain ⟨e0, he0, rfl⟩ := inR_nat b13
      refine lv_aload_n hx hb dX6_apart_18 rfl (lv_at hl 0 rfl) ?_
      refine xw_v (As := []) (rest := []) (wr := []) ⟨hx, hb, hml, hown, hts⟩ (c_X6_findViews l G H.size ko ad w h la tp ft tr mv S mk nc vs (by first | assumption | omega) (by first | assumption | omega) (by first | assumption | omega) (by first | assumption | omega) (by first | assumption | omega) (by first | assumption | omega) (by first | assumption | omega) (by first | assumption | omega)) (cwV 0 hts gX6_apart_X6_findViews rfl rfl rfl (by decide +kernel) ⟨Nat.le_of_ble_eq_true rfl, Nat.le_of_ble_eq_true rfl⟩) hK hP hD hS hA [0, 1, 2, 3] [] rfl rfl (by decide) (by decide) (by decide) rfl rfl rfl hl.1 rfl (Nat.le_of_ble_eq_true rfl) dX6_apart_19 ⟨Nat.le_of_ble_eq_true rfl, Nat.le_of_ble_eq_true rfl⟩ (fun u H locs hp19 hP hD hS => ?_)
      obtain ⟨mk2_19, vs2_19⟩ := u
      try dsimp only at hp19 hP hD
      have he19 := hp19
      replace hP : xP G [oC ko 6 [.ref (ad 0), .ref (ad 1), .int (nI w), .int (nI h), .int (nI la), .ref (ad 2), .int (mv 0), .int (mv 1), .int (mv 2), .int (mv 3), .int (mv 4), .int (mv 5), .int (mv 6), .ref (ad 3), .int (nI tp), .int (mv 7), .int (mv 8), .int (mv 9), .int (mv 10), .int ft, .int (mv 11), .ref (ad 4), .ref (ad 5), .ref (ad 6), .ref (ad 7), .ref (ad 8), .ref (ad 9), .ref (ad 10), .int tr], iA G (ad 0) 255 S, iA G (ad 4) 16 mk2_19, iA G (ad 6) 160 vs2_19] H := hP
      replace hD : va_D (va_A (w_X6_apart G ko ad w h la tp ft tr mv S mk vs) ss.heap.size) [oC ko 6 [.ref (ad 0), .ref (ad 1), .int (nI w), .int (nI h), .int (nI la), .ref (ad 2), .int (mv 0), .int (mv 1), .int (mv 2), .int (mv 3), .int (mv 4), .int (mv 5), .int (mv 6), .ref (ad 3), .int (nI tp), .int (mv 7), .int (mv 8), .int (mv 9), .int (mv 10), .int ft, .int (mv 11), .ref (ad 4), .ref (ad 5), .ref (ad 6), .ref (ad 7), .ref (ad 8), .ref (ad 9), .ref (ad 10), .int tr], iA G (ad 0) 255 S, iA G (ad 4) 16 mk2_19, iA G (ad 6) 160 vs2_19] := hD
      refine lv_aload_n hx hb dX6_apart_22 rfl (lv_at hl 0 rfl) ?_
      refine lv_iload_n hx hb dX6_apart_23 rfl (lv_at hl 1 rfl) ?_
      refine lv_iload_n hx hb dX6_apart_24 rfl (lv_at hl 2 rfl) ?_
      refine xr_i (As := [.int (nI d0), .int (nI e0)]) (rest := []) ⟨hx, hb, hml, hown, hts⟩ (c_X6_apartOf l G ko ad w h la tp ft tr mv S vs2_19 nc d0 e0 (by first | assumption | omega) (by first | assumption | omega) (by first | assumption | omega) (by first | assumption | omega) (by first | assumption | omega) (by first | assumption | omega) (by first | assumption | omega) (by first | assumption | omega) (by first | assumption | omega) (by first | assumption | omega) (by first | assumption | omega)) (cwV 2 hts gX6_apart_X6_apartOf rfl rfl rfl (by decide +kernel) ⟨Nat.le_of_ble_eq_true rfl, Nat.le_of_ble_eq_true rfl⟩) hK hP hS [0, 1, 3] rfl rfl rfl rfl hl.1 rfl (Nat.le_of_ble_eq_true rfl) dX6_apart_25 ⟨Nat.zero_le _, Nat.zero_le _⟩ (fun r25 H locs hp25 hP hS => ?_)
      rw [show r25 = _ from hp25]
      have hP := hP.sub (ws' := [oC ko 6 [.ref (ad 0), .ref (ad 1), .int (nI w), .int (nI h), .int (nI la), .ref (ad 2), .int (mv 0), .int (mv 1), .int (mv 2), .int (mv 3), .int (mv 4), .int (mv 5), .int (mv 6), .ref (ad 3), .int (nI tp), .int (mv 7), .int (mv 8), .int (mv 9), .int (mv 10), .int ft, .int (mv 11), .ref (ad 4), .ref (ad 5), .ref (ad 6), .ref (ad 7), .ref (ad 8), .ref (ad 9), .ref (ad 10), .int tr], iA G (ad 0) 255 S, iA G (ad 4) 16 mk2_19, iA G (ad 6) 160 vs2_19]) [0, 1, 2, 3] rfl
      have hD := hD.sub (ws' := [oC ko 6 [.ref (ad 0), .ref (ad 1), .int (nI w), .int (nI h), .int (nI la), .ref (ad 2), .int (mv 0), .int (mv 1), .int (mv 2), .int (mv 3), .int (mv 4), .int (mv 5), .int (mv 6), .ref (ad 3), .int (nI tp), .int (mv 7), .int (mv 8), .int (mv 9), .int (mv 10), .int ft, .int (mv 11), .ref (ad 4), .ref (ad 5), .ref (ad 6), .ref (ad 7), .ref (ad 8), .ref (ad 9), .ref (ad 10), .int tr], iA G (ad 0) 255 S, iA G (ad 4) 16 mk2_19, iA G (ad 6) 160 vs2_19]) [0, 1, 2, 3] (by decide) rfl
      refine W.iret (v := apM w h S nc d0 e0) hx hb hr (fun t ht hW => ⟨⟨apM w h S nc d0 e0, (mk2_19, vs2_19), rfl, ?_, by rw [ht]; exact hP, hD⟩, hS.F ht⟩) hS.2.2 dX6_apart_28
      try dsimp only
      first | exact (if_neg (fun q => b5 q.1)).symm | exact (if_neg (fun q => b13 q.2)).symm | (rw [if_pos ⟨inR_nI hd0 (by omega), inR_nI he0 (by omega)⟩, tn_nI (by omega), tn_nI (by omega)])
    · skip
      refine lv_iconst (v := (-1)) hx hb dX6_apart_16 (by decide) ?_
      have hP := hP.sub (ws' := [oC ko 6 [.ref (ad 0), .ref (ad 1), .int (nI w), .int (nI h), .int (nI la), .ref (ad 2), .int (mv 0), .int (mv 1), .int (mv 2), .int (mv 3), .int (mv 4), .int (mv 5), .int (mv 6), .ref (ad 3), .int (nI tp), .int (mv 7), .int (mv 8), .int (mv 9), .int (mv 10), .int ft, .int (mv 11), .ref (ad 4), .ref (ad 5), .ref (ad 6), .ref (ad 7), .ref (ad 8), .ref (ad 9), .ref (ad 10), .int tr], iA G (ad 0) 255 S, iA G (ad 4) 16 mk, iA G (ad 6) 160 vs]) [0, 1, 2, 3] rfl
      have hD := hD.sub (ws' := [oC ko 6 [.ref (ad 0), .ref (ad 1), .int (nI w), .int (nI h), .int (nI la), .ref (ad 2), .int (mv 0), .int (mv 1), .int (mv 2), .int (mv 3), .int (mv 4), .int (mv 5), .int (mv 6), .ref (ad 3), .int (nI tp), .int (mv 7), .int (mv 8), .int (mv 9), .int (mv 10), .int ft, .int (mv 11), .ref (ad 4), .ref (ad 5), .ref (ad 6), .ref (ad 7), .ref (ad 8), .ref (ad 9), .ref (ad 10), .int tr], iA G (ad 0) 255 S, iA G (ad 4) 16 mk, iA G (ad 6) 160 vs]) [0, 1, 2, 3] (by decide) rfl
      refine W.iret (v := (-1)) hx hb hr (fun t ht hW => ⟨⟨(-1), (mk, vs), rfl, ?_, by rw [ht]; exact hP, hD⟩, hS.F ht⟩) hS.2.2 dX6_apart_17
      try dsimp only
      first | exact (if_neg (fun q => b5 q.1)).symm | exact (if_neg (fun q => b13 q.2)).symm | (rw [if_pos ⟨inR_nI hd0 (by omega), inR_nI he0 (by omega)⟩, tn_nI (by omega), tn_nI (by omega)])

abbrev w_X6_hide (G : XG) (ko : Nat) (ad : Nat → Nat) (w h la tp : Nat) (ft tr : Int32) (mv : Nat → Int32) (S mk : Nat → Int32) : va_W := [oC ko 6 [.ref (ad 0), .ref (ad 1), .int (nI w), .int (nI h), .int (nI la), .ref (ad 2), .int (mv 0), .int (mv 1), .int (mv 2), .int (mv 3), .int (mv 4), .int (mv 5), .int (mv 6), .ref (ad 3), .int (nI tp), .int (mv 7), .int (mv 8), .int (mv 9), .int (mv 10), .int ft, .int (mv 11), .ref (ad 4), .ref (ad 5), .ref (ad 6), .ref (ad 7), .ref (ad 8), .ref (ad 9), .ref (ad 10), .int tr], iA G (ad 0) 255 S, iA G (ad 4) 16 mk]
abbrev Q_X6_hide (G : XG) (sz : Nat) (ko : Nat) (ad : Nat → Nat) (w h la tp : Nat) (ft tr : Int32) (mv : Nat → Int32) (S mk : Nat → Int32) (nc : Nat) (nl : Nat) (x : Int32) : Array Value → State → Outcome → State → Prop := (va_Qi (fun (r : Int32) (u : (Nat → Int32)) => r = (if inR x (w * h) then (if nl = 0 then (-2) else anF (fun l => sgM w h S nc (tn x) (tn (S (48 + 2 * l)))) (nI 1 <<< (nI (w * h) &&& 31) - nI 1) nl) else (-1))) (xWb G sz (w_X6_hide G ko ad w h la tp ft tr mv S mk) (fun u : (Nat → Int32) => [oC ko 6 [.ref (ad 0), .ref (ad 1), .int (nI w), .int (nI h), .int (nI la), .ref (ad 2), .int (mv 0), .int (mv 1), .int (mv 2), .int (mv 3), .int (mv 4), .int (mv 5), .int (mv 6), .ref (ad 3), .int (nI tp), .int (mv 7), .int (mv 8), .int (mv 9), .int (mv 10), .int ft, .int (mv 11), .ref (ad 4), .ref (ad 5), .ref (ad 6), .ref (ad 7), .ref (ad 8), .ref (ad 9), .ref (ad 10), .int tr], iA G (ad 0) 255 S, iA G (ad 4) 16 u])) (va_A (w_X6_hide G ko ad w h la tp ft tr mv S mk) sz))
set_option maxHeartbeats 4000000 in
set_option maxRecDepth 100000 in
theorem c_X6_hide (l : Launch) (G : XG) (sz : Nat) (ko : Nat) (ad : Nat → Nat) (w h la tp : Nat) (ft tr : Int32) (mv : Nat → Int32) (S mk : Nat → Int32) (nc : Nat) (nl : Nat) (x : Int32) (hw : 1 ≤ w) (hwb : w ≤ 16) (hhb : h ≤ 16) (hwh1 : 1 ≤ w * h) (hwh : w * h ≤ 16) (hla : la ≤ 9) (hs16 : S 16 = nI nc) (hnc : nc ≤ 10) (hs47 : S 47 = nI nl) (hnl : nl ≤ 6) (hlens : ∀ i, i < nl → inR (S (48 + 2 * i)) (la + 1)) : Met l yX6_hide wsX6_hide ({ frames := 4, cells := 0, slots := 0, locals := 89 } : Room) (va_Pc [.ref ko, .int x] (xWp G sz (w_X6_hide G ko ad w h la tp ft tr mv S mk))) (Q_X6_hide G sz ko ad w h la tp ft tr mv S mk nc nl x) 0 0 (va_A (w_X6_hide G ko ad w h la tp ft tr mv S mk) sz) := by
  refine Met.ofW (cc := cX6_hide) (maxL := 4) (ret := (some .int)) (by decide) rfl ?_
  intro pp ee ss mm aa below mt cd s₁ BB hml hv
  obtain ⟨rfl, hsz, hP, hK, hD0⟩ := hv
  have hx := BB.exec
  have hb := BB.bytes
  have hr := BB.returns
  have hts := atoms_spec (ws := wsX6_hide) BB.pre
  have hown : ss.vm.findClass RX6 = some mm.cls := findClass_of_methodNamed BB.named
  have hlocks := BB.notSynchronized
  subst hsz
  have hD := hD0.self (sz := ss.heap.size)
  have hA : ∀ q : Nat, ss.heap.size ≤ q → va_A (w_X6_hide G ko ad w h la tp ft tr mv S mk) ss.heap.size q := fun q h => Or.inr h
  have hS : va_S (va_A (w_X6_hide G ko ad w h la tp ft tr mv S mk) ss.heap.size) ss.heap ss.heap [] := va_S.rf
  replace hD : va_D (va_A (w_X6_hide G ko ad w h la tp ft tr mv S mk) ss.heap.size) [oC ko 6 [.ref (ad 0), .ref (ad 1), .int (nI w), .int (nI h), .int (nI la), .ref (ad 2), .int (mv 0), .int (mv 1), .int (mv 2), .int (mv 3), .int (mv 4), .int (mv 5), .int (mv 6), .ref (ad 3), .int (nI tp), .int (mv 7), .int (mv 8), .int (mv 9), .int (mv 10), .int ft, .int (mv 11), .ref (ad 4), .ref (ad 5), .ref (ad 6), .ref (ad 7), .ref (ad 8), .ref (ad 9), .ref (ad 10), .int tr], iA G (ad 0) 255 S, iA G (ad 4) 16 mk] := hD
  replace hP : xP G [oC ko 6 [.ref (ad 0), .ref (ad 1), .int (nI w), .int (nI h), .int (nI la), .ref (ad 2), .int (mv 0), .int (mv 1), .int (mv 2), .int (mv 3), .int (mv 4), .int (mv 5), .int (mv 6), .ref (ad 3), .int (nI tp), .int (mv 7), .int (mv 8), .int (mv 9), .int (mv 10), .int ft, .int (mv 11), .ref (ad 4), .ref (ad 5), .ref (ad 6), .ref (ad 7), .ref (ad 8), .ref (ad 9), .ref (ad 10), .int tr], iA G (ad 0) 255 S, iA G (ad 4) 16 mk] ss.heap := hP
  have hin6 : ∀ w ∈ u_ws RX6 TX6 29, w ∈ wsX6_hide := fun w h => List.mem_cons_of_mem _ (List.mem_append_right _ h)
  have hl := lv_entry ([.ref ko, .int x]) (n := 4) (Nat.le_of_ble_eq_true rfl)
  rw [lg_entry_eq]
  generalize (lg_sl ([.ref ko, .int x]) ++ List.replicate (4 - (lg_sl ([.ref ko, .int x])).length) Slot.unset).toArray = ls at hl ⊢
  replace hl : lv_has ls 4 [(0, .ref ko), (1, .int x)] := hl
  refine lv_aload_n hx hb dX6_hide_0 rfl (lv_at hl 0 rfl) ?_
  refine lv_iload_n hx hb dX6_hide_1 rfl (lv_at hl 1 rfl) ?_
  refine xr_i (As := [.int x]) (rest := []) ⟨hx, hb, hml, hown, hts⟩ (c_X6_isCell l G ko ad w h la tp ft tr mv x (by first | assumption | omega) (by first | assumption | omega)) (cwV 1 hts gX6_hide_X6_isCell rfl rfl rfl (by decide +kernel) ⟨Nat.le_of_ble_eq_true rfl, Nat.le_of_ble_eq_true rfl⟩) hK hP hS [0] rfl rfl rfl rfl hl.1 rfl (Nat.le_of_ble_eq_true rfl) dX6_hide_2 ⟨Nat.zero_le _, Nat.zero_le _⟩ (fun r2 H locs hp2 hP hS => ?_)
  rw [show r2 = _ from hp2]
  refine xb_if_ne (tgt := 10) hx hb dX6_hide_5 rfl (fun b5 => ?_) (fun b5 => ?_)
  · skip
    obtain ⟨x0, hx0, rfl⟩ := inR_nat b5
    refine lv_aload_n hx hb dX6_hide_10 rfl (lv_at hl 0 rfl) ?_
    refine va_get (D := G.1) (ci := 6) (v := .ref (ad 0)) (C := RX6) (T := TX6) (N := 29) hx hb hts hin6 hown hK.1 hP 0 rfl rfl 0 (by decide) (hts (.fieldLink RX6 7 "BackLensesModel" "st" "[I") (List.mem_of_getElem? (i := 1) rfl)) (fun _ h9 => h9) rfl dX6_hide_11 ?_
    refine lv_bipush (v := nI 47) hx hb dX6_hide_14 (by decide) ?_
    refine xn_iald hx hb hK hP 1 rfl (by omega) (by omega) dX6_hide_16 ?_
    refine xn_top (y := nI nl) (by exact hs47) ?_
    refine xn_if_ne (tgt := 23) hx hb (by omega) dX6_hide_17 rfl (fun b17 => ?_) (fun b17 => ?_)
    · skip
      refine lv_iconst (v := nI 1) hx hb dX6_hide_23 (by decide) ?_
      refine lv_aload_n hx hb dX6_hide_24 rfl (lv_at hl 0 rfl) ?_
      refine xr_i (As := []) (rest := [.int (nI 1)]) ⟨hx, hb, hml, hown, hts⟩ (c_X6_cellsNow l G ko ad w h la tp ft tr mv ) (cwV 0 hts gX6_hide_X6_cellsNow rfl rfl rfl (by decide +kernel) ⟨Nat.le_of_ble_eq_true rfl, Nat.le_of_ble_eq_true rfl⟩) hK hP hS [0] rfl rfl rfl rfl hl.1 rfl (Nat.le_of_ble_eq_true rfl) dX6_hide_25 ⟨Nat.zero_le _, Nat.zero_le _⟩ (fun r25 H locs hp25 hP hS => ?_)
      rw [show r25 = _ from hp25]
      refine lv_ishl hx hb dX6_hide_28 ?_
      refine lv_iconst (v := nI 1) hx hb dX6_hide_29 (by decide) ?_
      refine lv_isub hx hb dX6_hide_30 ?_
      refine lv_istore_n (lv' := [(2, .int (((nI 1) <<< ((nI (w * h)) &&& 31)) - (nI 1))), (0, .ref ko), (1, .int (nI x0))]) hx hb dX6_hide_31 rfl hl (by decide) rfl (fun ls hl => ?_)
      refine lv_iconst (v := nI 0) hx hb dX6_hide_32 (by decide) ?_
      refine lv_istore_n (lv' := [(3, .int (nI 0)), (2, .int (((nI 1) <<< ((nI (w * h)) &&& 31)) - (nI 1))), (0, .ref ko), (1, .int (nI x0))]) hx hb dX6_hide_33 rfl hl (by decide) rfl (fun ls hl => ?_)
      have hL34 : ∀ k : Nat, ∀ (i : Nat) (bits : Int32) (mk3 : Nat → Int32) (ls : Array Slot) (H : Heap) (locs : List Loc), nl - i = k → (i ≤ nl) → (bits = anF (fun l => sgM w h S nc x0 (tn (S (48 + 2 * l)))) (nI 1 <<< (nI (w * h) &&& 31) - nI 1) i) → lv_has ls 4 [(0, .ref ko), (1, .int (nI x0)), (2, .int bits), (3, .int (nI i))] → xP G [iA G (ad 0) 255 S, iA G (ad 4) 16 mk3, oC ko 6 [.ref (ad 0), .ref (ad 1), .int (nI w), .int (nI h), .int (nI la), .ref (ad 2), .int (mv 0), .int (mv 1), .int (mv 2), .int (mv 3), .int (mv 4), .int (mv 5), .int (mv 6), .ref (ad 3), .int (nI tp), .int (mv 7), .int (mv 8), .int (mv 9), .int (mv 10), .int ft, .int (mv 11), .ref (ad 4), .ref (ad 5), .ref (ad 6), .ref (ad 7), .ref (ad 8), .ref (ad 9), .ref (ad 10), .int tr]] H → va_D (va_A (w_X6_hide G ko ad w h la tp ft tr mv S mk) ss.heap.size) [iA G (ad 0) 255 S, iA G (ad 4) 16 mk3, oC ko 6 [.ref (ad 0), .ref (ad 1), .int (nI w), .int (nI h), .int (nI la), .ref (ad 2), .int (mv 0), .int (mv 1), .int (mv 2), .int (mv 3), .int (mv 4), .int (mv 5), .int (mv 6), .ref (ad 3), .int (nI tp), .int (mv 7), .int (mv 8), .int (mv 9), .int (mv 10), .int ft, .int (mv 11), .ref (ad 4), .ref (ad 5), .ref (ad 6), .ref (ad 7), .ref (ad 8), .ref (ad 9), .ref (ad 10), .int tr]] → va_S (va_A (w_X6_hide G ko ad w h la tp ft tr mv S mk) ss.heap.size) ss.heap H locs → W pp l ee ({ frames := 4, cells := 0, slots := 0, locals := 89 } : Room) ss mm ([.ref ko, .int (nI x0)] : List Value).toArray below mt cd H locs 0 0 (MQ below (Q_X6_hide G ss.heap.size ko ad w h la tp ft tr mv S mk nc nl (nI x0)) ([.ref ko, .int (nI x0)] : List Value).toArray ss 0 0 (va_A (w_X6_hide G ko ad w h la tp ft tr mv S mk) ss.heap.size)) (F0 mm 34 ls []) := by
        intro k
        induction k using Nat.strongRecOn with
        | _ k ih34 =>
        intro i bits mk3 ls H locs hm34 hi hbits hl hP hD hS
        refine lv_iload_n hx hb dX6_hide_34 rfl (lv_at hl 3 rfl) ?_
        refine lv_aload_n hx hb dX6_hide_35 rfl (lv_at hl 0 rfl) ?_
        refine va_get (D := G.1) (ci := 6) (v := .ref (ad 0)) (C := RX6) (T := TX6) (N := 29) hx hb hts hin6 hown hK.1 hP 2 rfl rfl 0 (by decide) (hts (.fieldLink RX6 7 "BackLensesModel" "st" "[I") (List.mem_of_getElem? (i := 1) rfl)) (fun _ h9 => h9) rfl dX6_hide_36 ?_
        refine lv_bipush (v := nI 47) hx hb dX6_hide_39 (by decide) ?_
        refine xn_iald hx hb hK hP 0 rfl (by omega) (by omega) dX6_hide_41 ?_
        refine xn_top (y := nI nl) (by exact hs47) ?_
        refine xn_icmp_ge (tgt := 72) hx hb (by omega) (by omega) dX6_hide_42 rfl (fun b42 => ?_) (fun b42 => ?_)
        · skip
          refine lv_iload_n hx hb dX6_hide_72 rfl (lv_at hl 2 rfl) ?_
          have hP := hP.sub (ws' := [oC ko 6 [.ref (ad 0), .ref (ad 1), .int (nI w), .int (nI h), .int (nI la), .ref (ad 2), .int (mv 0), .int (mv 1), .int (mv 2), .int (mv 3), .int (mv 4), .int (mv 5), .int (mv 6), .ref (ad 3), .int (nI tp), .int (mv 7), .int (mv 8), .int (mv 9), .int (mv 10), .int ft, .int (mv 11), .ref (ad 4), .ref (ad 5), .ref (ad 6), .ref (ad 7), .ref (ad 8), .ref (ad 9), .ref (ad 10), .int tr], iA G (ad 0) 255 S, iA G (ad 4) 16 mk3]) [2, 0, 1] rfl
          have hD := hD.sub (ws' := [oC ko 6 [.ref (ad 0), .ref (ad 1), .int (nI w), .int (nI h), .int (nI la), .ref (ad 2), .int (mv 0), .int (mv 1), .int (mv 2), .int (mv 3), .int (mv 4), .int (mv 5), .int (mv 6), .ref (ad 3), .int (nI tp), .int (mv 7), .int (mv 8), .int (mv 9), .int (mv 10), .int ft, .int (mv 11), .ref (ad 4), .ref (ad 5), .ref (ad 6), .ref (ad 7), .ref (ad 8), .ref (ad 9), .ref (ad 10), .int tr], iA G (ad 0) 255 S, iA G (ad 4) 16 mk3]) [2, 0, 1] (by decide) rfl
          refine W.iret (v := bits) hx hb hr (fun t ht hW => ⟨⟨bits, (mk3), rfl, ?_, by rw [ht]; exact hP, hD⟩, hS.F ht⟩) hS.2.2 dX6_hide_73
          first | exact (if_neg b5).symm | exact (by rw [if_pos (inR_nI hx0 (by omega)), if_pos b17]) | (rw [if_pos (inR_nI hx0 (by omega)), if_neg b17, tn_nI (by omega), hbits, show i = nl by omega])
        · skip
          refine lv_iload_n hx hb dX6_hide_45 rfl (lv_at hl 2 rfl) ?_
          refine lv_aload_n hx hb dX6_hide_46 rfl (lv_at hl 0 rfl) ?_
          refine lv_iload_n hx hb dX6_hide_47 rfl (lv_at hl 1 rfl) ?_
          refine lv_aload_n hx hb dX6_hide_48 rfl (lv_at hl 0 rfl) ?_
          refine va_get (D := G.1) (ci := 6) (v := .ref (ad 0)) (C := RX6) (T := TX6) (N := 29) hx hb hts hin6 hown hK.1 hP 2 rfl rfl 0 (by decide) (hts (.fieldLink RX6 7 "BackLensesModel" "st" "[I") (List.mem_of_getElem? (i := 1) rfl)) (fun _ h9 => h9) rfl dX6_hide_49 ?_
          refine lv_bipush (v := nI 48) hx hb dX6_hide_52 (by decide) ?_
          refine lv_iconst (v := nI 2) hx hb dX6_hide_54 (by decide) ?_
          refine lv_iload_n hx hb dX6_hide_55 rfl (lv_at hl 3 rfl) ?_
          refine xn_imul hx hb dX6_hide_56 ?_
          refine xn_iadd hx hb dX6_hide_57 ?_
          refine xn_iald hx hb hK hP 0 rfl (by omega) (by omega) dX6_hide_58 ?_
          obtain ⟨d0, hd0, ed0⟩ := inR_nat (hlens i (by omega))
          refine xn_top ed0 ?_
          refine xw_i (As := [.int (nI x0), .int (nI d0)]) (rest := [.int bits]) (wr := []) ⟨hx, hb, hml, hown, hts⟩ (c_X6_sightOn l G H.size ko ad w h la tp ft tr mv S mk3 nc x0 d0 (by first | assumption | omega) (by first | assumption | omega) (by first | assumption | omega) (by first | assumption | omega) (by first | assumption | omega) (by first | assumption | omega) (by first | assumption | omega) (by first | assumption | omega) (by first | assumption | omega) (by first | assumption | omega)) (cwV 2 hts gX6_hide_X6_sightOn rfl rfl rfl (by decide +kernel) ⟨Nat.le_of_ble_eq_true rfl, Nat.le_of_ble_eq_true rfl⟩) hK hP hD hS hA [2, 0, 1] [] rfl rfl (by decide) (by decide) (by decide) rfl rfl rfl hl.1 rfl (Nat.le_of_ble_eq_true rfl) dX6_hide_59 ⟨Nat.le_of_ble_eq_true rfl, Nat.le_of_ble_eq_true rfl⟩ (fun r59 u H locs hp59 hP hD hS => ?_)
          obtain ⟨mk2_59, rfl⟩ : ∃ z, z = u := ⟨_, rfl⟩
          try dsimp only at hp59 hP hD
          obtain rfl := hp59
          replace hP : xP G [oC ko 6 [.ref (ad 0), .ref (ad 1), .int (nI w), .int (nI h), .int (nI la), .ref (ad 2), .int (mv 0), .int (mv 1), .int (mv 2), .int (mv 3), .int (mv 4), .int (mv 5), .int (mv 6), .ref (ad 3), .int (nI tp), .int (mv 7), .int (mv 8), .int (mv 9), .int (mv 10), .int ft, .int (mv 11), .ref (ad 4), .ref (ad 5), .ref (ad 6), .ref (ad 7), .ref (ad 8), .ref (ad 9), .ref (ad 10), .int tr], iA G (ad 0) 255 S, iA G (ad 4) 16 mk2_59] H := hP
          replace hD : va_D (va_A (w_X6_hide G ko ad w h la tp ft tr mv S mk) ss.heap.size) [oC ko 6 [.ref (ad 0), .ref (ad 1), .int (nI w), .int (nI h), .int (nI la), .ref (ad 2), .int (mv 0), .int (mv 1), .int (mv 2), .int (mv 3), .int (mv 4), .int (mv 5), .int (mv 6), .ref (ad 3), .int (nI tp), .int (mv 7), .int (mv 8), .int (mv 9), .int (mv 10), .int ft, .int (mv 11), .ref (ad 4), .ref (ad 5), .ref (ad 6), .ref (ad 7), .ref (ad 8), .ref (ad 9), .ref (ad 10), .int tr], iA G (ad 0) 255 S, iA G (ad 4) 16 mk2_59] := hD
          refine lv_iconst (v := (-1)) hx hb dX6_hide_62 (by decide) ?_
          refine lv_ixor hx hb dX6_hide_63 ?_
          refine lv_iand hx hb dX6_hide_64 ?_
          refine lv_istore_n (lv' := [(2, .int (bits &&& ((sgM w h S nc x0 d0) ^^^ (-1)))), (0, .ref ko), (1, .int (nI x0)), (3, .int (nI i))]) hx hb dX6_hide_65 rfl hl (by decide) rfl (fun ls hl => ?_)
          refine lv_iinc (k := 3) (v := nI (i + 1)) (lv' := [(3, .int (nI (i + 1))), (2, .int (bits &&& ((sgM w h S nc x0 d0) ^^^ (-1)))), (0, .ref ko), (1, .int (nI x0))]) hx hb dX6_hide_66 hl rfl (xn_inc i 1) (by decide) rfl (fun ls hl => ?_)
          refine lv_goto (tgt := 34) hx hb dX6_hide_69 rfl ?_
          have hl := lv_sub hl (l' := [(0, .ref ko), (1, .int (nI x0)), (2, .int (bits &&& ((sgM w h S nc x0 d0) ^^^ (-1)))), (3, .int (nI (i + 1)))]) [2, 3, 1, 0] rfl
          have hP := hP.sub (ws' := [iA G (ad 0) 255 S, iA G (ad 4) 16 mk2_59, oC ko 6 [.ref (ad 0), .ref (ad 1), .int (nI w), .int (nI h), .int (nI la), .ref (ad 2), .int (mv 0), .int (mv 1), .int (mv 2), .int (mv 3), .int (mv 4), .int (mv 5), .int (mv 6), .ref (ad 3), .int (nI tp), .int (mv 7), .int (mv 8), .int (mv 9), .int (mv 10), .int ft, .int (mv 11), .ref (ad 4), .ref (ad 5), .ref (ad 6), .ref (ad 7), .ref (ad 8), .ref (ad 9), .ref (ad 10), .int tr]]) [1, 2, 0] rfl
          have hD := hD.sub (ws' := [iA G (ad 0) 255 S, iA G (ad 4) 16 mk2_59, oC ko 6 [.ref (ad 0), .ref (ad 1), .int (nI w), .int (nI h), .int (nI la), .ref (ad 2), .int (mv 0), .int (mv 1), .int (mv 2), .int (mv 3), .int (mv 4), .int (mv 5), .int (mv 6), .ref (ad 3), .int (nI tp), .int (mv 7), .int (mv 8), .int (mv 9), .int (mv 10), .int ft, .int (mv 11), .ref (ad 4), .ref (ad 5), .ref (ad 6), .ref (ad 7), .ref (ad 8), .ref (ad 9), .ref (ad 10), .int tr]]) [1, 2, 0] (by decide) rfl
          exact ih34 (nl - (i + 1)) (by omega) (i + 1) (bits &&& ((sgM w h S nc x0 d0) ^^^ (-1))) mk2_59 ls H locs rfl (by omega) (by rw [hbits, anF, ed0, tn_nI (by omega)]) hl hP hD hS
      have hl := lv_sub hl (l' := [(0, .ref ko), (1, .int (nI x0)), (2, .int (((nI 1) <<< ((nI (w * h)) &&& 31)) - (nI 1))), (3, .int (nI 0))]) [2, 3, 1, 0] rfl
      have hP := hP.sub (ws' := [iA G (ad 0) 255 S, iA G (ad 4) 16 mk, oC ko 6 [.ref (ad 0), .ref (ad 1), .int (nI w), .int (nI h), .int (nI la), .ref (ad 2), .int (mv 0), .int (mv 1), .int (mv 2), .int (mv 3), .int (mv 4), .int (mv 5), .int (mv 6), .ref (ad 3), .int (nI tp), .int (mv 7), .int (mv 8), .int (mv 9), .int (mv 10), .int ft, .int (mv 11), .ref (ad 4), .ref (ad 5), .ref (ad 6), .ref (ad 7), .ref (ad 8), .ref (ad 9), .ref (ad 10), .int tr]]) [1, 2, 0] rfl
      have hD := hD.sub (ws' := [iA G (ad 0) 255 S, iA G (ad 4) 16 mk, oC ko 6 [.ref (ad 0), .ref (ad 1), .int (nI w), .int (nI h), .int (nI la), .ref (ad 2), .int (mv 0), .int (mv 1), .int (mv 2), .int (mv 3), .int (mv 4), .int (mv 5), .int (mv 6), .ref (ad 3), .int (nI tp), .int (mv 7), .int (mv 8), .int (mv 9), .int (mv 10), .int ft, .int (mv 11), .ref (ad 4), .ref (ad 5), .ref (ad 6), .ref (ad 7), .ref (ad 8), .ref (ad 9), .ref (ad 10), .int tr]]) [1, 2, 0] (by decide) rfl
      exact hL34 (nl - 0) 0 (((nI 1) <<< ((nI (w * h)) &&& 31)) - (nI 1)) mk ls H locs rfl (by omega) (by rfl) hl hP hD hS
    · skip
      refine lv_bipush (v := (-2)) hx hb dX6_hide_20 (by decide) ?_
      have hP := hP.sub (ws' := [oC ko 6 [.ref (ad 0), .ref (ad 1), .int (nI w), .int (nI h), .int (nI la), .ref (ad 2), .int (mv 0), .int (mv 1), .int (mv 2), .int (mv 3), .int (mv 4), .int (mv 5), .int (mv 6), .ref (ad 3), .int (nI tp), .int (mv 7), .int (mv 8), .int (mv 9), .int (mv 10), .int ft, .int (mv 11), .ref (ad 4), .ref (ad 5), .ref (ad 6), .ref (ad 7), .ref (ad 8), .ref (ad 9), .ref (ad 10), .int tr], iA G (ad 0) 255 S, iA G (ad 4) 16 mk]) [0, 1, 2] rfl
      have hD := hD.sub (ws' := [oC ko 6 [.ref (ad 0), .ref (ad 1), .int (nI w), .int (nI h), .int (nI la), .ref (ad 2), .int (mv 0), .int (mv 1), .int (mv 2), .int (mv 3), .int (mv 4), .int (mv 5), .int (mv 6), .ref (ad 3), .int (nI tp), .int (mv 7), .int (mv 8), .int (mv 9), .int (mv 10), .int ft, .int (mv 11), .ref (ad 4), .ref (ad 5), .ref (ad 6), .ref (ad 7), .ref (ad 8), .ref (ad 9), .ref (ad 10), .int tr], iA G (ad 0) 255 S, iA G (ad 4) 16 mk]) [0, 1, 2] (by decide) rfl
      refine W.iret (v := (-2)) hx hb hr (fun t ht hW => ⟨⟨(-2), (mk), rfl, ?_, by rw [ht]; exact hP, hD⟩, hS.F ht⟩) hS.2.2 dX6_hide_22
      first | exact (if_neg b5).symm | exact (by rw [if_pos (inR_nI hx0 (by omega)), if_pos b17]) | (rw [if_pos (inR_nI hx0 (by omega)), if_neg b17, tn_nI (by omega), hbits, show i = nl by omega])
  · skip
    refine lv_iconst (v := (-1)) hx hb dX6_hide_8 (by decide) ?_
    have hP := hP.sub (ws' := [oC ko 6 [.ref (ad 0), .ref (ad 1), .int (nI w), .int (nI h), .int (nI la), .ref (ad 2), .int (mv 0), .int (mv 1), .int (mv 2), .int (mv 3), .int (mv 4), .int (mv 5), .int (mv 6), .ref (ad 3), .int (nI tp), .int (mv 7), .int (mv 8), .int (mv 9), .int (mv 10), .int ft, .int (mv 11), .ref (ad 4), .ref (ad 5), .ref (ad 6), .ref (ad 7), .ref (ad 8), .ref (ad 9), .ref (ad 10), .int tr], iA G (ad 0) 255 S, iA G (ad 4) 16 mk]) [0, 1, 2] rfl
    have hD := hD.sub (ws' := [oC ko 6 [.ref (ad 0), .ref (ad 1), .int (nI w), .int (nI h), .int (nI la), .ref (ad 2), .int (mv 0), .int (mv 1), .int (mv 2), .int (mv 3), .int (mv 4), .int (mv 5), .int (mv 6), .ref (ad 3), .int (nI tp), .int (mv 7), .int (mv 8), .int (mv 9), .int (mv 10), .int ft, .int (mv 11), .ref (ad 4), .ref (ad 5), .ref (ad 6), .ref (ad 7), .ref (ad 8), .ref (ad 9), .ref (ad 10), .int tr], iA G (ad 0) 255 S, iA G (ad 4) 16 mk]) [0, 1, 2] (by decide) rfl
    refine W.iret (v := (-1)) hx hb hr (fun t ht hW => ⟨⟨(-1), (mk), rfl, ?_, by rw [ht]; exact hP, hD⟩, hS.F ht⟩) hS.2.2 dX6_hide_9
    first | exact (if_neg b5).symm | exact (by rw [if_pos (inR_nI hx0 (by omega)), if_pos b17]) | (rw [if_pos (inR_nI hx0 (by omega)), if_neg b17, tn_nI (by omega), hbits, show i = nl by omega])
end
section
abbrev pairM (w h : Nat) (S : Nat → Int32) (nc d e : Nat) (s : Int32) : Bool := decide (apM w h S nc d e = 0) || !decide (apM w h S nc d e &&& s = 0)
def plM (w h la : Nat) (S : Nat → Int32) (nc : Nat) (s : Int32) : Bool := allF (fun d => allF (fun e => pairM w h S nc d e s) d) (la + 1)
section Pm
variable {w h la : Nat} {S pf : Nat → Int32} {nc d e n : Nat}
theorem pm_skip (hz : apM w h S nc d e = 0) (hp : ∀ s, allF (fun i => !decide (pf i &&& s = 0)) n = (allF (fun d => allF (fun e => pairM w h S nc d e s) d) d && allF (fun e => pairM w h S nc d e s) e)) :
    ∀ s, allF (fun i => !decide (upd pf n (apM w h S nc d e) i &&& s = 0)) n = (allF (fun d => allF (fun e => pairM w h S nc d e s) d) d && allF (fun e => pairM w h S nc d e s) (e + 1)) := by
  intro s
  rw [allF_congr (p := fun i => !decide (upd pf n (apM w h S nc d e) i &&& s = 0)) (p' := fun i => !decide (pf i &&& s = 0)) n (fun i hi => by rw [upd_ne (by omega)]), hp s, allF.eq_2 _ e, show pairM w h S nc d e s = true from (by simp only [pairM, decide_eq_true hz]; rfl), Bool.and_true]
theorem pm_add (hz : ¬ apM w h S nc d e = 0) (hp : ∀ s, allF (fun i => !decide (pf i &&& s = 0)) n = (allF (fun d => allF (fun e => pairM w h S nc d e s) d) d && allF (fun e => pairM w h S nc d e s) e)) :
    ∀ s, allF (fun i => !decide (upd pf n (apM w h S nc d e) i &&& s = 0)) (n + 1) = (allF (fun d => allF (fun e => pairM w h S nc d e s) d) d && allF (fun e => pairM w h S nc d e s) (e + 1)) := by
  intro s
  rw [wants_add, hp s, allF.eq_2 _ e, show pairM w h S nc d e s = !decide (apM w h S nc d e &&& s = 0) from (by simp only [pairM, decide_eq_false hz, Bool.false_or]), Bool.and_assoc]
end Pm
def trN : Nat → Nat
  | 0 => 0
  | d + 1 => trN d + d
theorem trN_lt {d e : Nat} (h1 : d ≤ 9) (h2 : e < d) : trN d + e < 45 := by
  have : ∀ d, d < 10 → trN d + d ≤ 45 := by decide
  have := this d (by omega)
  omega
theorem trN_le {d : Nat} (h1 : d ≤ 10) : trN d ≤ 45 := by
  have : ∀ d, d < 11 → trN d ≤ 45 := by decide
  exact this d (by omega)
/-- the best of the sets below n: by fewest cells, the first -/
def swF (P : Int32 → Bool) : Nat → Int32 × Int32
  | 0 => (nI 1000000, nI 0)
  | s + 1 => if (bcM (nI s) 16).toInt < (swF P s).1.toInt ∧ P (nI s) = true then (bcM (nI s) 16, nI s) else swF P s
theorem swF_y {P : Int32 → Bool} {s : Nat} {a b : Int32} (h : (a, b) = swF P s) (h1 : (bcM (nI s) 16).toInt < a.toInt) (h2 : P (nI s) = true) : (bcM (nI s) 16, nI s) = swF P (s + 1) := by
  rw [swF, ← h, if_pos ⟨h1, h2⟩]
theorem swF_n1 {P : Int32 → Bool} {s : Nat} {a b : Int32} (h : (a, b) = swF P s) (h1 : ¬ (bcM (nI s) 16).toInt < a.toInt) : (a, b) = swF P (s + 1) := by
  rw [swF, ← h, if_neg (fun q => h1 q.1)]
theorem swF_n2 {P : Int32 → Bool} {s : Nat} {a b : Int32} (h : (a, b) = swF P s) (h2 : P (nI s) = false) : (a, b) = swF P (s + 1) := by
  rw [swF, ← h, if_neg (fun q => by rw [h2] at q; exact absurd q.2 (by decide))]
/-- what is seen from the cells of s -/
def uniF (v : Nat → Int32) (s : Int32) : Nat → Int32
  | 0 => nI 0
  | x + 1 => uniF v s x ||| (if (s >>> (nI x &&& 31)) &&& nI 1 = nI 1 then v x else nI 0)
def bsM (f : Nat → Int32) : Nat → Int32 × Int32
  | 0 => ((-1), nI 0)
  | x + 1 => if (bcM (f x) 16).toInt ≤ (bsM f x).1.toInt then bsM f x else (bcM (f x) 16, nI x)
theorem swF_congr {P P' : Int32 → Bool} (n : Nat) (h : ∀ s, P s = P' s) : swF P n = swF P' n := by rw [show P = P' from funext h]
end
section
abbrev w_X6_findPairs (G : XG) (ko : Nat) (ad : Nat → Nat) (w h la tp : Nat) (ft tr : Int32) (mv : Nat → Int32) (S mk : Nat → Int32) (vs pr : Nat → Int32) : va_W := [oC ko 6 [.ref (ad 0), .ref (ad 1), .int (nI w), .int (nI h), .int (nI la), .ref (ad 2), .int (mv 0), .int (mv 1), .int (mv 2), .int (mv 3), .int (mv 4), .int (mv 5), .int (mv 6), .ref (ad 3), .int (nI tp), .int (mv 7), .int (mv 8), .int (mv 9), .int (mv 10), .int ft, .int (mv 11), .ref (ad 4), .ref (ad 5), .ref (ad 6), .ref (ad 7), .ref (ad 8), .ref (ad 9), .ref (ad 10), .int tr], iA G (ad 0) 255 S, iA G (ad 4) 16 mk, iA G (ad 6) 160 vs, iA G (ad 7) 46 pr]
abbrev Q_X6_findPairs (G : XG) (sz : Nat) (ko : Nat) (ad : Nat → Nat) (w h la tp : Nat) (ft tr : Int32) (mv : Nat → Int32) (S mk : Nat → Int32) (nc : Nat) (vs pr : Nat → Int32) : Array Value → State → Outcome → State → Prop := (va_Qi (fun (r : Int32) (u : Nat × (Nat → Int32) × (Nat → Int32) × (Nat → Int32)) => r = nI u.1 ∧ (u.1 ≤ 45 ∧ ∀ s, allF (fun i => !decide (u.2.2.2 i &&& s = 0)) u.1 = plM w h la S nc s)) (xWb G sz (w_X6_findPairs G ko ad w h la tp ft tr mv S mk vs pr) (fun u : Nat × (Nat → Int32) × (Nat → Int32) × (Nat → Int32) => [oC ko 6 [.ref (ad 0), .ref (ad 1), .int (nI w), .int (nI h), .int (nI la), .ref (ad 2), .int (mv 0), .int (mv 1), .int (mv 2), .int (mv 3), .int (mv 4), .int (mv 5), .int (mv 6), .ref (ad 3), .int (nI tp), .int (mv 7), .int (mv 8), .int (mv 9), .int (mv 10), .int ft, .int (mv 11), .ref (ad 4), .ref (ad 5), .ref (ad 6), .ref (ad 7), .ref (ad 8), .ref (ad 9), .ref (ad 10), .int tr], iA G (ad 0) 255 S, iA G (ad 4) 16 u.2.1, iA G (ad 6) 160 u.2.2.1, iA G (ad 7) 46 u.2.2.2])) (va_A (w_X6_findPairs G ko ad w h la tp ft tr mv S mk vs pr) sz))
set_option maxHeartbeats 4000000 in
set_option maxRecDepth 100000 in
theorem c_X6_findPairs (l : Launch) (G : XG) (sz : Nat) (ko : Nat) (ad : Nat → Nat) (w h la tp : Nat) (ft tr : Int32) (mv : Nat → Int32) (S mk : Nat → Int32) (nc : Nat) (vs pr : Nat → Int32) (hw : 1 ≤ w) (hwb : w ≤ 16) (hhb : h ≤ 16) (hwh1 : 1 ≤ w * h) (hwh : w * h ≤ 16) (hla : la ≤ 9) (hs16 : S 16 = nI nc) (hnc : nc ≤ 10) : Met l yX6_findPairs wsX6_findPairs ({ frames := 4, cells := 0, slots := 0, locals := 89 } : Room) (va_Pc [.ref ko] (xWp G sz (w_X6_findPairs G ko ad w h la tp ft tr mv S mk vs pr))) (Q_X6_findPairs G sz ko ad w h la tp ft tr mv S mk nc vs pr) 0 0 (va_A (w_X6_findPairs G ko ad w h la tp ft tr mv S mk vs pr) sz) := by
  refine Met.ofW (cc := cX6_findPairs) (maxL := 4) (ret := (some .int)) (by decide) rfl ?_
  intro pp ee ss mm aa below mt cd s₁ BB hml hv
  obtain ⟨rfl, hsz, hP, hK, hD0⟩ := hv
  have hx := BB.exec
  have hb := BB.bytes
  have hr := BB.returns
  have hts := atoms_spec (ws := wsX6_findPairs) BB.pre
  have hown : ss.vm.findClass RX6 = some mm.cls := findClass_of_methodNamed BB.named
  have hlocks := BB.notSynchronized
  subst hsz
  have hD := hD0.self (sz := ss.heap.size)
  have hA : ∀ q : Nat, ss.heap.size ≤ q → va_A (w_X6_findPairs G ko ad w h la tp ft tr mv S mk vs pr) ss.heap.size q := fun q h => Or.inr h
  have hS : va_S (va_A (w_X6_findPairs G ko ad w h la tp ft tr mv S mk vs pr) ss.heap.size) ss.heap ss.heap [] := va_S.rf
  replace hD : va_D (va_A (w_X6_findPairs G ko ad w h la tp ft tr mv S mk vs pr) ss.heap.size) [oC ko 6 [.ref (ad 0), .ref (ad 1), .int (nI w), .int (nI h), .int (nI la), .ref (ad 2), .int (mv 0), .int (mv 1), .int (mv 2), .int (mv 3), .int (mv 4), .int (mv 5), .int (mv 6), .ref (ad 3), .int (nI tp), .int (mv 7), .int (mv 8), .int (mv 9), .int (mv 10), .int ft, .int (mv 11), .ref (ad 4), .ref (ad 5), .ref (ad 6), .ref (ad 7), .ref (ad 8), .ref (ad 9), .ref (ad 10), .int tr], iA G (ad 0) 255 S, iA G (ad 4) 16 mk, iA G (ad 6) 160 vs, iA G (ad 7) 46 pr] := hD
  replace hP : xP G [oC ko 6 [.ref (ad 0), .ref (ad 1), .int (nI w), .int (nI h), .int (nI la), .ref (ad 2), .int (mv 0), .int (mv 1), .int (mv 2), .int (mv 3), .int (mv 4), .int (mv 5), .int (mv 6), .ref (ad 3), .int (nI tp), .int (mv 7), .int (mv 8), .int (mv 9), .int (mv 10), .int ft, .int (mv 11), .ref (ad 4), .ref (ad 5), .ref (ad 6), .ref (ad 7), .ref (ad 8), .ref (ad 9), .ref (ad 10), .int tr], iA G (ad 0) 255 S, iA G (ad 4) 16 mk, iA G (ad 6) 160 vs, iA G (ad 7) 46 pr] ss.heap := hP
  have hin6 : ∀ w ∈ u_ws RX6 TX6 29, w ∈ wsX6_findPairs := fun w h => List.mem_cons_of_mem _ (List.mem_append_right _ h)
  have hl := lv_entry ([.ref ko]) (n := 4) (Nat.le_of_ble_eq_true rfl)
  rw [lg_entry_eq]
  generalize (lg_sl ([.ref ko]) ++ List.replicate (4 - (lg_sl ([.ref ko])).length) Slot.unset).toArray = ls at hl ⊢
  replace hl : lv_has ls 4 [(0, .ref ko)] := hl
  refine lv_iconst (v := nI 0) hx hb dX6_findPairs_0 (by decide) ?_
  refine lv_istore_n (lv' := [(1, .int (nI 0)), (0, .ref ko)]) hx hb dX6_findPairs_1 rfl hl (by decide) rfl (fun ls hl => ?_)
  refine lv_aload_n hx hb dX6_findPairs_2 rfl (lv_at hl 1 rfl) ?_
  refine xw_v (As := []) (rest := []) (wr := [iA G (ad 7) 46 pr]) ⟨hx, hb, hml, hown, hts⟩ (c_X6_findViews l G ss.heap.size ko ad w h la tp ft tr mv S mk nc vs (by first | assumption | omega) (by first | assumption | omega) (by first | assumption | omega) (by first | assumption | omega) (by first | assumption | omega) (by first | assumption | omega) (by first | assumption | omega) (by first | assumption | omega)) (cwV 0 hts gX6_findPairs_X6_findViews rfl rfl rfl (by decide +kernel) ⟨Nat.le_of_ble_eq_true rfl, Nat.le_of_ble_eq_true rfl⟩) hK hP hD hS hA [0, 1, 2, 3] [4] rfl rfl (by decide) (by decide) (by decide) rfl rfl rfl hl.1 rfl (Nat.le_of_ble_eq_true rfl) dX6_findPairs_3 ⟨Nat.le_of_ble_eq_true rfl, Nat.le_of_ble_eq_true rfl⟩ (fun u H locs hp3 hP hD hS => ?_)
  obtain ⟨mk2_3, vs2_3⟩ := u
  try dsimp only at hp3 hP hD
  have he3 := hp3
  replace hP : xP G [iA G (ad 7) 46 pr, oC ko 6 [.ref (ad 0), .ref (ad 1), .int (nI w), .int (nI h), .int (nI la), .ref (ad 2), .int (mv 0), .int (mv 1), .int (mv 2), .int (mv 3), .int (mv 4), .int (mv 5), .int (mv 6), .ref (ad 3), .int (nI tp), .int (mv 7), .int (mv 8), .int (mv 9), .int (mv 10), .int ft, .int (mv 11), .ref (ad 4), .ref (ad 5), .ref (ad 6), .ref (ad 7), .ref (ad 8), .ref (ad 9), .ref (ad 10), .int tr], iA G (ad 0) 255 S, iA G (ad 4) 16 mk2_3, iA G (ad 6) 160 vs2_3] H := hP
  replace hD : va_D (va_A (w_X6_findPairs G ko ad w h la tp ft tr mv S mk vs pr) ss.heap.size) [iA G (ad 7) 46 pr, oC ko 6 [.ref (ad 0), .ref (ad 1), .int (nI w), .int (nI h), .int (nI la), .ref (ad 2), .int (mv 0), .int (mv 1), .int (mv 2), .int (mv 3), .int (mv 4), .int (mv 5), .int (mv 6), .ref (ad 3), .int (nI tp), .int (mv 7), .int (mv 8), .int (mv 9), .int (mv 10), .int ft, .int (mv 11), .ref (ad 4), .ref (ad 5), .ref (ad 6), .ref (ad 7), .ref (ad 8), .ref (ad 9), .ref (ad 10), .int tr], iA G (ad 0) 255 S, iA G (ad 4) 16 mk2_3, iA G (ad 6) 160 vs2_3] := hD
  refine lv_iconst (v := nI 0) hx hb dX6_findPairs_6 (by decide) ?_
  refine lv_istore_n (lv' := [(2, .int (nI 0)), (1, .int (nI 0)), (0, .ref ko)]) hx hb dX6_findPairs_7 rfl hl (by decide) rfl (fun ls hl => ?_)
  have hL8 : ∀ k : Nat, ∀ (d : Nat) (n : Nat) (pr3 : Nat → Int32) (ls : Array Slot) (H : Heap) (locs : List Loc), la + 1 - d = k → (d ≤ la + 1) → (n ≤ trN d) → (∀ s, allF (fun i => !decide (pr3 i &&& s = 0)) n = allF (fun d => allF (fun e => pairM w h S nc d e s) d) d) → lv_has ls 4 [(0, .ref ko), (1, .int (nI n)), (2, .int (nI d))] → xP G [iA G (ad 0) 255 S, iA G (ad 4) 16 mk2_3, iA G (ad 6) 160 vs2_3, iA G (ad 7) 46 pr3, oC ko 6 [.ref (ad 0), .ref (ad 1), .int (nI w), .int (nI h), .int (nI la), .ref (ad 2), .int (mv 0), .int (mv 1), .int (mv 2), .int (mv 3), .int (mv 4), .int (mv 5), .int (mv 6), .ref (ad 3), .int (nI tp), .int (mv 7), .int (mv 8), .int (mv 9), .int (mv 10), .int ft, .int (mv 11), .ref (ad 4), .ref (ad 5), .ref (ad 6), .ref (ad 7), .ref (ad 8), .ref (ad 9), .ref (ad 10), .int tr]] H → va_D (va_A (w_X6_findPairs G ko ad w h la tp ft tr mv S mk vs pr) ss.heap.size) [iA G (ad 0) 255 S, iA G (ad 4) 16 mk2_3, iA G (ad 6) 160 vs2_3, iA G (ad 7) 46 pr3, oC ko 6 [.ref (ad 0), .ref (ad 1), .int (nI w), .int (nI h), .int (nI la), .ref (ad 2), .int (mv 0), .int (mv 1), .int (mv 2), .int (mv 3), .int (mv 4), .int (mv 5), .int (mv 6), .ref (ad 3), .int (nI tp), .int (mv 7), .int (mv 8), .int (mv 9), .int (mv 10), .int ft, .int (mv 11), .ref (ad 4), .ref (ad 5), .ref (ad 6), .ref (ad 7), .ref (ad 8), .ref (ad 9), .ref (ad 10), .int tr]] → va_S (va_A (w_X6_findPairs G ko ad w h la tp ft tr mv S mk vs pr) ss.heap.size) ss.heap H locs → W pp l ee ({ frames := 4, cells := 0, slots := 0, locals := 89 } : Room) ss mm ([.ref ko] : List Value).toArray below mt cd H locs 0 0 (MQ below (Q_X6_findPairs G ss.heap.size ko ad w h la tp ft tr mv S mk nc vs pr) ([.ref ko] : List Value).toArray ss 0 0 (va_A (w_X6_findPairs G ko ad w h la tp ft tr mv S mk vs pr) ss.heap.size)) (F0 mm 8 ls []) := by
    intro k
    induction k using Nat.strongRecOn with
    | _ k ih8 =>
    intro d n pr3 ls H locs hm8 hd hn hp hl hP hD hS
    have htl := trN_le (d := d) (by omega)
    refine lv_iload_n hx hb dX6_findPairs_8 rfl (lv_at hl 2 rfl) ?_
    refine lv_aload_n hx hb dX6_findPairs_9 rfl (lv_at hl 0 rfl) ?_
    refine va_get (D := G.1) (ci := 6) (v := .int (nI la)) (C := RX6) (T := TX6) (N := 29) hx hb hts hin6 hown hK.1 hP 4 rfl rfl 4 (by decide) (hts (.fieldLink RX6 78 "BackLensesModel" "last" "I") (List.mem_of_getElem? (i := 1) rfl)) (fun _ h9 => h9) rfl dX6_findPairs_10 ?_
    refine xn_icmp_gt (tgt := 67) hx hb (by omega) (by omega) dX6_findPairs_13 rfl (fun b13 => ?_) (fun b13 => ?_)
    · skip
      refine lv_iload_n hx hb dX6_findPairs_67 rfl (lv_at hl 1 rfl) ?_
      have hP := hP.sub (ws' := [oC ko 6 [.ref (ad 0), .ref (ad 1), .int (nI w), .int (nI h), .int (nI la), .ref (ad 2), .int (mv 0), .int (mv 1), .int (mv 2), .int (mv 3), .int (mv 4), .int (mv 5), .int (mv 6), .ref (ad 3), .int (nI tp), .int (mv 7), .int (mv 8), .int (mv 9), .int (mv 10), .int ft, .int (mv 11), .ref (ad 4), .ref (ad 5), .ref (ad 6), .ref (ad 7), .ref (ad 8), .ref (ad 9), .ref (ad 10), .int tr], iA G (ad 0) 255 S, iA G (ad 4) 16 mk2_3, iA G (ad 6) 160 vs2_3, iA G (ad 7) 46 pr3]) [4, 0, 1, 2, 3] rfl
      have hD := hD.sub (ws' := [oC ko 6 [.ref (ad 0), .ref (ad 1), .int (nI w), .int (nI h), .int (nI la), .ref (ad 2), .int (mv 0), .int (mv 1), .int (mv 2), .int (mv 3), .int (mv 4), .int (mv 5), .int (mv 6), .ref (ad 3), .int (nI tp), .int (mv 7), .int (mv 8), .int (mv 9), .int (mv 10), .int ft, .int (mv 11), .ref (ad 4), .ref (ad 5), .ref (ad 6), .ref (ad 7), .ref (ad 8), .ref (ad 9), .ref (ad 10), .int tr], iA G (ad 0) 255 S, iA G (ad 4) 16 mk2_3, iA G (ad 6) 160 vs2_3, iA G (ad 7) 46 pr3]) [4, 0, 1, 2, 3] (by decide) rfl
      refine W.iret (v := nI n) hx hb hr (fun t ht hW => ⟨⟨nI n, (n, mk2_3, vs2_3, pr3), rfl, ?_, by rw [ht]; exact hP, hD⟩, hS.F ht⟩) hS.2.2 dX6_findPairs_68
      try dsimp only
      refine ⟨rfl, by omega, fun s => ?_⟩; rw [hp s, show d = la + 1 by omega]; rfl
    · skip
      refine lv_iconst (v := nI 0) hx hb dX6_findPairs_16 (by decide) ?_
      refine lv_istore_n (lv' := [(3, .int (nI 0)), (0, .ref ko), (1, .int (nI n)), (2, .int (nI d))]) hx hb dX6_findPairs_17 rfl hl (by decide) rfl (fun ls hl => ?_)
      have hL18 : ∀ k : Nat, ∀ (e : Nat) (n4 : Nat) (pr4 : Nat → Int32) (ls : Array Slot) (H : Heap) (locs : List Loc), d - e = k → (e ≤ d) → (n4 ≤ trN d + e) → (∀ s, allF (fun i => !decide (pr4 i &&& s = 0)) n4 = (allF (fun d => allF (fun e => pairM w h S nc d e s) d) d && allF (fun e => pairM w h S nc d e s) e)) → lv_has ls 4 [(0, .ref ko), (1, .int (nI n4)), (2, .int (nI d)), (3, .int (nI e))] → xP G [iA G (ad 0) 255 S, iA G (ad 4) 16 mk2_3, iA G (ad 6) 160 vs2_3, iA G (ad 7) 46 pr4, oC ko 6 [.ref (ad 0), .ref (ad 1), .int (nI w), .int (nI h), .int (nI la), .ref (ad 2), .int (mv 0), .int (mv 1), .int (mv 2), .int (mv 3), .int (mv 4), .int (mv 5), .int (mv 6), .ref (ad 3), .int (nI tp), .int (mv 7), .int (mv 8), .int (mv 9), .int (mv 10), .int ft, .int (mv 11), .ref (ad 4), .ref (ad 5), .ref (ad 6), .ref (ad 7), .ref (ad 8), .ref (ad 9), .ref (ad 10), .int tr]] H → va_D (va_A (w_X6_findPairs G ko ad w h la tp ft tr mv S mk vs pr) ss.heap.size) [iA G (ad 0) 255 S, iA G (ad 4) 16 mk2_3, iA G (ad 6) 160 vs2_3, iA G (ad 7) 46 pr4, oC ko 6 [.ref (ad 0), .ref (ad 1), .int (nI w), .int (nI h), .int (nI la), .ref (ad 2), .int (mv 0), .int (mv 1), .int (mv 2), .int (mv 3), .int (mv 4), .int (mv 5), .int (mv 6), .ref (ad 3), .int (nI tp), .int (mv 7), .int (mv 8), .int (mv 9), .int (mv 10), .int ft, .int (mv 11), .ref (ad 4), .ref (ad 5), .ref (ad 6), .ref (ad 7), .ref (ad 8), .ref (ad 9), .ref (ad 10), .int tr]] → va_S (va_A (w_X6_findPairs G ko ad w h la tp ft tr mv S mk vs pr) ss.heap.size) ss.heap H locs → W pp l ee ({ frames := 4, cells := 0, slots := 0, locals := 89 } : Room) ss mm ([.ref ko] : List Value).toArray below mt cd H locs 0 0 (MQ below (Q_X6_findPairs G ss.heap.size ko ad w h la tp ft tr mv S mk nc vs pr) ([.ref ko] : List Value).toArray ss 0 0 (va_A (w_X6_findPairs G ko ad w h la tp ft tr mv S mk vs pr) ss.heap.size)) (F0 mm 18 ls []) := by
        intro k
        induction k using Nat.strongRecOn with
        | _ k ih18 =>
        intro e n4 pr4 ls H locs hm18 hei hn4 hp4 hl hP hD hS
        refine lv_iload_n hx hb dX6_findPairs_18 rfl (lv_at hl 3 rfl) ?_
        refine lv_iload_n hx hb dX6_findPairs_19 rfl (lv_at hl 2 rfl) ?_
        refine xn_icmp_ge (tgt := 61) hx hb (by omega) (by omega) dX6_findPairs_20 rfl (fun b20 => ?_) (fun b20 => ?_)
        · skip
          refine lv_iinc (k := 2) (v := nI (d + 1)) (lv' := [(2, .int (nI (d + 1))), (0, .ref ko), (1, .int (nI n4)), (3, .int (nI e))]) hx hb dX6_findPairs_61 hl rfl (xn_inc d 1) (by decide) rfl (fun ls hl => ?_)
          refine lv_goto (tgt := 8) hx hb dX6_findPairs_64 rfl ?_
          have hl := lv_sub hl (l' := [(0, .ref ko), (1, .int (nI n4)), (2, .int (nI (d + 1)))]) [1, 2, 0] rfl
          exact ih8 (la + 1 - (d + 1)) (by omega) (d + 1) n4 pr4 ls H locs rfl (by omega) (by rw [trN]; omega) (by intro s; rw [allF.eq_2 _ d, hp4 s, show e = d by omega]) hl hP hD hS
        · skip
          have htri := trN_lt (d := d) (e := e) (by omega) (by omega)
          refine lv_aload_n hx hb dX6_findPairs_23 rfl (lv_at hl 0 rfl) ?_
          refine va_get (D := G.1) (ci := 6) (v := .ref (ad 7)) (C := RX6) (T := TX6) (N := 29) hx hb hts hin6 hown hK.1 hP 4 rfl rfl 24 (by decide) (hts (.fieldLink RX6 32 "BackLensesModel" "pairs" "[I") (List.mem_of_getElem? (i := 2) rfl)) (fun _ h9 => h9) rfl dX6_findPairs_24 ?_
          refine lv_iload_n hx hb dX6_findPairs_27 rfl (lv_at hl 1 rfl) ?_
          refine lv_aload_n hx hb dX6_findPairs_28 rfl (lv_at hl 0 rfl) ?_
          refine lv_iload_n hx hb dX6_findPairs_29 rfl (lv_at hl 2 rfl) ?_
          refine lv_iload_n hx hb dX6_findPairs_30 rfl (lv_at hl 3 rfl) ?_
          refine xr_i (As := [.int (nI d), .int (nI e)]) (rest := [.int (nI n4), .ref (ad 7)]) ⟨hx, hb, hml, hown, hts⟩ (c_X6_apartOf l G ko ad w h la tp ft tr mv S vs2_3 nc d e (by first | assumption | omega) (by first | assumption | omega) (by first | assumption | omega) (by first | assumption | omega) (by first | assumption | omega) (by first | assumption | omega) (by first | assumption | omega) (by first | assumption | omega) (by first | assumption | omega) (by first | assumption | omega) (by first | assumption | omega)) (cwV 2 hts gX6_findPairs_X6_apartOf rfl rfl rfl (by decide +kernel) ⟨Nat.le_of_ble_eq_true rfl, Nat.le_of_ble_eq_true rfl⟩) hK hP hS [4, 0, 2] rfl rfl rfl rfl hl.1 rfl (Nat.le_of_ble_eq_true rfl) dX6_findPairs_31 ⟨Nat.zero_le _, Nat.zero_le _⟩ (fun r31 H locs hp31 hP hS => ?_)
          rw [show r31 = _ from hp31]
          refine xn_iast hx hb hK hP hD hS 3 rfl (by omega) (by omega) dX6_findPairs_34 (fun H locs hP hD hS => ?_)
          replace hP : xP G [iA G (ad 0) 255 S, iA G (ad 4) 16 mk2_3, iA G (ad 6) 160 vs2_3, iA G (ad 7) 46 (upd pr4 n4 (apM w h S nc d e)), oC ko 6 [.ref (ad 0), .ref (ad 1), .int (nI w), .int (nI h), .int (nI la), .ref (ad 2), .int (mv 0), .int (mv 1), .int (mv 2), .int (mv 3), .int (mv 4), .int (mv 5), .int (mv 6), .ref (ad 3), .int (nI tp), .int (mv 7), .int (mv 8), .int (mv 9), .int (mv 10), .int ft, .int (mv 11), .ref (ad 4), .ref (ad 5), .ref (ad 6), .ref (ad 7), .ref (ad 8), .ref (ad 9), .ref (ad 10), .int tr]] H := hP
          replace hD : va_D (va_A (w_X6_findPairs G ko ad w h la tp ft tr mv S mk vs pr) ss.heap.size) [iA G (ad 0) 255 S, iA G (ad 4) 16 mk2_3, iA G (ad 6) 160 vs2_3, iA G (ad 7) 46 (upd pr4 n4 (apM w h S nc d e)), oC ko 6 [.ref (ad 0), .ref (ad 1), .int (nI w), .int (nI h), .int (nI la), .ref (ad 2), .int (mv 0), .int (mv 1), .int (mv 2), .int (mv 3), .int (mv 4), .int (mv 5), .int (mv 6), .ref (ad 3), .int (nI tp), .int (mv 7), .int (mv 8), .int (mv 9), .int (mv 10), .int ft, .int (mv 11), .ref (ad 4), .ref (ad 5), .ref (ad 6), .ref (ad 7), .ref (ad 8), .ref (ad 9), .ref (ad 10), .int tr]] := hD
          refine lv_iload_n hx hb dX6_findPairs_35 rfl (lv_at hl 1 rfl) ?_
          refine lv_aload_n hx hb dX6_findPairs_36 rfl (lv_at hl 0 rfl) ?_
          refine va_get (D := G.1) (ci := 6) (v := .ref (ad 7)) (C := RX6) (T := TX6) (N := 29) hx hb hts hin6 hown hK.1 hP 4 rfl rfl 24 (by decide) (hts (.fieldLink RX6 32 "BackLensesModel" "pairs" "[I") (List.mem_of_getElem? (i := 2) rfl)) (fun _ h9 => h9) rfl dX6_findPairs_37 ?_
          refine lv_iload_n hx hb dX6_findPairs_40 rfl (lv_at hl 1 rfl) ?_
          refine xn_iald hx hb hK hP 3 rfl (by omega) (by omega) dX6_findPairs_41 ?_
          refine xn_top upd_eq ?_
          refine lv_if_eq (tgt := 49) hx hb dX6_findPairs_42 rfl (fun b42 => ?_) (fun b42 => ?_)
          · skip
            refine lv_iconst (v := nI 0) hx hb dX6_findPairs_49 (by decide) ?_
            refine xs_i (As := [.int (nI 0)]) (rest := [.int (nI n4)]) ⟨hx, hb, hml, hown, hts⟩ (c_X6_flag_0 l G) (va_cwS 1 hts gX6_findPairs_X6_flag rfl rfl rfl (by decide +kernel) ⟨Nat.le_of_ble_eq_true rfl, Nat.le_of_ble_eq_true rfl⟩) hP hS rfl hl.1 rfl (Nat.le_of_ble_eq_true rfl) dX6_findPairs_50 ⟨Nat.zero_le _, Nat.zero_le _⟩ (fun r50 H locs hp50 hP hS => ?_)
            rw [show r50 = _ from hp50]
            refine xn_iadd hx hb dX6_findPairs_53 ?_
            refine lv_istore_n (lv' := [(1, .int (nI (n4 + 0))), (0, .ref ko), (2, .int (nI d)), (3, .int (nI e))]) hx hb dX6_findPairs_54 rfl hl (by decide) rfl (fun ls hl => ?_)
            refine lv_iinc (k := 3) (v := nI (e + 1)) (lv' := [(3, .int (nI (e + 1))), (1, .int (nI (n4 + 0))), (0, .ref ko), (2, .int (nI d))]) hx hb dX6_findPairs_55 hl rfl (xn_inc e 1) (by decide) rfl (fun ls hl => ?_)
            refine lv_goto (tgt := 18) hx hb dX6_findPairs_58 rfl ?_
            have hl := lv_sub hl (l' := [(0, .ref ko), (1, .int (nI (n4 + 0))), (2, .int (nI d)), (3, .int (nI (e + 1)))]) [2, 1, 3, 0] rfl
            exact ih18 (d - (e + 1)) (by omega) (e + 1) (n4 + 0) (upd pr4 n4 (apM w h S nc d e)) ls H locs rfl (by omega) (by omega) (by first | exact pm_skip b42 hp4 | exact pm_add b42 hp4) hl hP hD hS
          · skip
            refine lv_iconst (v := nI 1) hx hb dX6_findPairs_45 (by decide) ?_
            refine lv_goto (tgt := 50) hx hb dX6_findPairs_46 rfl ?_
            refine xs_i (As := [.int (nI 1)]) (rest := [.int (nI n4)]) ⟨hx, hb, hml, hown, hts⟩ (c_X6_flag_1 l G) (va_cwS 1 hts gX6_findPairs_X6_flag rfl rfl rfl (by decide +kernel) ⟨Nat.le_of_ble_eq_true rfl, Nat.le_of_ble_eq_true rfl⟩) hP hS rfl hl.1 rfl (Nat.le_of_ble_eq_true rfl) dX6_findPairs_50 ⟨Nat.zero_le _, Nat.zero_le _⟩ (fun r50 H locs hp50 hP hS => ?_)
            rw [show r50 = _ from hp50]
            refine xn_iadd hx hb dX6_findPairs_53 ?_
            refine lv_istore_n (lv' := [(1, .int (nI (n4 + 1))), (0, .ref ko), (2, .int (nI d)), (3, .int (nI e))]) hx hb dX6_findPairs_54 rfl hl (by decide) rfl (fun ls hl => ?_)
            refine lv_iinc (k := 3) (v := nI (e + 1)) (lv' := [(3, .int (nI (e + 1))), (1, .int (nI (n4 + 1))), (0, .ref ko), (2, .int (nI d))]) hx hb dX6_findPairs_55 hl rfl (xn_inc e 1) (by decide) rfl (fun ls hl => ?_)
            refine lv_goto (tgt := 18) hx hb dX6_findPairs_58 rfl ?_
            have hl := lv_sub hl (l' := [(0, .ref ko), (1, .int (nI (n4 + 1))), (2, .int (nI d)), (3, .int (nI (e + 1)))]) [2, 1, 3, 0] rfl
            exact ih18 (d - (e + 1)) (by omega) (e + 1) (n4 + 1) (upd pr4 n4 (apM w h S nc d e)) ls H locs rfl (by omega) (by omega) (by first | exact pm_skip b42 hp4 | exact pm_add b42 hp4) hl hP hD hS
      have hl := lv_sub hl (l' := [(0, .ref ko), (1, .int (nI n)), (2, .int (nI d)), (3, .int (nI 0))]) [1, 2, 3, 0] rfl
      exact hL18 (d - 0) 0 n pr3 ls H locs rfl (by omega) (by omega) (by intro s; rw [hp s]; exact (Bool.and_true _).symm) hl hP hD hS
  have hl := lv_sub hl (l' := [(0, .ref ko), (1, .int (nI 0)), (2, .int (nI 0))]) [2, 1, 0] rfl
  have hP := hP.sub (ws' := [iA G (ad 0) 255 S, iA G (ad 4) 16 mk2_3, iA G (ad 6) 160 vs2_3, iA G (ad 7) 46 pr, oC ko 6 [.ref (ad 0), .ref (ad 1), .int (nI w), .int (nI h), .int (nI la), .ref (ad 2), .int (mv 0), .int (mv 1), .int (mv 2), .int (mv 3), .int (mv 4), .int (mv 5), .int (mv 6), .ref (ad 3), .int (nI tp), .int (mv 7), .int (mv 8), .int (mv 9), .int (mv 10), .int ft, .int (mv 11), .ref (ad 4), .ref (ad 5), .ref (ad 6), .ref (ad 7), .ref (ad 8), .ref (ad 9), .ref (ad 10), .int tr]]) [2, 3, 4, 0, 1] rfl
  have hD := hD.sub (ws' := [iA G (ad 0) 255 S, iA G (ad 4) 16 mk2_3, iA G (ad 6) 160 vs2_3, iA G (ad 7) 46 pr, oC ko 6 [.ref (ad 0), .ref (ad 1), .int (nI w), .int (nI h), .int (nI la), .ref (ad 2), .int (mv 0), .int (mv 1), .int (mv 2), .int (mv 3), .int (mv 4), .int (mv 5), .int (mv 6), .ref (ad 3), .int (nI tp), .int (mv 7), .int (mv 8), .int (mv 9), .int (mv 10), .int ft, .int (mv 11), .ref (ad 4), .ref (ad 5), .ref (ad 6), .ref (ad 7), .ref (ad 8), .ref (ad 9), .ref (ad 10), .int tr]]) [2, 3, 4, 0, 1] (by decide) rfl
  exact hL8 (la + 1 - 0) 0 0 pr ls H locs rfl (by omega) (by exact Nat.le_refl _) (by intro s; rfl) hl hP hD hS

abbrev w_X6_places (G : XG) (ko : Nat) (ad : Nat → Nat) (w h la tp : Nat) (ft tr : Int32) (mv : Nat → Int32) (S mk : Nat → Int32) (vs pr : Nat → Int32) : va_W := [oC ko 6 [.ref (ad 0), .ref (ad 1), .int (nI w), .int (nI h), .int (nI la), .ref (ad 2), .int (mv 0), .int (mv 1), .int (mv 2), .int (mv 3), .int (mv 4), .int (mv 5), .int (mv 6), .ref (ad 3), .int (nI tp), .int (mv 7), .int (mv 8), .int (mv 9), .int (mv 10), .int ft, .int (mv 11), .ref (ad 4), .ref (ad 5), .ref (ad 6), .ref (ad 7), .ref (ad 8), .ref (ad 9), .ref (ad 10), .int tr], iA G (ad 0) 255 S, iA G (ad 4) 16 mk, iA G (ad 6) 160 vs, iA G (ad 7) 46 pr]
abbrev Q_X6_places (G : XG) (sz : Nat) (ko : Nat) (ad : Nat → Nat) (w h la tp : Nat) (ft tr : Int32) (mv : Nat → Int32) (S mk : Nat → Int32) (nc : Nat) (vs pr : Nat → Int32) (a : Int32) : Array Value → State → Outcome → State → Prop := (va_Qi (fun (r : Int32) (u : (Nat → Int32) × (Nat → Int32) × (Nat → Int32)) => r = (if inR a 2 then (if a = 0 then (swF (plM w h la S nc) (2 ^ (w * h))).1 else (swF (plM w h la S nc) (2 ^ (w * h))).2) else (-1))) (xWb G sz (w_X6_places G ko ad w h la tp ft tr mv S mk vs pr) (fun u : (Nat → Int32) × (Nat → Int32) × (Nat → Int32) => [oC ko 6 [.ref (ad 0), .ref (ad 1), .int (nI w), .int (nI h), .int (nI la), .ref (ad 2), .int (mv 0), .int (mv 1), .int (mv 2), .int (mv 3), .int (mv 4), .int (mv 5), .int (mv 6), .ref (ad 3), .int (nI tp), .int (mv 7), .int (mv 8), .int (mv 9), .int (mv 10), .int ft, .int (mv 11), .ref (ad 4), .ref (ad 5), .ref (ad 6), .ref (ad 7), .ref (ad 8), .ref (ad 9), .ref (ad 10), .int tr], iA G (ad 0) 255 S, iA G (ad 4) 16 u.1, iA G (ad 6) 160 u.2.1, iA G (ad 7) 46 u.2.2])) (va_A (w_X6_places G ko ad w h la tp ft tr mv S mk vs pr) sz))
set_option maxHeartbeats 4000000 in
set_option maxRecDepth 100000 in
theorem c_X6_places (l : Launch) (G : XG) (sz : Nat) (ko : Nat) (ad : Nat → Nat) (w h la tp : Nat) (ft tr : Int32) (mv : Nat → Int32) (S mk : Nat → Int32) (nc : Nat) (vs pr : Nat → Int32) (a : Int32) (hw : 1 ≤ w) (hwb : w ≤ 16) (hhb : h ≤ 16) (hwh1 : 1 ≤ w * h) (hwh : w * h ≤ 16) (hla : la ≤ 9) (hs16 : S 16 = nI nc) (hnc : nc ≤ 10) : Met l yX6_places wsX6_places ({ frames := 5, cells := 0, slots := 0, locals := 112 } : Room) (va_Pc [.ref ko, .int a] (xWp G sz (w_X6_places G ko ad w h la tp ft tr mv S mk vs pr))) (Q_X6_places G sz ko ad w h la tp ft tr mv S mk nc vs pr a) 0 0 (va_A (w_X6_places G ko ad w h la tp ft tr mv S mk vs pr) sz) := by
  refine Met.ofW (cc := cX6_places) (maxL := 9) (ret := (some .int)) (by decide) rfl ?_
  intro pp ee ss mm aa below mt cd s₁ BB hml hv
  obtain ⟨rfl, hsz, hP, hK, hD0⟩ := hv
  have hx := BB.exec
  have hb := BB.bytes
  have hr := BB.returns
  have hts := atoms_spec (ws := wsX6_places) BB.pre
  have hown : ss.vm.findClass RX6 = some mm.cls := findClass_of_methodNamed BB.named
  have hlocks := BB.notSynchronized
  subst hsz
  have hD := hD0.self (sz := ss.heap.size)
  have hA : ∀ q : Nat, ss.heap.size ≤ q → va_A (w_X6_places G ko ad w h la tp ft tr mv S mk vs pr) ss.heap.size q := fun q h => Or.inr h
  have hS : va_S (va_A (w_X6_places G ko ad w h la tp ft tr mv S mk vs pr) ss.heap.size) ss.heap ss.heap [] := va_S.rf
  replace hD : va_D (va_A (w_X6_places G ko ad w h la tp ft tr mv S mk vs pr) ss.heap.size) [oC ko 6 [.ref (ad 0), .ref (ad 1), .int (nI w), .int (nI h), .int (nI la), .ref (ad 2), .int (mv 0), .int (mv 1), .int (mv 2), .int (mv 3), .int (mv 4), .int (mv 5), .int (mv 6), .ref (ad 3), .int (nI tp), .int (mv 7), .int (mv 8), .int (mv 9), .int (mv 10), .int ft, .int (mv 11), .ref (ad 4), .ref (ad 5), .ref (ad 6), .ref (ad 7), .ref (ad 8), .ref (ad 9), .ref (ad 10), .int tr], iA G (ad 0) 255 S, iA G (ad 4) 16 mk, iA G (ad 6) 160 vs, iA G (ad 7) 46 pr] := hD
  replace hP : xP G [oC ko 6 [.ref (ad 0), .ref (ad 1), .int (nI w), .int (nI h), .int (nI la), .ref (ad 2), .int (mv 0), .int (mv 1), .int (mv 2), .int (mv 3), .int (mv 4), .int (mv 5), .int (mv 6), .ref (ad 3), .int (nI tp), .int (mv 7), .int (mv 8), .int (mv 9), .int (mv 10), .int ft, .int (mv 11), .ref (ad 4), .ref (ad 5), .ref (ad 6), .ref (ad 7), .ref (ad 8), .ref (ad 9), .ref (ad 10), .int tr], iA G (ad 0) 255 S, iA G (ad 4) 16 mk, iA G (ad 6) 160 vs, iA G (ad 7) 46 pr] ss.heap := hP
  have hin6 : ∀ w ∈ u_ws RX6 TX6 29, w ∈ wsX6_places := fun w h => List.mem_cons_of_mem _ (List.mem_append_right _ h)
  have hl := lv_entry ([.ref ko, .int a]) (n := 9) (Nat.le_of_ble_eq_true rfl)
  rw [lg_entry_eq]
  generalize (lg_sl ([.ref ko, .int a]) ++ List.replicate (9 - (lg_sl ([.ref ko, .int a])).length) Slot.unset).toArray = ls at hl ⊢
  replace hl : lv_has ls 9 [(0, .ref ko), (1, .int a)] := hl
  refine lv_iload_n hx hb dX6_places_0 rfl (lv_at hl 1 rfl) ?_
  refine xs_i (As := [.int a]) (rest := []) ⟨hx, hb, hml, hown, hts⟩ (c_X6_isPart l G a ) (va_cwS 1 hts gX6_places_X6_isPart rfl rfl rfl (by decide +kernel) ⟨Nat.le_of_ble_eq_true rfl, Nat.le_of_ble_eq_true rfl⟩) hP hS rfl hl.1 rfl (Nat.le_of_ble_eq_true rfl) dX6_places_1 ⟨Nat.zero_le _, Nat.zero_le _⟩ (fun r1 H locs hp1 hP hS => ?_)
  rw [show r1 = _ from hp1]
  refine xb_if_ne (tgt := 9) hx hb dX6_places_4 rfl (fun b4 => ?_) (fun b4 => ?_)
  · skip
    obtain ⟨hp1, hp2, hp3⟩ := xs_pow hwh
    refine lv_aload_n hx hb dX6_places_9 rfl (lv_at hl 0 rfl) ?_
    refine xw_i (As := []) (rest := []) (wr := []) ⟨hx, hb, hml, hown, hts⟩ (c_X6_findPairs l G H.size ko ad w h la tp ft tr mv S mk nc vs pr (by first | assumption | omega) (by first | assumption | omega) (by first | assumption | omega) (by first | assumption | omega) (by first | assumption | omega) (by first | assumption | omega) (by first | assumption | omega) (by first | assumption | omega)) (cwV 0 hts gX6_places_X6_findPairs rfl rfl rfl (by decide +kernel) ⟨Nat.le_of_ble_eq_true rfl, Nat.le_of_ble_eq_true rfl⟩) hK hP hD hS hA [0, 1, 2, 3, 4] [] rfl rfl (by decide) (by decide) (by decide) rfl rfl rfl hl.1 rfl (Nat.le_of_ble_eq_true rfl) dX6_places_10 ⟨Nat.le_of_ble_eq_true rfl, Nat.le_of_ble_eq_true rfl⟩ (fun r10 u H locs hp10 hP hD hS => ?_)
    obtain ⟨nn_10, mk2_10, vs2_10, pr2_10⟩ := u
    try dsimp only at hp10 hP hD
    obtain ⟨rfl, he10⟩ := hp10
    replace hP : xP G [oC ko 6 [.ref (ad 0), .ref (ad 1), .int (nI w), .int (nI h), .int (nI la), .ref (ad 2), .int (mv 0), .int (mv 1), .int (mv 2), .int (mv 3), .int (mv 4), .int (mv 5), .int (mv 6), .ref (ad 3), .int (nI tp), .int (mv 7), .int (mv 8), .int (mv 9), .int (mv 10), .int ft, .int (mv 11), .ref (ad 4), .ref (ad 5), .ref (ad 6), .ref (ad 7), .ref (ad 8), .ref (ad 9), .ref (ad 10), .int tr], iA G (ad 0) 255 S, iA G (ad 4) 16 mk2_10, iA G (ad 6) 160 vs2_10, iA G (ad 7) 46 pr2_10] H := hP
    replace hD : va_D (va_A (w_X6_places G ko ad w h la tp ft tr mv S mk vs pr) ss.heap.size) [oC ko 6 [.ref (ad 0), .ref (ad 1), .int (nI w), .int (nI h), .int (nI la), .ref (ad 2), .int (mv 0), .int (mv 1), .int (mv 2), .int (mv 3), .int (mv 4), .int (mv 5), .int (mv 6), .ref (ad 3), .int (nI tp), .int (mv 7), .int (mv 8), .int (mv 9), .int (mv 10), .int ft, .int (mv 11), .ref (ad 4), .ref (ad 5), .ref (ad 6), .ref (ad 7), .ref (ad 8), .ref (ad 9), .ref (ad 10), .int tr], iA G (ad 0) 255 S, iA G (ad 4) 16 mk2_10, iA G (ad 6) 160 vs2_10, iA G (ad 7) 46 pr2_10] := hD
    refine lv_istore_n (lv' := [(2, .int (nI nn_10)), (0, .ref ko), (1, .int a)]) hx hb dX6_places_13 rfl hl (by decide) rfl (fun ls hl => ?_)
    refine lv_ldc (v := nI 1000000) hx hb hown (hts (.constant RX6 246 (nI 1000000)) (List.mem_of_getElem? (i := 1) rfl)) dX6_places_14 ?_
    refine lv_istore_n (lv' := [(3, .int (nI 1000000)), (2, .int (nI nn_10)), (0, .ref ko), (1, .int a)]) hx hb dX6_places_16 rfl hl (by decide) rfl (fun ls hl => ?_)
    refine lv_iconst (v := nI 0) hx hb dX6_places_17 (by decide) ?_
    refine lv_istore (lv' := [(4, .int (nI 0)), (3, .int (nI 1000000)), (2, .int (nI nn_10)), (0, .ref ko), (1, .int a)]) hx hb dX6_places_18 hl (by decide) rfl (fun ls hl => ?_)
    refine lv_iconst (v := nI 0) hx hb dX6_places_20 (by decide) ?_
    refine lv_istore (lv' := [(5, .int (nI 0)), (4, .int (nI 0)), (3, .int (nI 1000000)), (2, .int (nI nn_10)), (0, .ref ko), (1, .int a)]) hx hb dX6_places_21 hl (by decide) rfl (fun ls hl => ?_)
    have hL23 : ∀ k : Nat, ∀ (s : Nat) (fw : Int32) (fo : Int32) (ls : Array Slot) (H : Heap) (locs : List Loc), 2 ^ (w * h) - s = k → (s ≤ 2 ^ (w * h)) → ((fw, fo) = swF (fun s => allF (fun i => !decide (pr2_10 i &&& s = 0)) nn_10) s) → lv_has ls 9 [(0, .ref ko), (1, .int a), (2, .int (nI nn_10)), (3, .int fw), (4, .int fo), (5, .int (nI s))] → xP G [iA G (ad 0) 255 S, iA G (ad 4) 16 mk2_10, iA G (ad 6) 160 vs2_10, iA G (ad 7) 46 pr2_10, oC ko 6 [.ref (ad 0), .ref (ad 1), .int (nI w), .int (nI h), .int (nI la), .ref (ad 2), .int (mv 0), .int (mv 1), .int (mv 2), .int (mv 3), .int (mv 4), .int (mv 5), .int (mv 6), .ref (ad 3), .int (nI tp), .int (mv 7), .int (mv 8), .int (mv 9), .int (mv 10), .int ft, .int (mv 11), .ref (ad 4), .ref (ad 5), .ref (ad 6), .ref (ad 7), .ref (ad 8), .ref (ad 9), .ref (ad 10), .int tr]] H → va_D (va_A (w_X6_places G ko ad w h la tp ft tr mv S mk vs pr) ss.heap.size) [iA G (ad 0) 255 S, iA G (ad 4) 16 mk2_10, iA G (ad 6) 160 vs2_10, iA G (ad 7) 46 pr2_10, oC ko 6 [.ref (ad 0), .ref (ad 1), .int (nI w), .int (nI h), .int (nI la), .ref (ad 2), .int (mv 0), .int (mv 1), .int (mv 2), .int (mv 3), .int (mv 4), .int (mv 5), .int (mv 6), .ref (ad 3), .int (nI tp), .int (mv 7), .int (mv 8), .int (mv 9), .int (mv 10), .int ft, .int (mv 11), .ref (ad 4), .ref (ad 5), .ref (ad 6), .ref (ad 7), .ref (ad 8), .ref (ad 9), .ref (ad 10), .int tr]] → va_S (va_A (w_X6_places G ko ad w h la tp ft tr mv S mk vs pr) ss.heap.size) ss.heap H locs → W pp l ee ({ frames := 5, cells := 0, slots := 0, locals := 112 } : Room) ss mm ([.ref ko, .int a] : List Value).toArray below mt cd H locs 0 0 (MQ below (Q_X6_places G ss.heap.size ko ad w h la tp ft tr mv S mk nc vs pr a) ([.ref ko, .int a] : List Value).toArray ss 0 0 (va_A (w_X6_places G ko ad w h la tp ft tr mv S mk vs pr) ss.heap.size)) (F0 mm 23 ls []) := by
      intro k
      induction k using Nat.strongRecOn with
      | _ k ih23 =>
      intro s fw fo ls H locs hm23 hsi hsw hl hP hD hS
      refine lv_iload hx hb dX6_places_23 (lv_at hl 5 rfl) ?_
      refine lv_iconst (v := nI 1) hx hb dX6_places_25 (by decide) ?_
      refine lv_aload_n hx hb dX6_places_26 rfl (lv_at hl 0 rfl) ?_
      refine xr_i (As := []) (rest := [.int (nI 1), .int (nI s)]) ⟨hx, hb, hml, hown, hts⟩ (c_X6_cellsNow l G ko ad w h la tp ft tr mv ) (cwV 0 hts gX6_places_X6_cellsNow rfl rfl rfl (by decide +kernel) ⟨Nat.le_of_ble_eq_true rfl, Nat.le_of_ble_eq_true rfl⟩) hK hP hS [4] rfl rfl rfl rfl hl.1 rfl (Nat.le_of_ble_eq_true rfl) dX6_places_27 ⟨Nat.zero_le _, Nat.zero_le _⟩ (fun r27 H locs hp27 hP hS => ?_)
      rw [show r27 = _ from hp27]
      refine lv_ishl hx hb dX6_places_30 ?_
      refine xn_top hp1 ?_
      refine xn_icmp_ge (tgt := 126) hx hb (by omega) (by omega) dX6_places_31 rfl (fun b31 => ?_) (fun b31 => ?_)
      · skip
        refine lv_iload_n hx hb dX6_places_126 rfl (lv_at hl 1 rfl) ?_
        refine lv_if_ne (tgt := 134) hx hb dX6_places_127 rfl (fun b127 => ?_) (fun b127 => ?_)
        · skip
          refine lv_iload hx hb dX6_places_134 (lv_at hl 4 rfl) ?_
          have hP := hP.sub (ws' := [oC ko 6 [.ref (ad 0), .ref (ad 1), .int (nI w), .int (nI h), .int (nI la), .ref (ad 2), .int (mv 0), .int (mv 1), .int (mv 2), .int (mv 3), .int (mv 4), .int (mv 5), .int (mv 6), .ref (ad 3), .int (nI tp), .int (mv 7), .int (mv 8), .int (mv 9), .int (mv 10), .int ft, .int (mv 11), .ref (ad 4), .ref (ad 5), .ref (ad 6), .ref (ad 7), .ref (ad 8), .ref (ad 9), .ref (ad 10), .int tr], iA G (ad 0) 255 S, iA G (ad 4) 16 mk2_10, iA G (ad 6) 160 vs2_10, iA G (ad 7) 46 pr2_10]) [4, 0, 1, 2, 3] rfl
          have hD := hD.sub (ws' := [oC ko 6 [.ref (ad 0), .ref (ad 1), .int (nI w), .int (nI h), .int (nI la), .ref (ad 2), .int (mv 0), .int (mv 1), .int (mv 2), .int (mv 3), .int (mv 4), .int (mv 5), .int (mv 6), .ref (ad 3), .int (nI tp), .int (mv 7), .int (mv 8), .int (mv 9), .int (mv 10), .int ft, .int (mv 11), .ref (ad 4), .ref (ad 5), .ref (ad 6), .ref (ad 7), .ref (ad 8), .ref (ad 9), .ref (ad 10), .int tr], iA G (ad 0) 255 S, iA G (ad 4) 16 mk2_10, iA G (ad 6) 160 vs2_10, iA G (ad 7) 46 pr2_10]) [4, 0, 1, 2, 3] (by decide) rfl
          refine W.iret (v := fo) hx hb hr (fun t ht hW => ⟨⟨fo, (mk2_10, vs2_10, pr2_10), rfl, ?_, by rw [ht]; exact hP, hD⟩, hS.F ht⟩) hS.2.2 dX6_places_136
          try dsimp only
          first | exact (if_neg b4).symm | (have hsc := swF_congr (2 ^ (w * h)) (P := (fun s => allF (fun i => !decide (pr2_10 i &&& s = 0)) nn_10)) (P' := plM w h la S nc) he10.2; rw [if_pos b4, ← hsc, show swF (fun s => allF (fun i => !decide (pr2_10 i &&& s = 0)) nn_10) (2 ^ (w * h)) = (fw, fo) from (by rw [hsw, show s = 2 ^ (w * h) by omega])]; first | exact (if_pos b127).symm | exact (if_neg b127).symm)
        · skip
          refine lv_iload_n hx hb dX6_places_130 rfl (lv_at hl 3 rfl) ?_
          refine lv_goto (tgt := 136) hx hb dX6_places_131 rfl ?_
          have hP := hP.sub (ws' := [oC ko 6 [.ref (ad 0), .ref (ad 1), .int (nI w), .int (nI h), .int (nI la), .ref (ad 2), .int (mv 0), .int (mv 1), .int (mv 2), .int (mv 3), .int (mv 4), .int (mv 5), .int (mv 6), .ref (ad 3), .int (nI tp), .int (mv 7), .int (mv 8), .int (mv 9), .int (mv 10), .int ft, .int (mv 11), .ref (ad 4), .ref (ad 5), .ref (ad 6), .ref (ad 7), .ref (ad 8), .ref (ad 9), .ref (ad 10), .int tr], iA G (ad 0) 255 S, iA G (ad 4) 16 mk2_10, iA G (ad 6) 160 vs2_10, iA G (ad 7) 46 pr2_10]) [4, 0, 1, 2, 3] rfl
          have hD := hD.sub (ws' := [oC ko 6 [.ref (ad 0), .ref (ad 1), .int (nI w), .int (nI h), .int (nI la), .ref (ad 2), .int (mv 0), .int (mv 1), .int (mv 2), .int (mv 3), .int (mv 4), .int (mv 5), .int (mv 6), .ref (ad 3), .int (nI tp), .int (mv 7), .int (mv 8), .int (mv 9), .int (mv 10), .int ft, .int (mv 11), .ref (ad 4), .ref (ad 5), .ref (ad 6), .ref (ad 7), .ref (ad 8), .ref (ad 9), .ref (ad 10), .int tr], iA G (ad 0) 255 S, iA G (ad 4) 16 mk2_10, iA G (ad 6) 160 vs2_10, iA G (ad 7) 46 pr2_10]) [4, 0, 1, 2, 3] (by decide) rfl
          refine W.iret (v := fw) hx hb hr (fun t ht hW => ⟨⟨fw, (mk2_10, vs2_10, pr2_10), rfl, ?_, by rw [ht]; exact hP, hD⟩, hS.F ht⟩) hS.2.2 dX6_places_136
          try dsimp only
          first | exact (if_neg b4).symm | (have hsc := swF_congr (2 ^ (w * h)) (P := (fun s => allF (fun i => !decide (pr2_10 i &&& s = 0)) nn_10)) (P' := plM w h la S nc) he10.2; rw [if_pos b4, ← hsc, show swF (fun s => allF (fun i => !decide (pr2_10 i &&& s = 0)) nn_10) (2 ^ (w * h)) = (fw, fo) from (by rw [hsw, show s = 2 ^ (w * h) by omega])]; first | exact (if_pos b127).symm | exact (if_neg b127).symm)
      · skip
        refine lv_iload hx hb dX6_places_34 (lv_at hl 5 rfl) ?_
        refine xs_i (As := [.int (nI s)]) (rest := []) ⟨hx, hb, hml, hown, hts⟩ (c_X6_bitsOf l G (nI s) ) (va_cwS 1 hts gX6_places_X6_bitsOf rfl rfl rfl (by decide +kernel) ⟨Nat.le_of_ble_eq_true rfl, Nat.le_of_ble_eq_true rfl⟩) hP hS rfl hl.1 rfl (Nat.le_of_ble_eq_true rfl) dX6_places_36 ⟨Nat.zero_le _, Nat.zero_le _⟩ (fun r36 H locs hp36 hP hS => ?_)
        rw [show r36 = _ from hp36]
        refine lv_istore (lv' := [(6, .int (bcM (nI s) 16)), (0, .ref ko), (1, .int a), (2, .int (nI nn_10)), (3, .int fw), (4, .int fo), (5, .int (nI s))]) hx hb dX6_places_39 hl (by decide) rfl (fun ls hl => ?_)
        refine lv_iload hx hb dX6_places_41 (lv_at hl 0 rfl) ?_
        refine lv_iload_n hx hb dX6_places_43 rfl (lv_at hl 4 rfl) ?_
        refine xi_icmp_ge (tgt := 51) hx hb dX6_places_44 rfl (fun b44 => ?_) (fun b44 => ?_)
        · skip
          refine lv_iconst (v := nI 0) hx hb dX6_places_51 (by decide) ?_
          refine lv_istore (lv' := [(7, .int (nI 0)), (6, .int (bcM (nI s) 16)), (0, .ref ko), (1, .int a), (2, .int (nI nn_10)), (3, .int fw), (4, .int fo), (5, .int (nI s))]) hx hb dX6_places_52 hl (by decide) rfl (fun ls hl => ?_)
          refine lv_iconst (v := nI 0) hx hb dX6_places_54 (by decide) ?_
          refine lv_istore (lv' := [(8, .int (nI 0)), (7, .int (nI 0)), (6, .int (bcM (nI s) 16)), (0, .ref ko), (1, .int a), (2, .int (nI nn_10)), (3, .int fw), (4, .int fo), (5, .int (nI s))]) hx hb dX6_places_55 hl (by decide) rfl (fun ls hl => ?_)
          have hL57 : ∀ k : Nat, ∀ (k1 : Nat) (iv1 : Int32) (ls : Array Slot) (H : Heap) (locs : List Loc), nn_10 - k1 = k → (k1 ≤ nn_10) → (iv1 = xb ((bcM (nI s) 16).toInt < fw.toInt ∧ allF (fun i => !decide (pr2_10 i &&& nI s = 0)) k1 = true)) → lv_has ls 9 [(0, .ref ko), (1, .int a), (2, .int (nI nn_10)), (3, .int fw), (4, .int fo), (5, .int (nI s)), (6, .int (bcM (nI s) 16)), (7, .int iv1), (8, .int (nI k1))] → xP G [iA G (ad 0) 255 S, iA G (ad 4) 16 mk2_10, iA G (ad 6) 160 vs2_10, iA G (ad 7) 46 pr2_10, oC ko 6 [.ref (ad 0), .ref (ad 1), .int (nI w), .int (nI h), .int (nI la), .ref (ad 2), .int (mv 0), .int (mv 1), .int (mv 2), .int (mv 3), .int (mv 4), .int (mv 5), .int (mv 6), .ref (ad 3), .int (nI tp), .int (mv 7), .int (mv 8), .int (mv 9), .int (mv 10), .int ft, .int (mv 11), .ref (ad 4), .ref (ad 5), .ref (ad 6), .ref (ad 7), .ref (ad 8), .ref (ad 9), .ref (ad 10), .int tr]] H → va_D (va_A (w_X6_places G ko ad w h la tp ft tr mv S mk vs pr) ss.heap.size) [iA G (ad 0) 255 S, iA G (ad 4) 16 mk2_10, iA G (ad 6) 160 vs2_10, iA G (ad 7) 46 pr2_10, oC ko 6 [.ref (ad 0), .ref (ad 1), .int (nI w), .int (nI h), .int (nI la), .ref (ad 2), .int (mv 0), .int (mv 1), .int (mv 2), .int (mv 3), .int (mv 4), .int (mv 5), .int (mv 6), .ref (ad 3), .int (nI tp), .int (mv 7), .int (mv 8), .int (mv 9), .int (mv 10), .int ft, .int (mv 11), .ref (ad 4), .ref (ad 5), .ref (ad 6), .ref (ad 7), .ref (ad 8), .ref (ad 9), .ref (ad 10), .int tr]] → va_S (va_A (w_X6_places G ko ad w h la tp ft tr mv S mk vs pr) ss.heap.size) ss.heap H locs → W pp l ee ({ frames := 5, cells := 0, slots := 0, locals := 112 } : Room) ss mm ([.ref ko, .int a] : List Value).toArray below mt cd H locs 0 0 (MQ below (Q_X6_places G ss.heap.size ko ad w h la tp ft tr mv S mk nc vs pr a) ([.ref ko, .int a] : List Value).toArray ss 0 0 (va_A (w_X6_places G ko ad w h la tp ft tr mv S mk vs pr) ss.heap.size)) (F0 mm 57 ls []) := by
            intro k
            induction k using Nat.strongRecOn with
            | _ k ih57 =>
            intro k1 iv1 ls H locs hm57 hk1 hiv hl hP hD hS
            refine lv_iload hx hb dX6_places_57 (lv_at hl 8 rfl) ?_
            refine lv_iload_n hx hb dX6_places_59 rfl (lv_at hl 2 rfl) ?_
            refine xn_icmp_ge (tgt := 94) hx hb (by omega) (by omega) dX6_places_60 rfl (fun b60 => ?_) (fun b60 => ?_)
            · skip
              have hsum : (iv1 = 0 ∧ ((¬ (bcM (nI s) 16).toInt < fw.toInt) ∨ ((fun s => allF (fun i => !decide (pr2_10 i &&& s = 0)) nn_10)) (nI s) = false)) ∨ (¬ iv1 = 0 ∧ (bcM (nI s) 16).toInt < fw.toInt ∧ ((fun s => allF (fun i => !decide (pr2_10 i &&& s = 0)) nn_10)) (nI s) = true) := (by by_cases hq : (bcM (nI s) 16).toInt < fw.toInt; (by_cases hq2 : allF (fun i => !decide (pr2_10 i &&& nI s = 0)) k1 = true; (rw [hiv, xb_t ⟨hq, hq2⟩]; refine Or.inr ⟨by decide, hq, ?_⟩; first | (rw [show k1 = nn_10 by omega] at hq2; exact hq2) | (rw [hiv, xb_t ⟨hq, hq2⟩] at b65; exact absurd b65 (by decide))); (rw [hiv, xb_f (fun q => hq2 q.2)]; exact Or.inl ⟨by decide, Or.inr (allF_false (i := k1) (by omega) (Bool.eq_false_iff.mpr hq2))⟩)); (rw [hiv, xb_f (fun q => hq q.1)]; exact Or.inl ⟨by decide, Or.inl hq⟩))
              refine lv_iload hx hb dX6_places_94 (lv_at hl 7 rfl) ?_
              refine lv_if_eq (tgt := 104) hx hb dX6_places_96 rfl (fun b96 => ?_) (fun b96 => ?_)
              · skip
                have hlt : ¬ (bcM (nI s) 16).toInt < fw.toInt ∨ ((fun s => allF (fun i => !decide (pr2_10 i &&& s = 0)) nn_10)) (nI s) = false := (hsum.resolve_right (fun q => q.1 b96)).2
                refine lv_iload hx hb dX6_places_104 (lv_at hl 4 rfl) ?_
                refine lv_istore (lv' := [(4, .int fo), (0, .ref ko), (1, .int a), (2, .int (nI nn_10)), (3, .int fw), (5, .int (nI s)), (6, .int (bcM (nI s) 16)), (7, .int iv1), (8, .int (nI k1))]) hx hb dX6_places_106 hl (by decide) rfl (fun ls hl => ?_)
                refine lv_iload hx hb dX6_places_108 (lv_at hl 7 rfl) ?_
                refine lv_if_eq (tgt := 118) hx hb dX6_places_110 rfl (fun b110 => ?_) (fun b110 => ?_)
                · skip
                  refine lv_iload_n hx hb dX6_places_118 rfl (lv_at hl 4 rfl) ?_
                  refine lv_istore_n (lv' := [(3, .int fw), (4, .int fo), (0, .ref ko), (1, .int a), (2, .int (nI nn_10)), (5, .int (nI s)), (6, .int (bcM (nI s) 16)), (7, .int iv1), (8, .int (nI k1))]) hx hb dX6_places_119 rfl hl (by decide) rfl (fun ls hl => ?_)
                  refine lv_iinc (k := 5) (v := nI (s + 1)) (lv' := [(5, .int (nI (s + 1))), (3, .int fw), (4, .int fo), (0, .ref ko), (1, .int a), (2, .int (nI nn_10)), (6, .int (bcM (nI s) 16)), (7, .int iv1), (8, .int (nI k1))]) hx hb dX6_places_120 hl rfl (xn_inc s 1) (by decide) rfl (fun ls hl => ?_)
                  refine lv_goto (tgt := 23) hx hb dX6_places_123 rfl ?_
                  have hl := lv_sub hl (l' := [(0, .ref ko), (1, .int a), (2, .int (nI nn_10)), (3, .int fw), (4, .int fo), (5, .int (nI (s + 1)))]) [3, 4, 5, 1, 2, 0] rfl
                  exact ih23 (2 ^ (w * h) - (s + 1)) (by omega) (s + 1) fw fo ls H locs rfl (by omega) (by first | exact swF_y hsw hlt hall | (rcases hlt with q | q; exact swF_n1 hsw q; exact swF_n2 hsw q)) hl hP hD hS
                · skip
                  exact absurd b96 b110
              · skip
                obtain ⟨-, hlt, hall⟩ := hsum.resolve_left (fun q => b96 q.1)
                refine lv_iload hx hb dX6_places_99 (lv_at hl 5 rfl) ?_
                refine lv_goto (tgt := 106) hx hb dX6_places_101 rfl ?_
                refine lv_istore (lv' := [(4, .int (nI s)), (0, .ref ko), (1, .int a), (2, .int (nI nn_10)), (3, .int fw), (5, .int (nI s)), (6, .int (bcM (nI s) 16)), (7, .int iv1), (8, .int (nI k1))]) hx hb dX6_places_106 hl (by decide) rfl (fun ls hl => ?_)
                refine lv_iload hx hb dX6_places_108 (lv_at hl 7 rfl) ?_
                refine lv_if_eq (tgt := 118) hx hb dX6_places_110 rfl (fun b110 => ?_) (fun b110 => ?_)
                · skip
                  exact absurd b110 b96
                · skip
                  refine lv_iload hx hb dX6_places_113 (lv_at hl 6 rfl) ?_
                  refine lv_goto (tgt := 119) hx hb dX6_places_115 rfl ?_
                  refine lv_istore_n (lv' := [(3, .int (bcM (nI s) 16)), (4, .int (nI s)), (0, .ref ko), (1, .int a), (2, .int (nI nn_10)), (5, .int (nI s)), (6, .int (bcM (nI s) 16)), (7, .int iv1), (8, .int (nI k1))]) hx hb dX6_places_119 rfl hl (by decide) rfl (fun ls hl => ?_)
                  refine lv_iinc (k := 5) (v := nI (s + 1)) (lv' := [(5, .int (nI (s + 1))), (3, .int (bcM (nI s) 16)), (4, .int (nI s)), (0, .ref ko), (1, .int a), (2, .int (nI nn_10)), (6, .int (bcM (nI s) 16)), (7, .int iv1), (8, .int (nI k1))]) hx hb dX6_places_120 hl rfl (xn_inc s 1) (by decide) rfl (fun ls hl => ?_)
                  refine lv_goto (tgt := 23) hx hb dX6_places_123 rfl ?_
                  have hl := lv_sub hl (l' := [(0, .ref ko), (1, .int a), (2, .int (nI nn_10)), (3, .int (bcM (nI s) 16)), (4, .int (nI s)), (5, .int (nI (s + 1)))]) [3, 4, 5, 1, 2, 0] rfl
                  exact ih23 (2 ^ (w * h) - (s + 1)) (by omega) (s + 1) (bcM (nI s) 16) (nI s) ls H locs rfl (by omega) (by first | exact swF_y hsw hlt hall | (rcases hlt with q | q; exact swF_n1 hsw q; exact swF_n2 hsw q)) hl hP hD hS
            · skip
              refine lv_iload hx hb dX6_places_63 (lv_at hl 7 rfl) ?_
              refine lv_if_eq (tgt := 94) hx hb dX6_places_65 rfl (fun b65 => ?_) (fun b65 => ?_)
              · skip
                have hsum : (iv1 = 0 ∧ ((¬ (bcM (nI s) 16).toInt < fw.toInt) ∨ ((fun s => allF (fun i => !decide (pr2_10 i &&& s = 0)) nn_10)) (nI s) = false)) ∨ (¬ iv1 = 0 ∧ (bcM (nI s) 16).toInt < fw.toInt ∧ ((fun s => allF (fun i => !decide (pr2_10 i &&& s = 0)) nn_10)) (nI s) = true) := (by by_cases hq : (bcM (nI s) 16).toInt < fw.toInt; (by_cases hq2 : allF (fun i => !decide (pr2_10 i &&& nI s = 0)) k1 = true; (rw [hiv, xb_t ⟨hq, hq2⟩]; refine Or.inr ⟨by decide, hq, ?_⟩; first | (rw [show k1 = nn_10 by omega] at hq2; exact hq2) | (rw [hiv, xb_t ⟨hq, hq2⟩] at b65; exact absurd b65 (by decide))); (rw [hiv, xb_f (fun q => hq2 q.2)]; exact Or.inl ⟨by decide, Or.inr (allF_false (i := k1) (by omega) (Bool.eq_false_iff.mpr hq2))⟩)); (rw [hiv, xb_f (fun q => hq q.1)]; exact Or.inl ⟨by decide, Or.inl hq⟩))
                refine lv_iload hx hb dX6_places_94 (lv_at hl 7 rfl) ?_
                refine lv_if_eq (tgt := 104) hx hb dX6_places_96 rfl (fun b96 => ?_) (fun b96 => ?_)
                · skip
                  have hlt : ¬ (bcM (nI s) 16).toInt < fw.toInt ∨ ((fun s => allF (fun i => !decide (pr2_10 i &&& s = 0)) nn_10)) (nI s) = false := (hsum.resolve_right (fun q => q.1 b96)).2
                  refine lv_iload hx hb dX6_places_104 (lv_at hl 4 rfl) ?_
                  refine lv_istore (lv' := [(4, .int fo), (0, .ref ko), (1, .int a), (2, .int (nI nn_10)), (3, .int fw), (5, .int (nI s)), (6, .int (bcM (nI s) 16)), (7, .int iv1), (8, .int (nI k1))]) hx hb dX6_places_106 hl (by decide) rfl (fun ls hl => ?_)
                  refine lv_iload hx hb dX6_places_108 (lv_at hl 7 rfl) ?_
                  refine lv_if_eq (tgt := 118) hx hb dX6_places_110 rfl (fun b110 => ?_) (fun b110 => ?_)
                  · skip
                    refine lv_iload_n hx hb dX6_places_118 rfl (lv_at hl 4 rfl) ?_
                    refine lv_istore_n (lv' := [(3, .int fw), (4, .int fo), (0, .ref ko), (1, .int a), (2, .int (nI nn_10)), (5, .int (nI s)), (6, .int (bcM (nI s) 16)), (7, .int iv1), (8, .int (nI k1))]) hx hb dX6_places_119 rfl hl (by decide) rfl (fun ls hl => ?_)
                    refine lv_iinc (k := 5) (v := nI (s + 1)) (lv' := [(5, .int (nI (s + 1))), (3, .int fw), (4, .int fo), (0, .ref ko), (1, .int a), (2, .int (nI nn_10)), (6, .int (bcM (nI s) 16)), (7, .int iv1), (8, .int (nI k1))]) hx hb dX6_places_120 hl rfl (xn_inc s 1) (by decide) rfl (fun ls hl => ?_)
                    refine lv_goto (tgt := 23) hx hb dX6_places_123 rfl ?_
                    have hl := lv_sub hl (l' := [(0, .ref ko), (1, .int a), (2, .int (nI nn_10)), (3, .int fw), (4, .int fo), (5, .int (nI (s + 1)))]) [3, 4, 5, 1, 2, 0] rfl
                    exact ih23 (2 ^ (w * h) - (s + 1)) (by omega) (s + 1) fw fo ls H locs rfl (by omega) (by first | exact swF_y hsw hlt hall | (rcases hlt with q | q; exact swF_n1 hsw q; exact swF_n2 hsw q)) hl hP hD hS
                  · skip
                    exact absurd b96 b110
                · skip
                  obtain ⟨-, hlt, hall⟩ := hsum.resolve_left (fun q => b96 q.1)
                  refine lv_iload hx hb dX6_places_99 (lv_at hl 5 rfl) ?_
                  refine lv_goto (tgt := 106) hx hb dX6_places_101 rfl ?_
                  refine lv_istore (lv' := [(4, .int (nI s)), (0, .ref ko), (1, .int a), (2, .int (nI nn_10)), (3, .int fw), (5, .int (nI s)), (6, .int (bcM (nI s) 16)), (7, .int iv1), (8, .int (nI k1))]) hx hb dX6_places_106 hl (by decide) rfl (fun ls hl => ?_)
                  refine lv_iload hx hb dX6_places_108 (lv_at hl 7 rfl) ?_
                  refine lv_if_eq (tgt := 118) hx hb dX6_places_110 rfl (fun b110 => ?_) (fun b110 => ?_)
                  · skip
                    exact absurd b110 b96
                  · skip
                    refine lv_iload hx hb dX6_places_113 (lv_at hl 6 rfl) ?_
                    refine lv_goto (tgt := 119) hx hb dX6_places_115 rfl ?_
                    refine lv_istore_n (lv' := [(3, .int (bcM (nI s) 16)), (4, .int (nI s)), (0, .ref ko), (1, .int a), (2, .int (nI nn_10)), (5, .int (nI s)), (6, .int (bcM (nI s) 16)), (7, .int iv1), (8, .int (nI k1))]) hx hb dX6_places_119 rfl hl (by decide) rfl (fun ls hl => ?_)
                    refine lv_iinc (k := 5) (v := nI (s + 1)) (lv' := [(5, .int (nI (s + 1))), (3, .int (bcM (nI s) 16)), (4, .int (nI s)), (0, .ref ko), (1, .int a), (2, .int (nI nn_10)), (6, .int (bcM (nI s) 16)), (7, .int iv1), (8, .int (nI k1))]) hx hb dX6_places_120 hl rfl (xn_inc s 1) (by decide) rfl (fun ls hl => ?_)
                    refine lv_goto (tgt := 23) hx hb dX6_places_123 rfl ?_
                    have hl := lv_sub hl (l' := [(0, .ref ko), (1, .int a), (2, .int (nI nn_10)), (3, .int (bcM (nI s) 16)), (4, .int (nI s)), (5, .int (nI (s + 1)))]) [3, 4, 5, 1, 2, 0] rfl
                    exact ih23 (2 ^ (w * h) - (s + 1)) (by omega) (s + 1) (bcM (nI s) 16) (nI s) ls H locs rfl (by omega) (by first | exact swF_y hsw hlt hall | (rcases hlt with q | q; exact swF_n1 hsw q; exact swF_n2 hsw q)) hl hP hD hS
              · skip
                have hiv2 : (bcM (nI s) 16).toInt < fw.toInt ∧ allF (fun i => !decide (pr2_10 i &&& nI s = 0)) k1 = true := (by rw [hiv] at b65; exact Decidable.not_not.mp (fun q => b65 (xb_0.mpr q)))
                refine lv_aload_n hx hb dX6_places_68 rfl (lv_at hl 0 rfl) ?_
                refine va_get (D := G.1) (ci := 6) (v := .ref (ad 7)) (C := RX6) (T := TX6) (N := 29) hx hb hts hin6 hown hK.1 hP 4 rfl rfl 24 (by decide) (hts (.fieldLink RX6 32 "BackLensesModel" "pairs" "[I") (List.mem_of_getElem? (i := 2) rfl)) (fun _ h9 => h9) rfl dX6_places_69 ?_
                refine lv_iload hx hb dX6_places_72 (lv_at hl 8 rfl) ?_
                refine xn_iald hx hb hK hP 3 rfl (by omega) (by omega) dX6_places_74 ?_
                refine lv_iload hx hb dX6_places_75 (lv_at hl 5 rfl) ?_
                refine lv_iand hx hb dX6_places_77 ?_
                refine lv_if_eq (tgt := 85) hx hb dX6_places_78 rfl (fun b78 => ?_) (fun b78 => ?_)
                · skip
                  refine lv_iconst (v := nI 0) hx hb dX6_places_85 (by decide) ?_
                  refine lv_istore (lv' := [(7, .int (nI 0)), (0, .ref ko), (1, .int a), (2, .int (nI nn_10)), (3, .int fw), (4, .int fo), (5, .int (nI s)), (6, .int (bcM (nI s) 16)), (8, .int (nI k1))]) hx hb dX6_places_86 hl (by decide) rfl (fun ls hl => ?_)
                  refine lv_iinc (k := 8) (v := nI (k1 + 1)) (lv' := [(8, .int (nI (k1 + 1))), (7, .int (nI 0)), (0, .ref ko), (1, .int a), (2, .int (nI nn_10)), (3, .int fw), (4, .int fo), (5, .int (nI s)), (6, .int (bcM (nI s) 16))]) hx hb dX6_places_88 hl rfl (xn_inc k1 1) (by decide) rfl (fun ls hl => ?_)
                  refine lv_goto (tgt := 57) hx hb dX6_places_91 rfl ?_
                  have hl := lv_sub hl (l' := [(0, .ref ko), (1, .int a), (2, .int (nI nn_10)), (3, .int fw), (4, .int fo), (5, .int (nI s)), (6, .int (bcM (nI s) 16)), (7, .int (nI 0)), (8, .int (nI (k1 + 1)))]) [2, 3, 4, 5, 6, 7, 8, 1, 0] rfl
                  exact ih57 (nn_10 - (k1 + 1)) (by omega) (k1 + 1) (nI 0) ls H locs rfl (by omega) (by first | exact (xb_t ⟨hiv2.1, by rw [allF, hiv2.2, decide_eq_false b78]; rfl⟩).symm | exact (xb_f (fun q => by have q2 := q.2; rw [allF, decide_eq_true b78, Bool.not_true, Bool.and_false] at q2; cases q2)).symm) hl hP hD hS
                · skip
                  refine lv_iconst (v := nI 1) hx hb dX6_places_81 (by decide) ?_
                  refine lv_goto (tgt := 86) hx hb dX6_places_82 rfl ?_
                  refine lv_istore (lv' := [(7, .int (nI 1)), (0, .ref ko), (1, .int a), (2, .int (nI nn_10)), (3, .int fw), (4, .int fo), (5, .int (nI s)), (6, .int (bcM (nI s) 16)), (8, .int (nI k1))]) hx hb dX6_places_86 hl (by decide) rfl (fun ls hl => ?_)
                  refine lv_iinc (k := 8) (v := nI (k1 + 1)) (lv' := [(8, .int (nI (k1 + 1))), (7, .int (nI 1)), (0, .ref ko), (1, .int a), (2, .int (nI nn_10)), (3, .int fw), (4, .int fo), (5, .int (nI s)), (6, .int (bcM (nI s) 16))]) hx hb dX6_places_88 hl rfl (xn_inc k1 1) (by decide) rfl (fun ls hl => ?_)
                  refine lv_goto (tgt := 57) hx hb dX6_places_91 rfl ?_
                  have hl := lv_sub hl (l' := [(0, .ref ko), (1, .int a), (2, .int (nI nn_10)), (3, .int fw), (4, .int fo), (5, .int (nI s)), (6, .int (bcM (nI s) 16)), (7, .int (nI 1)), (8, .int (nI (k1 + 1)))]) [2, 3, 4, 5, 6, 7, 8, 1, 0] rfl
                  exact ih57 (nn_10 - (k1 + 1)) (by omega) (k1 + 1) (nI 1) ls H locs rfl (by omega) (by first | exact (xb_t ⟨hiv2.1, by rw [allF, hiv2.2, decide_eq_false b78]; rfl⟩).symm | exact (xb_f (fun q => by have q2 := q.2; rw [allF, decide_eq_true b78, Bool.not_true, Bool.and_false] at q2; cases q2)).symm) hl hP hD hS
          have hl := lv_sub hl (l' := [(0, .ref ko), (1, .int a), (2, .int (nI nn_10)), (3, .int fw), (4, .int fo), (5, .int (nI s)), (6, .int (bcM (nI s) 16)), (7, .int (nI 0)), (8, .int (nI 0))]) [3, 4, 5, 6, 7, 8, 2, 1, 0] rfl
          exact hL57 (nn_10 - 0) 0 (nI 0) ls H locs rfl (by omega) (by first | exact (xb_f (fun q => absurd q.1 (by omega))).symm | exact (xb_t ⟨by omega, rfl⟩).symm) hl hP hD hS
        · skip
          refine lv_iconst (v := nI 1) hx hb dX6_places_47 (by decide) ?_
          refine lv_goto (tgt := 52) hx hb dX6_places_48 rfl ?_
          refine lv_istore (lv' := [(7, .int (nI 1)), (6, .int (bcM (nI s) 16)), (0, .ref ko), (1, .int a), (2, .int (nI nn_10)), (3, .int fw), (4, .int fo), (5, .int (nI s))]) hx hb dX6_places_52 hl (by decide) rfl (fun ls hl => ?_)
          refine lv_iconst (v := nI 0) hx hb dX6_places_54 (by decide) ?_
          refine lv_istore (lv' := [(8, .int (nI 0)), (7, .int (nI 1)), (6, .int (bcM (nI s) 16)), (0, .ref ko), (1, .int a), (2, .int (nI nn_10)), (3, .int fw), (4, .int fo), (5, .int (nI s))]) hx hb dX6_places_55 hl (by decide) rfl (fun ls hl => ?_)
          have hL57 : ∀ k : Nat, ∀ (k1 : Nat) (iv1 : Int32) (ls : Array Slot) (H : Heap) (locs : List Loc), nn_10 - k1 = k → (k1 ≤ nn_10) → (iv1 = xb ((bcM (nI s) 16).toInt < fw.toInt ∧ allF (fun i => !decide (pr2_10 i &&& nI s = 0)) k1 = true)) → lv_has ls 9 [(0, .ref ko), (1, .int a), (2, .int (nI nn_10)), (3, .int fw), (4, .int fo), (5, .int (nI s)), (6, .int (bcM (nI s) 16)), (7, .int iv1), (8, .int (nI k1))] → xP G [iA G (ad 0) 255 S, iA G (ad 4) 16 mk2_10, iA G (ad 6) 160 vs2_10, iA G (ad 7) 46 pr2_10, oC ko 6 [.ref (ad 0), .ref (ad 1), .int (nI w), .int (nI h), .int (nI la), .ref (ad 2), .int (mv 0), .int (mv 1), .int (mv 2), .int (mv 3), .int (mv 4), .int (mv 5), .int (mv 6), .ref (ad 3), .int (nI tp), .int (mv 7), .int (mv 8), .int (mv 9), .int (mv 10), .int ft, .int (mv 11), .ref (ad 4), .ref (ad 5), .ref (ad 6), .ref (ad 7), .ref (ad 8), .ref (ad 9), .ref (ad 10), .int tr]] H → va_D (va_A (w_X6_places G ko ad w h la tp ft tr mv S mk vs pr) ss.heap.size) [iA G (ad 0) 255 S, iA G (ad 4) 16 mk2_10, iA G (ad 6) 160 vs2_10, iA G (ad 7) 46 pr2_10, oC ko 6 [.ref (ad 0), .ref (ad 1), .int (nI w), .int (nI h), .int (nI la), .ref (ad 2), .int (mv 0), .int (mv 1), .int (mv 2), .int (mv 3), .int (mv 4), .int (mv 5), .int (mv 6), .ref (ad 3), .int (nI tp), .int (mv 7), .int (mv 8), .int (mv 9), .int (mv 10), .int ft, .int (mv 11), .ref (ad 4), .ref (ad 5), .ref (ad 6), .ref (ad 7), .ref (ad 8), .ref (ad 9), .ref (ad 10), .int tr]] → va_S (va_A (w_X6_places G ko ad w h la tp ft tr mv S mk vs pr) ss.heap.size) ss.heap H locs → W pp l ee ({ frames := 5, cells := 0, slots := 0, locals := 112 } : Room) ss mm ([.ref ko, .int a] : List Value).toArray below mt cd H locs 0 0 (MQ below (Q_X6_places G ss.heap.size ko ad w h la tp ft tr mv S mk nc vs pr a) ([.ref ko, .int a] : List Value).toArray ss 0 0 (va_A (w_X6_places G ko ad w h la tp ft tr mv S mk vs pr) ss.heap.size)) (F0 mm 57 ls []) := by
            intro k
            induction k using Nat.strongRecOn with
            | _ k ih57 =>
            intro k1 iv1 ls H locs hm57 hk1 hiv hl hP hD hS
            refine lv_iload hx hb dX6_places_57 (lv_at hl 8 rfl) ?_
            refine lv_iload_n hx hb dX6_places_59 rfl (lv_at hl 2 rfl) ?_
            refine xn_icmp_ge (tgt := 94) hx hb (by omega) (by omega) dX6_places_60 rfl (fun b60 => ?_) (fun b60 => ?_)
            · skip
              have hsum : (iv1 = 0 ∧ ((¬ (bcM (nI s) 16).toInt < fw.toInt) ∨ ((fun s => allF (fun i => !decide (pr2_10 i &&& s = 0)) nn_10)) (nI s) = false)) ∨ (¬ iv1 = 0 ∧ (bcM (nI s) 16).toInt < fw.toInt ∧ ((fun s => allF (fun i => !decide (pr2_10 i &&& s = 0)) nn_10)) (nI s) = true) := (by by_cases hq : (bcM (nI s) 16).toInt < fw.toInt; (by_cases hq2 : allF (fun i => !decide (pr2_10 i &&& nI s = 0)) k1 = true; (rw [hiv, xb_t ⟨hq, hq2⟩]; refine Or.inr ⟨by decide, hq, ?_⟩; first | (rw [show k1 = nn_10 by omega] at hq2; exact hq2) | (rw [hiv, xb_t ⟨hq, hq2⟩] at b65; exact absurd b65 (by decide))); (rw [hiv, xb_f (fun q => hq2 q.2)]; exact Or.inl ⟨by decide, Or.inr (allF_false (i := k1) (by omega) (Bool.eq_false_iff.mpr hq2))⟩)); (rw [hiv, xb_f (fun q => hq q.1)]; exact Or.inl ⟨by decide, Or.inl hq⟩))
              refine lv_iload hx hb dX6_places_94 (lv_at hl 7 rfl) ?_
              refine lv_if_eq (tgt := 104) hx hb dX6_places_96 rfl (fun b96 => ?_) (fun b96 => ?_)
              · skip
                have hlt : ¬ (bcM (nI s) 16).toInt < fw.toInt ∨ ((fun s => allF (fun i => !decide (pr2_10 i &&& s = 0)) nn_10)) (nI s) = false := (hsum.resolve_right (fun q => q.1 b96)).2
                refine lv_iload hx hb dX6_places_104 (lv_at hl 4 rfl) ?_
                refine lv_istore (lv' := [(4, .int fo), (0, .ref ko), (1, .int a), (2, .int (nI nn_10)), (3, .int fw), (5, .int (nI s)), (6, .int (bcM (nI s) 16)), (7, .int iv1), (8, .int (nI k1))]) hx hb dX6_places_106 hl (by decide) rfl (fun ls hl => ?_)
                refine lv_iload hx hb dX6_places_108 (lv_at hl 7 rfl) ?_
                refine lv_if_eq (tgt := 118) hx hb dX6_places_110 rfl (fun b110 => ?_) (fun b110 => ?_)
                · skip
                  refine lv_iload_n hx hb dX6_places_118 rfl (lv_at hl 4 rfl) ?_
                  refine lv_istore_n (lv' := [(3, .int fw), (4, .int fo), (0, .ref ko), (1, .int a), (2, .int (nI nn_10)), (5, .int (nI s)), (6, .int (bcM (nI s) 16)), (7, .int iv1), (8, .int (nI k1))]) hx hb dX6_places_119 rfl hl (by decide) rfl (fun ls hl => ?_)
                  refine lv_iinc (k := 5) (v := nI (s + 1)) (lv' := [(5, .int (nI (s + 1))), (3, .int fw), (4, .int fo), (0, .ref ko), (1, .int a), (2, .int (nI nn_10)), (6, .int (bcM (nI s) 16)), (7, .int iv1), (8, .int (nI k1))]) hx hb dX6_places_120 hl rfl (xn_inc s 1) (by decide) rfl (fun ls hl => ?_)
                  refine lv_goto (tgt := 23) hx hb dX6_places_123 rfl ?_
                  have hl := lv_sub hl (l' := [(0, .ref ko), (1, .int a), (2, .int (nI nn_10)), (3, .int fw), (4, .int fo), (5, .int (nI (s + 1)))]) [3, 4, 5, 1, 2, 0] rfl
                  exact ih23 (2 ^ (w * h) - (s + 1)) (by omega) (s + 1) fw fo ls H locs rfl (by omega) (by first | exact swF_y hsw hlt hall | (rcases hlt with q | q; exact swF_n1 hsw q; exact swF_n2 hsw q)) hl hP hD hS
                · skip
                  exact absurd b96 b110
              · skip
                obtain ⟨-, hlt, hall⟩ := hsum.resolve_left (fun q => b96 q.1)
                refine lv_iload hx hb dX6_places_99 (lv_at hl 5 rfl) ?_
                refine lv_goto (tgt := 106) hx hb dX6_places_101 rfl ?_
                refine lv_istore (lv' := [(4, .int (nI s)), (0, .ref ko), (1, .int a), (2, .int (nI nn_10)), (3, .int fw), (5, .int (nI s)), (6, .int (bcM (nI s) 16)), (7, .int iv1), (8, .int (nI k1))]) hx hb dX6_places_106 hl (by decide) rfl (fun ls hl => ?_)
                refine lv_iload hx hb dX6_places_108 (lv_at hl 7 rfl) ?_
                refine lv_if_eq (tgt := 118) hx hb dX6_places_110 rfl (fun b110 => ?_) (fun b110 => ?_)
                · skip
                  exact absurd b110 b96
                · skip
                  refine lv_iload hx hb dX6_places_113 (lv_at hl 6 rfl) ?_
                  refine lv_goto (tgt := 119) hx hb dX6_places_115 rfl ?_
                  refine lv_istore_n (lv' := [(3, .int (bcM (nI s) 16)), (4, .int (nI s)), (0, .ref ko), (1, .int a), (2, .int (nI nn_10)), (5, .int (nI s)), (6, .int (bcM (nI s) 16)), (7, .int iv1), (8, .int (nI k1))]) hx hb dX6_places_119 rfl hl (by decide) rfl (fun ls hl => ?_)
                  refine lv_iinc (k := 5) (v := nI (s + 1)) (lv' := [(5, .int (nI (s + 1))), (3, .int (bcM (nI s) 16)), (4, .int (nI s)), (0, .ref ko), (1, .int a), (2, .int (nI nn_10)), (6, .int (bcM (nI s) 16)), (7, .int iv1), (8, .int (nI k1))]) hx hb dX6_places_120 hl rfl (xn_inc s 1) (by decide) rfl (fun ls hl => ?_)
                  refine lv_goto (tgt := 23) hx hb dX6_places_123 rfl ?_
                  have hl := lv_sub hl (l' := [(0, .ref ko), (1, .int a), (2, .int (nI nn_10)), (3, .int (bcM (nI s) 16)), (4, .int (nI s)), (5, .int (nI (s + 1)))]) [3, 4, 5, 1, 2, 0] rfl
                  exact ih23 (2 ^ (w * h) - (s + 1)) (by omega) (s + 1) (bcM (nI s) 16) (nI s) ls H locs rfl (by omega) (by first | exact swF_y hsw hlt hall | (rcases hlt with q | q; exact swF_n1 hsw q; exact swF_n2 hsw q)) hl hP hD hS
            · skip
              refine lv_iload hx hb dX6_places_63 (lv_at hl 7 rfl) ?_
              refine lv_if_eq (tgt := 94) hx hb dX6_places_65 rfl (fun b65 => ?_) (fun b65 => ?_)
              · skip
                have hsum : (iv1 = 0 ∧ ((¬ (bcM (nI s) 16).toInt < fw.toInt) ∨ ((fun s => allF (fun i => !decide (pr2_10 i &&& s = 0)) nn_10)) (nI s) = false)) ∨ (¬ iv1 = 0 ∧ (bcM (nI s) 16).toInt < fw.toInt ∧ ((fun s => allF (fun i => !decide (pr2_10 i &&& s = 0)) nn_10)) (nI s) = true) := (by by_cases hq : (bcM (nI s) 16).toInt < fw.toInt; (by_cases hq2 : allF (fun i => !decide (pr2_10 i &&& nI s = 0)) k1 = true; (rw [hiv, xb_t ⟨hq, hq2⟩]; refine Or.inr ⟨by decide, hq, ?_⟩; first | (rw [show k1 = nn_10 by omega] at hq2; exact hq2) | (rw [hiv, xb_t ⟨hq, hq2⟩] at b65; exact absurd b65 (by decide))); (rw [hiv, xb_f (fun q => hq2 q.2)]; exact Or.inl ⟨by decide, Or.inr (allF_false (i := k1) (by omega) (Bool.eq_false_iff.mpr hq2))⟩)); (rw [hiv, xb_f (fun q => hq q.1)]; exact Or.inl ⟨by decide, Or.inl hq⟩))
                refine lv_iload hx hb dX6_places_94 (lv_at hl 7 rfl) ?_
                refine lv_if_eq (tgt := 104) hx hb dX6_places_96 rfl (fun b96 => ?_) (fun b96 => ?_)
                · skip
                  have hlt : ¬ (bcM (nI s) 16).toInt < fw.toInt ∨ ((fun s => allF (fun i => !decide (pr2_10 i &&& s = 0)) nn_10)) (nI s) = false := (hsum.resolve_right (fun q => q.1 b96)).2
                  refine lv_iload hx hb dX6_places_104 (lv_at hl 4 rfl) ?_
                  refine lv_istore (lv' := [(4, .int fo), (0, .ref ko), (1, .int a), (2, .int (nI nn_10)), (3, .int fw), (5, .int (nI s)), (6, .int (bcM (nI s) 16)), (7, .int iv1), (8, .int (nI k1))]) hx hb dX6_places_106 hl (by decide) rfl (fun ls hl => ?_)
                  refine lv_iload hx hb dX6_places_108 (lv_at hl 7 rfl) ?_
                  refine lv_if_eq (tgt := 118) hx hb dX6_places_110 rfl (fun b110 => ?_) (fun b110 => ?_)
                  · skip
                    refine lv_iload_n hx hb dX6_places_118 rfl (lv_at hl 4 rfl) ?_
                    refine lv_istore_n (lv' := [(3, .int fw), (4, .int fo), (0, .ref ko), (1, .int a), (2, .int (nI nn_10)), (5, .int (nI s)), (6, .int (bcM (nI s) 16)), (7, .int iv1), (8, .int (nI k1))]) hx hb dX6_places_119 rfl hl (by decide) rfl (fun ls hl => ?_)
                    refine lv_iinc (k := 5) (v := nI (s + 1)) (lv' := [(5, .int (nI (s + 1))), (3, .int fw), (4, .int fo), (0, .ref ko), (1, .int a), (2, .int (nI nn_10)), (6, .int (bcM (nI s) 16)), (7, .int iv1), (8, .int (nI k1))]) hx hb dX6_places_120 hl rfl (xn_inc s 1) (by decide) rfl (fun ls hl => ?_)
                    refine lv_goto (tgt := 23) hx hb dX6_places_123 rfl ?_
                    have hl := lv_sub hl (l' := [(0, .ref ko), (1, .int a), (2, .int (nI nn_10)), (3, .int fw), (4, .int fo), (5, .int (nI (s + 1)))]) [3, 4, 5, 1, 2, 0] rfl
                    exact ih23 (2 ^ (w * h) - (s + 1)) (by omega) (s + 1) fw fo ls H locs rfl (by omega) (by first | exact swF_y hsw hlt hall | (rcases hlt with q | q; exact swF_n1 hsw q; exact swF_n2 hsw q)) hl hP hD hS
                  · skip
                    exact absurd b96 b110
                · skip
                  obtain ⟨-, hlt, hall⟩ := hsum.resolve_left (fun q => b96 q.1)
                  refine lv_iload hx hb dX6_places_99 (lv_at hl 5 rfl) ?_
                  refine lv_goto (tgt := 106) hx hb dX6_places_101 rfl ?_
                  refine lv_istore (lv' := [(4, .int (nI s)), (0, .ref ko), (1, .int a), (2, .int (nI nn_10)), (3, .int fw), (5, .int (nI s)), (6, .int (bcM (nI s) 16)), (7, .int iv1), (8, .int (nI k1))]) hx hb dX6_places_106 hl (by decide) rfl (fun ls hl => ?_)
                  refine lv_iload hx hb dX6_places_108 (lv_at hl 7 rfl) ?_
                  refine lv_if_eq (tgt := 118) hx hb dX6_places_110 rfl (fun b110 => ?_) (fun b110 => ?_)
                  · skip
                    exact absurd b110 b96
                  · skip
                    refine lv_iload hx hb dX6_places_113 (lv_at hl 6 rfl) ?_
                    refine lv_goto (tgt := 119) hx hb dX6_places_115 rfl ?_
                    refine lv_istore_n (lv' := [(3, .int (bcM (nI s) 16)), (4, .int (nI s)), (0, .ref ko), (1, .int a), (2, .int (nI nn_10)), (5, .int (nI s)), (6, .int (bcM (nI s) 16)), (7, .int iv1), (8, .int (nI k1))]) hx hb dX6_places_119 rfl hl (by decide) rfl (fun ls hl => ?_)
                    refine lv_iinc (k := 5) (v := nI (s + 1)) (lv' := [(5, .int (nI (s + 1))), (3, .int (bcM (nI s) 16)), (4, .int (nI s)), (0, .ref ko), (1, .int a), (2, .int (nI nn_10)), (6, .int (bcM (nI s) 16)), (7, .int iv1), (8, .int (nI k1))]) hx hb dX6_places_120 hl rfl (xn_inc s 1) (by decide) rfl (fun ls hl => ?_)
                    refine lv_goto (tgt := 23) hx hb dX6_places_123 rfl ?_
                    have hl := lv_sub hl (l' := [(0, .ref ko), (1, .int a), (2, .int (nI nn_10)), (3, .int (bcM (nI s) 16)), (4, .int (nI s)), (5, .int (nI (s + 1)))]) [3, 4, 5, 1, 2, 0] rfl
                    exact ih23 (2 ^ (w * h) - (s + 1)) (by omega) (s + 1) (bcM (nI s) 16) (nI s) ls H locs rfl (by omega) (by first | exact swF_y hsw hlt hall | (rcases hlt with q | q; exact swF_n1 hsw q; exact swF_n2 hsw q)) hl hP hD hS
              · skip
                have hiv2 : (bcM (nI s) 16).toInt < fw.toInt ∧ allF (fun i => !decide (pr2_10 i &&& nI s = 0)) k1 = true := (by rw [hiv] at b65; exact Decidable.not_not.mp (fun q => b65 (xb_0.mpr q)))
                refine lv_aload_n hx hb dX6_places_68 rfl (lv_at hl 0 rfl) ?_
                refine va_get (D := G.1) (ci := 6) (v := .ref (ad 7)) (C := RX6) (T := TX6) (N := 29) hx hb hts hin6 hown hK.1 hP 4 rfl rfl 24 (by decide) (hts (.fieldLink RX6 32 "BackLensesModel" "pairs" "[I") (List.mem_of_getElem? (i := 2) rfl)) (fun _ h9 => h9) rfl dX6_places_69 ?_
                refine lv_iload hx hb dX6_places_72 (lv_at hl 8 rfl) ?_
                refine xn_iald hx hb hK hP 3 rfl (by omega) (by omega) dX6_places_74 ?_
                refine lv_iload hx hb dX6_places_75 (lv_at hl 5 rfl) ?_
                refine lv_iand hx hb dX6_places_77 ?_
                refine lv_if_eq (tgt := 85) hx hb dX6_places_78 rfl (fun b78 => ?_) (fun b78 => ?_)
                · skip
                  refine lv_iconst (v := nI 0) hx hb dX6_places_85 (by decide) ?_
                  refine lv_istore (lv' := [(7, .int (nI 0)), (0, .ref ko), (1, .int a), (2, .int (nI nn_10)), (3, .int fw), (4, .int fo), (5, .int (nI s)), (6, .int (bcM (nI s) 16)), (8, .int (nI k1))]) hx hb dX6_places_86 hl (by decide) rfl (fun ls hl => ?_)
                  refine lv_iinc (k := 8) (v := nI (k1 + 1)) (lv' := [(8, .int (nI (k1 + 1))), (7, .int (nI 0)), (0, .ref ko), (1, .int a), (2, .int (nI nn_10)), (3, .int fw), (4, .int fo), (5, .int (nI s)), (6, .int (bcM (nI s) 16))]) hx hb dX6_places_88 hl rfl (xn_inc k1 1) (by decide) rfl (fun ls hl => ?_)
                  refine lv_goto (tgt := 57) hx hb dX6_places_91 rfl ?_
                  have hl := lv_sub hl (l' := [(0, .ref ko), (1, .int a), (2, .int (nI nn_10)), (3, .int fw), (4, .int fo), (5, .int (nI s)), (6, .int (bcM (nI s) 16)), (7, .int (nI 0)), (8, .int (nI (k1 + 1)))]) [2, 3, 4, 5, 6, 7, 8, 1, 0] rfl
                  exact ih57 (nn_10 - (k1 + 1)) (by omega) (k1 + 1) (nI 0) ls H locs rfl (by omega) (by first | exact (xb_t ⟨hiv2.1, by rw [allF, hiv2.2, decide_eq_false b78]; rfl⟩).symm | exact (xb_f (fun q => by have q2 := q.2; rw [allF, decide_eq_true b78, Bool.not_true, Bool.and_false] at q2; cases q2)).symm) hl hP hD hS
                · skip
                  refine lv_iconst (v := nI 1) hx hb dX6_places_81 (by decide) ?_
                  refine lv_goto (tgt := 86) hx hb dX6_places_82 rfl ?_
                  refine lv_istore (lv' := [(7, .int (nI 1)), (0, .ref ko), (1, .int a), (2, .int (nI nn_10)), (3, .int fw), (4, .int fo), (5, .int (nI s)), (6, .int (bcM (nI s) 16)), (8, .int (nI k1))]) hx hb dX6_places_86 hl (by decide) rfl (fun ls hl => ?_)
                  refine lv_iinc (k := 8) (v := nI (k1 + 1)) (lv' := [(8, .int (nI (k1 + 1))), (7, .int (nI 1)), (0, .ref ko), (1, .int a), (2, .int (nI nn_10)), (3, .int fw), (4, .int fo), (5, .int (nI s)), (6, .int (bcM (nI s) 16))]) hx hb dX6_places_88 hl rfl (xn_inc k1 1) (by decide) rfl (fun ls hl => ?_)
                  refine lv_goto (tgt := 57) hx hb dX6_places_91 rfl ?_
                  have hl := lv_sub hl (l' := [(0, .ref ko), (1, .int a), (2, .int (nI nn_10)), (3, .int fw), (4, .int fo), (5, .int (nI s)), (6, .int (bcM (nI s) 16)), (7, .int (nI 1)), (8, .int (nI (k1 + 1)))]) [2, 3, 4, 5, 6, 7, 8, 1, 0] rfl
                  exact ih57 (nn_10 - (k1 + 1)) (by omega) (k1 + 1) (nI 1) ls H locs rfl (by omega) (by first | exact (xb_t ⟨hiv2.1, by rw [allF, hiv2.2, decide_eq_false b78]; rfl⟩).symm | exact (xb_f (fun q => by have q2 := q.2; rw [allF, decide_eq_true b78, Bool.not_true, Bool.and_false] at q2; cases q2)).symm) hl hP hD hS
          have hl := lv_sub hl (l' := [(0, .ref ko), (1, .int a), (2, .int (nI nn_10)), (3, .int fw), (4, .int fo), (5, .int (nI s)), (6, .int (bcM (nI s) 16)), (7, .int (nI 1)), (8, .int (nI 0))]) [3, 4, 5, 6, 7, 8, 2, 1, 0] rfl
          exact hL57 (nn_10 - 0) 0 (nI 1) ls H locs rfl (by omega) (by first | exact (xb_f (fun q => absurd q.1 (by omega))).symm | exact (xb_t ⟨by omega, rfl⟩).symm) hl hP hD hS
    have hl := lv_sub hl (l' := [(0, .ref ko), (1, .int a), (2, .int (nI nn_10)), (3, .int (nI 1000000)), (4, .int (nI 0)), (5, .int (nI 0))]) [4, 5, 3, 2, 1, 0] rfl
    have hP := hP.sub (ws' := [iA G (ad 0) 255 S, iA G (ad 4) 16 mk2_10, iA G (ad 6) 160 vs2_10, iA G (ad 7) 46 pr2_10, oC ko 6 [.ref (ad 0), .ref (ad 1), .int (nI w), .int (nI h), .int (nI la), .ref (ad 2), .int (mv 0), .int (mv 1), .int (mv 2), .int (mv 3), .int (mv 4), .int (mv 5), .int (mv 6), .ref (ad 3), .int (nI tp), .int (mv 7), .int (mv 8), .int (mv 9), .int (mv 10), .int ft, .int (mv 11), .ref (ad 4), .ref (ad 5), .ref (ad 6), .ref (ad 7), .ref (ad 8), .ref (ad 9), .ref (ad 10), .int tr]]) [1, 2, 3, 4, 0] rfl
    have hD := hD.sub (ws' := [iA G (ad 0) 255 S, iA G (ad 4) 16 mk2_10, iA G (ad 6) 160 vs2_10, iA G (ad 7) 46 pr2_10, oC ko 6 [.ref (ad 0), .ref (ad 1), .int (nI w), .int (nI h), .int (nI la), .ref (ad 2), .int (mv 0), .int (mv 1), .int (mv 2), .int (mv 3), .int (mv 4), .int (mv 5), .int (mv 6), .ref (ad 3), .int (nI tp), .int (mv 7), .int (mv 8), .int (mv 9), .int (mv 10), .int ft, .int (mv 11), .ref (ad 4), .ref (ad 5), .ref (ad 6), .ref (ad 7), .ref (ad 8), .ref (ad 9), .ref (ad 10), .int tr]]) [1, 2, 3, 4, 0] (by decide) rfl
    exact hL23 (2 ^ (w * h) - 0) 0 (nI 1000000) (nI 0) ls H locs rfl (by omega) (by rfl) hl hP hD hS
  · skip
    refine lv_iconst (v := (-1)) hx hb dX6_places_7 (by decide) ?_
    have hP := hP.sub (ws' := [oC ko 6 [.ref (ad 0), .ref (ad 1), .int (nI w), .int (nI h), .int (nI la), .ref (ad 2), .int (mv 0), .int (mv 1), .int (mv 2), .int (mv 3), .int (mv 4), .int (mv 5), .int (mv 6), .ref (ad 3), .int (nI tp), .int (mv 7), .int (mv 8), .int (mv 9), .int (mv 10), .int ft, .int (mv 11), .ref (ad 4), .ref (ad 5), .ref (ad 6), .ref (ad 7), .ref (ad 8), .ref (ad 9), .ref (ad 10), .int tr], iA G (ad 0) 255 S, iA G (ad 4) 16 mk, iA G (ad 6) 160 vs, iA G (ad 7) 46 pr]) [0, 1, 2, 3, 4] rfl
    have hD := hD.sub (ws' := [oC ko 6 [.ref (ad 0), .ref (ad 1), .int (nI w), .int (nI h), .int (nI la), .ref (ad 2), .int (mv 0), .int (mv 1), .int (mv 2), .int (mv 3), .int (mv 4), .int (mv 5), .int (mv 6), .ref (ad 3), .int (nI tp), .int (mv 7), .int (mv 8), .int (mv 9), .int (mv 10), .int ft, .int (mv 11), .ref (ad 4), .ref (ad 5), .ref (ad 6), .ref (ad 7), .ref (ad 8), .ref (ad 9), .ref (ad 10), .int tr], iA G (ad 0) 255 S, iA G (ad 4) 16 mk, iA G (ad 6) 160 vs, iA G (ad 7) 46 pr]) [0, 1, 2, 3, 4] (by decide) rfl
    refine W.iret (v := (-1)) hx hb hr (fun t ht hW => ⟨⟨(-1), (mk, vs, pr), rfl, ?_, by rw [ht]; exact hP, hD⟩, hS.F ht⟩) hS.2.2 dX6_places_8
    try dsimp only
    first | exact (if_neg b4).symm | (have hsc := swF_congr (2 ^ (w * h)) (P := (fun s => allF (fun i => !decide (pr2_10 i &&& s = 0)) nn_10)) (P' := plM w h la S nc) he10.2; rw [if_pos b4, ← hsc, show swF (fun s => allF (fun i => !decide (pr2_10 i &&& s = 0)) nn_10) (2 ^ (w * h)) = (fw, fo) from (by rw [hsw, show s = 2 ^ (w * h) by omega])]; first | exact (if_pos b127).symm | exact (if_neg b127).symm)
end

abbrev Q_X6_flag_1 (G : XG)  : Array Value → State → Outcome → State → Prop := (xRi (fun r => r = nI 1))
set_option maxHeartbeats 4000000 in
set_option maxRecDepth 100000 in
theorem c_X6_flag_1 (l : Launch) (G : XG)   : Met l yX6_flag wsX6_flag ({ frames := 0, cells := 0, slots := 0, locals := 0 } : Room) (va_Pc [.int (nI 1)] (fun _ => True)) (Q_X6_flag_1 G ) 0 0 (fun _ => False) := by
  refine Met.ofW (cc := cX6_flag) (maxL := 1) (ret := (some .int)) (by decide) rfl ?_
  intro pp ee ss mm aa below mt cd s₁ BB hml hv
  obtain ⟨rfl, -⟩ := hv
  have hx := BB.exec
  have hb := BB.bytes
  have hr := BB.returns
  have hts := atoms_spec (ws := wsX6_flag) BB.pre
  have hown : ss.vm.findClass RX6 = some mm.cls := findClass_of_methodNamed BB.named
  have hlocks := BB.notSynchronized
  have hS : va_S (fun _ => False) ss.heap ss.heap [] := va_S.rf
  have hP : xP (G) [] ss.heap := fun k q h => by cases h
  have hl := lv_entry ([.int (nI 1)]) (n := 1) (Nat.le_of_ble_eq_true rfl)
  rw [lg_entry_eq]
  generalize (lg_sl ([.int (nI 1)]) ++ List.replicate (1 - (lg_sl ([.int (nI 1)])).length) Slot.unset).toArray = ls at hl ⊢
  replace hl : lv_has ls 1 [(0, .int (nI 1))] := hl
  refine lv_iload_n hx hb dX6_flag_0 rfl (lv_at hl 0 rfl) ?_
  refine xn_if_eq (tgt := 8) hx hb (by omega) dX6_flag_1 rfl (fun b1 => absurd b1 (by omega)) (fun _ => ?_)
  refine lv_iconst (v := nI 1) hx hb dX6_flag_4 (by decide) ?_
  refine lv_goto (tgt := 9) hx hb dX6_flag_5 rfl ?_
  refine W.iret (v := nI 1) hx hb hr (fun t ht hW => ⟨⟨nI 1, (), rfl, ?_, trivial⟩, hS.F ht⟩) hS.2.2 dX6_flag_9
  rfl

abbrev Q_X6_flag_0 (G : XG)  : Array Value → State → Outcome → State → Prop := (xRi (fun r => r = nI 0))
set_option maxHeartbeats 4000000 in
set_option maxRecDepth 100000 in
theorem c_X6_flag_0 (l : Launch) (G : XG)   : Met l yX6_flag wsX6_flag ({ frames := 0, cells := 0, slots := 0, locals := 0 } : Room) (va_Pc [.int (nI 0)] (fun _ => True)) (Q_X6_flag_0 G ) 0 0 (fun _ => False) := by
  refine Met.ofW (cc := cX6_flag) (maxL := 1) (ret := (some .int)) (by decide) rfl ?_
  intro pp ee ss mm aa below mt cd s₁ BB hml hv
  obtain ⟨rfl, -⟩ := hv
  have hx := BB.exec
  have hb := BB.bytes
  have hr := BB.returns
  have hts := atoms_spec (ws := wsX6_flag) BB.pre
  have hown : ss.vm.findClass RX6 = some mm.cls := findClass_of_methodNamed BB.named
  have hlocks := BB.notSynchronized
  have hS : va_S (fun _ => False) ss.heap ss.heap [] := va_S.rf
  have hP : xP (G) [] ss.heap := fun k q h => by cases h
  have hl := lv_entry ([.int (nI 0)]) (n := 1) (Nat.le_of_ble_eq_true rfl)
  rw [lg_entry_eq]
  generalize (lg_sl ([.int (nI 0)]) ++ List.replicate (1 - (lg_sl ([.int (nI 0)])).length) Slot.unset).toArray = ls at hl ⊢
  replace hl : lv_has ls 1 [(0, .int (nI 0))] := hl
  refine lv_iload_n hx hb dX6_flag_0 rfl (lv_at hl 0 rfl) ?_
  refine xn_if_eq (tgt := 8) hx hb (by omega) dX6_flag_1 rfl (fun _ => ?_) (fun b1 => absurd b1 (by omega))
  refine lv_iconst (v := nI 0) hx hb dX6_flag_8 (by decide) ?_
  refine W.iret (v := nI 0) hx hb hr (fun t ht hW => ⟨⟨nI 0, (), rfl, ?_, trivial⟩, hS.F ht⟩) hS.2.2 dX6_flag_9
  rfl

abbrev w_X6_sightOn (G : XG) (ko : Nat) (ad : Nat → Nat) (w h la tp : Nat) (ft tr : Int32) (mv : Nat → Int32) (S mk : Nat → Int32) : va_W := [oC ko 6 [.ref (ad 0), .ref (ad 1), .int (nI w), .int (nI h), .int (nI la), .ref (ad 2), .int (mv 0), .int (mv 1), .int (mv 2), .int (mv 3), .int (mv 4), .int (mv 5), .int (mv 6), .ref (ad 3), .int (nI tp), .int (mv 7), .int (mv 8), .int (mv 9), .int (mv 10), .int ft, .int (mv 11), .ref (ad 4), .ref (ad 5), .ref (ad 6), .ref (ad 7), .ref (ad 8), .ref (ad 9), .ref (ad 10), .int tr], iA G (ad 0) 255 S, iA G (ad 4) 16 mk]
abbrev Q_X6_sightOn (G : XG) (sz : Nat) (ko : Nat) (ad : Nat → Nat) (w h la tp : Nat) (ft tr : Int32) (mv : Nat → Int32) (S mk : Nat → Int32) (nc : Nat) (x d : Nat) : Array Value → State → Outcome → State → Prop := (va_Qi (fun (r : Int32) (u : (Nat → Int32)) => r = sgM w h S nc x d) (xWb G sz (w_X6_sightOn G ko ad w h la tp ft tr mv S mk) (fun u : (Nat → Int32) => [oC ko 6 [.ref (ad 0), .ref (ad 1), .int (nI w), .int (nI h), .int (nI la), .ref (ad 2), .int (mv 0), .int (mv 1), .int (mv 2), .int (mv 3), .int (mv 4), .int (mv 5), .int (mv 6), .ref (ad 3), .int (nI tp), .int (mv 7), .int (mv 8), .int (mv 9), .int (mv 10), .int ft, .int (mv 11), .ref (ad 4), .ref (ad 5), .ref (ad 6), .ref (ad 7), .ref (ad 8), .ref (ad 9), .ref (ad 10), .int tr], iA G (ad 0) 255 S, iA G (ad 4) 16 u])) (va_A (w_X6_sightOn G ko ad w h la tp ft tr mv S mk) sz))
set_option maxHeartbeats 4000000 in
set_option maxRecDepth 100000 in
theorem c_X6_sightOn (l : Launch) (G : XG) (sz : Nat) (ko : Nat) (ad : Nat → Nat) (w h la tp : Nat) (ft tr : Int32) (mv : Nat → Int32) (S mk : Nat → Int32) (nc : Nat) (x d : Nat) (hw : 1 ≤ w) (hwb : w ≤ 16) (hhb : h ≤ 16) (hwh1 : 1 ≤ w * h) (hwh : w * h ≤ 16) (hla : la ≤ 9) (hs16 : S 16 = nI nc) (hnc : nc ≤ 10) (hxx : x < w * h) (hd : d ≤ 9) : Met l yX6_sightOn wsX6_sightOn ({ frames := 3, cells := 0, slots := 0, locals := 67 } : Room) (va_Pc [.ref ko, .int (nI x), .int (nI d)] (xWp G sz (w_X6_sightOn G ko ad w h la tp ft tr mv S mk))) (Q_X6_sightOn G sz ko ad w h la tp ft tr mv S mk nc x d) 0 0 (va_A (w_X6_sightOn G ko ad w h la tp ft tr mv S mk) sz) := by
  refine Met.ofW (cc := cX6_sightOn) (maxL := 3) (ret := (some .int)) (by decide) rfl ?_
  intro pp ee ss mm aa below mt cd s₁ BB hml hv
  obtain ⟨rfl, hsz, hP, hK, hD0⟩ := hv
  have hx := BB.exec
  have hb := BB.bytes
  have hr := BB.returns
  have hts := atoms_spec (ws := wsX6_sightOn) BB.pre
  have hown : ss.vm.findClass RX6 = some mm.cls := findClass_of_methodNamed BB.named
  have hlocks := BB.notSynchronized
  subst hsz
  have hD := hD0.self (sz := ss.heap.size)
  have hA : ∀ q : Nat, ss.heap.size ≤ q → va_A (w_X6_sightOn G ko ad w h la tp ft tr mv S mk) ss.heap.size q := fun q h => Or.inr h
  have hS : va_S (va_A (w_X6_sightOn G ko ad w h la tp ft tr mv S mk) ss.heap.size) ss.heap ss.heap [] := va_S.rf
  replace hD : va_D (va_A (w_X6_sightOn G ko ad w h la tp ft tr mv S mk) ss.heap.size) [oC ko 6 [.ref (ad 0), .ref (ad 1), .int (nI w), .int (nI h), .int (nI la), .ref (ad 2), .int (mv 0), .int (mv 1), .int (mv 2), .int (mv 3), .int (mv 4), .int (mv 5), .int (mv 6), .ref (ad 3), .int (nI tp), .int (mv 7), .int (mv 8), .int (mv 9), .int (mv 10), .int ft, .int (mv 11), .ref (ad 4), .ref (ad 5), .ref (ad 6), .ref (ad 7), .ref (ad 8), .ref (ad 9), .ref (ad 10), .int tr], iA G (ad 0) 255 S, iA G (ad 4) 16 mk] := hD
  replace hP : xP G [oC ko 6 [.ref (ad 0), .ref (ad 1), .int (nI w), .int (nI h), .int (nI la), .ref (ad 2), .int (mv 0), .int (mv 1), .int (mv 2), .int (mv 3), .int (mv 4), .int (mv 5), .int (mv 6), .ref (ad 3), .int (nI tp), .int (mv 7), .int (mv 8), .int (mv 9), .int (mv 10), .int ft, .int (mv 11), .ref (ad 4), .ref (ad 5), .ref (ad 6), .ref (ad 7), .ref (ad 8), .ref (ad 9), .ref (ad 10), .int tr], iA G (ad 0) 255 S, iA G (ad 4) 16 mk] ss.heap := hP
  have hin6 : ∀ w ∈ u_ws RX6 TX6 29, w ∈ wsX6_sightOn := fun w h => List.mem_cons_of_mem _ (List.mem_append_right _ h)
  have hl := lv_entry ([.ref ko, .int (nI x), .int (nI d)]) (n := 3) (Nat.le_of_ble_eq_true rfl)
  rw [lg_entry_eq]
  generalize (lg_sl ([.ref ko, .int (nI x), .int (nI d)]) ++ List.replicate (3 - (lg_sl ([.ref ko, .int (nI x), .int (nI d)])).length) Slot.unset).toArray = ls at hl ⊢
  replace hl : lv_has ls 3 [(0, .ref ko), (1, .int (nI x)), (2, .int (nI d))] := hl
  refine lv_aload_n hx hb dX6_sightOn_0 rfl (lv_at hl 0 rfl) ?_
  refine lv_iload_n hx hb dX6_sightOn_1 rfl (lv_at hl 2 rfl) ?_
  refine xw_v (As := [.int (nI d)]) (rest := []) (wr := []) ⟨hx, hb, hml, hown, hts⟩ (c_X6_shiftTo l G ss.heap.size ko ad w h la tp ft tr mv S mk _ d (by first | assumption | omega) (by first | assumption | omega) (by first | assumption | omega)) (cwV 1 hts gX6_sightOn_X6_shiftTo rfl rfl rfl (by decide +kernel) ⟨Nat.le_of_ble_eq_true rfl, Nat.le_of_ble_eq_true rfl⟩) hK hP hD hS hA [0, 1, 2] [] rfl rfl (by decide) (by decide) (by decide) rfl rfl rfl hl.1 rfl (Nat.le_of_ble_eq_true rfl) dX6_sightOn_2 ⟨Nat.le_of_ble_eq_true rfl, Nat.le_of_ble_eq_true rfl⟩ (fun u H locs hp2 hP hD hS => ?_)
  obtain ⟨mk2_2, rfl⟩ : ∃ z, z = u := ⟨_, rfl⟩
  try dsimp only at hp2 hP hD
  have he2 := hp2
  replace hP : xP G [oC ko 6 [.ref (ad 0), .ref (ad 1), .int (nI w), .int (nI h), .int (nI la), .ref (ad 2), .int (mv 0), .int (mv 1), .int (mv 2), .int (mv 3), .int (mv 4), .int (mv 5), .int (mv 6), .ref (ad 3), .int (nI tp), .int (mv 7), .int (mv 8), .int (mv 9), .int (mv 10), .int ft, .int (mv 11), .ref (ad 4), .ref (ad 5), .ref (ad 6), .ref (ad 7), .ref (ad 8), .ref (ad 9), .ref (ad 10), .int tr], iA G (ad 0) 255 S, iA G (ad 4) 16 mk2_2] H := hP
  replace hD : va_D (va_A (w_X6_sightOn G ko ad w h la tp ft tr mv S mk) ss.heap.size) [oC ko 6 [.ref (ad 0), .ref (ad 1), .int (nI w), .int (nI h), .int (nI la), .ref (ad 2), .int (mv 0), .int (mv 1), .int (mv 2), .int (mv 3), .int (mv 4), .int (mv 5), .int (mv 6), .ref (ad 3), .int (nI tp), .int (mv 7), .int (mv 8), .int (mv 9), .int (mv 10), .int ft, .int (mv 11), .ref (ad 4), .ref (ad 5), .ref (ad 6), .ref (ad 7), .ref (ad 8), .ref (ad 9), .ref (ad 10), .int tr], iA G (ad 0) 255 S, iA G (ad 4) 16 mk2_2] := hD
  refine lv_aload_n hx hb dX6_sightOn_5 rfl (lv_at hl 0 rfl) ?_
  refine lv_iload_n hx hb dX6_sightOn_6 rfl (lv_at hl 1 rfl) ?_
  refine xr_i (As := [.int (nI x)]) (rest := []) ⟨hx, hb, hml, hown, hts⟩ (c_X6_sight l G ko ad w h la tp ft tr mv mk2_2 x (by first | assumption | omega) (by first | assumption | omega) (by first | assumption | omega) (by first | assumption | omega) (by first | assumption | omega)) (cwV 1 hts gX6_sightOn_X6_sight rfl rfl rfl (by decide +kernel) ⟨Nat.le_of_ble_eq_true rfl, Nat.le_of_ble_eq_true rfl⟩) hK hP hS [0, 2] rfl rfl rfl rfl hl.1 rfl (Nat.le_of_ble_eq_true rfl) dX6_sightOn_7 ⟨Nat.zero_le _, Nat.zero_le _⟩ (fun r7 H locs hp7 hP hS => ?_)
  rw [show r7 = _ from hp7]
  have hP := hP.sub (ws' := [oC ko 6 [.ref (ad 0), .ref (ad 1), .int (nI w), .int (nI h), .int (nI la), .ref (ad 2), .int (mv 0), .int (mv 1), .int (mv 2), .int (mv 3), .int (mv 4), .int (mv 5), .int (mv 6), .ref (ad 3), .int (nI tp), .int (mv 7), .int (mv 8), .int (mv 9), .int (mv 10), .int ft, .int (mv 11), .ref (ad 4), .ref (ad 5), .ref (ad 6), .ref (ad 7), .ref (ad 8), .ref (ad 9), .ref (ad 10), .int tr], iA G (ad 0) 255 S, iA G (ad 4) 16 mk2_2]) [0, 1, 2] rfl
  have hD := hD.sub (ws' := [oC ko 6 [.ref (ad 0), .ref (ad 1), .int (nI w), .int (nI h), .int (nI la), .ref (ad 2), .int (mv 0), .int (mv 1), .int (mv 2), .int (mv 3), .int (mv 4), .int (mv 5), .int (mv 6), .ref (ad 3), .int (nI tp), .int (mv 7), .int (mv 8), .int (mv 9), .int (mv 10), .int ft, .int (mv 11), .ref (ad 4), .ref (ad 5), .ref (ad 6), .ref (ad 7), .ref (ad 8), .ref (ad 9), .ref (ad 10), .int tr], iA G (ad 0) 255 S, iA G (ad 4) 16 mk2_2]) [0, 1, 2] (by decide) rfl
  refine W.iret (v := sgF w h mk2_2 x) hx hb hr (fun t ht hW => ⟨⟨sgF w h mk2_2 x, (mk2_2), rfl, ?_, by rw [ht]; exact hP, hD⟩, hS.F ht⟩) hS.2.2 dX6_sightOn_10
  exact sgF_congr (by omega) (by omega) (fun c q => he2 c (by omega))

abbrev w_X6_shownBy (G : XG) (ko : Nat) (ad : Nat → Nat) (w h la tp : Nat) (ft tr : Int32) (mv : Nat → Int32) (S mk : Nat → Int32) : va_W := [oC ko 6 [.ref (ad 0), .ref (ad 1), .int (nI w), .int (nI h), .int (nI la), .ref (ad 2), .int (mv 0), .int (mv 1), .int (mv 2), .int (mv 3), .int (mv 4), .int (mv 5), .int (mv 6), .ref (ad 3), .int (nI tp), .int (mv 7), .int (mv 8), .int (mv 9), .int (mv 10), .int ft, .int (mv 11), .ref (ad 4), .ref (ad 5), .ref (ad 6), .ref (ad 7), .ref (ad 8), .ref (ad 9), .ref (ad 10), .int tr], iA G (ad 0) 255 S, iA G (ad 4) 16 mk]
abbrev Q_X6_shownBy (G : XG) (sz : Nat) (ko : Nat) (ad : Nat → Nat) (w h la tp : Nat) (ft tr : Int32) (mv : Nat → Int32) (S mk : Nat → Int32) (nc : Nat) (nl : Nat) (l1 x : Nat) : Array Value → State → Outcome → State → Prop := (va_Qi (fun (r : Int32) (u : (Nat → Int32)) => r = shM w h S nc l1 x) (xWb G sz (w_X6_shownBy G ko ad w h la tp ft tr mv S mk) (fun u : (Nat → Int32) => [oC ko 6 [.ref (ad 0), .ref (ad 1), .int (nI w), .int (nI h), .int (nI la), .ref (ad 2), .int (mv 0), .int (mv 1), .int (mv 2), .int (mv 3), .int (mv 4), .int (mv 5), .int (mv 6), .ref (ad 3), .int (nI tp), .int (mv 7), .int (mv 8), .int (mv 9), .int (mv 10), .int ft, .int (mv 11), .ref (ad 4), .ref (ad 5), .ref (ad 6), .ref (ad 7), .ref (ad 8), .ref (ad 9), .ref (ad 10), .int tr], iA G (ad 0) 255 S, iA G (ad 4) 16 u])) (va_A (w_X6_shownBy G ko ad w h la tp ft tr mv S mk) sz))
set_option maxHeartbeats 4000000 in
set_option maxRecDepth 100000 in
theorem c_X6_shownBy (l : Launch) (G : XG) (sz : Nat) (ko : Nat) (ad : Nat → Nat) (w h la tp : Nat) (ft tr : Int32) (mv : Nat → Int32) (S mk : Nat → Int32) (nc : Nat) (nl : Nat) (l1 x : Nat) (hw : 1 ≤ w) (hwb : w ≤ 16) (hhb : h ≤ 16) (hwh1 : 1 ≤ w * h) (hwh : w * h ≤ 16) (hla : la ≤ 9) (hs16 : S 16 = nI nc) (hnc : nc ≤ 10) (hs47 : S 47 = nI nl) (hnl : nl ≤ 6) (hlens : ∀ i, i < nl → inR (S (48 + 2 * i)) (la + 1)) (hl1 : l1 < nl) (hxx : x < w * h) : Met l yX6_shownBy wsX6_shownBy ({ frames := 4, cells := 0, slots := 0, locals := 89 } : Room) (va_Pc [.ref ko, .int (nI l1), .int (nI x)] (xWp G sz (w_X6_shownBy G ko ad w h la tp ft tr mv S mk))) (Q_X6_shownBy G sz ko ad w h la tp ft tr mv S mk nc nl l1 x) 0 0 (va_A (w_X6_shownBy G ko ad w h la tp ft tr mv S mk) sz) := by
  refine Met.ofW (cc := cX6_shownBy) (maxL := 3) (ret := (some .int)) (by decide) rfl ?_
  intro pp ee ss mm aa below mt cd s₁ BB hml hv
  obtain ⟨rfl, hsz, hP, hK, hD0⟩ := hv
  have hx := BB.exec
  have hb := BB.bytes
  have hr := BB.returns
  have hts := atoms_spec (ws := wsX6_shownBy) BB.pre
  have hown : ss.vm.findClass RX6 = some mm.cls := findClass_of_methodNamed BB.named
  have hlocks := BB.notSynchronized
  subst hsz
  have hD := hD0.self (sz := ss.heap.size)
  have hA : ∀ q : Nat, ss.heap.size ≤ q → va_A (w_X6_shownBy G ko ad w h la tp ft tr mv S mk) ss.heap.size q := fun q h => Or.inr h
  have hS : va_S (va_A (w_X6_shownBy G ko ad w h la tp ft tr mv S mk) ss.heap.size) ss.heap ss.heap [] := va_S.rf
  replace hD : va_D (va_A (w_X6_shownBy G ko ad w h la tp ft tr mv S mk) ss.heap.size) [oC ko 6 [.ref (ad 0), .ref (ad 1), .int (nI w), .int (nI h), .int (nI la), .ref (ad 2), .int (mv 0), .int (mv 1), .int (mv 2), .int (mv 3), .int (mv 4), .int (mv 5), .int (mv 6), .ref (ad 3), .int (nI tp), .int (mv 7), .int (mv 8), .int (mv 9), .int (mv 10), .int ft, .int (mv 11), .ref (ad 4), .ref (ad 5), .ref (ad 6), .ref (ad 7), .ref (ad 8), .ref (ad 9), .ref (ad 10), .int tr], iA G (ad 0) 255 S, iA G (ad 4) 16 mk] := hD
  replace hP : xP G [oC ko 6 [.ref (ad 0), .ref (ad 1), .int (nI w), .int (nI h), .int (nI la), .ref (ad 2), .int (mv 0), .int (mv 1), .int (mv 2), .int (mv 3), .int (mv 4), .int (mv 5), .int (mv 6), .ref (ad 3), .int (nI tp), .int (mv 7), .int (mv 8), .int (mv 9), .int (mv 10), .int ft, .int (mv 11), .ref (ad 4), .ref (ad 5), .ref (ad 6), .ref (ad 7), .ref (ad 8), .ref (ad 9), .ref (ad 10), .int tr], iA G (ad 0) 255 S, iA G (ad 4) 16 mk] ss.heap := hP
  have hin6 : ∀ w ∈ u_ws RX6 TX6 29, w ∈ wsX6_shownBy := fun w h => List.mem_cons_of_mem _ (List.mem_append_right _ h)
  have hl := lv_entry ([.ref ko, .int (nI l1), .int (nI x)]) (n := 3) (Nat.le_of_ble_eq_true rfl)
  rw [lg_entry_eq]
  generalize (lg_sl ([.ref ko, .int (nI l1), .int (nI x)]) ++ List.replicate (3 - (lg_sl ([.ref ko, .int (nI l1), .int (nI x)])).length) Slot.unset).toArray = ls at hl ⊢
  replace hl : lv_has ls 3 [(0, .ref ko), (1, .int (nI l1)), (2, .int (nI x))] := hl
  refine lv_aload_n hx hb dX6_shownBy_0 rfl (lv_at hl 0 rfl) ?_
  refine lv_iload_n hx hb dX6_shownBy_1 rfl (lv_at hl 2 rfl) ?_
  refine lv_aload_n hx hb dX6_shownBy_2 rfl (lv_at hl 0 rfl) ?_
  refine va_get (D := G.1) (ci := 6) (v := .ref (ad 0)) (C := RX6) (T := TX6) (N := 29) hx hb hts hin6 hown hK.1 hP 0 rfl rfl 0 (by decide) (hts (.fieldLink RX6 7 "BackLensesModel" "st" "[I") (List.mem_of_getElem? (i := 1) rfl)) (fun _ h9 => h9) rfl dX6_shownBy_3 ?_
  refine lv_bipush (v := nI 48) hx hb dX6_shownBy_6 (by decide) ?_
  refine lv_iconst (v := nI 2) hx hb dX6_shownBy_8 (by decide) ?_
  refine lv_iload_n hx hb dX6_shownBy_9 rfl (lv_at hl 1 rfl) ?_
  refine xn_imul hx hb dX6_shownBy_10 ?_
  refine xn_iadd hx hb dX6_shownBy_11 ?_
  refine xn_iald hx hb hK hP 1 rfl (by omega) (by omega) dX6_shownBy_12 ?_
  obtain ⟨d0, hd0, ed0⟩ := inR_nat (hlens l1 (by omega))
  refine xn_top ed0 ?_
  refine xw_i (As := [.int (nI x), .int (nI d0)]) (rest := []) (wr := []) ⟨hx, hb, hml, hown, hts⟩ (c_X6_sightOn l G ss.heap.size ko ad w h la tp ft tr mv S mk _ x d0 (by first | assumption | omega) (by first | assumption | omega) (by first | assumption | omega) (by first | assumption | omega) (by first | assumption | omega) (by first | assumption | omega) (by first | assumption | omega) (by first | assumption | omega) (by first | assumption | omega) (by first | assumption | omega)) (cwV 2 hts gX6_shownBy_X6_sightOn rfl rfl rfl (by decide +kernel) ⟨Nat.le_of_ble_eq_true rfl, Nat.le_of_ble_eq_true rfl⟩) hK hP hD hS hA [0, 1, 2] [] rfl rfl (by decide) (by decide) (by decide) rfl rfl rfl hl.1 rfl (Nat.le_of_ble_eq_true rfl) dX6_shownBy_13 ⟨Nat.le_of_ble_eq_true rfl, Nat.le_of_ble_eq_true rfl⟩ (fun r13 u H locs hp13 hP hD hS => ?_)
  obtain ⟨mk2_13, rfl⟩ : ∃ z, z = u := ⟨_, rfl⟩
  try dsimp only at hp13 hP hD
  obtain rfl := hp13
  replace hP : xP G [oC ko 6 [.ref (ad 0), .ref (ad 1), .int (nI w), .int (nI h), .int (nI la), .ref (ad 2), .int (mv 0), .int (mv 1), .int (mv 2), .int (mv 3), .int (mv 4), .int (mv 5), .int (mv 6), .ref (ad 3), .int (nI tp), .int (mv 7), .int (mv 8), .int (mv 9), .int (mv 10), .int ft, .int (mv 11), .ref (ad 4), .ref (ad 5), .ref (ad 6), .ref (ad 7), .ref (ad 8), .ref (ad 9), .ref (ad 10), .int tr], iA G (ad 0) 255 S, iA G (ad 4) 16 mk2_13] H := hP
  replace hD : va_D (va_A (w_X6_shownBy G ko ad w h la tp ft tr mv S mk) ss.heap.size) [oC ko 6 [.ref (ad 0), .ref (ad 1), .int (nI w), .int (nI h), .int (nI la), .ref (ad 2), .int (mv 0), .int (mv 1), .int (mv 2), .int (mv 3), .int (mv 4), .int (mv 5), .int (mv 6), .ref (ad 3), .int (nI tp), .int (mv 7), .int (mv 8), .int (mv 9), .int (mv 10), .int ft, .int (mv 11), .ref (ad 4), .ref (ad 5), .ref (ad 6), .ref (ad 7), .ref (ad 8), .ref (ad 9), .ref (ad 10), .int tr], iA G (ad 0) 255 S, iA G (ad 4) 16 mk2_13] := hD
  refine lv_aload_n hx hb dX6_shownBy_16 rfl (lv_at hl 0 rfl) ?_
  refine va_get (D := G.1) (ci := 6) (v := .ref (ad 0)) (C := RX6) (T := TX6) (N := 29) hx hb hts hin6 hown hK.1 hP 0 rfl rfl 0 (by decide) (hts (.fieldLink RX6 7 "BackLensesModel" "st" "[I") (List.mem_of_getElem? (i := 1) rfl)) (fun _ h9 => h9) rfl dX6_shownBy_17 ?_
  refine lv_bipush (v := nI 48) hx hb dX6_shownBy_20 (by decide) ?_
  refine lv_iconst (v := nI 2) hx hb dX6_shownBy_22 (by decide) ?_
  refine lv_iload_n hx hb dX6_shownBy_23 rfl (lv_at hl 1 rfl) ?_
  refine xn_imul hx hb dX6_shownBy_24 ?_
  refine xn_iadd hx hb dX6_shownBy_25 ?_
  refine lv_iconst (v := nI 1) hx hb dX6_shownBy_26 (by decide) ?_
  refine xn_iadd hx hb dX6_shownBy_27 ?_
  refine xn_iald hx hb hK hP 1 rfl (by omega) (by omega) dX6_shownBy_28 ?_
  refine lv_iconst (v := (-1)) hx hb dX6_shownBy_29 (by decide) ?_
  refine lv_ixor hx hb dX6_shownBy_30 ?_
  refine lv_iand hx hb dX6_shownBy_31 ?_
  have hP := hP.sub (ws' := [oC ko 6 [.ref (ad 0), .ref (ad 1), .int (nI w), .int (nI h), .int (nI la), .ref (ad 2), .int (mv 0), .int (mv 1), .int (mv 2), .int (mv 3), .int (mv 4), .int (mv 5), .int (mv 6), .ref (ad 3), .int (nI tp), .int (mv 7), .int (mv 8), .int (mv 9), .int (mv 10), .int ft, .int (mv 11), .ref (ad 4), .ref (ad 5), .ref (ad 6), .ref (ad 7), .ref (ad 8), .ref (ad 9), .ref (ad 10), .int tr], iA G (ad 0) 255 S, iA G (ad 4) 16 mk2_13]) [0, 1, 2] rfl
  have hD := hD.sub (ws' := [oC ko 6 [.ref (ad 0), .ref (ad 1), .int (nI w), .int (nI h), .int (nI la), .ref (ad 2), .int (mv 0), .int (mv 1), .int (mv 2), .int (mv 3), .int (mv 4), .int (mv 5), .int (mv 6), .ref (ad 3), .int (nI tp), .int (mv 7), .int (mv 8), .int (mv 9), .int (mv 10), .int ft, .int (mv 11), .ref (ad 4), .ref (ad 5), .ref (ad 6), .ref (ad 7), .ref (ad 8), .ref (ad 9), .ref (ad 10), .int tr], iA G (ad 0) 255 S, iA G (ad 4) 16 mk2_13]) [0, 1, 2] (by decide) rfl
  refine W.iret (v := (sgM w h S _ x d0) &&& ((S ((48 + (2 * l1)) + 1)) ^^^ (-1))) hx hb hr (fun t ht hW => ⟨⟨(sgM w h S _ x d0) &&& ((S ((48 + (2 * l1)) + 1)) ^^^ (-1)), (mk2_13), rfl, ?_, by rw [ht]; exact hP, hD⟩, hS.F ht⟩) hS.2.2 dX6_shownBy_32
  unfold shM; rw [ed0, tn_nI (by omega)]

abbrev w_X6_unlike (G : XG) (ko : Nat) (ad : Nat → Nat) (w h la tp : Nat) (ft tr : Int32) (mv : Nat → Int32) (S : Nat → Int32) : va_W := [oC ko 6 [.ref (ad 0), .ref (ad 1), .int (nI w), .int (nI h), .int (nI la), .ref (ad 2), .int (mv 0), .int (mv 1), .int (mv 2), .int (mv 3), .int (mv 4), .int (mv 5), .int (mv 6), .ref (ad 3), .int (nI tp), .int (mv 7), .int (mv 8), .int (mv 9), .int (mv 10), .int ft, .int (mv 11), .ref (ad 4), .ref (ad 5), .ref (ad 6), .ref (ad 7), .ref (ad 8), .ref (ad 9), .ref (ad 10), .int tr], iA G (ad 0) 255 S]
abbrev Q_X6_unlike (G : XG) (ko : Nat) (ad : Nat → Nat) (w h la tp : Nat) (ft tr : Int32) (mv : Nat → Int32) (S : Nat → Int32) (nc : Nat) (d e : Nat) : Array Value → State → Outcome → State → Prop := (xRi (fun r => r = unM w h S nc d e))
set_option maxHeartbeats 4000000 in
set_option maxRecDepth 100000 in
theorem c_X6_unlike (l : Launch) (G : XG) (ko : Nat) (ad : Nat → Nat) (w h la tp : Nat) (ft tr : Int32) (mv : Nat → Int32) (S : Nat → Int32) (nc : Nat) (d e : Nat) (hw : 1 ≤ w) (hwb : w ≤ 16) (hhb : h ≤ 16) (hwh1 : 1 ≤ w * h) (hwh : w * h ≤ 16) (hla : la ≤ 9) (hs16 : S 16 = nI nc) (hnc : nc ≤ 10) (hd : d ≤ 9) (he : e ≤ 9) : Met l yX6_unlike wsX6_unlike ({ frames := 1, cells := 0, slots := 0, locals := 27 } : Room) (va_Pc [.ref ko, .int (nI d), .int (nI e)] (xRp G (w_X6_unlike G ko ad w h la tp ft tr mv S))) (Q_X6_unlike G ko ad w h la tp ft tr mv S nc d e) 0 0 (fun _ => False) := by
  refine Met.ofW (cc := cX6_unlike) (maxL := 5) (ret := (some .int)) (by decide) rfl ?_
  intro pp ee ss mm aa below mt cd s₁ BB hml hv
  obtain ⟨rfl, hP, hK⟩ := hv
  have hx := BB.exec
  have hb := BB.bytes
  have hr := BB.returns
  have hts := atoms_spec (ws := wsX6_unlike) BB.pre
  have hown : ss.vm.findClass RX6 = some mm.cls := findClass_of_methodNamed BB.named
  have hlocks := BB.notSynchronized
  have hS : va_S (fun _ => False) ss.heap ss.heap [] := va_S.rf
  replace hP : xP G [oC ko 6 [.ref (ad 0), .ref (ad 1), .int (nI w), .int (nI h), .int (nI la), .ref (ad 2), .int (mv 0), .int (mv 1), .int (mv 2), .int (mv 3), .int (mv 4), .int (mv 5), .int (mv 6), .ref (ad 3), .int (nI tp), .int (mv 7), .int (mv 8), .int (mv 9), .int (mv 10), .int ft, .int (mv 11), .ref (ad 4), .ref (ad 5), .ref (ad 6), .ref (ad 7), .ref (ad 8), .ref (ad 9), .ref (ad 10), .int tr], iA G (ad 0) 255 S] ss.heap := hP
  have hin6 : ∀ w ∈ u_ws RX6 TX6 29, w ∈ wsX6_unlike := fun w h => List.mem_cons_of_mem _ (List.mem_append_right _ h)
  have hl := lv_entry ([.ref ko, .int (nI d), .int (nI e)]) (n := 5) (Nat.le_of_ble_eq_true rfl)
  rw [lg_entry_eq]
  generalize (lg_sl ([.ref ko, .int (nI d), .int (nI e)]) ++ List.replicate (5 - (lg_sl ([.ref ko, .int (nI d), .int (nI e)])).length) Slot.unset).toArray = ls at hl ⊢
  replace hl : lv_has ls 5 [(0, .ref ko), (1, .int (nI d)), (2, .int (nI e))] := hl
  refine lv_iconst (v := nI 0) hx hb dX6_unlike_0 (by decide) ?_
  refine lv_istore_n (lv' := [(3, .int (nI 0)), (0, .ref ko), (1, .int (nI d)), (2, .int (nI e))]) hx hb dX6_unlike_1 rfl hl (by decide) rfl (fun ls hl => ?_)
  refine lv_iconst (v := nI 0) hx hb dX6_unlike_2 (by decide) ?_
  refine lv_istore (lv' := [(4, .int (nI 0)), (3, .int (nI 0)), (0, .ref ko), (1, .int (nI d)), (2, .int (nI e))]) hx hb dX6_unlike_3 hl (by decide) rfl (fun ls hl => ?_)
  have hL5 : ∀ k : Nat, ∀ (c : Nat) (bits : Int32) (ls : Array Slot) (H : Heap) (locs : List Loc), w * h - c = k → (c ≤ w * h) → (bits = xbits (fun c => !decide (mkM S nc c d = mkM S nc c e)) c) → lv_has ls 5 [(0, .ref ko), (1, .int (nI d)), (2, .int (nI e)), (3, .int bits), (4, .int (nI c))] → xP G [iA G (ad 0) 255 S, oC ko 6 [.ref (ad 0), .ref (ad 1), .int (nI w), .int (nI h), .int (nI la), .ref (ad 2), .int (mv 0), .int (mv 1), .int (mv 2), .int (mv 3), .int (mv 4), .int (mv 5), .int (mv 6), .ref (ad 3), .int (nI tp), .int (mv 7), .int (mv 8), .int (mv 9), .int (mv 10), .int ft, .int (mv 11), .ref (ad 4), .ref (ad 5), .ref (ad 6), .ref (ad 7), .ref (ad 8), .ref (ad 9), .ref (ad 10), .int tr]] H → va_S (fun _ => False) ss.heap H locs → W pp l ee ({ frames := 1, cells := 0, slots := 0, locals := 27 } : Room) ss mm ([.ref ko, .int (nI d), .int (nI e)] : List Value).toArray below mt cd H locs 0 0 (MQ below (Q_X6_unlike G ko ad w h la tp ft tr mv S nc d e) ([.ref ko, .int (nI d), .int (nI e)] : List Value).toArray ss 0 0 (fun _ => False)) (F0 mm 5 ls []) := by
    intro k
    induction k using Nat.strongRecOn with
    | _ k ih5 =>
    intro c bits ls H locs hm5 hc hbits hl hP hS
    refine lv_iload hx hb dX6_unlike_5 (lv_at hl 4 rfl) ?_
    refine lv_aload_n hx hb dX6_unlike_7 rfl (lv_at hl 0 rfl) ?_
    refine xr_i (As := []) (rest := [.int (nI c)]) ⟨hx, hb, hml, hown, hts⟩ (c_X6_cellsNow l G ko ad w h la tp ft tr mv ) (cwV 0 hts gX6_unlike_X6_cellsNow rfl rfl rfl (by decide +kernel) ⟨Nat.le_of_ble_eq_true rfl, Nat.le_of_ble_eq_true rfl⟩) hK hP hS [1] rfl rfl rfl rfl hl.1 rfl (Nat.le_of_ble_eq_true rfl) dX6_unlike_8 ⟨Nat.zero_le _, Nat.zero_le _⟩ (fun r8 H locs hp8 hP hS => ?_)
    rw [show r8 = _ from hp8]
    refine xn_icmp_ge (tgt := 51) hx hb (by omega) (by omega) dX6_unlike_11 rfl (fun b11 => ?_) (fun b11 => ?_)
    · skip
      refine lv_iload_n hx hb dX6_unlike_51 rfl (lv_at hl 3 rfl) ?_
      refine W.iret (v := bits) hx hb hr (fun t ht hW => ⟨⟨bits, (), rfl, ?_, trivial⟩, hS.F ht⟩) hS.2.2 dX6_unlike_52
      rw [hbits, show c = w * h by omega]
    · skip
      refine lv_iload_n hx hb dX6_unlike_14 rfl (lv_at hl 3 rfl) ?_
      refine lv_aload_n hx hb dX6_unlike_15 rfl (lv_at hl 0 rfl) ?_
      refine lv_iload hx hb dX6_unlike_16 (lv_at hl 4 rfl) ?_
      refine lv_iload_n hx hb dX6_unlike_18 rfl (lv_at hl 1 rfl) ?_
      refine xr_i (As := [.int (nI c), .int (nI d)]) (rest := [.int bits]) ⟨hx, hb, hml, hown, hts⟩ (c_X6_markOf l G ko ad w h la tp ft tr mv S _ c d (by first | assumption | omega) (by first | assumption | omega) (by first | assumption | omega) (by first | assumption | omega)) (cwV 2 hts gX6_unlike_X6_markOf rfl rfl rfl (by decide +kernel) ⟨Nat.le_of_ble_eq_true rfl, Nat.le_of_ble_eq_true rfl⟩) hK hP hS [1, 0] rfl rfl rfl rfl hl.1 rfl (Nat.le_of_ble_eq_true rfl) dX6_unlike_19 ⟨Nat.zero_le _, Nat.zero_le _⟩ (fun r19 H locs hp19 hP hS => ?_)
      rw [show r19 = _ from hp19]
      refine lv_aload_n hx hb dX6_unlike_22 rfl (lv_at hl 0 rfl) ?_
      refine lv_iload hx hb dX6_unlike_23 (lv_at hl 4 rfl) ?_
      refine lv_iload_n hx hb dX6_unlike_25 rfl (lv_at hl 2 rfl) ?_
      refine xr_i (As := [.int (nI c), .int (nI e)]) (rest := [.int (mkM S _ c d), .int bits]) ⟨hx, hb, hml, hown, hts⟩ (c_X6_markOf l G ko ad w h la tp ft tr mv S _ c e (by first | assumption | omega) (by first | assumption | omega) (by first | assumption | omega) (by first | assumption | omega)) (cwV 2 hts gX6_unlike_X6_markOf rfl rfl rfl (by decide +kernel) ⟨Nat.le_of_ble_eq_true rfl, Nat.le_of_ble_eq_true rfl⟩) hK hP hS [1, 0] rfl rfl rfl rfl hl.1 rfl (Nat.le_of_ble_eq_true rfl) dX6_unlike_26 ⟨Nat.zero_le _, Nat.zero_le _⟩ (fun r26 H locs hp26 hP hS => ?_)
      rw [show r26 = _ from hp26]
      refine lv_icmp_eq (tgt := 36) hx hb dX6_unlike_29 rfl (fun b29 => ?_) (fun b29 => ?_)
      · skip
        refine lv_iconst (v := nI 0) hx hb dX6_unlike_36 (by decide) ?_
        refine xs_i (As := [.int (nI 0)]) (rest := [.int bits]) ⟨hx, hb, hml, hown, hts⟩ (c_X6_flag_0 l G) (va_cwS 1 hts gX6_unlike_X6_flag rfl rfl rfl (by decide +kernel) ⟨Nat.le_of_ble_eq_true rfl, Nat.le_of_ble_eq_true rfl⟩) hP hS rfl hl.1 rfl (Nat.le_of_ble_eq_true rfl) dX6_unlike_37 ⟨Nat.zero_le _, Nat.zero_le _⟩ (fun r37 H locs hp37 hP hS => ?_)
        rw [show r37 = _ from hp37]
        refine lv_iload hx hb dX6_unlike_40 (lv_at hl 4 rfl) ?_
        refine lv_ishl hx hb dX6_unlike_42 ?_
        refine lv_ior hx hb dX6_unlike_43 ?_
        refine lv_istore_n (lv' := [(3, .int (bits ||| ((nI 0) <<< ((nI c) &&& 31)))), (0, .ref ko), (1, .int (nI d)), (2, .int (nI e)), (4, .int (nI c))]) hx hb dX6_unlike_44 rfl hl (by decide) rfl (fun ls hl => ?_)
        refine lv_iinc (k := 4) (v := nI (c + 1)) (lv' := [(4, .int (nI (c + 1))), (3, .int (bits ||| ((nI 0) <<< ((nI c) &&& 31)))), (0, .ref ko), (1, .int (nI d)), (2, .int (nI e))]) hx hb dX6_unlike_45 hl rfl (xn_inc c 1) (by decide) rfl (fun ls hl => ?_)
        refine lv_goto (tgt := 5) hx hb dX6_unlike_48 rfl ?_
        have hl := lv_sub hl (l' := [(0, .ref ko), (1, .int (nI d)), (2, .int (nI e)), (3, .int (bits ||| ((nI 0) <<< ((nI c) &&& 31)))), (4, .int (nI (c + 1)))]) [2, 3, 4, 1, 0] rfl
        exact ih5 (w * h - (c + 1)) (by omega) (c + 1) (bits ||| ((nI 0) <<< ((nI c) &&& 31))) ls H locs rfl (by omega) (by first | exact xbits_T (by simp only [decide_eq_false b29]; rfl) hbits | exact xbits_Z (by simp only [decide_eq_true b29]; rfl) hbits) hl hP hS
      · skip
        refine lv_iconst (v := nI 1) hx hb dX6_unlike_32 (by decide) ?_
        refine lv_goto (tgt := 37) hx hb dX6_unlike_33 rfl ?_
        refine xs_i (As := [.int (nI 1)]) (rest := [.int bits]) ⟨hx, hb, hml, hown, hts⟩ (c_X6_flag_1 l G) (va_cwS 1 hts gX6_unlike_X6_flag rfl rfl rfl (by decide +kernel) ⟨Nat.le_of_ble_eq_true rfl, Nat.le_of_ble_eq_true rfl⟩) hP hS rfl hl.1 rfl (Nat.le_of_ble_eq_true rfl) dX6_unlike_37 ⟨Nat.zero_le _, Nat.zero_le _⟩ (fun r37 H locs hp37 hP hS => ?_)
        rw [show r37 = _ from hp37]
        refine lv_iload hx hb dX6_unlike_40 (lv_at hl 4 rfl) ?_
        refine lv_ishl hx hb dX6_unlike_42 ?_
        refine lv_ior hx hb dX6_unlike_43 ?_
        refine lv_istore_n (lv' := [(3, .int (bits ||| ((nI 1) <<< ((nI c) &&& 31)))), (0, .ref ko), (1, .int (nI d)), (2, .int (nI e)), (4, .int (nI c))]) hx hb dX6_unlike_44 rfl hl (by decide) rfl (fun ls hl => ?_)
        refine lv_iinc (k := 4) (v := nI (c + 1)) (lv' := [(4, .int (nI (c + 1))), (3, .int (bits ||| ((nI 1) <<< ((nI c) &&& 31)))), (0, .ref ko), (1, .int (nI d)), (2, .int (nI e))]) hx hb dX6_unlike_45 hl rfl (xn_inc c 1) (by decide) rfl (fun ls hl => ?_)
        refine lv_goto (tgt := 5) hx hb dX6_unlike_48 rfl ?_
        have hl := lv_sub hl (l' := [(0, .ref ko), (1, .int (nI d)), (2, .int (nI e)), (3, .int (bits ||| ((nI 1) <<< ((nI c) &&& 31)))), (4, .int (nI (c + 1)))]) [2, 3, 4, 1, 0] rfl
        exact ih5 (w * h - (c + 1)) (by omega) (c + 1) (bits ||| ((nI 1) <<< ((nI c) &&& 31))) ls H locs rfl (by omega) (by first | exact xbits_T (by simp only [decide_eq_false b29]; rfl) hbits | exact xbits_Z (by simp only [decide_eq_true b29]; rfl) hbits) hl hP hS
  have hl := lv_sub hl (l' := [(0, .ref ko), (1, .int (nI d)), (2, .int (nI e)), (3, .int (nI 0)), (4, .int (nI 0))]) [2, 3, 4, 1, 0] rfl
  have hP := hP.sub (ws' := [iA G (ad 0) 255 S, oC ko 6 [.ref (ad 0), .ref (ad 1), .int (nI w), .int (nI h), .int (nI la), .ref (ad 2), .int (mv 0), .int (mv 1), .int (mv 2), .int (mv 3), .int (mv 4), .int (mv 5), .int (mv 6), .ref (ad 3), .int (nI tp), .int (mv 7), .int (mv 8), .int (mv 9), .int (mv 10), .int ft, .int (mv 11), .ref (ad 4), .ref (ad 5), .ref (ad 6), .ref (ad 7), .ref (ad 8), .ref (ad 9), .ref (ad 10), .int tr]]) [1, 0] rfl
  exact hL5 (w * h - 0) 0 (nI 0) ls ss.heap [] rfl (by omega) (by rfl) hl hP hS

abbrev w_X6_rule (G : XG) (ko : Nat) (ad : Nat → Nat) (w h la tp : Nat) (ft tr : Int32) (mv : Nat → Int32) (S : Nat → Int32) : va_W := [oC ko 6 [.ref (ad 0), .ref (ad 1), .int (nI w), .int (nI h), .int (nI la), .ref (ad 2), .int (mv 0), .int (mv 1), .int (mv 2), .int (mv 3), .int (mv 4), .int (mv 5), .int (mv 6), .ref (ad 3), .int (nI tp), .int (mv 7), .int (mv 8), .int (mv 9), .int (mv 10), .int ft, .int (mv 11), .ref (ad 4), .ref (ad 5), .ref (ad 6), .ref (ad 7), .ref (ad 8), .ref (ad 9), .ref (ad 10), .int tr], iA G (ad 0) 255 S]
abbrev Q_X6_rule (G : XG) (ko : Nat) (ad : Nat → Nat) (w h la tp : Nat) (ft tr : Int32) (mv : Nat → Int32) (S : Nat → Int32) (nc nl : Nat) (a : Int32) : Array Value → State → Outcome → State → Prop := (xRi (fun r => r = (if a = nI 0 then nI w else if a = nI 1 then nI h else if a = nI 2 then nI la else if a = nI 3 then nI nc else if a = nI 4 then nI nl else (-1))))
set_option maxHeartbeats 4000000 in
set_option maxRecDepth 100000 in
theorem c_X6_rule (l : Launch) (G : XG) (ko : Nat) (ad : Nat → Nat) (w h la tp : Nat) (ft tr : Int32) (mv : Nat → Int32) (S : Nat → Int32) (nc nl : Nat) (a : Int32) (hs16 : S 16 = nI nc) (hs47 : S 47 = nI nl) : Met l yX6_rule wsX6_rule ({ frames := 0, cells := 0, slots := 0, locals := 0 } : Room) (va_Pc [.ref ko, .int a] (xRp G (w_X6_rule G ko ad w h la tp ft tr mv S))) (Q_X6_rule G ko ad w h la tp ft tr mv S nc nl a) 0 0 (fun _ => False) := by
  refine Met.ofW (cc := cX6_rule) (maxL := 2) (ret := (some .int)) (by decide) rfl ?_
  intro pp ee ss mm aa below mt cd s₁ BB hml hv
  obtain ⟨rfl, hP, hK⟩ := hv
  have hx := BB.exec
  have hb := BB.bytes
  have hr := BB.returns
  have hts := atoms_spec (ws := wsX6_rule) BB.pre
  have hown : ss.vm.findClass RX6 = some mm.cls := findClass_of_methodNamed BB.named
  have hlocks := BB.notSynchronized
  have hS : va_S (fun _ => False) ss.heap ss.heap [] := va_S.rf
  replace hP : xP G [oC ko 6 [.ref (ad 0), .ref (ad 1), .int (nI w), .int (nI h), .int (nI la), .ref (ad 2), .int (mv 0), .int (mv 1), .int (mv 2), .int (mv 3), .int (mv 4), .int (mv 5), .int (mv 6), .ref (ad 3), .int (nI tp), .int (mv 7), .int (mv 8), .int (mv 9), .int (mv 10), .int ft, .int (mv 11), .ref (ad 4), .ref (ad 5), .ref (ad 6), .ref (ad 7), .ref (ad 8), .ref (ad 9), .ref (ad 10), .int tr], iA G (ad 0) 255 S] ss.heap := hP
  have hin6 : ∀ w ∈ u_ws RX6 TX6 29, w ∈ wsX6_rule := fun w h => List.mem_cons_of_mem _ (List.mem_append_right _ h)
  have hl := lv_entry ([.ref ko, .int a]) (n := 2) (Nat.le_of_ble_eq_true rfl)
  rw [lg_entry_eq]
  generalize (lg_sl ([.ref ko, .int a]) ++ List.replicate (2 - (lg_sl ([.ref ko, .int a])).length) Slot.unset).toArray = ls at hl ⊢
  replace hl : lv_has ls 2 [(0, .ref ko), (1, .int a)] := hl
  refine lv_iload_n hx hb dX6_rule_0 rfl (lv_at hl 1 rfl) ?_
  by_cases hsw : inR a 5
  · obtain ⟨jsw, hjsw, rfl⟩ := inR_nat hsw
    rcases (show jsw = 0 ∨ jsw = 1 ∨ jsw = 2 ∨ jsw = 3 ∨ jsw = 4 by omega) with rfl | rfl | rfl | rfl | rfl
    · skip
      refine lv_tableIn (off := 35) (tgt := 36) hx hb dX6_rule_1 (by decide) (by decide) rfl rfl ?_
      refine lv_aload_n hx hb dX6_rule_36 rfl (lv_at hl 0 rfl) ?_
      refine va_get (D := G.1) (ci := 6) (v := .int (nI w)) (C := RX6) (T := TX6) (N := 29) hx hb hts hin6 hown hK.1 hP 0 rfl rfl 2 (by decide) (hts (.fieldLink RX6 72 "BackLensesModel" "wide" "I") (List.mem_of_getElem? (i := 1) rfl)) (fun _ h9 => h9) rfl dX6_rule_37 ?_
      refine W.iret (v := nI w) hx hb hr (fun t ht hW => ⟨⟨nI w, (), rfl, ?_, trivial⟩, hS.F ht⟩) hS.2.2 dX6_rule_40
      first | rfl | exact hs16 | exact hs47 | (repeat rw [if_neg (fun q => hsw (by rw [q]; exact inR_nI (by decide) (by decide)))])
    · skip
      refine lv_tableIn (off := 40) (tgt := 41) hx hb dX6_rule_1 (by decide) (by decide) rfl rfl ?_
      refine lv_aload_n hx hb dX6_rule_41 rfl (lv_at hl 0 rfl) ?_
      refine va_get (D := G.1) (ci := 6) (v := .int (nI h)) (C := RX6) (T := TX6) (N := 29) hx hb hts hin6 hown hK.1 hP 0 rfl rfl 3 (by decide) (hts (.fieldLink RX6 75 "BackLensesModel" "high" "I") (List.mem_of_getElem? (i := 2) rfl)) (fun _ h9 => h9) rfl dX6_rule_42 ?_
      refine W.iret (v := nI h) hx hb hr (fun t ht hW => ⟨⟨nI h, (), rfl, ?_, trivial⟩, hS.F ht⟩) hS.2.2 dX6_rule_45
      first | rfl | exact hs16 | exact hs47 | (repeat rw [if_neg (fun q => hsw (by rw [q]; exact inR_nI (by decide) (by decide)))])
    · skip
      refine lv_tableIn (off := 45) (tgt := 46) hx hb dX6_rule_1 (by decide) (by decide) rfl rfl ?_
      refine lv_aload_n hx hb dX6_rule_46 rfl (lv_at hl 0 rfl) ?_
      refine va_get (D := G.1) (ci := 6) (v := .int (nI la)) (C := RX6) (T := TX6) (N := 29) hx hb hts hin6 hown hK.1 hP 0 rfl rfl 4 (by decide) (hts (.fieldLink RX6 78 "BackLensesModel" "last" "I") (List.mem_of_getElem? (i := 3) rfl)) (fun _ h9 => h9) rfl dX6_rule_47 ?_
      refine W.iret (v := nI la) hx hb hr (fun t ht hW => ⟨⟨nI la, (), rfl, ?_, trivial⟩, hS.F ht⟩) hS.2.2 dX6_rule_50
      first | rfl | exact hs16 | exact hs47 | (repeat rw [if_neg (fun q => hsw (by rw [q]; exact inR_nI (by decide) (by decide)))])
    · skip
      refine lv_tableIn (off := 50) (tgt := 51) hx hb dX6_rule_1 (by decide) (by decide) rfl rfl ?_
      refine lv_aload_n hx hb dX6_rule_51 rfl (lv_at hl 0 rfl) ?_
      refine va_get (D := G.1) (ci := 6) (v := .ref (ad 0)) (C := RX6) (T := TX6) (N := 29) hx hb hts hin6 hown hK.1 hP 0 rfl rfl 0 (by decide) (hts (.fieldLink RX6 7 "BackLensesModel" "st" "[I") (List.mem_of_getElem? (i := 4) rfl)) (fun _ h9 => h9) rfl dX6_rule_52 ?_
      refine lv_bipush (v := nI 16) hx hb dX6_rule_55 (by decide) ?_
      refine xn_iald hx hb hK hP 1 rfl (by omega) (by omega) dX6_rule_57 ?_
      refine W.iret (v := S 16) hx hb hr (fun t ht hW => ⟨⟨S 16, (), rfl, ?_, trivial⟩, hS.F ht⟩) hS.2.2 dX6_rule_58
      first | rfl | exact hs16 | exact hs47 | (repeat rw [if_neg (fun q => hsw (by rw [q]; exact inR_nI (by decide) (by decide)))])
    · skip
      refine lv_tableIn (off := 58) (tgt := 59) hx hb dX6_rule_1 (by decide) (by decide) rfl rfl ?_
      refine lv_aload_n hx hb dX6_rule_59 rfl (lv_at hl 0 rfl) ?_
      refine va_get (D := G.1) (ci := 6) (v := .ref (ad 0)) (C := RX6) (T := TX6) (N := 29) hx hb hts hin6 hown hK.1 hP 0 rfl rfl 0 (by decide) (hts (.fieldLink RX6 7 "BackLensesModel" "st" "[I") (List.mem_of_getElem? (i := 4) rfl)) (fun _ h9 => h9) rfl dX6_rule_60 ?_
      refine lv_bipush (v := nI 47) hx hb dX6_rule_63 (by decide) ?_
      refine xn_iald hx hb hK hP 1 rfl (by omega) (by omega) dX6_rule_65 ?_
      refine W.iret (v := S 47) hx hb hr (fun t ht hW => ⟨⟨S 47, (), rfl, ?_, trivial⟩, hS.F ht⟩) hS.2.2 dX6_rule_66
      first | rfl | exact hs16 | exact hs47 | (repeat rw [if_neg (fun q => hsw (by rw [q]; exact inR_nI (by decide) (by decide)))])
  · refine lv_tableOut (tgt := 67) hx hb dX6_rule_1 (by unfold inR at hsw; omega) rfl ?_
    refine lv_iconst (v := (-1)) hx hb dX6_rule_67 (by decide) ?_
    refine W.iret (v := (-1)) hx hb hr (fun t ht hW => ⟨⟨(-1), (), rfl, ?_, trivial⟩, hS.F ht⟩) hS.2.2 dX6_rule_68
    first | rfl | exact hs16 | exact hs47 | (repeat rw [if_neg (fun q => hsw (by rw [q]; exact inR_nI (by decide) (by decide)))])

abbrev w_X6_mark (G : XG) (ko : Nat) (ad : Nat → Nat) (w h la tp : Nat) (ft tr : Int32) (mv : Nat → Int32) (S : Nat → Int32) : va_W := [oC ko 6 [.ref (ad 0), .ref (ad 1), .int (nI w), .int (nI h), .int (nI la), .ref (ad 2), .int (mv 0), .int (mv 1), .int (mv 2), .int (mv 3), .int (mv 4), .int (mv 5), .int (mv 6), .ref (ad 3), .int (nI tp), .int (mv 7), .int (mv 8), .int (mv 9), .int (mv 10), .int ft, .int (mv 11), .ref (ad 4), .ref (ad 5), .ref (ad 6), .ref (ad 7), .ref (ad 8), .ref (ad 9), .ref (ad 10), .int tr], iA G (ad 0) 255 S]
abbrev Q_X6_mark (G : XG) (ko : Nat) (ad : Nat → Nat) (w h la tp : Nat) (ft tr : Int32) (mv : Nat → Int32) (S : Nat → Int32) (nc : Nat) (c d : Int32) : Array Value → State → Outcome → State → Prop := (xRi (fun r => r = (if inR c (w * h) ∧ inR d (la + 1) then mkM S nc (tn c) (tn d) else (-1))))
set_option maxHeartbeats 4000000 in
set_option maxRecDepth 100000 in
theorem c_X6_mark (l : Launch) (G : XG) (ko : Nat) (ad : Nat → Nat) (w h la tp : Nat) (ft tr : Int32) (mv : Nat → Int32) (S : Nat → Int32) (nc : Nat) (c d : Int32) (hw : 1 ≤ w) (hwb : w ≤ 16) (hhb : h ≤ 16) (hwh1 : 1 ≤ w * h) (hwh : w * h ≤ 16) (hla : la ≤ 9) (hs16 : S 16 = nI nc) (hnc : nc ≤ 10) : Met l yX6_mark wsX6_mark ({ frames := 2, cells := 0, slots := 0, locals := 46 } : Room) (va_Pc [.ref ko, .int c, .int d] (xRp G (w_X6_mark G ko ad w h la tp ft tr mv S))) (Q_X6_mark G ko ad w h la tp ft tr mv S nc c d) 0 0 (fun _ => False) := by
  refine Met.ofW (cc := cX6_mark) (maxL := 3) (ret := (some .int)) (by decide) rfl ?_
  intro pp ee ss mm aa below mt cd s₁ BB hml hv
  obtain ⟨rfl, hP, hK⟩ := hv
  have hx := BB.exec
  have hb := BB.bytes
  have hr := BB.returns
  have hts := atoms_spec (ws := wsX6_mark) BB.pre
  have hown : ss.vm.findClass RX6 = some mm.cls := findClass_of_methodNamed BB.named
  have hlocks := BB.notSynchronized
  have hS : va_S (fun _ => False) ss.heap ss.heap [] := va_S.rf
  replace hP : xP G [oC ko 6 [.ref (ad 0), .ref (ad 1), .int (nI w), .int (nI h), .int (nI la), .ref (ad 2), .int (mv 0), .int (mv 1), .int (mv 2), .int (mv 3), .int (mv 4), .int (mv 5), .int (mv 6), .ref (ad 3), .int (nI tp), .int (mv 7), .int (mv 8), .int (mv 9), .int (mv 10), .int ft, .int (mv 11), .ref (ad 4), .ref (ad 5), .ref (ad 6), .ref (ad 7), .ref (ad 8), .ref (ad 9), .ref (ad 10), .int tr], iA G (ad 0) 255 S] ss.heap := hP
  have hin6 : ∀ w ∈ u_ws RX6 TX6 29, w ∈ wsX6_mark := fun w h => List.mem_cons_of_mem _ (List.mem_append_right _ h)
  have hl := lv_entry ([.ref ko, .int c, .int d]) (n := 3) (Nat.le_of_ble_eq_true rfl)
  rw [lg_entry_eq]
  generalize (lg_sl ([.ref ko, .int c, .int d]) ++ List.replicate (3 - (lg_sl ([.ref ko, .int c, .int d])).length) Slot.unset).toArray = ls at hl ⊢
  replace hl : lv_has ls 3 [(0, .ref ko), (1, .int c), (2, .int d)] := hl
  refine lv_aload_n hx hb dX6_mark_0 rfl (lv_at hl 0 rfl) ?_
  refine lv_iload_n hx hb dX6_mark_1 rfl (lv_at hl 1 rfl) ?_
  refine xr_i (As := [.int c]) (rest := []) ⟨hx, hb, hml, hown, hts⟩ (c_X6_isCell l G ko ad w h la tp ft tr mv c (by first | assumption | omega) (by first | assumption | omega)) (cwV 1 hts gX6_mark_X6_isCell rfl rfl rfl (by decide +kernel) ⟨Nat.le_of_ble_eq_true rfl, Nat.le_of_ble_eq_true rfl⟩) hK hP hS [0] rfl rfl rfl rfl hl.1 rfl (Nat.le_of_ble_eq_true rfl) dX6_mark_2 ⟨Nat.zero_le _, Nat.zero_le _⟩ (fun r2 H locs hp2 hP hS => ?_)
  rw [show r2 = _ from hp2]
  refine xb_if_eq (tgt := 25) hx hb dX6_mark_5 rfl (fun b5 => ?_) (fun b5 => ?_)
  · skip
    refine lv_iconst (v := (-1)) hx hb dX6_mark_25 (by decide) ?_
    refine W.iret (v := (-1)) hx hb hr (fun t ht hW => ⟨⟨(-1), (), rfl, ?_, trivial⟩, hS.F ht⟩) hS.2.2 dX6_mark_26
    first | exact (if_neg (fun q => b5 q.1)).symm | exact (if_neg (fun q => b13 q.2)).symm | (rw [if_pos ⟨inR_nI hc0 (by omega), inR_nI hd0 (by omega)⟩, tn_nI (by omega), tn_nI (by omega)])
  · skip
    refine lv_aload_n hx hb dX6_mark_8 rfl (lv_at hl 0 rfl) ?_
    refine lv_iload_n hx hb dX6_mark_9 rfl (lv_at hl 2 rfl) ?_
    refine xr_i (As := [.int d]) (rest := []) ⟨hx, hb, hml, hown, hts⟩ (c_X6_isDay l G ko ad w h la tp ft tr mv d (by first | assumption | omega)) (cwV 1 hts gX6_mark_X6_isDay rfl rfl rfl (by decide +kernel) ⟨Nat.le_of_ble_eq_true rfl, Nat.le_of_ble_eq_true rfl⟩) hK hP hS [0] rfl rfl rfl rfl hl.1 rfl (Nat.le_of_ble_eq_true rfl) dX6_mark_10 ⟨Nat.zero_le _, Nat.zero_le _⟩ (fun r10 H locs hp10 hP hS => ?_)
    rw [show r10 = _ from hp10]
    refine xb_if_eq (tgt := 25) hx hb dX6_mark_13 rfl (fun b13 => ?_) (fun b13 => ?_)
    · skip
      refine lv_iconst (v := (-1)) hx hb dX6_mark_25 (by decide) ?_
      refine W.iret (v := (-1)) hx hb hr (fun t ht hW => ⟨⟨(-1), (), rfl, ?_, trivial⟩, hS.F ht⟩) hS.2.2 dX6_mark_26
      first | exact (if_neg (fun q => b5 q.1)).symm | exact (if_neg (fun q => b13 q.2)).symm | (rw [if_pos ⟨inR_nI hc0 (by omega), inR_nI hd0 (by omega)⟩, tn_nI (by omega), tn_nI (by omega)])
    · skip
      obtain ⟨c0, hc0, rfl⟩ := inR_nat b5
      obtain ⟨d0, hd0, rfl⟩ := inR_nat b13
      refine lv_aload_n hx hb dX6_mark_16 rfl (lv_at hl 0 rfl) ?_
      refine lv_iload_n hx hb dX6_mark_17 rfl (lv_at hl 1 rfl) ?_
      refine lv_iload_n hx hb dX6_mark_18 rfl (lv_at hl 2 rfl) ?_
      refine xr_i (As := [.int (nI c0), .int (nI d0)]) (rest := []) ⟨hx, hb, hml, hown, hts⟩ (c_X6_markOf l G ko ad w h la tp ft tr mv S _ c0 d0 (by first | assumption | omega) (by first | assumption | omega) (by first | assumption | omega) (by first | assumption | omega)) (cwV 2 hts gX6_mark_X6_markOf rfl rfl rfl (by decide +kernel) ⟨Nat.le_of_ble_eq_true rfl, Nat.le_of_ble_eq_true rfl⟩) hK hP hS [0, 1] rfl rfl rfl rfl hl.1 rfl (Nat.le_of_ble_eq_true rfl) dX6_mark_19 ⟨Nat.zero_le _, Nat.zero_le _⟩ (fun r19 H locs hp19 hP hS => ?_)
      rw [show r19 = _ from hp19]
      refine lv_goto (tgt := 26) hx hb dX6_mark_22 rfl ?_
      refine W.iret (v := mkM S _ c0 d0) hx hb hr (fun t ht hW => ⟨⟨mkM S _ c0 d0, (), rfl, ?_, trivial⟩, hS.F ht⟩) hS.2.2 dX6_mark_26
      first | exact (if_neg (fun q => b5 q.1)).symm | exact (if_neg (fun q => b13 q.2)).symm | (rw [if_pos ⟨inR_nI hc0 (by omega), inR_nI hd0 (by omega)⟩, tn_nI (by omega), tn_nI (by omega)])

abbrev w_X6_change (G : XG) (ko : Nat) (ad : Nat → Nat) (w h la tp : Nat) (ft tr : Int32) (mv : Nat → Int32) (S : Nat → Int32) : va_W := [oC ko 6 [.ref (ad 0), .ref (ad 1), .int (nI w), .int (nI h), .int (nI la), .ref (ad 2), .int (mv 0), .int (mv 1), .int (mv 2), .int (mv 3), .int (mv 4), .int (mv 5), .int (mv 6), .ref (ad 3), .int (nI tp), .int (mv 7), .int (mv 8), .int (mv 9), .int (mv 10), .int ft, .int (mv 11), .ref (ad 4), .ref (ad 5), .ref (ad 6), .ref (ad 7), .ref (ad 8), .ref (ad 9), .ref (ad 10), .int tr], iA G (ad 0) 255 S]
abbrev Q_X6_change (G : XG) (ko : Nat) (ad : Nat → Nat) (w h la tp : Nat) (ft tr : Int32) (mv : Nat → Int32) (S : Nat → Int32) (nc : Nat) (i a : Int32) : Array Value → State → Outcome → State → Prop := (xRi (fun r => r = (if inR i nc ∧ inR a 3 then S (17 + 3 * tn i + tn a) else (-1))))
set_option maxHeartbeats 4000000 in
set_option maxRecDepth 100000 in
theorem c_X6_change (l : Launch) (G : XG) (ko : Nat) (ad : Nat → Nat) (w h la tp : Nat) (ft tr : Int32) (mv : Nat → Int32) (S : Nat → Int32) (nc : Nat) (i a : Int32) (hs16 : S 16 = nI nc) (hnc : nc ≤ 10) : Met l yX6_change wsX6_change ({ frames := 1, cells := 0, slots := 0, locals := 25 } : Room) (va_Pc [.ref ko, .int i, .int a] (xRp G (w_X6_change G ko ad w h la tp ft tr mv S))) (Q_X6_change G ko ad w h la tp ft tr mv S nc i a) 0 0 (fun _ => False) := by
  refine Met.ofW (cc := cX6_change) (maxL := 3) (ret := (some .int)) (by decide) rfl ?_
  intro pp ee ss mm aa below mt cd s₁ BB hml hv
  obtain ⟨rfl, hP, hK⟩ := hv
  have hx := BB.exec
  have hb := BB.bytes
  have hr := BB.returns
  have hts := atoms_spec (ws := wsX6_change) BB.pre
  have hown : ss.vm.findClass RX6 = some mm.cls := findClass_of_methodNamed BB.named
  have hlocks := BB.notSynchronized
  have hS : va_S (fun _ => False) ss.heap ss.heap [] := va_S.rf
  replace hP : xP G [oC ko 6 [.ref (ad 0), .ref (ad 1), .int (nI w), .int (nI h), .int (nI la), .ref (ad 2), .int (mv 0), .int (mv 1), .int (mv 2), .int (mv 3), .int (mv 4), .int (mv 5), .int (mv 6), .ref (ad 3), .int (nI tp), .int (mv 7), .int (mv 8), .int (mv 9), .int (mv 10), .int ft, .int (mv 11), .ref (ad 4), .ref (ad 5), .ref (ad 6), .ref (ad 7), .ref (ad 8), .ref (ad 9), .ref (ad 10), .int tr], iA G (ad 0) 255 S] ss.heap := hP
  have hin6 : ∀ w ∈ u_ws RX6 TX6 29, w ∈ wsX6_change := fun w h => List.mem_cons_of_mem _ (List.mem_append_right _ h)
  have hl := lv_entry ([.ref ko, .int i, .int a]) (n := 3) (Nat.le_of_ble_eq_true rfl)
  rw [lg_entry_eq]
  generalize (lg_sl ([.ref ko, .int i, .int a]) ++ List.replicate (3 - (lg_sl ([.ref ko, .int i, .int a])).length) Slot.unset).toArray = ls at hl ⊢
  replace hl : lv_has ls 3 [(0, .ref ko), (1, .int i), (2, .int a)] := hl
  refine lv_iload_n hx hb dX6_change_0 rfl (lv_at hl 1 rfl) ?_
  refine xi_i2l hx hb dX6_change_1 ?_
  refine lv_lconst (v := lN 0) hx hb dX6_change_2 (by decide) ?_
  refine lv_aload_n hx hb dX6_change_3 rfl (lv_at hl 0 rfl) ?_
  refine va_get (D := G.1) (ci := 6) (v := .ref (ad 0)) (C := RX6) (T := TX6) (N := 29) hx hb hts hin6 hown hK.1 hP 0 rfl rfl 0 (by decide) (hts (.fieldLink RX6 7 "BackLensesModel" "st" "[I") (List.mem_of_getElem? (i := 1) rfl)) (fun _ h9 => h9) rfl dX6_change_4 ?_
  refine lv_bipush (v := nI 16) hx hb dX6_change_7 (by decide) ?_
  refine xn_iald hx hb hK hP 1 rfl (by omega) (by omega) dX6_change_9 ?_
  refine xn_top hs16 ?_
  refine lv_iconst (v := nI 1) hx hb dX6_change_10 (by decide) ?_
  refine lv_isub hx hb dX6_change_11 ?_
  refine xi_i2l hx hb dX6_change_12 ?_
  refine xs_i (As := [.long i.toInt64, .long (lN 0), .long (((nI nc) - (nI 1)).toInt64)]) (rest := []) ⟨hx, hb, hml, hown, hts⟩ (c_X6_in l G i.toInt64 (lN 0) (((nI nc) - (nI 1)).toInt64) ) (va_cwS 3 hts gX6_change_X6_in rfl rfl rfl (by decide +kernel) ⟨Nat.le_of_ble_eq_true rfl, Nat.le_of_ble_eq_true rfl⟩) hP hS rfl hl.1 rfl (Nat.le_of_ble_eq_true rfl) dX6_change_13 ⟨Nat.zero_le _, Nat.zero_le _⟩ (fun r13 H locs hp13 hP hS => ?_)
  rw [show r13 = _ from hp13]
  refine xb_if_eq (tgt := 47) hx hb dX6_change_16 rfl (fun b16 => ?_) (fun b16 => ?_)
  · skip
    have b16 : ¬ inR i nc := (fun q => b16 (by simp only [i64_toInt]; rw [lN_toInt' (by omega), pk_sub_toInt (by omega) (by omega)]; unfold inR at q; omega))
    refine lv_iconst (v := (-1)) hx hb dX6_change_47 (by decide) ?_
    refine W.iret (v := (-1)) hx hb hr (fun t ht hW => ⟨⟨(-1), (), rfl, ?_, trivial⟩, hS.F ht⟩) hS.2.2 dX6_change_48
    first | exact (if_neg (fun q => b16 q.1)).symm | exact (if_neg (fun q => b28 q.2)).symm | (rw [if_pos ⟨inR_nI hi0 (by omega), inR_nI ha0 (by omega)⟩, tn_nI (by omega), tn_nI (by omega)])
  · skip
    have b16 : inR i nc := (by simp only [i64_toInt] at b16; rw [lN_toInt' (by omega), pk_sub_toInt (by omega) (by omega)] at b16; unfold inR; omega)
    refine lv_iload_n hx hb dX6_change_19 rfl (lv_at hl 2 rfl) ?_
    refine xi_i2l hx hb dX6_change_20 ?_
    refine lv_lconst (v := lN 0) hx hb dX6_change_21 (by decide) ?_
    refine lv_ldc2 (v := lN 2) hx hb hown (hts (.constantLong RX6 185 (lN 2)) (List.mem_of_getElem? (i := 2) rfl)) dX6_change_22 ?_
    refine xs_i (As := [.long a.toInt64, .long (lN 0), .long (lN 2)]) (rest := []) ⟨hx, hb, hml, hown, hts⟩ (c_X6_in l G a.toInt64 (lN 0) (lN 2) ) (va_cwS 3 hts gX6_change_X6_in rfl rfl rfl (by decide +kernel) ⟨Nat.le_of_ble_eq_true rfl, Nat.le_of_ble_eq_true rfl⟩) hP hS rfl hl.1 rfl (Nat.le_of_ble_eq_true rfl) dX6_change_25 ⟨Nat.zero_le _, Nat.zero_le _⟩ (fun r25 H locs hp25 hP hS => ?_)
    rw [show r25 = _ from hp25]
    refine xb_if_eq (tgt := 47) hx hb dX6_change_28 rfl (fun b28 => ?_) (fun b28 => ?_)
    · skip
      have b28 : ¬ inR a 3 := (fun q => b28 (by simp only [i64_toInt]; rw [lN_toInt' (by omega), lN_toInt' (by omega)]; unfold inR at q; omega))
      refine lv_iconst (v := (-1)) hx hb dX6_change_47 (by decide) ?_
      refine W.iret (v := (-1)) hx hb hr (fun t ht hW => ⟨⟨(-1), (), rfl, ?_, trivial⟩, hS.F ht⟩) hS.2.2 dX6_change_48
      first | exact (if_neg (fun q => b16 q.1)).symm | exact (if_neg (fun q => b28 q.2)).symm | (rw [if_pos ⟨inR_nI hi0 (by omega), inR_nI ha0 (by omega)⟩, tn_nI (by omega), tn_nI (by omega)])
    · skip
      have b28 : inR a 3 := (by simp only [i64_toInt] at b28; rw [lN_toInt' (by omega), lN_toInt' (by omega)] at b28; unfold inR; omega)
      obtain ⟨i0, hi0, rfl⟩ := inR_nat b16
      obtain ⟨a0, ha0, rfl⟩ := inR_nat b28
      refine lv_aload_n hx hb dX6_change_31 rfl (lv_at hl 0 rfl) ?_
      refine va_get (D := G.1) (ci := 6) (v := .ref (ad 0)) (C := RX6) (T := TX6) (N := 29) hx hb hts hin6 hown hK.1 hP 0 rfl rfl 0 (by decide) (hts (.fieldLink RX6 7 "BackLensesModel" "st" "[I") (List.mem_of_getElem? (i := 1) rfl)) (fun _ h9 => h9) rfl dX6_change_32 ?_
      refine lv_bipush (v := nI 17) hx hb dX6_change_35 (by decide) ?_
      refine lv_iconst (v := nI 3) hx hb dX6_change_37 (by decide) ?_
      refine lv_iload_n hx hb dX6_change_38 rfl (lv_at hl 1 rfl) ?_
      refine xn_imul hx hb dX6_change_39 ?_
      refine xn_iadd hx hb dX6_change_40 ?_
      refine lv_iload_n hx hb dX6_change_41 rfl (lv_at hl 2 rfl) ?_
      refine xn_iadd hx hb dX6_change_42 ?_
      refine xn_iald hx hb hK hP 1 rfl (by omega) (by omega) dX6_change_43 ?_
      refine lv_goto (tgt := 48) hx hb dX6_change_44 rfl ?_
      refine W.iret (v := S ((17 + (3 * i0)) + a0)) hx hb hr (fun t ht hW => ⟨⟨S ((17 + (3 * i0)) + a0), (), rfl, ?_, trivial⟩, hS.F ht⟩) hS.2.2 dX6_change_48
      first | exact (if_neg (fun q => b16 q.1)).symm | exact (if_neg (fun q => b28 q.2)).symm | (rw [if_pos ⟨inR_nI hi0 (by omega), inR_nI ha0 (by omega)⟩, tn_nI (by omega), tn_nI (by omega)])

abbrev w_X6_lens (G : XG) (ko : Nat) (ad : Nat → Nat) (w h la tp : Nat) (ft tr : Int32) (mv : Nat → Int32) (S : Nat → Int32) : va_W := [oC ko 6 [.ref (ad 0), .ref (ad 1), .int (nI w), .int (nI h), .int (nI la), .ref (ad 2), .int (mv 0), .int (mv 1), .int (mv 2), .int (mv 3), .int (mv 4), .int (mv 5), .int (mv 6), .ref (ad 3), .int (nI tp), .int (mv 7), .int (mv 8), .int (mv 9), .int (mv 10), .int ft, .int (mv 11), .ref (ad 4), .ref (ad 5), .ref (ad 6), .ref (ad 7), .ref (ad 8), .ref (ad 9), .ref (ad 10), .int tr], iA G (ad 0) 255 S]
abbrev Q_X6_lens (G : XG) (ko : Nat) (ad : Nat → Nat) (w h la tp : Nat) (ft tr : Int32) (mv : Nat → Int32) (S : Nat → Int32) (nl : Nat) (i a : Int32) : Array Value → State → Outcome → State → Prop := (xRi (fun r => r = (if inR i nl ∧ inR a 2 then S (48 + 2 * tn i + tn a) else (-1))))
set_option maxHeartbeats 4000000 in
set_option maxRecDepth 100000 in
theorem c_X6_lens (l : Launch) (G : XG) (ko : Nat) (ad : Nat → Nat) (w h la tp : Nat) (ft tr : Int32) (mv : Nat → Int32) (S : Nat → Int32) (nl : Nat) (i a : Int32) (hs47 : S 47 = nI nl) (hnl : nl ≤ 6) : Met l yX6_lens wsX6_lens ({ frames := 2, cells := 0, slots := 0, locals := 46 } : Room) (va_Pc [.ref ko, .int i, .int a] (xRp G (w_X6_lens G ko ad w h la tp ft tr mv S))) (Q_X6_lens G ko ad w h la tp ft tr mv S nl i a) 0 0 (fun _ => False) := by
  refine Met.ofW (cc := cX6_lens) (maxL := 3) (ret := (some .int)) (by decide) rfl ?_
  intro pp ee ss mm aa below mt cd s₁ BB hml hv
  obtain ⟨rfl, hP, hK⟩ := hv
  have hx := BB.exec
  have hb := BB.bytes
  have hr := BB.returns
  have hts := atoms_spec (ws := wsX6_lens) BB.pre
  have hown : ss.vm.findClass RX6 = some mm.cls := findClass_of_methodNamed BB.named
  have hlocks := BB.notSynchronized
  have hS : va_S (fun _ => False) ss.heap ss.heap [] := va_S.rf
  replace hP : xP G [oC ko 6 [.ref (ad 0), .ref (ad 1), .int (nI w), .int (nI h), .int (nI la), .ref (ad 2), .int (mv 0), .int (mv 1), .int (mv 2), .int (mv 3), .int (mv 4), .int (mv 5), .int (mv 6), .ref (ad 3), .int (nI tp), .int (mv 7), .int (mv 8), .int (mv 9), .int (mv 10), .int ft, .int (mv 11), .ref (ad 4), .ref (ad 5), .ref (ad 6), .ref (ad 7), .ref (ad 8), .ref (ad 9), .ref (ad 10), .int tr], iA G (ad 0) 255 S] ss.heap := hP
  have hin6 : ∀ w ∈ u_ws RX6 TX6 29, w ∈ wsX6_lens := fun w h => List.mem_cons_of_mem _ (List.mem_append_right _ h)
  have hl := lv_entry ([.ref ko, .int i, .int a]) (n := 3) (Nat.le_of_ble_eq_true rfl)
  rw [lg_entry_eq]
  generalize (lg_sl ([.ref ko, .int i, .int a]) ++ List.replicate (3 - (lg_sl ([.ref ko, .int i, .int a])).length) Slot.unset).toArray = ls at hl ⊢
  replace hl : lv_has ls 3 [(0, .ref ko), (1, .int i), (2, .int a)] := hl
  refine lv_aload_n hx hb dX6_lens_0 rfl (lv_at hl 0 rfl) ?_
  refine lv_iload_n hx hb dX6_lens_1 rfl (lv_at hl 1 rfl) ?_
  refine xr_i (As := [.int i]) (rest := []) ⟨hx, hb, hml, hown, hts⟩ (c_X6_isLens l G ko ad w h la tp ft tr mv S _ i (by first | assumption | omega) (by first | assumption | omega)) (cwV 1 hts gX6_lens_X6_isLens rfl rfl rfl (by decide +kernel) ⟨Nat.le_of_ble_eq_true rfl, Nat.le_of_ble_eq_true rfl⟩) hK hP hS [0, 1] rfl rfl rfl rfl hl.1 rfl (Nat.le_of_ble_eq_true rfl) dX6_lens_2 ⟨Nat.zero_le _, Nat.zero_le _⟩ (fun r2 H locs hp2 hP hS => ?_)
  rw [show r2 = _ from hp2]
  refine xb_if_eq (tgt := 31) hx hb dX6_lens_5 rfl (fun b5 => ?_) (fun b5 => ?_)
  · skip
    refine lv_iconst (v := (-1)) hx hb dX6_lens_31 (by decide) ?_
    refine W.iret (v := (-1)) hx hb hr (fun t ht hW => ⟨⟨(-1), (), rfl, ?_, trivial⟩, hS.F ht⟩) hS.2.2 dX6_lens_32
    first | exact (if_neg (fun q => b5 q.1)).symm | exact (if_neg (fun q => b12 q.2)).symm | (rw [if_pos ⟨inR_nI hi0 (by omega), inR_nI ha0 (by omega)⟩, tn_nI (by omega), tn_nI (by omega)])
  · skip
    refine lv_iload_n hx hb dX6_lens_8 rfl (lv_at hl 2 rfl) ?_
    refine xs_i (As := [.int a]) (rest := []) ⟨hx, hb, hml, hown, hts⟩ (c_X6_isPart l G a ) (va_cwS 1 hts gX6_lens_X6_isPart rfl rfl rfl (by decide +kernel) ⟨Nat.le_of_ble_eq_true rfl, Nat.le_of_ble_eq_true rfl⟩) hP hS rfl hl.1 rfl (Nat.le_of_ble_eq_true rfl) dX6_lens_9 ⟨Nat.zero_le _, Nat.zero_le _⟩ (fun r9 H locs hp9 hP hS => ?_)
    rw [show r9 = _ from hp9]
    refine xb_if_eq (tgt := 31) hx hb dX6_lens_12 rfl (fun b12 => ?_) (fun b12 => ?_)
    · skip
      refine lv_iconst (v := (-1)) hx hb dX6_lens_31 (by decide) ?_
      refine W.iret (v := (-1)) hx hb hr (fun t ht hW => ⟨⟨(-1), (), rfl, ?_, trivial⟩, hS.F ht⟩) hS.2.2 dX6_lens_32
      first | exact (if_neg (fun q => b5 q.1)).symm | exact (if_neg (fun q => b12 q.2)).symm | (rw [if_pos ⟨inR_nI hi0 (by omega), inR_nI ha0 (by omega)⟩, tn_nI (by omega), tn_nI (by omega)])
    · skip
      obtain ⟨i0, hi0, rfl⟩ := inR_nat b5
      obtain ⟨a0, ha0, rfl⟩ := inR_nat b12
      refine lv_aload_n hx hb dX6_lens_15 rfl (lv_at hl 0 rfl) ?_
      refine va_get (D := G.1) (ci := 6) (v := .ref (ad 0)) (C := RX6) (T := TX6) (N := 29) hx hb hts hin6 hown hK.1 hP 0 rfl rfl 0 (by decide) (hts (.fieldLink RX6 7 "BackLensesModel" "st" "[I") (List.mem_of_getElem? (i := 1) rfl)) (fun _ h9 => h9) rfl dX6_lens_16 ?_
      refine lv_bipush (v := nI 48) hx hb dX6_lens_19 (by decide) ?_
      refine lv_iconst (v := nI 2) hx hb dX6_lens_21 (by decide) ?_
      refine lv_iload_n hx hb dX6_lens_22 rfl (lv_at hl 1 rfl) ?_
      refine xn_imul hx hb dX6_lens_23 ?_
      refine xn_iadd hx hb dX6_lens_24 ?_
      refine lv_iload_n hx hb dX6_lens_25 rfl (lv_at hl 2 rfl) ?_
      refine xn_iadd hx hb dX6_lens_26 ?_
      refine xn_iald hx hb hK hP 1 rfl (by omega) (by omega) dX6_lens_27 ?_
      refine lv_goto (tgt := 32) hx hb dX6_lens_28 rfl ?_
      refine W.iret (v := S ((48 + (2 * i0)) + a0)) hx hb hr (fun t ht hW => ⟨⟨S ((48 + (2 * i0)) + a0), (), rfl, ?_, trivial⟩, hS.F ht⟩) hS.2.2 dX6_lens_32
      first | exact (if_neg (fun q => b5 q.1)).symm | exact (if_neg (fun q => b12 q.2)).symm | (rw [if_pos ⟨inR_nI hi0 (by omega), inR_nI ha0 (by omega)⟩, tn_nI (by omega), tn_nI (by omega)])

abbrev w_X6_becomes (G : XG) (ko : Nat) (ad : Nat → Nat) (w h la tp : Nat) (ft tr : Int32) (mv : Nat → Int32) (S : Nat → Int32) : va_W := [oC ko 6 [.ref (ad 0), .ref (ad 1), .int (nI w), .int (nI h), .int (nI la), .ref (ad 2), .int (mv 0), .int (mv 1), .int (mv 2), .int (mv 3), .int (mv 4), .int (mv 5), .int (mv 6), .ref (ad 3), .int (nI tp), .int (mv 7), .int (mv 8), .int (mv 9), .int (mv 10), .int ft, .int (mv 11), .ref (ad 4), .ref (ad 5), .ref (ad 6), .ref (ad 7), .ref (ad 8), .ref (ad 9), .ref (ad 10), .int tr], iA G (ad 0) 255 S]
abbrev Q_X6_becomes (G : XG) (sz : Nat) (ko : Nat) (ad : Nat → Nat) (w h la tp : Nat) (ft tr : Int32) (mv : Nat → Int32) (S : Nat → Int32) (k : Nat) (v : Int32) : Array Value → State → Outcome → State → Prop := (va_Qi (fun (r : Int32) (u : (Nat → Int32)) => r = S k ∧ u = upd S k v) (xWb G sz (w_X6_becomes G ko ad w h la tp ft tr mv S) (fun u : (Nat → Int32) => [oC ko 6 [.ref (ad 0), .ref (ad 1), .int (nI w), .int (nI h), .int (nI la), .ref (ad 2), .int (mv 0), .int (mv 1), .int (mv 2), .int (mv 3), .int (mv 4), .int (mv 5), .int (mv 6), .ref (ad 3), .int (nI tp), .int (mv 7), .int (mv 8), .int (mv 9), .int (mv 10), .int ft, .int (mv 11), .ref (ad 4), .ref (ad 5), .ref (ad 6), .ref (ad 7), .ref (ad 8), .ref (ad 9), .ref (ad 10), .int tr], iA G (ad 0) 255 u])) (va_A (w_X6_becomes G ko ad w h la tp ft tr mv S) sz))
set_option maxHeartbeats 4000000 in
set_option maxRecDepth 100000 in
theorem c_X6_becomes (l : Launch) (G : XG) (sz : Nat) (ko : Nat) (ad : Nat → Nat) (w h la tp : Nat) (ft tr : Int32) (mv : Nat → Int32) (S : Nat → Int32) (k : Nat) (v : Int32) (hk : k < 255) : Met l yX6_becomes wsX6_becomes ({ frames := 0, cells := 0, slots := 0, locals := 0 } : Room) (va_Pc [.ref ko, .int (nI k), .int v] (xWp G sz (w_X6_becomes G ko ad w h la tp ft tr mv S))) (Q_X6_becomes G sz ko ad w h la tp ft tr mv S k v) 0 0 (va_A (w_X6_becomes G ko ad w h la tp ft tr mv S) sz) := by
  refine Met.ofW (cc := cX6_becomes) (maxL := 4) (ret := (some .int)) (by decide) rfl ?_
  intro pp ee ss mm aa below mt cd s₁ BB hml hv
  obtain ⟨rfl, hsz, hP, hK, hD0⟩ := hv
  have hx := BB.exec
  have hb := BB.bytes
  have hr := BB.returns
  have hts := atoms_spec (ws := wsX6_becomes) BB.pre
  have hown : ss.vm.findClass RX6 = some mm.cls := findClass_of_methodNamed BB.named
  have hlocks := BB.notSynchronized
  subst hsz
  have hD := hD0.self (sz := ss.heap.size)
  have hA : ∀ q : Nat, ss.heap.size ≤ q → va_A (w_X6_becomes G ko ad w h la tp ft tr mv S) ss.heap.size q := fun q h => Or.inr h
  have hS : va_S (va_A (w_X6_becomes G ko ad w h la tp ft tr mv S) ss.heap.size) ss.heap ss.heap [] := va_S.rf
  replace hD : va_D (va_A (w_X6_becomes G ko ad w h la tp ft tr mv S) ss.heap.size) [oC ko 6 [.ref (ad 0), .ref (ad 1), .int (nI w), .int (nI h), .int (nI la), .ref (ad 2), .int (mv 0), .int (mv 1), .int (mv 2), .int (mv 3), .int (mv 4), .int (mv 5), .int (mv 6), .ref (ad 3), .int (nI tp), .int (mv 7), .int (mv 8), .int (mv 9), .int (mv 10), .int ft, .int (mv 11), .ref (ad 4), .ref (ad 5), .ref (ad 6), .ref (ad 7), .ref (ad 8), .ref (ad 9), .ref (ad 10), .int tr], iA G (ad 0) 255 S] := hD
  replace hP : xP G [oC ko 6 [.ref (ad 0), .ref (ad 1), .int (nI w), .int (nI h), .int (nI la), .ref (ad 2), .int (mv 0), .int (mv 1), .int (mv 2), .int (mv 3), .int (mv 4), .int (mv 5), .int (mv 6), .ref (ad 3), .int (nI tp), .int (mv 7), .int (mv 8), .int (mv 9), .int (mv 10), .int ft, .int (mv 11), .ref (ad 4), .ref (ad 5), .ref (ad 6), .ref (ad 7), .ref (ad 8), .ref (ad 9), .ref (ad 10), .int tr], iA G (ad 0) 255 S] ss.heap := hP
  have hin6 : ∀ w ∈ u_ws RX6 TX6 29, w ∈ wsX6_becomes := fun w h => List.mem_cons_of_mem _ (List.mem_append_right _ h)
  have hl := lv_entry ([.ref ko, .int (nI k), .int v]) (n := 4) (Nat.le_of_ble_eq_true rfl)
  rw [lg_entry_eq]
  generalize (lg_sl ([.ref ko, .int (nI k), .int v]) ++ List.replicate (4 - (lg_sl ([.ref ko, .int (nI k), .int v])).length) Slot.unset).toArray = ls at hl ⊢
  replace hl : lv_has ls 4 [(0, .ref ko), (1, .int (nI k)), (2, .int v)] := hl
  refine lv_aload_n hx hb dX6_becomes_0 rfl (lv_at hl 0 rfl) ?_
  refine va_get (D := G.1) (ci := 6) (v := .ref (ad 0)) (C := RX6) (T := TX6) (N := 29) hx hb hts hin6 hown hK.1 hP 0 rfl rfl 0 (by decide) (hts (.fieldLink RX6 7 "BackLensesModel" "st" "[I") (List.mem_of_getElem? (i := 1) rfl)) (fun _ h9 => h9) rfl dX6_becomes_1 ?_
  refine lv_iload_n hx hb dX6_becomes_4 rfl (lv_at hl 1 rfl) ?_
  refine xn_iald hx hb hK hP 1 rfl (by omega) (by omega) dX6_becomes_5 ?_
  refine lv_istore_n (lv' := [(3, .int (S k)), (0, .ref ko), (1, .int (nI k)), (2, .int v)]) hx hb dX6_becomes_6 rfl hl (by decide) rfl (fun ls hl => ?_)
  refine lv_aload_n hx hb dX6_becomes_7 rfl (lv_at hl 1 rfl) ?_
  refine va_get (D := G.1) (ci := 6) (v := .ref (ad 0)) (C := RX6) (T := TX6) (N := 29) hx hb hts hin6 hown hK.1 hP 0 rfl rfl 0 (by decide) (hts (.fieldLink RX6 7 "BackLensesModel" "st" "[I") (List.mem_of_getElem? (i := 1) rfl)) (fun _ h9 => h9) rfl dX6_becomes_8 ?_
  refine lv_iload_n hx hb dX6_becomes_11 rfl (lv_at hl 2 rfl) ?_
  refine lv_iload_n hx hb dX6_becomes_12 rfl (lv_at hl 3 rfl) ?_
  refine xn_iast hx hb hK hP hD hS 1 rfl (by omega) (by omega) dX6_becomes_13 (fun H locs hP hD hS => ?_)
  replace hP : xP G [oC ko 6 [.ref (ad 0), .ref (ad 1), .int (nI w), .int (nI h), .int (nI la), .ref (ad 2), .int (mv 0), .int (mv 1), .int (mv 2), .int (mv 3), .int (mv 4), .int (mv 5), .int (mv 6), .ref (ad 3), .int (nI tp), .int (mv 7), .int (mv 8), .int (mv 9), .int (mv 10), .int ft, .int (mv 11), .ref (ad 4), .ref (ad 5), .ref (ad 6), .ref (ad 7), .ref (ad 8), .ref (ad 9), .ref (ad 10), .int tr], iA G (ad 0) 255 (upd S k v)] H := hP
  replace hD : va_D (va_A (w_X6_becomes G ko ad w h la tp ft tr mv S) ss.heap.size) [oC ko 6 [.ref (ad 0), .ref (ad 1), .int (nI w), .int (nI h), .int (nI la), .ref (ad 2), .int (mv 0), .int (mv 1), .int (mv 2), .int (mv 3), .int (mv 4), .int (mv 5), .int (mv 6), .ref (ad 3), .int (nI tp), .int (mv 7), .int (mv 8), .int (mv 9), .int (mv 10), .int ft, .int (mv 11), .ref (ad 4), .ref (ad 5), .ref (ad 6), .ref (ad 7), .ref (ad 8), .ref (ad 9), .ref (ad 10), .int tr], iA G (ad 0) 255 (upd S k v)] := hD
  refine lv_iload_n hx hb dX6_becomes_14 rfl (lv_at hl 0 rfl) ?_
  have hP := hP.sub (ws' := [oC ko 6 [.ref (ad 0), .ref (ad 1), .int (nI w), .int (nI h), .int (nI la), .ref (ad 2), .int (mv 0), .int (mv 1), .int (mv 2), .int (mv 3), .int (mv 4), .int (mv 5), .int (mv 6), .ref (ad 3), .int (nI tp), .int (mv 7), .int (mv 8), .int (mv 9), .int (mv 10), .int ft, .int (mv 11), .ref (ad 4), .ref (ad 5), .ref (ad 6), .ref (ad 7), .ref (ad 8), .ref (ad 9), .ref (ad 10), .int tr], iA G (ad 0) 255 (upd S k v)]) [0, 1] rfl
  have hD := hD.sub (ws' := [oC ko 6 [.ref (ad 0), .ref (ad 1), .int (nI w), .int (nI h), .int (nI la), .ref (ad 2), .int (mv 0), .int (mv 1), .int (mv 2), .int (mv 3), .int (mv 4), .int (mv 5), .int (mv 6), .ref (ad 3), .int (nI tp), .int (mv 7), .int (mv 8), .int (mv 9), .int (mv 10), .int ft, .int (mv 11), .ref (ad 4), .ref (ad 5), .ref (ad 6), .ref (ad 7), .ref (ad 8), .ref (ad 9), .ref (ad 10), .int tr], iA G (ad 0) 255 (upd S k v)]) [0, 1] (by decide) rfl
  refine W.iret (v := S k) hx hb hr (fun t ht hW => ⟨⟨S k, (upd S k v), rfl, ?_, by rw [ht]; exact hP, hD⟩, hS.F ht⟩) hS.2.2 dX6_becomes_15
  exact ⟨rfl, rfl⟩

abbrev w_X6_first (G : XG) (ko : Nat) (ad : Nat → Nat) (w h la tp : Nat) (ft tr : Int32) (mv : Nat → Int32) (S : Nat → Int32) : va_W := [oC ko 6 [.ref (ad 0), .ref (ad 1), .int (nI w), .int (nI h), .int (nI la), .ref (ad 2), .int (mv 0), .int (mv 1), .int (mv 2), .int (mv 3), .int (mv 4), .int (mv 5), .int (mv 6), .ref (ad 3), .int (nI tp), .int (mv 7), .int (mv 8), .int (mv 9), .int (mv 10), .int ft, .int (mv 11), .ref (ad 4), .ref (ad 5), .ref (ad 6), .ref (ad 7), .ref (ad 8), .ref (ad 9), .ref (ad 10), .int tr], iA G (ad 0) 255 S]
abbrev Q_X6_first (G : XG) (sz : Nat) (ko : Nat) (ad : Nat → Nat) (w h la tp : Nat) (ft tr : Int32) (mv : Nat → Int32) (S : Nat → Int32) (c m : Int32) : Array Value → State → Outcome → State → Prop := (va_Qi (fun (r : Int32) (u : (Nat → Int32)) => r = (if inR c (w * h) ∧ inR m 6 then S (tn c) else (-1)) ∧ u = (if inR c (w * h) ∧ inR m 6 then upd S (tn c) m else S)) (xWb G sz (w_X6_first G ko ad w h la tp ft tr mv S) (fun u : (Nat → Int32) => [oC ko 6 [.ref (ad 0), .ref (ad 1), .int (nI w), .int (nI h), .int (nI la), .ref (ad 2), .int (mv 0), .int (mv 1), .int (mv 2), .int (mv 3), .int (mv 4), .int (mv 5), .int (mv 6), .ref (ad 3), .int (nI tp), .int (mv 7), .int (mv 8), .int (mv 9), .int (mv 10), .int ft, .int (mv 11), .ref (ad 4), .ref (ad 5), .ref (ad 6), .ref (ad 7), .ref (ad 8), .ref (ad 9), .ref (ad 10), .int tr], iA G (ad 0) 255 u])) (va_A (w_X6_first G ko ad w h la tp ft tr mv S) sz))
set_option maxHeartbeats 4000000 in
set_option maxRecDepth 100000 in
theorem c_X6_first (l : Launch) (G : XG) (sz : Nat) (ko : Nat) (ad : Nat → Nat) (w h la tp : Nat) (ft tr : Int32) (mv : Nat → Int32) (S : Nat → Int32) (c m : Int32) (hwh1 : 1 ≤ w * h) (hwh : w * h ≤ 16) : Met l yX6_first wsX6_first ({ frames := 2, cells := 0, slots := 0, locals := 46 } : Room) (va_Pc [.ref ko, .int c, .int m] (xWp G sz (w_X6_first G ko ad w h la tp ft tr mv S))) (Q_X6_first G sz ko ad w h la tp ft tr mv S c m) 0 0 (va_A (w_X6_first G ko ad w h la tp ft tr mv S) sz) := by
  refine Met.ofW (cc := cX6_first) (maxL := 3) (ret := (some .int)) (by decide) rfl ?_
  intro pp ee ss mm aa below mt cd s₁ BB hml hv
  obtain ⟨rfl, hsz, hP, hK, hD0⟩ := hv
  have hx := BB.exec
  have hb := BB.bytes
  have hr := BB.returns
  have hts := atoms_spec (ws := wsX6_first) BB.pre
  have hown : ss.vm.findClass RX6 = some mm.cls := findClass_of_methodNamed BB.named
  have hlocks := BB.notSynchronized
  subst hsz
  have hD := hD0.self (sz := ss.heap.size)
  have hA : ∀ q : Nat, ss.heap.size ≤ q → va_A (w_X6_first G ko ad w h la tp ft tr mv S) ss.heap.size q := fun q h => Or.inr h
  have hS : va_S (va_A (w_X6_first G ko ad w h la tp ft tr mv S) ss.heap.size) ss.heap ss.heap [] := va_S.rf
  replace hD : va_D (va_A (w_X6_first G ko ad w h la tp ft tr mv S) ss.heap.size) [oC ko 6 [.ref (ad 0), .ref (ad 1), .int (nI w), .int (nI h), .int (nI la), .ref (ad 2), .int (mv 0), .int (mv 1), .int (mv 2), .int (mv 3), .int (mv 4), .int (mv 5), .int (mv 6), .ref (ad 3), .int (nI tp), .int (mv 7), .int (mv 8), .int (mv 9), .int (mv 10), .int ft, .int (mv 11), .ref (ad 4), .ref (ad 5), .ref (ad 6), .ref (ad 7), .ref (ad 8), .ref (ad 9), .ref (ad 10), .int tr], iA G (ad 0) 255 S] := hD
  replace hP : xP G [oC ko 6 [.ref (ad 0), .ref (ad 1), .int (nI w), .int (nI h), .int (nI la), .ref (ad 2), .int (mv 0), .int (mv 1), .int (mv 2), .int (mv 3), .int (mv 4), .int (mv 5), .int (mv 6), .ref (ad 3), .int (nI tp), .int (mv 7), .int (mv 8), .int (mv 9), .int (mv 10), .int ft, .int (mv 11), .ref (ad 4), .ref (ad 5), .ref (ad 6), .ref (ad 7), .ref (ad 8), .ref (ad 9), .ref (ad 10), .int tr], iA G (ad 0) 255 S] ss.heap := hP
  have hin6 : ∀ w ∈ u_ws RX6 TX6 29, w ∈ wsX6_first := fun w h => List.mem_cons_of_mem _ (List.mem_append_right _ h)
  have hl := lv_entry ([.ref ko, .int c, .int m]) (n := 3) (Nat.le_of_ble_eq_true rfl)
  rw [lg_entry_eq]
  generalize (lg_sl ([.ref ko, .int c, .int m]) ++ List.replicate (3 - (lg_sl ([.ref ko, .int c, .int m])).length) Slot.unset).toArray = ls at hl ⊢
  replace hl : lv_has ls 3 [(0, .ref ko), (1, .int c), (2, .int m)] := hl
  refine lv_aload_n hx hb dX6_first_0 rfl (lv_at hl 0 rfl) ?_
  refine lv_iload_n hx hb dX6_first_1 rfl (lv_at hl 1 rfl) ?_
  refine xr_i (As := [.int c]) (rest := []) ⟨hx, hb, hml, hown, hts⟩ (c_X6_isCell l G ko ad w h la tp ft tr mv c (by first | assumption | omega) (by first | assumption | omega)) (cwV 1 hts gX6_first_X6_isCell rfl rfl rfl (by decide +kernel) ⟨Nat.le_of_ble_eq_true rfl, Nat.le_of_ble_eq_true rfl⟩) hK hP hS [0] rfl rfl rfl rfl hl.1 rfl (Nat.le_of_ble_eq_true rfl) dX6_first_2 ⟨Nat.zero_le _, Nat.zero_le _⟩ (fun r2 H locs hp2 hP hS => ?_)
  rw [show r2 = _ from hp2]
  refine xb_if_eq (tgt := 26) hx hb dX6_first_5 rfl (fun b5 => ?_) (fun b5 => ?_)
  · skip
    refine lv_iconst (v := (-1)) hx hb dX6_first_26 (by decide) ?_
    have hP := hP.sub (ws' := [oC ko 6 [.ref (ad 0), .ref (ad 1), .int (nI w), .int (nI h), .int (nI la), .ref (ad 2), .int (mv 0), .int (mv 1), .int (mv 2), .int (mv 3), .int (mv 4), .int (mv 5), .int (mv 6), .ref (ad 3), .int (nI tp), .int (mv 7), .int (mv 8), .int (mv 9), .int (mv 10), .int ft, .int (mv 11), .ref (ad 4), .ref (ad 5), .ref (ad 6), .ref (ad 7), .ref (ad 8), .ref (ad 9), .ref (ad 10), .int tr], iA G (ad 0) 255 S]) [0, 1] rfl
    have hD := hD.sub (ws' := [oC ko 6 [.ref (ad 0), .ref (ad 1), .int (nI w), .int (nI h), .int (nI la), .ref (ad 2), .int (mv 0), .int (mv 1), .int (mv 2), .int (mv 3), .int (mv 4), .int (mv 5), .int (mv 6), .ref (ad 3), .int (nI tp), .int (mv 7), .int (mv 8), .int (mv 9), .int (mv 10), .int ft, .int (mv 11), .ref (ad 4), .ref (ad 5), .ref (ad 6), .ref (ad 7), .ref (ad 8), .ref (ad 9), .ref (ad 10), .int tr], iA G (ad 0) 255 S]) [0, 1] (by decide) rfl
    refine W.iret (v := (-1)) hx hb hr (fun t ht hW => ⟨⟨(-1), (S), rfl, ?_, by rw [ht]; exact hP, hD⟩, hS.F ht⟩) hS.2.2 dX6_first_27
    first | exact ⟨(if_neg (fun q => b5 q.1)).symm, (if_neg (fun q => b5 q.1)).symm⟩ | exact ⟨(if_neg (fun q => b12 q.2)).symm, (if_neg (fun q => b12 q.2)).symm⟩ | (rw [if_pos ⟨inR_nI hc0 (by omega), b12⟩, if_pos ⟨inR_nI hc0 (by omega), b12⟩, tn_nI (by omega), Nat.zero_add]; exact ⟨rfl, rfl⟩)
  · skip
    refine lv_iload_n hx hb dX6_first_8 rfl (lv_at hl 2 rfl) ?_
    refine xs_i (As := [.int m]) (rest := []) ⟨hx, hb, hml, hown, hts⟩ (c_X6_isMark l G m ) (va_cwS 1 hts gX6_first_X6_isMark rfl rfl rfl (by decide +kernel) ⟨Nat.le_of_ble_eq_true rfl, Nat.le_of_ble_eq_true rfl⟩) hP hS rfl hl.1 rfl (Nat.le_of_ble_eq_true rfl) dX6_first_9 ⟨Nat.zero_le _, Nat.zero_le _⟩ (fun r9 H locs hp9 hP hS => ?_)
    rw [show r9 = _ from hp9]
    refine xb_if_eq (tgt := 26) hx hb dX6_first_12 rfl (fun b12 => ?_) (fun b12 => ?_)
    · skip
      refine lv_iconst (v := (-1)) hx hb dX6_first_26 (by decide) ?_
      have hP := hP.sub (ws' := [oC ko 6 [.ref (ad 0), .ref (ad 1), .int (nI w), .int (nI h), .int (nI la), .ref (ad 2), .int (mv 0), .int (mv 1), .int (mv 2), .int (mv 3), .int (mv 4), .int (mv 5), .int (mv 6), .ref (ad 3), .int (nI tp), .int (mv 7), .int (mv 8), .int (mv 9), .int (mv 10), .int ft, .int (mv 11), .ref (ad 4), .ref (ad 5), .ref (ad 6), .ref (ad 7), .ref (ad 8), .ref (ad 9), .ref (ad 10), .int tr], iA G (ad 0) 255 S]) [0, 1] rfl
      have hD := hD.sub (ws' := [oC ko 6 [.ref (ad 0), .ref (ad 1), .int (nI w), .int (nI h), .int (nI la), .ref (ad 2), .int (mv 0), .int (mv 1), .int (mv 2), .int (mv 3), .int (mv 4), .int (mv 5), .int (mv 6), .ref (ad 3), .int (nI tp), .int (mv 7), .int (mv 8), .int (mv 9), .int (mv 10), .int ft, .int (mv 11), .ref (ad 4), .ref (ad 5), .ref (ad 6), .ref (ad 7), .ref (ad 8), .ref (ad 9), .ref (ad 10), .int tr], iA G (ad 0) 255 S]) [0, 1] (by decide) rfl
      refine W.iret (v := (-1)) hx hb hr (fun t ht hW => ⟨⟨(-1), (S), rfl, ?_, by rw [ht]; exact hP, hD⟩, hS.F ht⟩) hS.2.2 dX6_first_27
      first | exact ⟨(if_neg (fun q => b5 q.1)).symm, (if_neg (fun q => b5 q.1)).symm⟩ | exact ⟨(if_neg (fun q => b12 q.2)).symm, (if_neg (fun q => b12 q.2)).symm⟩ | (rw [if_pos ⟨inR_nI hc0 (by omega), b12⟩, if_pos ⟨inR_nI hc0 (by omega), b12⟩, tn_nI (by omega), Nat.zero_add]; exact ⟨rfl, rfl⟩)
    · skip
      obtain ⟨c0, hc0, rfl⟩ := inR_nat b5
      refine lv_aload_n hx hb dX6_first_15 rfl (lv_at hl 0 rfl) ?_
      refine lv_iconst (v := nI 0) hx hb dX6_first_16 (by decide) ?_
      refine lv_iload_n hx hb dX6_first_17 rfl (lv_at hl 1 rfl) ?_
      refine xn_iadd hx hb dX6_first_18 ?_
      refine lv_iload_n hx hb dX6_first_19 rfl (lv_at hl 2 rfl) ?_
      refine xw_i (As := [.int (nI (0 + c0)), .int m]) (rest := []) (wr := []) ⟨hx, hb, hml, hown, hts⟩ (c_X6_becomes l G H.size ko ad w h la tp ft tr mv S (0 + c0) m (by first | assumption | omega)) (cwV 2 hts gX6_first_X6_becomes rfl rfl rfl (by decide +kernel) ⟨Nat.le_of_ble_eq_true rfl, Nat.le_of_ble_eq_true rfl⟩) hK hP hD hS hA [0, 1] [] rfl rfl (by decide) (by decide) (by decide) rfl rfl rfl hl.1 rfl (Nat.le_of_ble_eq_true rfl) dX6_first_20 ⟨Nat.le_of_ble_eq_true rfl, Nat.le_of_ble_eq_true rfl⟩ (fun r20 u H locs hp20 hP hD hS => ?_)
      obtain ⟨u0_20, rfl⟩ : ∃ z, z = u := ⟨_, rfl⟩
      try dsimp only at hp20 hP hD
      obtain ⟨rfl, rfl⟩ := hp20
      replace hP : xP G [oC ko 6 [.ref (ad 0), .ref (ad 1), .int (nI w), .int (nI h), .int (nI la), .ref (ad 2), .int (mv 0), .int (mv 1), .int (mv 2), .int (mv 3), .int (mv 4), .int (mv 5), .int (mv 6), .ref (ad 3), .int (nI tp), .int (mv 7), .int (mv 8), .int (mv 9), .int (mv 10), .int ft, .int (mv 11), .ref (ad 4), .ref (ad 5), .ref (ad 6), .ref (ad 7), .ref (ad 8), .ref (ad 9), .ref (ad 10), .int tr], iA G (ad 0) 255 (upd S (0 + c0) m)] H := hP
      replace hD : va_D (va_A (w_X6_first G ko ad w h la tp ft tr mv S) ss.heap.size) [oC ko 6 [.ref (ad 0), .ref (ad 1), .int (nI w), .int (nI h), .int (nI la), .ref (ad 2), .int (mv 0), .int (mv 1), .int (mv 2), .int (mv 3), .int (mv 4), .int (mv 5), .int (mv 6), .ref (ad 3), .int (nI tp), .int (mv 7), .int (mv 8), .int (mv 9), .int (mv 10), .int ft, .int (mv 11), .ref (ad 4), .ref (ad 5), .ref (ad 6), .ref (ad 7), .ref (ad 8), .ref (ad 9), .ref (ad 10), .int tr], iA G (ad 0) 255 (upd S (0 + c0) m)] := hD
      refine lv_goto (tgt := 27) hx hb dX6_first_23 rfl ?_
      have hP := hP.sub (ws' := [oC ko 6 [.ref (ad 0), .ref (ad 1), .int (nI w), .int (nI h), .int (nI la), .ref (ad 2), .int (mv 0), .int (mv 1), .int (mv 2), .int (mv 3), .int (mv 4), .int (mv 5), .int (mv 6), .ref (ad 3), .int (nI tp), .int (mv 7), .int (mv 8), .int (mv 9), .int (mv 10), .int ft, .int (mv 11), .ref (ad 4), .ref (ad 5), .ref (ad 6), .ref (ad 7), .ref (ad 8), .ref (ad 9), .ref (ad 10), .int tr], iA G (ad 0) 255 (upd S (0 + c0) m)]) [0, 1] rfl
      have hD := hD.sub (ws' := [oC ko 6 [.ref (ad 0), .ref (ad 1), .int (nI w), .int (nI h), .int (nI la), .ref (ad 2), .int (mv 0), .int (mv 1), .int (mv 2), .int (mv 3), .int (mv 4), .int (mv 5), .int (mv 6), .ref (ad 3), .int (nI tp), .int (mv 7), .int (mv 8), .int (mv 9), .int (mv 10), .int ft, .int (mv 11), .ref (ad 4), .ref (ad 5), .ref (ad 6), .ref (ad 7), .ref (ad 8), .ref (ad 9), .ref (ad 10), .int tr], iA G (ad 0) 255 (upd S (0 + c0) m)]) [0, 1] (by decide) rfl
      refine W.iret (v := S (0 + c0)) hx hb hr (fun t ht hW => ⟨⟨S (0 + c0), ((upd S (0 + c0) m)), rfl, ?_, by rw [ht]; exact hP, hD⟩, hS.F ht⟩) hS.2.2 dX6_first_27
      first | exact ⟨(if_neg (fun q => b5 q.1)).symm, (if_neg (fun q => b5 q.1)).symm⟩ | exact ⟨(if_neg (fun q => b12 q.2)).symm, (if_neg (fun q => b12 q.2)).symm⟩ | (rw [if_pos ⟨inR_nI hc0 (by omega), b12⟩, if_pos ⟨inR_nI hc0 (by omega), b12⟩, tn_nI (by omega), Nat.zero_add]; exact ⟨rfl, rfl⟩)

abbrev Q_X6_in_r (G : XG) (x : Int32) (n : Nat) : Array Value → State → Outcome → State → Prop := (xRi (fun r => r = xb (inR x (n + 1))))
set_option maxHeartbeats 4000000 in
set_option maxRecDepth 100000 in
theorem c_X6_in_r (l : Launch) (G : XG) (x : Int32) (n : Nat) (hn : n < 1000000) : Met l yX6_in wsX6_in ({ frames := 0, cells := 0, slots := 0, locals := 0 } : Room) (va_Pc [.long x.toInt64, .long (lN 0), .long (lN n)] (fun _ => True)) (Q_X6_in_r G x n) 0 0 (fun _ => False) := by
  refine Met.ofW (cc := cX6_in) (maxL := 6) (ret := (some .boolean)) (by decide) rfl ?_
  intro pp ee ss mm aa below mt cd s₁ BB hml hv
  obtain ⟨rfl, -⟩ := hv
  have hx := BB.exec
  have hb := BB.bytes
  have hr := BB.returns
  have hts := atoms_spec (ws := wsX6_in) BB.pre
  have hown : ss.vm.findClass RX6 = some mm.cls := findClass_of_methodNamed BB.named
  have hlocks := BB.notSynchronized
  have hS : va_S (fun _ => False) ss.heap ss.heap [] := va_S.rf
  have hP : xP (G) [] ss.heap := fun k q h => by cases h
  have hl := lv_entry ([.long x.toInt64, .long (lN 0), .long (lN n)]) (n := 6) (Nat.le_of_ble_eq_true rfl)
  rw [lg_entry_eq]
  generalize (lg_sl ([.long x.toInt64, .long (lN 0), .long (lN n)]) ++ List.replicate (6 - (lg_sl ([.long x.toInt64, .long (lN 0), .long (lN n)])).length) Slot.unset).toArray = ls at hl ⊢
  replace hl : lv_has ls 6 [(0, .long x.toInt64), (2, .long (lN 0)), (4, .long (lN n))] := hl
  refine lv_lload_n hx hb dX6_in_0 rfl (lv_at hl 0 rfl) ?_
  refine lv_lload_n hx hb dX6_in_1 rfl (lv_at hl 1 rfl) ?_
  refine W.lcmp hx hb dX6_in_2 ?_
  refine xl_if_lt (tgt := 17) hx hb dX6_in_3 rfl (fun b3 => ?_) (fun b3 => ?_)
  · skip
    refine lv_iconst (v := nI 0) hx hb dX6_in_17 (by decide) ?_
    refine W.zret (v := nI 0) (ty := .boolean) hx hb hr (by decide) (fun t ht hW => ⟨⟨nI 0, (), rfl, ?_, trivial⟩, hS.F ht⟩) hS.2.2 dX6_in_18
    first | exact (xb_t (by rw [i64_toInt] at *; rw [lN_toInt' (by omega)] at *; unfold inR; omega)).symm | exact (xb_f (fun q => by unfold inR at q; rw [i64_toInt, lN_toInt' (by omega)] at *; omega)).symm
  · skip
    refine lv_lload_n hx hb dX6_in_6 rfl (lv_at hl 0 rfl) ?_
    refine lv_lload hx hb dX6_in_7 (lv_at hl 2 rfl) ?_
    refine W.lcmp hx hb dX6_in_9 ?_
    refine xl_if_gt (tgt := 17) hx hb dX6_in_10 rfl (fun b10 => ?_) (fun b10 => ?_)
    · skip
      refine lv_iconst (v := nI 0) hx hb dX6_in_17 (by decide) ?_
      refine W.zret (v := nI 0) (ty := .boolean) hx hb hr (by decide) (fun t ht hW => ⟨⟨nI 0, (), rfl, ?_, trivial⟩, hS.F ht⟩) hS.2.2 dX6_in_18
      first | exact (xb_t (by rw [i64_toInt] at *; rw [lN_toInt' (by omega)] at *; unfold inR; omega)).symm | exact (xb_f (fun q => by unfold inR at q; rw [i64_toInt, lN_toInt' (by omega)] at *; omega)).symm
    · skip
      refine lv_iconst (v := nI 1) hx hb dX6_in_13 (by decide) ?_
      refine lv_goto (tgt := 18) hx hb dX6_in_14 rfl ?_
      refine W.zret (v := nI 1) (ty := .boolean) hx hb hr (by decide) (fun t ht hW => ⟨⟨nI 1, (), rfl, ?_, trivial⟩, hS.F ht⟩) hS.2.2 dX6_in_18
      first | exact (xb_t (by rw [i64_toInt] at *; rw [lN_toInt' (by omega)] at *; unfold inR; omega)).symm | exact (xb_f (fun q => by unfold inR at q; rw [i64_toInt, lN_toInt' (by omega)] at *; omega)).symm

abbrev Q_X6_in_s (G : XG) (x y : Int32) (n : Nat) : Array Value → State → Outcome → State → Prop := (xRi (fun r => r = xb (inR x n)))
set_option maxHeartbeats 4000000 in
set_option maxRecDepth 100000 in
theorem c_X6_in_s (l : Launch) (G : XG) (x y : Int32) (n : Nat) (hn : n < 1000000) (hy : y = nI n - nI 1) : Met l yX6_in wsX6_in ({ frames := 0, cells := 0, slots := 0, locals := 0 } : Room) (va_Pc [.long x.toInt64, .long (lN 0), .long y.toInt64] (fun _ => True)) (Q_X6_in_s G x y n) 0 0 (fun _ => False) := by
  refine Met.ofW (cc := cX6_in) (maxL := 6) (ret := (some .boolean)) (by decide) rfl ?_
  intro pp ee ss mm aa below mt cd s₁ BB hml hv
  obtain ⟨rfl, -⟩ := hv
  have hx := BB.exec
  have hb := BB.bytes
  have hr := BB.returns
  have hts := atoms_spec (ws := wsX6_in) BB.pre
  have hown : ss.vm.findClass RX6 = some mm.cls := findClass_of_methodNamed BB.named
  have hlocks := BB.notSynchronized
  have hS : va_S (fun _ => False) ss.heap ss.heap [] := va_S.rf
  have hP : xP (G) [] ss.heap := fun k q h => by cases h
  have hl := lv_entry ([.long x.toInt64, .long (lN 0), .long y.toInt64]) (n := 6) (Nat.le_of_ble_eq_true rfl)
  rw [lg_entry_eq]
  generalize (lg_sl ([.long x.toInt64, .long (lN 0), .long y.toInt64]) ++ List.replicate (6 - (lg_sl ([.long x.toInt64, .long (lN 0), .long y.toInt64])).length) Slot.unset).toArray = ls at hl ⊢
  replace hl : lv_has ls 6 [(0, .long x.toInt64), (2, .long (lN 0)), (4, .long y.toInt64)] := hl
  have hyi : y.toInt = (n : Int) - 1 := (by rw [hy, pk_sub_toInt (by omega) (by omega)]; rfl)
  have h00 : (lN 0).toInt = 0 := (lN_toInt' (by omega))
  refine lv_lload_n hx hb dX6_in_0 rfl (lv_at hl 0 rfl) ?_
  refine lv_lload_n hx hb dX6_in_1 rfl (lv_at hl 1 rfl) ?_
  refine W.lcmp hx hb dX6_in_2 ?_
  refine xl_if_lt (tgt := 17) hx hb dX6_in_3 rfl (fun b3 => ?_) (fun b3 => ?_)
  · skip
    refine lv_iconst (v := nI 0) hx hb dX6_in_17 (by decide) ?_
    refine W.zret (v := nI 0) (ty := .boolean) hx hb hr (by decide) (fun t ht hW => ⟨⟨nI 0, (), rfl, ?_, trivial⟩, hS.F ht⟩) hS.2.2 dX6_in_18
    first | exact (xb_t (by simp only [i64_toInt] at *; unfold inR; omega)).symm | exact (xb_f (fun q => by unfold inR at q; simp only [i64_toInt] at *; omega)).symm
  · skip
    refine lv_lload_n hx hb dX6_in_6 rfl (lv_at hl 0 rfl) ?_
    refine lv_lload hx hb dX6_in_7 (lv_at hl 2 rfl) ?_
    refine W.lcmp hx hb dX6_in_9 ?_
    refine xl_if_gt (tgt := 17) hx hb dX6_in_10 rfl (fun b10 => ?_) (fun b10 => ?_)
    · skip
      refine lv_iconst (v := nI 0) hx hb dX6_in_17 (by decide) ?_
      refine W.zret (v := nI 0) (ty := .boolean) hx hb hr (by decide) (fun t ht hW => ⟨⟨nI 0, (), rfl, ?_, trivial⟩, hS.F ht⟩) hS.2.2 dX6_in_18
      first | exact (xb_t (by simp only [i64_toInt] at *; unfold inR; omega)).symm | exact (xb_f (fun q => by unfold inR at q; simp only [i64_toInt] at *; omega)).symm
    · skip
      refine lv_iconst (v := nI 1) hx hb dX6_in_13 (by decide) ?_
      refine lv_goto (tgt := 18) hx hb dX6_in_14 rfl ?_
      refine W.zret (v := nI 1) (ty := .boolean) hx hb hr (by decide) (fun t ht hW => ⟨⟨nI 1, (), rfl, ?_, trivial⟩, hS.F ht⟩) hS.2.2 dX6_in_18
      first | exact (xb_t (by simp only [i64_toInt] at *; unfold inR; omega)).symm | exact (xb_f (fun q => by unfold inR at q; simp only [i64_toInt] at *; omega)).symm

abbrev w_X6_turn (G : XG) (ko : Nat) (ad : Nat → Nat) (w h la tp : Nat) (ft tr : Int32) (mv : Nat → Int32) (S : Nat → Int32) : va_W := [oC ko 6 [.ref (ad 0), .ref (ad 1), .int (nI w), .int (nI h), .int (nI la), .ref (ad 2), .int (mv 0), .int (mv 1), .int (mv 2), .int (mv 3), .int (mv 4), .int (mv 5), .int (mv 6), .ref (ad 3), .int (nI tp), .int (mv 7), .int (mv 8), .int (mv 9), .int (mv 10), .int ft, .int (mv 11), .ref (ad 4), .ref (ad 5), .ref (ad 6), .ref (ad 7), .ref (ad 8), .ref (ad 9), .ref (ad 10), .int tr], iA G (ad 0) 255 S]
abbrev Q_X6_turn (G : XG) (sz : Nat) (ko : Nat) (ad : Nat → Nat) (w h la tp : Nat) (ft tr : Int32) (mv : Nat → Int32) (S : Nat → Int32) (nc : Nat) (d c m : Int32) : Array Value → State → Outcome → State → Prop := (va_Qi (fun (r : Int32) (u : (Nat → Int32)) => r = (if (inR d (la + 1) ∧ inR c (w * h) ∧ inR m 6) then (if nc < 10 then nI (nc + 1) else (-3)) else (-1)) ∧ u = (if (inR d (la + 1) ∧ inR c (w * h) ∧ inR m 6 ∧ nc < 10) then add3 S (17 + 3 * nc) 16 d c m (nc + 1) else S)) (xWb G sz (w_X6_turn G ko ad w h la tp ft tr mv S) (fun u : (Nat → Int32) => [oC ko 6 [.ref (ad 0), .ref (ad 1), .int (nI w), .int (nI h), .int (nI la), .ref (ad 2), .int (mv 0), .int (mv 1), .int (mv 2), .int (mv 3), .int (mv 4), .int (mv 5), .int (mv 6), .ref (ad 3), .int (nI tp), .int (mv 7), .int (mv 8), .int (mv 9), .int (mv 10), .int ft, .int (mv 11), .ref (ad 4), .ref (ad 5), .ref (ad 6), .ref (ad 7), .ref (ad 8), .ref (ad 9), .ref (ad 10), .int tr], iA G (ad 0) 255 u])) (va_A (w_X6_turn G ko ad w h la tp ft tr mv S) sz))
set_option maxHeartbeats 4000000 in
set_option maxRecDepth 100000 in
theorem c_X6_turn (l : Launch) (G : XG) (sz : Nat) (ko : Nat) (ad : Nat → Nat) (w h la tp : Nat) (ft tr : Int32) (mv : Nat → Int32) (S : Nat → Int32) (nc : Nat) (d c m : Int32) (hw : 1 ≤ w) (hwb : w ≤ 16) (hhb : h ≤ 16) (hwh1 : 1 ≤ w * h) (hwh : w * h ≤ 16) (hla : la ≤ 9) (hs16 : S 16 = nI nc) (hnc : nc ≤ 10) : Met l yX6_turn wsX6_turn ({ frames := 2, cells := 0, slots := 0, locals := 46 } : Room) (va_Pc [.ref ko, .int d, .int c, .int m] (xWp G sz (w_X6_turn G ko ad w h la tp ft tr mv S))) (Q_X6_turn G sz ko ad w h la tp ft tr mv S nc d c m) 0 0 (va_A (w_X6_turn G ko ad w h la tp ft tr mv S) sz) := by
  refine Met.ofW (cc := cX6_turn) (maxL := 5) (ret := (some .int)) (by decide) rfl ?_
  intro pp ee ss mm aa below mt cd s₁ BB hml hv
  obtain ⟨rfl, hsz, hP, hK, hD0⟩ := hv
  have hx := BB.exec
  have hb := BB.bytes
  have hr := BB.returns
  have hts := atoms_spec (ws := wsX6_turn) BB.pre
  have hown : ss.vm.findClass RX6 = some mm.cls := findClass_of_methodNamed BB.named
  have hlocks := BB.notSynchronized
  subst hsz
  have hD := hD0.self (sz := ss.heap.size)
  have hA : ∀ q : Nat, ss.heap.size ≤ q → va_A (w_X6_turn G ko ad w h la tp ft tr mv S) ss.heap.size q := fun q h => Or.inr h
  have hS : va_S (va_A (w_X6_turn G ko ad w h la tp ft tr mv S) ss.heap.size) ss.heap ss.heap [] := va_S.rf
  replace hD : va_D (va_A (w_X6_turn G ko ad w h la tp ft tr mv S) ss.heap.size) [oC ko 6 [.ref (ad 0), .ref (ad 1), .int (nI w), .int (nI h), .int (nI la), .ref (ad 2), .int (mv 0), .int (mv 1), .int (mv 2), .int (mv 3), .int (mv 4), .int (mv 5), .int (mv 6), .ref (ad 3), .int (nI tp), .int (mv 7), .int (mv 8), .int (mv 9), .int (mv 10), .int ft, .int (mv 11), .ref (ad 4), .ref (ad 5), .ref (ad 6), .ref (ad 7), .ref (ad 8), .ref (ad 9), .ref (ad 10), .int tr], iA G (ad 0) 255 S] := hD
  replace hP : xP G [oC ko 6 [.ref (ad 0), .ref (ad 1), .int (nI w), .int (nI h), .int (nI la), .ref (ad 2), .int (mv 0), .int (mv 1), .int (mv 2), .int (mv 3), .int (mv 4), .int (mv 5), .int (mv 6), .ref (ad 3), .int (nI tp), .int (mv 7), .int (mv 8), .int (mv 9), .int (mv 10), .int ft, .int (mv 11), .ref (ad 4), .ref (ad 5), .ref (ad 6), .ref (ad 7), .ref (ad 8), .ref (ad 9), .ref (ad 10), .int tr], iA G (ad 0) 255 S] ss.heap := hP
  have hin6 : ∀ w ∈ u_ws RX6 TX6 29, w ∈ wsX6_turn := fun w h => List.mem_cons_of_mem _ (List.mem_append_right _ h)
  have hl := lv_entry ([.ref ko, .int d, .int c, .int m]) (n := 5) (Nat.le_of_ble_eq_true rfl)
  rw [lg_entry_eq]
  generalize (lg_sl ([.ref ko, .int d, .int c, .int m]) ++ List.replicate (5 - (lg_sl ([.ref ko, .int d, .int c, .int m])).length) Slot.unset).toArray = ls at hl ⊢
  replace hl : lv_has ls 5 [(0, .ref ko), (1, .int d), (2, .int c), (3, .int m)] := hl
  refine lv_aload_n hx hb dX6_turn_0 rfl (lv_at hl 0 rfl) ?_
  refine lv_iload_n hx hb dX6_turn_1 rfl (lv_at hl 1 rfl) ?_
  refine xr_i (As := [.int d]) (rest := []) ⟨hx, hb, hml, hown, hts⟩ (c_X6_isDay l G ko ad w h la tp ft tr mv d (by first | assumption | omega)) (cwV 1 hts gX6_turn_X6_isDay rfl rfl rfl (by decide +kernel) ⟨Nat.le_of_ble_eq_true rfl, Nat.le_of_ble_eq_true rfl⟩) hK hP hS [0] rfl rfl rfl rfl hl.1 rfl (Nat.le_of_ble_eq_true rfl) dX6_turn_2 ⟨Nat.zero_le _, Nat.zero_le _⟩ (fun r2 H locs hp2 hP hS => ?_)
  rw [show r2 = _ from hp2]
  refine xb_if_eq (tgt := 23) hx hb dX6_turn_5 rfl (fun b5 => ?_) (fun b5 => ?_)
  · skip
    refine lv_iconst (v := (-1)) hx hb dX6_turn_23 (by decide) ?_
    have hP := hP.sub (ws' := [oC ko 6 [.ref (ad 0), .ref (ad 1), .int (nI w), .int (nI h), .int (nI la), .ref (ad 2), .int (mv 0), .int (mv 1), .int (mv 2), .int (mv 3), .int (mv 4), .int (mv 5), .int (mv 6), .ref (ad 3), .int (nI tp), .int (mv 7), .int (mv 8), .int (mv 9), .int (mv 10), .int ft, .int (mv 11), .ref (ad 4), .ref (ad 5), .ref (ad 6), .ref (ad 7), .ref (ad 8), .ref (ad 9), .ref (ad 10), .int tr], iA G (ad 0) 255 S]) [0, 1] rfl
    have hD := hD.sub (ws' := [oC ko 6 [.ref (ad 0), .ref (ad 1), .int (nI w), .int (nI h), .int (nI la), .ref (ad 2), .int (mv 0), .int (mv 1), .int (mv 2), .int (mv 3), .int (mv 4), .int (mv 5), .int (mv 6), .ref (ad 3), .int (nI tp), .int (mv 7), .int (mv 8), .int (mv 9), .int (mv 10), .int ft, .int (mv 11), .ref (ad 4), .ref (ad 5), .ref (ad 6), .ref (ad 7), .ref (ad 8), .ref (ad 9), .ref (ad 10), .int tr], iA G (ad 0) 255 S]) [0, 1] (by decide) rfl
    refine W.iret (v := (-1)) hx hb hr (fun t ht hW => ⟨⟨(-1), (S), rfl, ?_, by rw [ht]; exact hP, hD⟩, hS.F ht⟩) hS.2.2 dX6_turn_24
    first | exact ⟨(if_neg (fun q => b5 q.1)).symm, (if_neg (fun q => b5 q.1)).symm⟩ | exact ⟨(if_neg (fun q => b13 q.2.1)).symm, (if_neg (fun q => b13 q.2.1)).symm⟩ | exact ⟨(if_neg (fun q => b20 q.2.2)).symm, (if_neg (fun q => b20 q.2.2.1)).symm⟩ | exact ⟨((if_pos ⟨b5, b13, b20⟩).trans (if_neg (by omega))).symm, (if_neg (fun q => absurd q.2.2.2 (by omega))).symm⟩ | exact ⟨((if_pos ⟨b5, b13, b20⟩).trans (if_pos (by omega))).symm, (if_pos ⟨b5, b13, b20, by omega⟩).symm⟩
  · skip
    refine lv_aload_n hx hb dX6_turn_8 rfl (lv_at hl 0 rfl) ?_
    refine lv_iload_n hx hb dX6_turn_9 rfl (lv_at hl 2 rfl) ?_
    refine xr_i (As := [.int c]) (rest := []) ⟨hx, hb, hml, hown, hts⟩ (c_X6_isCell l G ko ad w h la tp ft tr mv c (by first | assumption | omega) (by first | assumption | omega)) (cwV 1 hts gX6_turn_X6_isCell rfl rfl rfl (by decide +kernel) ⟨Nat.le_of_ble_eq_true rfl, Nat.le_of_ble_eq_true rfl⟩) hK hP hS [0] rfl rfl rfl rfl hl.1 rfl (Nat.le_of_ble_eq_true rfl) dX6_turn_10 ⟨Nat.zero_le _, Nat.zero_le _⟩ (fun r10 H locs hp10 hP hS => ?_)
    rw [show r10 = _ from hp10]
    refine xb_if_eq (tgt := 23) hx hb dX6_turn_13 rfl (fun b13 => ?_) (fun b13 => ?_)
    · skip
      refine lv_iconst (v := (-1)) hx hb dX6_turn_23 (by decide) ?_
      have hP := hP.sub (ws' := [oC ko 6 [.ref (ad 0), .ref (ad 1), .int (nI w), .int (nI h), .int (nI la), .ref (ad 2), .int (mv 0), .int (mv 1), .int (mv 2), .int (mv 3), .int (mv 4), .int (mv 5), .int (mv 6), .ref (ad 3), .int (nI tp), .int (mv 7), .int (mv 8), .int (mv 9), .int (mv 10), .int ft, .int (mv 11), .ref (ad 4), .ref (ad 5), .ref (ad 6), .ref (ad 7), .ref (ad 8), .ref (ad 9), .ref (ad 10), .int tr], iA G (ad 0) 255 S]) [0, 1] rfl
      have hD := hD.sub (ws' := [oC ko 6 [.ref (ad 0), .ref (ad 1), .int (nI w), .int (nI h), .int (nI la), .ref (ad 2), .int (mv 0), .int (mv 1), .int (mv 2), .int (mv 3), .int (mv 4), .int (mv 5), .int (mv 6), .ref (ad 3), .int (nI tp), .int (mv 7), .int (mv 8), .int (mv 9), .int (mv 10), .int ft, .int (mv 11), .ref (ad 4), .ref (ad 5), .ref (ad 6), .ref (ad 7), .ref (ad 8), .ref (ad 9), .ref (ad 10), .int tr], iA G (ad 0) 255 S]) [0, 1] (by decide) rfl
      refine W.iret (v := (-1)) hx hb hr (fun t ht hW => ⟨⟨(-1), (S), rfl, ?_, by rw [ht]; exact hP, hD⟩, hS.F ht⟩) hS.2.2 dX6_turn_24
      first | exact ⟨(if_neg (fun q => b5 q.1)).symm, (if_neg (fun q => b5 q.1)).symm⟩ | exact ⟨(if_neg (fun q => b13 q.2.1)).symm, (if_neg (fun q => b13 q.2.1)).symm⟩ | exact ⟨(if_neg (fun q => b20 q.2.2)).symm, (if_neg (fun q => b20 q.2.2.1)).symm⟩ | exact ⟨((if_pos ⟨b5, b13, b20⟩).trans (if_neg (by omega))).symm, (if_neg (fun q => absurd q.2.2.2 (by omega))).symm⟩ | exact ⟨((if_pos ⟨b5, b13, b20⟩).trans (if_pos (by omega))).symm, (if_pos ⟨b5, b13, b20, by omega⟩).symm⟩
    · skip
      refine lv_iload_n hx hb dX6_turn_16 rfl (lv_at hl 3 rfl) ?_
      refine xs_i (As := [.int m]) (rest := []) ⟨hx, hb, hml, hown, hts⟩ (c_X6_isMark l G m ) (va_cwS 1 hts gX6_turn_X6_isMark rfl rfl rfl (by decide +kernel) ⟨Nat.le_of_ble_eq_true rfl, Nat.le_of_ble_eq_true rfl⟩) hP hS rfl hl.1 rfl (Nat.le_of_ble_eq_true rfl) dX6_turn_17 ⟨Nat.zero_le _, Nat.zero_le _⟩ (fun r17 H locs hp17 hP hS => ?_)
      rw [show r17 = _ from hp17]
      refine xb_if_ne (tgt := 25) hx hb dX6_turn_20 rfl (fun b20 => ?_) (fun b20 => ?_)
      · skip
        refine lv_aload_n hx hb dX6_turn_25 rfl (lv_at hl 0 rfl) ?_
        refine va_get (D := G.1) (ci := 6) (v := .ref (ad 0)) (C := RX6) (T := TX6) (N := 29) hx hb hts hin6 hown hK.1 hP 0 rfl rfl 0 (by decide) (hts (.fieldLink RX6 7 "BackLensesModel" "st" "[I") (List.mem_of_getElem? (i := 1) rfl)) (fun _ h9 => h9) rfl dX6_turn_26 ?_
        refine lv_bipush (v := nI 16) hx hb dX6_turn_29 (by decide) ?_
        refine xn_iald hx hb hK hP 1 rfl (by omega) (by omega) dX6_turn_31 ?_
        refine xn_top (y := nI nc) (by exact hs16) ?_
        refine lv_bipush (v := nI 10) hx hb dX6_turn_32 (by decide) ?_
        refine xn_icmp_ne (tgt := 40) hx hb (by omega) (by omega) dX6_turn_34 rfl (fun b34 => ?_) (fun b34 => ?_)
        · skip
          refine lv_bipush (v := nI 17) hx hb dX6_turn_40 (by decide) ?_
          refine lv_iconst (v := nI 3) hx hb dX6_turn_42 (by decide) ?_
          refine lv_aload_n hx hb dX6_turn_43 rfl (lv_at hl 0 rfl) ?_
          refine va_get (D := G.1) (ci := 6) (v := .ref (ad 0)) (C := RX6) (T := TX6) (N := 29) hx hb hts hin6 hown hK.1 hP 0 rfl rfl 0 (by decide) (hts (.fieldLink RX6 7 "BackLensesModel" "st" "[I") (List.mem_of_getElem? (i := 1) rfl)) (fun _ h9 => h9) rfl dX6_turn_44 ?_
          refine lv_bipush (v := nI 16) hx hb dX6_turn_47 (by decide) ?_
          refine xn_iald hx hb hK hP 1 rfl (by omega) (by omega) dX6_turn_49 ?_
          refine xn_top (y := nI nc) (by exact hs16) ?_
          refine xn_imul hx hb dX6_turn_50 ?_
          refine xn_iadd hx hb dX6_turn_51 ?_
          refine lv_istore (lv' := [(4, .int (nI (17 + (3 * nc)))), (0, .ref ko), (1, .int d), (2, .int c), (3, .int m)]) hx hb dX6_turn_52 hl (by decide) rfl (fun ls hl => ?_)
          refine lv_aload_n hx hb dX6_turn_54 rfl (lv_at hl 1 rfl) ?_
          refine va_get (D := G.1) (ci := 6) (v := .ref (ad 0)) (C := RX6) (T := TX6) (N := 29) hx hb hts hin6 hown hK.1 hP 0 rfl rfl 0 (by decide) (hts (.fieldLink RX6 7 "BackLensesModel" "st" "[I") (List.mem_of_getElem? (i := 1) rfl)) (fun _ h9 => h9) rfl dX6_turn_55 ?_
          refine lv_iload hx hb dX6_turn_58 (lv_at hl 0 rfl) ?_
          refine lv_iload_n hx hb dX6_turn_60 rfl (lv_at hl 2 rfl) ?_
          refine xn_iast hx hb hK hP hD hS 1 rfl (by omega) (by omega) dX6_turn_61 (fun H locs hP hD hS => ?_)
          replace hP : xP G [oC ko 6 [.ref (ad 0), .ref (ad 1), .int (nI w), .int (nI h), .int (nI la), .ref (ad 2), .int (mv 0), .int (mv 1), .int (mv 2), .int (mv 3), .int (mv 4), .int (mv 5), .int (mv 6), .ref (ad 3), .int (nI tp), .int (mv 7), .int (mv 8), .int (mv 9), .int (mv 10), .int ft, .int (mv 11), .ref (ad 4), .ref (ad 5), .ref (ad 6), .ref (ad 7), .ref (ad 8), .ref (ad 9), .ref (ad 10), .int tr], iA G (ad 0) 255 (upd S (17 + (3 * nc)) d)] H := hP
          replace hD : va_D (va_A (w_X6_turn G ko ad w h la tp ft tr mv S) ss.heap.size) [oC ko 6 [.ref (ad 0), .ref (ad 1), .int (nI w), .int (nI h), .int (nI la), .ref (ad 2), .int (mv 0), .int (mv 1), .int (mv 2), .int (mv 3), .int (mv 4), .int (mv 5), .int (mv 6), .ref (ad 3), .int (nI tp), .int (mv 7), .int (mv 8), .int (mv 9), .int (mv 10), .int ft, .int (mv 11), .ref (ad 4), .ref (ad 5), .ref (ad 6), .ref (ad 7), .ref (ad 8), .ref (ad 9), .ref (ad 10), .int tr], iA G (ad 0) 255 (upd S (17 + (3 * nc)) d)] := hD
          refine lv_aload_n hx hb dX6_turn_62 rfl (lv_at hl 1 rfl) ?_
          refine va_get (D := G.1) (ci := 6) (v := .ref (ad 0)) (C := RX6) (T := TX6) (N := 29) hx hb hts hin6 hown hK.1 hP 0 rfl rfl 0 (by decide) (hts (.fieldLink RX6 7 "BackLensesModel" "st" "[I") (List.mem_of_getElem? (i := 1) rfl)) (fun _ h9 => h9) rfl dX6_turn_63 ?_
          refine lv_iload hx hb dX6_turn_66 (lv_at hl 0 rfl) ?_
          refine lv_iconst (v := nI 1) hx hb dX6_turn_68 (by decide) ?_
          refine xn_iadd hx hb dX6_turn_69 ?_
          refine lv_iload_n hx hb dX6_turn_70 rfl (lv_at hl 3 rfl) ?_
          refine xn_iast hx hb hK hP hD hS 1 rfl (by omega) (by omega) dX6_turn_71 (fun H locs hP hD hS => ?_)
          replace hP : xP G [oC ko 6 [.ref (ad 0), .ref (ad 1), .int (nI w), .int (nI h), .int (nI la), .ref (ad 2), .int (mv 0), .int (mv 1), .int (mv 2), .int (mv 3), .int (mv 4), .int (mv 5), .int (mv 6), .ref (ad 3), .int (nI tp), .int (mv 7), .int (mv 8), .int (mv 9), .int (mv 10), .int ft, .int (mv 11), .ref (ad 4), .ref (ad 5), .ref (ad 6), .ref (ad 7), .ref (ad 8), .ref (ad 9), .ref (ad 10), .int tr], iA G (ad 0) 255 (upd (upd S (17 + (3 * nc)) d) ((17 + (3 * nc)) + 1) c)] H := hP
          replace hD : va_D (va_A (w_X6_turn G ko ad w h la tp ft tr mv S) ss.heap.size) [oC ko 6 [.ref (ad 0), .ref (ad 1), .int (nI w), .int (nI h), .int (nI la), .ref (ad 2), .int (mv 0), .int (mv 1), .int (mv 2), .int (mv 3), .int (mv 4), .int (mv 5), .int (mv 6), .ref (ad 3), .int (nI tp), .int (mv 7), .int (mv 8), .int (mv 9), .int (mv 10), .int ft, .int (mv 11), .ref (ad 4), .ref (ad 5), .ref (ad 6), .ref (ad 7), .ref (ad 8), .ref (ad 9), .ref (ad 10), .int tr], iA G (ad 0) 255 (upd (upd S (17 + (3 * nc)) d) ((17 + (3 * nc)) + 1) c)] := hD
          refine lv_aload_n hx hb dX6_turn_72 rfl (lv_at hl 1 rfl) ?_
          refine va_get (D := G.1) (ci := 6) (v := .ref (ad 0)) (C := RX6) (T := TX6) (N := 29) hx hb hts hin6 hown hK.1 hP 0 rfl rfl 0 (by decide) (hts (.fieldLink RX6 7 "BackLensesModel" "st" "[I") (List.mem_of_getElem? (i := 1) rfl)) (fun _ h9 => h9) rfl dX6_turn_73 ?_
          refine lv_iload hx hb dX6_turn_76 (lv_at hl 0 rfl) ?_
          refine lv_iconst (v := nI 2) hx hb dX6_turn_78 (by decide) ?_
          refine xn_iadd hx hb dX6_turn_79 ?_
          refine lv_iload_n hx hb dX6_turn_80 rfl (lv_at hl 4 rfl) ?_
          refine xn_iast hx hb hK hP hD hS 1 rfl (by omega) (by omega) dX6_turn_81 (fun H locs hP hD hS => ?_)
          replace hP : xP G [oC ko 6 [.ref (ad 0), .ref (ad 1), .int (nI w), .int (nI h), .int (nI la), .ref (ad 2), .int (mv 0), .int (mv 1), .int (mv 2), .int (mv 3), .int (mv 4), .int (mv 5), .int (mv 6), .ref (ad 3), .int (nI tp), .int (mv 7), .int (mv 8), .int (mv 9), .int (mv 10), .int ft, .int (mv 11), .ref (ad 4), .ref (ad 5), .ref (ad 6), .ref (ad 7), .ref (ad 8), .ref (ad 9), .ref (ad 10), .int tr], iA G (ad 0) 255 (upd (upd (upd S (17 + (3 * nc)) d) ((17 + (3 * nc)) + 1) c) ((17 + (3 * nc)) + 2) m)] H := hP
          replace hD : va_D (va_A (w_X6_turn G ko ad w h la tp ft tr mv S) ss.heap.size) [oC ko 6 [.ref (ad 0), .ref (ad 1), .int (nI w), .int (nI h), .int (nI la), .ref (ad 2), .int (mv 0), .int (mv 1), .int (mv 2), .int (mv 3), .int (mv 4), .int (mv 5), .int (mv 6), .ref (ad 3), .int (nI tp), .int (mv 7), .int (mv 8), .int (mv 9), .int (mv 10), .int ft, .int (mv 11), .ref (ad 4), .ref (ad 5), .ref (ad 6), .ref (ad 7), .ref (ad 8), .ref (ad 9), .ref (ad 10), .int tr], iA G (ad 0) 255 (upd (upd (upd S (17 + (3 * nc)) d) ((17 + (3 * nc)) + 1) c) ((17 + (3 * nc)) + 2) m)] := hD
          refine lv_aload_n hx hb dX6_turn_82 rfl (lv_at hl 1 rfl) ?_
          refine va_get (D := G.1) (ci := 6) (v := .ref (ad 0)) (C := RX6) (T := TX6) (N := 29) hx hb hts hin6 hown hK.1 hP 0 rfl rfl 0 (by decide) (hts (.fieldLink RX6 7 "BackLensesModel" "st" "[I") (List.mem_of_getElem? (i := 1) rfl)) (fun _ h9 => h9) rfl dX6_turn_83 ?_
          refine lv_bipush (v := nI 16) hx hb dX6_turn_86 (by decide) ?_
          refine lv_dup2_11 hx hb dX6_turn_88 rfl rfl ?_
          refine xn_iald hx hb hK hP 1 rfl (by omega) (by omega) dX6_turn_89 ?_
          refine xn_top (y := nI nc) (by rw [upd_ne (by omega), upd_ne (by omega), upd_ne (by omega)]; exact hs16) ?_
          refine lv_iconst (v := nI 1) hx hb dX6_turn_90 (by decide) ?_
          refine xn_iadd hx hb dX6_turn_91 ?_
          refine xn_iast hx hb hK hP hD hS 1 rfl (by omega) (by omega) dX6_turn_92 (fun H locs hP hD hS => ?_)
          replace hP : xP G [oC ko 6 [.ref (ad 0), .ref (ad 1), .int (nI w), .int (nI h), .int (nI la), .ref (ad 2), .int (mv 0), .int (mv 1), .int (mv 2), .int (mv 3), .int (mv 4), .int (mv 5), .int (mv 6), .ref (ad 3), .int (nI tp), .int (mv 7), .int (mv 8), .int (mv 9), .int (mv 10), .int ft, .int (mv 11), .ref (ad 4), .ref (ad 5), .ref (ad 6), .ref (ad 7), .ref (ad 8), .ref (ad 9), .ref (ad 10), .int tr], iA G (ad 0) 255 (upd (upd (upd (upd S (17 + (3 * nc)) d) ((17 + (3 * nc)) + 1) c) ((17 + (3 * nc)) + 2) m) 16 (nI (nc + 1)))] H := hP
          replace hD : va_D (va_A (w_X6_turn G ko ad w h la tp ft tr mv S) ss.heap.size) [oC ko 6 [.ref (ad 0), .ref (ad 1), .int (nI w), .int (nI h), .int (nI la), .ref (ad 2), .int (mv 0), .int (mv 1), .int (mv 2), .int (mv 3), .int (mv 4), .int (mv 5), .int (mv 6), .ref (ad 3), .int (nI tp), .int (mv 7), .int (mv 8), .int (mv 9), .int (mv 10), .int ft, .int (mv 11), .ref (ad 4), .ref (ad 5), .ref (ad 6), .ref (ad 7), .ref (ad 8), .ref (ad 9), .ref (ad 10), .int tr], iA G (ad 0) 255 (upd (upd (upd (upd S (17 + (3 * nc)) d) ((17 + (3 * nc)) + 1) c) ((17 + (3 * nc)) + 2) m) 16 (nI (nc + 1)))] := hD
          refine lv_aload_n hx hb dX6_turn_93 rfl (lv_at hl 1 rfl) ?_
          refine va_get (D := G.1) (ci := 6) (v := .ref (ad 0)) (C := RX6) (T := TX6) (N := 29) hx hb hts hin6 hown hK.1 hP 0 rfl rfl 0 (by decide) (hts (.fieldLink RX6 7 "BackLensesModel" "st" "[I") (List.mem_of_getElem? (i := 1) rfl)) (fun _ h9 => h9) rfl dX6_turn_94 ?_
          refine lv_bipush (v := nI 16) hx hb dX6_turn_97 (by decide) ?_
          refine xn_iald hx hb hK hP 1 rfl (by omega) (by omega) dX6_turn_99 ?_
          refine xn_top (y := nI (nc + 1)) (by exact upd_eq) ?_
          have hP := hP.sub (ws' := [oC ko 6 [.ref (ad 0), .ref (ad 1), .int (nI w), .int (nI h), .int (nI la), .ref (ad 2), .int (mv 0), .int (mv 1), .int (mv 2), .int (mv 3), .int (mv 4), .int (mv 5), .int (mv 6), .ref (ad 3), .int (nI tp), .int (mv 7), .int (mv 8), .int (mv 9), .int (mv 10), .int ft, .int (mv 11), .ref (ad 4), .ref (ad 5), .ref (ad 6), .ref (ad 7), .ref (ad 8), .ref (ad 9), .ref (ad 10), .int tr], iA G (ad 0) 255 (upd (upd (upd (upd S (17 + (3 * nc)) d) ((17 + (3 * nc)) + 1) c) ((17 + (3 * nc)) + 2) m) 16 (nI (nc + 1)))]) [0, 1] rfl
          have hD := hD.sub (ws' := [oC ko 6 [.ref (ad 0), .ref (ad 1), .int (nI w), .int (nI h), .int (nI la), .ref (ad 2), .int (mv 0), .int (mv 1), .int (mv 2), .int (mv 3), .int (mv 4), .int (mv 5), .int (mv 6), .ref (ad 3), .int (nI tp), .int (mv 7), .int (mv 8), .int (mv 9), .int (mv 10), .int ft, .int (mv 11), .ref (ad 4), .ref (ad 5), .ref (ad 6), .ref (ad 7), .ref (ad 8), .ref (ad 9), .ref (ad 10), .int tr], iA G (ad 0) 255 (upd (upd (upd (upd S (17 + (3 * nc)) d) ((17 + (3 * nc)) + 1) c) ((17 + (3 * nc)) + 2) m) 16 (nI (nc + 1)))]) [0, 1] (by decide) rfl
          refine W.iret (v := nI (nc + 1)) hx hb hr (fun t ht hW => ⟨⟨nI (nc + 1), (upd (upd (upd (upd S (17 + (3 * nc)) d) ((17 + (3 * nc)) + 1) c) ((17 + (3 * nc)) + 2) m) 16 (nI (nc + 1))), rfl, ?_, by rw [ht]; exact hP, hD⟩, hS.F ht⟩) hS.2.2 dX6_turn_100
          first | exact ⟨(if_neg (fun q => b5 q.1)).symm, (if_neg (fun q => b5 q.1)).symm⟩ | exact ⟨(if_neg (fun q => b13 q.2.1)).symm, (if_neg (fun q => b13 q.2.1)).symm⟩ | exact ⟨(if_neg (fun q => b20 q.2.2)).symm, (if_neg (fun q => b20 q.2.2.1)).symm⟩ | exact ⟨((if_pos ⟨b5, b13, b20⟩).trans (if_neg (by omega))).symm, (if_neg (fun q => absurd q.2.2.2 (by omega))).symm⟩ | exact ⟨((if_pos ⟨b5, b13, b20⟩).trans (if_pos (by omega))).symm, (if_pos ⟨b5, b13, b20, by omega⟩).symm⟩
        · skip
          refine lv_bipush (v := (-3)) hx hb dX6_turn_37 (by decide) ?_
          have hP := hP.sub (ws' := [oC ko 6 [.ref (ad 0), .ref (ad 1), .int (nI w), .int (nI h), .int (nI la), .ref (ad 2), .int (mv 0), .int (mv 1), .int (mv 2), .int (mv 3), .int (mv 4), .int (mv 5), .int (mv 6), .ref (ad 3), .int (nI tp), .int (mv 7), .int (mv 8), .int (mv 9), .int (mv 10), .int ft, .int (mv 11), .ref (ad 4), .ref (ad 5), .ref (ad 6), .ref (ad 7), .ref (ad 8), .ref (ad 9), .ref (ad 10), .int tr], iA G (ad 0) 255 S]) [0, 1] rfl
          have hD := hD.sub (ws' := [oC ko 6 [.ref (ad 0), .ref (ad 1), .int (nI w), .int (nI h), .int (nI la), .ref (ad 2), .int (mv 0), .int (mv 1), .int (mv 2), .int (mv 3), .int (mv 4), .int (mv 5), .int (mv 6), .ref (ad 3), .int (nI tp), .int (mv 7), .int (mv 8), .int (mv 9), .int (mv 10), .int ft, .int (mv 11), .ref (ad 4), .ref (ad 5), .ref (ad 6), .ref (ad 7), .ref (ad 8), .ref (ad 9), .ref (ad 10), .int tr], iA G (ad 0) 255 S]) [0, 1] (by decide) rfl
          refine W.iret (v := (-3)) hx hb hr (fun t ht hW => ⟨⟨(-3), (S), rfl, ?_, by rw [ht]; exact hP, hD⟩, hS.F ht⟩) hS.2.2 dX6_turn_39
          first | exact ⟨(if_neg (fun q => b5 q.1)).symm, (if_neg (fun q => b5 q.1)).symm⟩ | exact ⟨(if_neg (fun q => b13 q.2.1)).symm, (if_neg (fun q => b13 q.2.1)).symm⟩ | exact ⟨(if_neg (fun q => b20 q.2.2)).symm, (if_neg (fun q => b20 q.2.2.1)).symm⟩ | exact ⟨((if_pos ⟨b5, b13, b20⟩).trans (if_neg (by omega))).symm, (if_neg (fun q => absurd q.2.2.2 (by omega))).symm⟩ | exact ⟨((if_pos ⟨b5, b13, b20⟩).trans (if_pos (by omega))).symm, (if_pos ⟨b5, b13, b20, by omega⟩).symm⟩
      · skip
        refine lv_iconst (v := (-1)) hx hb dX6_turn_23 (by decide) ?_
        have hP := hP.sub (ws' := [oC ko 6 [.ref (ad 0), .ref (ad 1), .int (nI w), .int (nI h), .int (nI la), .ref (ad 2), .int (mv 0), .int (mv 1), .int (mv 2), .int (mv 3), .int (mv 4), .int (mv 5), .int (mv 6), .ref (ad 3), .int (nI tp), .int (mv 7), .int (mv 8), .int (mv 9), .int (mv 10), .int ft, .int (mv 11), .ref (ad 4), .ref (ad 5), .ref (ad 6), .ref (ad 7), .ref (ad 8), .ref (ad 9), .ref (ad 10), .int tr], iA G (ad 0) 255 S]) [0, 1] rfl
        have hD := hD.sub (ws' := [oC ko 6 [.ref (ad 0), .ref (ad 1), .int (nI w), .int (nI h), .int (nI la), .ref (ad 2), .int (mv 0), .int (mv 1), .int (mv 2), .int (mv 3), .int (mv 4), .int (mv 5), .int (mv 6), .ref (ad 3), .int (nI tp), .int (mv 7), .int (mv 8), .int (mv 9), .int (mv 10), .int ft, .int (mv 11), .ref (ad 4), .ref (ad 5), .ref (ad 6), .ref (ad 7), .ref (ad 8), .ref (ad 9), .ref (ad 10), .int tr], iA G (ad 0) 255 S]) [0, 1] (by decide) rfl
        refine W.iret (v := (-1)) hx hb hr (fun t ht hW => ⟨⟨(-1), (S), rfl, ?_, by rw [ht]; exact hP, hD⟩, hS.F ht⟩) hS.2.2 dX6_turn_24
        first | exact ⟨(if_neg (fun q => b5 q.1)).symm, (if_neg (fun q => b5 q.1)).symm⟩ | exact ⟨(if_neg (fun q => b13 q.2.1)).symm, (if_neg (fun q => b13 q.2.1)).symm⟩ | exact ⟨(if_neg (fun q => b20 q.2.2)).symm, (if_neg (fun q => b20 q.2.2.1)).symm⟩ | exact ⟨((if_pos ⟨b5, b13, b20⟩).trans (if_neg (by omega))).symm, (if_neg (fun q => absurd q.2.2.2 (by omega))).symm⟩ | exact ⟨((if_pos ⟨b5, b13, b20⟩).trans (if_pos (by omega))).symm, (if_pos ⟨b5, b13, b20, by omega⟩).symm⟩

abbrev w_X6_show (G : XG) (ko : Nat) (ad : Nat → Nat) (w h la tp : Nat) (ft tr : Int32) (mv : Nat → Int32) (S : Nat → Int32) : va_W := [oC ko 6 [.ref (ad 0), .ref (ad 1), .int (nI w), .int (nI h), .int (nI la), .ref (ad 2), .int (mv 0), .int (mv 1), .int (mv 2), .int (mv 3), .int (mv 4), .int (mv 5), .int (mv 6), .ref (ad 3), .int (nI tp), .int (mv 7), .int (mv 8), .int (mv 9), .int (mv 10), .int ft, .int (mv 11), .ref (ad 4), .ref (ad 5), .ref (ad 6), .ref (ad 7), .ref (ad 8), .ref (ad 9), .ref (ad 10), .int tr], iA G (ad 0) 255 S]
abbrev Q_X6_show (G : XG) (sz : Nat) (ko : Nat) (ad : Nat → Nat) (w h la tp : Nat) (ft tr : Int32) (mv : Nat → Int32) (S : Nat → Int32) (ns : Nat) (x c m : Int32) : Array Value → State → Outcome → State → Prop := (va_Qi (fun (r : Int32) (u : (Nat → Int32)) => r = (if (inR x (w * h) ∧ inR c (w * h) ∧ (m = (-4) ∨ inR m 6)) then (if ns < 8 then nI (ns + 1) else (-3)) else (-1)) ∧ u = (if (inR x (w * h) ∧ inR c (w * h) ∧ (m = (-4) ∨ inR m 6) ∧ ns < 8) then add3 S (61 + 3 * ns) 60 x c m (ns + 1) else S)) (xWb G sz (w_X6_show G ko ad w h la tp ft tr mv S) (fun u : (Nat → Int32) => [oC ko 6 [.ref (ad 0), .ref (ad 1), .int (nI w), .int (nI h), .int (nI la), .ref (ad 2), .int (mv 0), .int (mv 1), .int (mv 2), .int (mv 3), .int (mv 4), .int (mv 5), .int (mv 6), .ref (ad 3), .int (nI tp), .int (mv 7), .int (mv 8), .int (mv 9), .int (mv 10), .int ft, .int (mv 11), .ref (ad 4), .ref (ad 5), .ref (ad 6), .ref (ad 7), .ref (ad 8), .ref (ad 9), .ref (ad 10), .int tr], iA G (ad 0) 255 u])) (va_A (w_X6_show G ko ad w h la tp ft tr mv S) sz))
set_option maxHeartbeats 4000000 in
set_option maxRecDepth 100000 in
theorem c_X6_show (l : Launch) (G : XG) (sz : Nat) (ko : Nat) (ad : Nat → Nat) (w h la tp : Nat) (ft tr : Int32) (mv : Nat → Int32) (S : Nat → Int32) (ns : Nat) (x c m : Int32) (hw : 1 ≤ w) (hwb : w ≤ 16) (hhb : h ≤ 16) (hwh1 : 1 ≤ w * h) (hwh : w * h ≤ 16) (hs60 : S 60 = nI ns) (hns : ns ≤ 8) : Met l yX6_show wsX6_show ({ frames := 2, cells := 0, slots := 0, locals := 46 } : Room) (va_Pc [.ref ko, .int x, .int c, .int m] (xWp G sz (w_X6_show G ko ad w h la tp ft tr mv S))) (Q_X6_show G sz ko ad w h la tp ft tr mv S ns x c m) 0 0 (va_A (w_X6_show G ko ad w h la tp ft tr mv S) sz) := by
  refine Met.ofW (cc := cX6_show) (maxL := 5) (ret := (some .int)) (by decide) rfl ?_
  intro pp ee ss mm aa below mt cd s₁ BB hml hv
  obtain ⟨rfl, hsz, hP, hK, hD0⟩ := hv
  have hx := BB.exec
  have hb := BB.bytes
  have hr := BB.returns
  have hts := atoms_spec (ws := wsX6_show) BB.pre
  have hown : ss.vm.findClass RX6 = some mm.cls := findClass_of_methodNamed BB.named
  have hlocks := BB.notSynchronized
  subst hsz
  have hD := hD0.self (sz := ss.heap.size)
  have hA : ∀ q : Nat, ss.heap.size ≤ q → va_A (w_X6_show G ko ad w h la tp ft tr mv S) ss.heap.size q := fun q h => Or.inr h
  have hS : va_S (va_A (w_X6_show G ko ad w h la tp ft tr mv S) ss.heap.size) ss.heap ss.heap [] := va_S.rf
  replace hD : va_D (va_A (w_X6_show G ko ad w h la tp ft tr mv S) ss.heap.size) [oC ko 6 [.ref (ad 0), .ref (ad 1), .int (nI w), .int (nI h), .int (nI la), .ref (ad 2), .int (mv 0), .int (mv 1), .int (mv 2), .int (mv 3), .int (mv 4), .int (mv 5), .int (mv 6), .ref (ad 3), .int (nI tp), .int (mv 7), .int (mv 8), .int (mv 9), .int (mv 10), .int ft, .int (mv 11), .ref (ad 4), .ref (ad 5), .ref (ad 6), .ref (ad 7), .ref (ad 8), .ref (ad 9), .ref (ad 10), .int tr], iA G (ad 0) 255 S] := hD
  replace hP : xP G [oC ko 6 [.ref (ad 0), .ref (ad 1), .int (nI w), .int (nI h), .int (nI la), .ref (ad 2), .int (mv 0), .int (mv 1), .int (mv 2), .int (mv 3), .int (mv 4), .int (mv 5), .int (mv 6), .ref (ad 3), .int (nI tp), .int (mv 7), .int (mv 8), .int (mv 9), .int (mv 10), .int ft, .int (mv 11), .ref (ad 4), .ref (ad 5), .ref (ad 6), .ref (ad 7), .ref (ad 8), .ref (ad 9), .ref (ad 10), .int tr], iA G (ad 0) 255 S] ss.heap := hP
  have hin6 : ∀ w ∈ u_ws RX6 TX6 29, w ∈ wsX6_show := fun w h => List.mem_cons_of_mem _ (List.mem_append_right _ h)
  have hl := lv_entry ([.ref ko, .int x, .int c, .int m]) (n := 5) (Nat.le_of_ble_eq_true rfl)
  rw [lg_entry_eq]
  generalize (lg_sl ([.ref ko, .int x, .int c, .int m]) ++ List.replicate (5 - (lg_sl ([.ref ko, .int x, .int c, .int m])).length) Slot.unset).toArray = ls at hl ⊢
  replace hl : lv_has ls 5 [(0, .ref ko), (1, .int x), (2, .int c), (3, .int m)] := hl
  refine lv_aload_n hx hb dX6_show_0 rfl (lv_at hl 0 rfl) ?_
  refine lv_iload_n hx hb dX6_show_1 rfl (lv_at hl 1 rfl) ?_
  refine xr_i (As := [.int x]) (rest := []) ⟨hx, hb, hml, hown, hts⟩ (c_X6_isCell l G ko ad w h la tp ft tr mv x (by first | assumption | omega) (by first | assumption | omega)) (cwV 1 hts gX6_show_X6_isCell rfl rfl rfl (by decide +kernel) ⟨Nat.le_of_ble_eq_true rfl, Nat.le_of_ble_eq_true rfl⟩) hK hP hS [0] rfl rfl rfl rfl hl.1 rfl (Nat.le_of_ble_eq_true rfl) dX6_show_2 ⟨Nat.zero_le _, Nat.zero_le _⟩ (fun r2 H locs hp2 hP hS => ?_)
  rw [show r2 = _ from hp2]
  refine xb_if_eq (tgt := 29) hx hb dX6_show_5 rfl (fun b5 => ?_) (fun b5 => ?_)
  · skip
    refine lv_iconst (v := (-1)) hx hb dX6_show_29 (by decide) ?_
    have hP := hP.sub (ws' := [oC ko 6 [.ref (ad 0), .ref (ad 1), .int (nI w), .int (nI h), .int (nI la), .ref (ad 2), .int (mv 0), .int (mv 1), .int (mv 2), .int (mv 3), .int (mv 4), .int (mv 5), .int (mv 6), .ref (ad 3), .int (nI tp), .int (mv 7), .int (mv 8), .int (mv 9), .int (mv 10), .int ft, .int (mv 11), .ref (ad 4), .ref (ad 5), .ref (ad 6), .ref (ad 7), .ref (ad 8), .ref (ad 9), .ref (ad 10), .int tr], iA G (ad 0) 255 S]) [0, 1] rfl
    have hD := hD.sub (ws' := [oC ko 6 [.ref (ad 0), .ref (ad 1), .int (nI w), .int (nI h), .int (nI la), .ref (ad 2), .int (mv 0), .int (mv 1), .int (mv 2), .int (mv 3), .int (mv 4), .int (mv 5), .int (mv 6), .ref (ad 3), .int (nI tp), .int (mv 7), .int (mv 8), .int (mv 9), .int (mv 10), .int ft, .int (mv 11), .ref (ad 4), .ref (ad 5), .ref (ad 6), .ref (ad 7), .ref (ad 8), .ref (ad 9), .ref (ad 10), .int tr], iA G (ad 0) 255 S]) [0, 1] (by decide) rfl
    refine W.iret (v := (-1)) hx hb hr (fun t ht hW => ⟨⟨(-1), (S), rfl, ?_, by rw [ht]; exact hP, hD⟩, hS.F ht⟩) hS.2.2 dX6_show_30
    first | exact ⟨(if_neg (fun q => b5 q.1)).symm, (if_neg (fun q => b5 q.1)).symm⟩ | exact ⟨(if_neg (fun q => b13 q.2.1)).symm, (if_neg (fun q => b13 q.2.1)).symm⟩ | exact ⟨(if_neg (fun q => (q.2.2).elim b19 b26)).symm, (if_neg (fun q => (q.2.2.1).elim b19 b26)).symm⟩ | exact ⟨((if_pos ⟨b5, b13, hmm⟩).trans (if_neg (by omega))).symm, (if_neg (fun q => absurd q.2.2.2 (by omega))).symm⟩ | exact ⟨((if_pos ⟨b5, b13, hmm⟩).trans (if_pos (by omega))).symm, (if_pos ⟨b5, b13, hmm, by omega⟩).symm⟩
  · skip
    refine lv_aload_n hx hb dX6_show_8 rfl (lv_at hl 0 rfl) ?_
    refine lv_iload_n hx hb dX6_show_9 rfl (lv_at hl 2 rfl) ?_
    refine xr_i (As := [.int c]) (rest := []) ⟨hx, hb, hml, hown, hts⟩ (c_X6_isCell l G ko ad w h la tp ft tr mv c (by first | assumption | omega) (by first | assumption | omega)) (cwV 1 hts gX6_show_X6_isCell rfl rfl rfl (by decide +kernel) ⟨Nat.le_of_ble_eq_true rfl, Nat.le_of_ble_eq_true rfl⟩) hK hP hS [0] rfl rfl rfl rfl hl.1 rfl (Nat.le_of_ble_eq_true rfl) dX6_show_10 ⟨Nat.zero_le _, Nat.zero_le _⟩ (fun r10 H locs hp10 hP hS => ?_)
    rw [show r10 = _ from hp10]
    refine xb_if_eq (tgt := 29) hx hb dX6_show_13 rfl (fun b13 => ?_) (fun b13 => ?_)
    · skip
      refine lv_iconst (v := (-1)) hx hb dX6_show_29 (by decide) ?_
      have hP := hP.sub (ws' := [oC ko 6 [.ref (ad 0), .ref (ad 1), .int (nI w), .int (nI h), .int (nI la), .ref (ad 2), .int (mv 0), .int (mv 1), .int (mv 2), .int (mv 3), .int (mv 4), .int (mv 5), .int (mv 6), .ref (ad 3), .int (nI tp), .int (mv 7), .int (mv 8), .int (mv 9), .int (mv 10), .int ft, .int (mv 11), .ref (ad 4), .ref (ad 5), .ref (ad 6), .ref (ad 7), .ref (ad 8), .ref (ad 9), .ref (ad 10), .int tr], iA G (ad 0) 255 S]) [0, 1] rfl
      have hD := hD.sub (ws' := [oC ko 6 [.ref (ad 0), .ref (ad 1), .int (nI w), .int (nI h), .int (nI la), .ref (ad 2), .int (mv 0), .int (mv 1), .int (mv 2), .int (mv 3), .int (mv 4), .int (mv 5), .int (mv 6), .ref (ad 3), .int (nI tp), .int (mv 7), .int (mv 8), .int (mv 9), .int (mv 10), .int ft, .int (mv 11), .ref (ad 4), .ref (ad 5), .ref (ad 6), .ref (ad 7), .ref (ad 8), .ref (ad 9), .ref (ad 10), .int tr], iA G (ad 0) 255 S]) [0, 1] (by decide) rfl
      refine W.iret (v := (-1)) hx hb hr (fun t ht hW => ⟨⟨(-1), (S), rfl, ?_, by rw [ht]; exact hP, hD⟩, hS.F ht⟩) hS.2.2 dX6_show_30
      first | exact ⟨(if_neg (fun q => b5 q.1)).symm, (if_neg (fun q => b5 q.1)).symm⟩ | exact ⟨(if_neg (fun q => b13 q.2.1)).symm, (if_neg (fun q => b13 q.2.1)).symm⟩ | exact ⟨(if_neg (fun q => (q.2.2).elim b19 b26)).symm, (if_neg (fun q => (q.2.2.1).elim b19 b26)).symm⟩ | exact ⟨((if_pos ⟨b5, b13, hmm⟩).trans (if_neg (by omega))).symm, (if_neg (fun q => absurd q.2.2.2 (by omega))).symm⟩ | exact ⟨((if_pos ⟨b5, b13, hmm⟩).trans (if_pos (by omega))).symm, (if_pos ⟨b5, b13, hmm, by omega⟩).symm⟩
    · skip
      refine lv_iload_n hx hb dX6_show_16 rfl (lv_at hl 3 rfl) ?_
      refine lv_bipush (v := (-4)) hx hb dX6_show_17 (by decide) ?_
      refine lv_icmp_eq (tgt := 31) hx hb dX6_show_19 rfl (fun b19 => ?_) (fun b19 => ?_)
      · skip
        have hmm : m = (-4) ∨ inR m 6 := (by first | exact Or.inl b19 | exact Or.inr b26)
        refine lv_aload_n hx hb dX6_show_31 rfl (lv_at hl 0 rfl) ?_
        refine va_get (D := G.1) (ci := 6) (v := .ref (ad 0)) (C := RX6) (T := TX6) (N := 29) hx hb hts hin6 hown hK.1 hP 0 rfl rfl 0 (by decide) (hts (.fieldLink RX6 7 "BackLensesModel" "st" "[I") (List.mem_of_getElem? (i := 1) rfl)) (fun _ h9 => h9) rfl dX6_show_32 ?_
        refine lv_bipush (v := nI 60) hx hb dX6_show_35 (by decide) ?_
        refine xn_iald hx hb hK hP 1 rfl (by omega) (by omega) dX6_show_37 ?_
        refine xn_top (y := nI ns) (by exact hs60) ?_
        refine lv_bipush (v := nI 8) hx hb dX6_show_38 (by decide) ?_
        refine xn_icmp_ne (tgt := 46) hx hb (by omega) (by omega) dX6_show_40 rfl (fun b40 => ?_) (fun b40 => ?_)
        · skip
          refine lv_bipush (v := nI 61) hx hb dX6_show_46 (by decide) ?_
          refine lv_iconst (v := nI 3) hx hb dX6_show_48 (by decide) ?_
          refine lv_aload_n hx hb dX6_show_49 rfl (lv_at hl 0 rfl) ?_
          refine va_get (D := G.1) (ci := 6) (v := .ref (ad 0)) (C := RX6) (T := TX6) (N := 29) hx hb hts hin6 hown hK.1 hP 0 rfl rfl 0 (by decide) (hts (.fieldLink RX6 7 "BackLensesModel" "st" "[I") (List.mem_of_getElem? (i := 1) rfl)) (fun _ h9 => h9) rfl dX6_show_50 ?_
          refine lv_bipush (v := nI 60) hx hb dX6_show_53 (by decide) ?_
          refine xn_iald hx hb hK hP 1 rfl (by omega) (by omega) dX6_show_55 ?_
          refine xn_top (y := nI ns) (by exact hs60) ?_
          refine xn_imul hx hb dX6_show_56 ?_
          refine xn_iadd hx hb dX6_show_57 ?_
          refine lv_istore (lv' := [(4, .int (nI (61 + (3 * ns)))), (0, .ref ko), (1, .int x), (2, .int c), (3, .int m)]) hx hb dX6_show_58 hl (by decide) rfl (fun ls hl => ?_)
          refine lv_aload_n hx hb dX6_show_60 rfl (lv_at hl 1 rfl) ?_
          refine va_get (D := G.1) (ci := 6) (v := .ref (ad 0)) (C := RX6) (T := TX6) (N := 29) hx hb hts hin6 hown hK.1 hP 0 rfl rfl 0 (by decide) (hts (.fieldLink RX6 7 "BackLensesModel" "st" "[I") (List.mem_of_getElem? (i := 1) rfl)) (fun _ h9 => h9) rfl dX6_show_61 ?_
          refine lv_iload hx hb dX6_show_64 (lv_at hl 0 rfl) ?_
          refine lv_iload_n hx hb dX6_show_66 rfl (lv_at hl 2 rfl) ?_
          refine xn_iast hx hb hK hP hD hS 1 rfl (by omega) (by omega) dX6_show_67 (fun H locs hP hD hS => ?_)
          replace hP : xP G [oC ko 6 [.ref (ad 0), .ref (ad 1), .int (nI w), .int (nI h), .int (nI la), .ref (ad 2), .int (mv 0), .int (mv 1), .int (mv 2), .int (mv 3), .int (mv 4), .int (mv 5), .int (mv 6), .ref (ad 3), .int (nI tp), .int (mv 7), .int (mv 8), .int (mv 9), .int (mv 10), .int ft, .int (mv 11), .ref (ad 4), .ref (ad 5), .ref (ad 6), .ref (ad 7), .ref (ad 8), .ref (ad 9), .ref (ad 10), .int tr], iA G (ad 0) 255 (upd S (61 + (3 * ns)) x)] H := hP
          replace hD : va_D (va_A (w_X6_show G ko ad w h la tp ft tr mv S) ss.heap.size) [oC ko 6 [.ref (ad 0), .ref (ad 1), .int (nI w), .int (nI h), .int (nI la), .ref (ad 2), .int (mv 0), .int (mv 1), .int (mv 2), .int (mv 3), .int (mv 4), .int (mv 5), .int (mv 6), .ref (ad 3), .int (nI tp), .int (mv 7), .int (mv 8), .int (mv 9), .int (mv 10), .int ft, .int (mv 11), .ref (ad 4), .ref (ad 5), .ref (ad 6), .ref (ad 7), .ref (ad 8), .ref (ad 9), .ref (ad 10), .int tr], iA G (ad 0) 255 (upd S (61 + (3 * ns)) x)] := hD
          refine lv_aload_n hx hb dX6_show_68 rfl (lv_at hl 1 rfl) ?_
          refine va_get (D := G.1) (ci := 6) (v := .ref (ad 0)) (C := RX6) (T := TX6) (N := 29) hx hb hts hin6 hown hK.1 hP 0 rfl rfl 0 (by decide) (hts (.fieldLink RX6 7 "BackLensesModel" "st" "[I") (List.mem_of_getElem? (i := 1) rfl)) (fun _ h9 => h9) rfl dX6_show_69 ?_
          refine lv_iload hx hb dX6_show_72 (lv_at hl 0 rfl) ?_
          refine lv_iconst (v := nI 1) hx hb dX6_show_74 (by decide) ?_
          refine xn_iadd hx hb dX6_show_75 ?_
          refine lv_iload_n hx hb dX6_show_76 rfl (lv_at hl 3 rfl) ?_
          refine xn_iast hx hb hK hP hD hS 1 rfl (by omega) (by omega) dX6_show_77 (fun H locs hP hD hS => ?_)
          replace hP : xP G [oC ko 6 [.ref (ad 0), .ref (ad 1), .int (nI w), .int (nI h), .int (nI la), .ref (ad 2), .int (mv 0), .int (mv 1), .int (mv 2), .int (mv 3), .int (mv 4), .int (mv 5), .int (mv 6), .ref (ad 3), .int (nI tp), .int (mv 7), .int (mv 8), .int (mv 9), .int (mv 10), .int ft, .int (mv 11), .ref (ad 4), .ref (ad 5), .ref (ad 6), .ref (ad 7), .ref (ad 8), .ref (ad 9), .ref (ad 10), .int tr], iA G (ad 0) 255 (upd (upd S (61 + (3 * ns)) x) ((61 + (3 * ns)) + 1) c)] H := hP
          replace hD : va_D (va_A (w_X6_show G ko ad w h la tp ft tr mv S) ss.heap.size) [oC ko 6 [.ref (ad 0), .ref (ad 1), .int (nI w), .int (nI h), .int (nI la), .ref (ad 2), .int (mv 0), .int (mv 1), .int (mv 2), .int (mv 3), .int (mv 4), .int (mv 5), .int (mv 6), .ref (ad 3), .int (nI tp), .int (mv 7), .int (mv 8), .int (mv 9), .int (mv 10), .int ft, .int (mv 11), .ref (ad 4), .ref (ad 5), .ref (ad 6), .ref (ad 7), .ref (ad 8), .ref (ad 9), .ref (ad 10), .int tr], iA G (ad 0) 255 (upd (upd S (61 + (3 * ns)) x) ((61 + (3 * ns)) + 1) c)] := hD
          refine lv_aload_n hx hb dX6_show_78 rfl (lv_at hl 1 rfl) ?_
          refine va_get (D := G.1) (ci := 6) (v := .ref (ad 0)) (C := RX6) (T := TX6) (N := 29) hx hb hts hin6 hown hK.1 hP 0 rfl rfl 0 (by decide) (hts (.fieldLink RX6 7 "BackLensesModel" "st" "[I") (List.mem_of_getElem? (i := 1) rfl)) (fun _ h9 => h9) rfl dX6_show_79 ?_
          refine lv_iload hx hb dX6_show_82 (lv_at hl 0 rfl) ?_
          refine lv_iconst (v := nI 2) hx hb dX6_show_84 (by decide) ?_
          refine xn_iadd hx hb dX6_show_85 ?_
          refine lv_iload_n hx hb dX6_show_86 rfl (lv_at hl 4 rfl) ?_
          refine xn_iast hx hb hK hP hD hS 1 rfl (by omega) (by omega) dX6_show_87 (fun H locs hP hD hS => ?_)
          replace hP : xP G [oC ko 6 [.ref (ad 0), .ref (ad 1), .int (nI w), .int (nI h), .int (nI la), .ref (ad 2), .int (mv 0), .int (mv 1), .int (mv 2), .int (mv 3), .int (mv 4), .int (mv 5), .int (mv 6), .ref (ad 3), .int (nI tp), .int (mv 7), .int (mv 8), .int (mv 9), .int (mv 10), .int ft, .int (mv 11), .ref (ad 4), .ref (ad 5), .ref (ad 6), .ref (ad 7), .ref (ad 8), .ref (ad 9), .ref (ad 10), .int tr], iA G (ad 0) 255 (upd (upd (upd S (61 + (3 * ns)) x) ((61 + (3 * ns)) + 1) c) ((61 + (3 * ns)) + 2) m)] H := hP
          replace hD : va_D (va_A (w_X6_show G ko ad w h la tp ft tr mv S) ss.heap.size) [oC ko 6 [.ref (ad 0), .ref (ad 1), .int (nI w), .int (nI h), .int (nI la), .ref (ad 2), .int (mv 0), .int (mv 1), .int (mv 2), .int (mv 3), .int (mv 4), .int (mv 5), .int (mv 6), .ref (ad 3), .int (nI tp), .int (mv 7), .int (mv 8), .int (mv 9), .int (mv 10), .int ft, .int (mv 11), .ref (ad 4), .ref (ad 5), .ref (ad 6), .ref (ad 7), .ref (ad 8), .ref (ad 9), .ref (ad 10), .int tr], iA G (ad 0) 255 (upd (upd (upd S (61 + (3 * ns)) x) ((61 + (3 * ns)) + 1) c) ((61 + (3 * ns)) + 2) m)] := hD
          refine lv_aload_n hx hb dX6_show_88 rfl (lv_at hl 1 rfl) ?_
          refine va_get (D := G.1) (ci := 6) (v := .ref (ad 0)) (C := RX6) (T := TX6) (N := 29) hx hb hts hin6 hown hK.1 hP 0 rfl rfl 0 (by decide) (hts (.fieldLink RX6 7 "BackLensesModel" "st" "[I") (List.mem_of_getElem? (i := 1) rfl)) (fun _ h9 => h9) rfl dX6_show_89 ?_
          refine lv_bipush (v := nI 60) hx hb dX6_show_92 (by decide) ?_
          refine lv_dup2_11 hx hb dX6_show_94 rfl rfl ?_
          refine xn_iald hx hb hK hP 1 rfl (by omega) (by omega) dX6_show_95 ?_
          refine xn_top (y := nI ns) (by rw [upd_ne (by omega), upd_ne (by omega), upd_ne (by omega)]; exact hs60) ?_
          refine lv_iconst (v := nI 1) hx hb dX6_show_96 (by decide) ?_
          refine xn_iadd hx hb dX6_show_97 ?_
          refine xn_iast hx hb hK hP hD hS 1 rfl (by omega) (by omega) dX6_show_98 (fun H locs hP hD hS => ?_)
          replace hP : xP G [oC ko 6 [.ref (ad 0), .ref (ad 1), .int (nI w), .int (nI h), .int (nI la), .ref (ad 2), .int (mv 0), .int (mv 1), .int (mv 2), .int (mv 3), .int (mv 4), .int (mv 5), .int (mv 6), .ref (ad 3), .int (nI tp), .int (mv 7), .int (mv 8), .int (mv 9), .int (mv 10), .int ft, .int (mv 11), .ref (ad 4), .ref (ad 5), .ref (ad 6), .ref (ad 7), .ref (ad 8), .ref (ad 9), .ref (ad 10), .int tr], iA G (ad 0) 255 (upd (upd (upd (upd S (61 + (3 * ns)) x) ((61 + (3 * ns)) + 1) c) ((61 + (3 * ns)) + 2) m) 60 (nI (ns + 1)))] H := hP
          replace hD : va_D (va_A (w_X6_show G ko ad w h la tp ft tr mv S) ss.heap.size) [oC ko 6 [.ref (ad 0), .ref (ad 1), .int (nI w), .int (nI h), .int (nI la), .ref (ad 2), .int (mv 0), .int (mv 1), .int (mv 2), .int (mv 3), .int (mv 4), .int (mv 5), .int (mv 6), .ref (ad 3), .int (nI tp), .int (mv 7), .int (mv 8), .int (mv 9), .int (mv 10), .int ft, .int (mv 11), .ref (ad 4), .ref (ad 5), .ref (ad 6), .ref (ad 7), .ref (ad 8), .ref (ad 9), .ref (ad 10), .int tr], iA G (ad 0) 255 (upd (upd (upd (upd S (61 + (3 * ns)) x) ((61 + (3 * ns)) + 1) c) ((61 + (3 * ns)) + 2) m) 60 (nI (ns + 1)))] := hD
          refine lv_aload_n hx hb dX6_show_99 rfl (lv_at hl 1 rfl) ?_
          refine va_get (D := G.1) (ci := 6) (v := .ref (ad 0)) (C := RX6) (T := TX6) (N := 29) hx hb hts hin6 hown hK.1 hP 0 rfl rfl 0 (by decide) (hts (.fieldLink RX6 7 "BackLensesModel" "st" "[I") (List.mem_of_getElem? (i := 1) rfl)) (fun _ h9 => h9) rfl dX6_show_100 ?_
          refine lv_bipush (v := nI 60) hx hb dX6_show_103 (by decide) ?_
          refine xn_iald hx hb hK hP 1 rfl (by omega) (by omega) dX6_show_105 ?_
          refine xn_top (y := nI (ns + 1)) (by exact upd_eq) ?_
          have hP := hP.sub (ws' := [oC ko 6 [.ref (ad 0), .ref (ad 1), .int (nI w), .int (nI h), .int (nI la), .ref (ad 2), .int (mv 0), .int (mv 1), .int (mv 2), .int (mv 3), .int (mv 4), .int (mv 5), .int (mv 6), .ref (ad 3), .int (nI tp), .int (mv 7), .int (mv 8), .int (mv 9), .int (mv 10), .int ft, .int (mv 11), .ref (ad 4), .ref (ad 5), .ref (ad 6), .ref (ad 7), .ref (ad 8), .ref (ad 9), .ref (ad 10), .int tr], iA G (ad 0) 255 (upd (upd (upd (upd S (61 + (3 * ns)) x) ((61 + (3 * ns)) + 1) c) ((61 + (3 * ns)) + 2) m) 60 (nI (ns + 1)))]) [0, 1] rfl
          have hD := hD.sub (ws' := [oC ko 6 [.ref (ad 0), .ref (ad 1), .int (nI w), .int (nI h), .int (nI la), .ref (ad 2), .int (mv 0), .int (mv 1), .int (mv 2), .int (mv 3), .int (mv 4), .int (mv 5), .int (mv 6), .ref (ad 3), .int (nI tp), .int (mv 7), .int (mv 8), .int (mv 9), .int (mv 10), .int ft, .int (mv 11), .ref (ad 4), .ref (ad 5), .ref (ad 6), .ref (ad 7), .ref (ad 8), .ref (ad 9), .ref (ad 10), .int tr], iA G (ad 0) 255 (upd (upd (upd (upd S (61 + (3 * ns)) x) ((61 + (3 * ns)) + 1) c) ((61 + (3 * ns)) + 2) m) 60 (nI (ns + 1)))]) [0, 1] (by decide) rfl
          refine W.iret (v := nI (ns + 1)) hx hb hr (fun t ht hW => ⟨⟨nI (ns + 1), (upd (upd (upd (upd S (61 + (3 * ns)) x) ((61 + (3 * ns)) + 1) c) ((61 + (3 * ns)) + 2) m) 60 (nI (ns + 1))), rfl, ?_, by rw [ht]; exact hP, hD⟩, hS.F ht⟩) hS.2.2 dX6_show_106
          first | exact ⟨(if_neg (fun q => b5 q.1)).symm, (if_neg (fun q => b5 q.1)).symm⟩ | exact ⟨(if_neg (fun q => b13 q.2.1)).symm, (if_neg (fun q => b13 q.2.1)).symm⟩ | exact ⟨(if_neg (fun q => (q.2.2).elim b19 b26)).symm, (if_neg (fun q => (q.2.2.1).elim b19 b26)).symm⟩ | exact ⟨((if_pos ⟨b5, b13, hmm⟩).trans (if_neg (by omega))).symm, (if_neg (fun q => absurd q.2.2.2 (by omega))).symm⟩ | exact ⟨((if_pos ⟨b5, b13, hmm⟩).trans (if_pos (by omega))).symm, (if_pos ⟨b5, b13, hmm, by omega⟩).symm⟩
        · skip
          refine lv_bipush (v := (-3)) hx hb dX6_show_43 (by decide) ?_
          have hP := hP.sub (ws' := [oC ko 6 [.ref (ad 0), .ref (ad 1), .int (nI w), .int (nI h), .int (nI la), .ref (ad 2), .int (mv 0), .int (mv 1), .int (mv 2), .int (mv 3), .int (mv 4), .int (mv 5), .int (mv 6), .ref (ad 3), .int (nI tp), .int (mv 7), .int (mv 8), .int (mv 9), .int (mv 10), .int ft, .int (mv 11), .ref (ad 4), .ref (ad 5), .ref (ad 6), .ref (ad 7), .ref (ad 8), .ref (ad 9), .ref (ad 10), .int tr], iA G (ad 0) 255 S]) [0, 1] rfl
          have hD := hD.sub (ws' := [oC ko 6 [.ref (ad 0), .ref (ad 1), .int (nI w), .int (nI h), .int (nI la), .ref (ad 2), .int (mv 0), .int (mv 1), .int (mv 2), .int (mv 3), .int (mv 4), .int (mv 5), .int (mv 6), .ref (ad 3), .int (nI tp), .int (mv 7), .int (mv 8), .int (mv 9), .int (mv 10), .int ft, .int (mv 11), .ref (ad 4), .ref (ad 5), .ref (ad 6), .ref (ad 7), .ref (ad 8), .ref (ad 9), .ref (ad 10), .int tr], iA G (ad 0) 255 S]) [0, 1] (by decide) rfl
          refine W.iret (v := (-3)) hx hb hr (fun t ht hW => ⟨⟨(-3), (S), rfl, ?_, by rw [ht]; exact hP, hD⟩, hS.F ht⟩) hS.2.2 dX6_show_45
          first | exact ⟨(if_neg (fun q => b5 q.1)).symm, (if_neg (fun q => b5 q.1)).symm⟩ | exact ⟨(if_neg (fun q => b13 q.2.1)).symm, (if_neg (fun q => b13 q.2.1)).symm⟩ | exact ⟨(if_neg (fun q => (q.2.2).elim b19 b26)).symm, (if_neg (fun q => (q.2.2.1).elim b19 b26)).symm⟩ | exact ⟨((if_pos ⟨b5, b13, hmm⟩).trans (if_neg (by omega))).symm, (if_neg (fun q => absurd q.2.2.2 (by omega))).symm⟩ | exact ⟨((if_pos ⟨b5, b13, hmm⟩).trans (if_pos (by omega))).symm, (if_pos ⟨b5, b13, hmm, by omega⟩).symm⟩
      · skip
        refine lv_iload_n hx hb dX6_show_22 rfl (lv_at hl 3 rfl) ?_
        refine xs_i (As := [.int m]) (rest := []) ⟨hx, hb, hml, hown, hts⟩ (c_X6_isMark l G m ) (va_cwS 1 hts gX6_show_X6_isMark rfl rfl rfl (by decide +kernel) ⟨Nat.le_of_ble_eq_true rfl, Nat.le_of_ble_eq_true rfl⟩) hP hS rfl hl.1 rfl (Nat.le_of_ble_eq_true rfl) dX6_show_23 ⟨Nat.zero_le _, Nat.zero_le _⟩ (fun r23 H locs hp23 hP hS => ?_)
        rw [show r23 = _ from hp23]
        refine xb_if_ne (tgt := 31) hx hb dX6_show_26 rfl (fun b26 => ?_) (fun b26 => ?_)
        · skip
          have hmm : m = (-4) ∨ inR m 6 := (by first | exact Or.inl b19 | exact Or.inr b26)
          refine lv_aload_n hx hb dX6_show_31 rfl (lv_at hl 0 rfl) ?_
          refine va_get (D := G.1) (ci := 6) (v := .ref (ad 0)) (C := RX6) (T := TX6) (N := 29) hx hb hts hin6 hown hK.1 hP 0 rfl rfl 0 (by decide) (hts (.fieldLink RX6 7 "BackLensesModel" "st" "[I") (List.mem_of_getElem? (i := 1) rfl)) (fun _ h9 => h9) rfl dX6_show_32 ?_
          refine lv_bipush (v := nI 60) hx hb dX6_show_35 (by decide) ?_
          refine xn_iald hx hb hK hP 1 rfl (by omega) (by omega) dX6_show_37 ?_
          refine xn_top (y := nI ns) (by exact hs60) ?_
          refine lv_bipush (v := nI 8) hx hb dX6_show_38 (by decide) ?_
          refine xn_icmp_ne (tgt := 46) hx hb (by omega) (by omega) dX6_show_40 rfl (fun b40 => ?_) (fun b40 => ?_)
          · skip
            refine lv_bipush (v := nI 61) hx hb dX6_show_46 (by decide) ?_
            refine lv_iconst (v := nI 3) hx hb dX6_show_48 (by decide) ?_
            refine lv_aload_n hx hb dX6_show_49 rfl (lv_at hl 0 rfl) ?_
            refine va_get (D := G.1) (ci := 6) (v := .ref (ad 0)) (C := RX6) (T := TX6) (N := 29) hx hb hts hin6 hown hK.1 hP 0 rfl rfl 0 (by decide) (hts (.fieldLink RX6 7 "BackLensesModel" "st" "[I") (List.mem_of_getElem? (i := 1) rfl)) (fun _ h9 => h9) rfl dX6_show_50 ?_
            refine lv_bipush (v := nI 60) hx hb dX6_show_53 (by decide) ?_
            refine xn_iald hx hb hK hP 1 rfl (by omega) (by omega) dX6_show_55 ?_
            refine xn_top (y := nI ns) (by exact hs60) ?_
            refine xn_imul hx hb dX6_show_56 ?_
            refine xn_iadd hx hb dX6_show_57 ?_
            refine lv_istore (lv' := [(4, .int (nI (61 + (3 * ns)))), (0, .ref ko), (1, .int x), (2, .int c), (3, .int m)]) hx hb dX6_show_58 hl (by decide) rfl (fun ls hl => ?_)
            refine lv_aload_n hx hb dX6_show_60 rfl (lv_at hl 1 rfl) ?_
            refine va_get (D := G.1) (ci := 6) (v := .ref (ad 0)) (C := RX6) (T := TX6) (N := 29) hx hb hts hin6 hown hK.1 hP 0 rfl rfl 0 (by decide) (hts (.fieldLink RX6 7 "BackLensesModel" "st" "[I") (List.mem_of_getElem? (i := 1) rfl)) (fun _ h9 => h9) rfl dX6_show_61 ?_
            refine lv_iload hx hb dX6_show_64 (lv_at hl 0 rfl) ?_
            refine lv_iload_n hx hb dX6_show_66 rfl (lv_at hl 2 rfl) ?_
            refine xn_iast hx hb hK hP hD hS 1 rfl (by omega) (by omega) dX6_show_67 (fun H locs hP hD hS => ?_)
            replace hP : xP G [oC ko 6 [.ref (ad 0), .ref (ad 1), .int (nI w), .int (nI h), .int (nI la), .ref (ad 2), .int (mv 0), .int (mv 1), .int (mv 2), .int (mv 3), .int (mv 4), .int (mv 5), .int (mv 6), .ref (ad 3), .int (nI tp), .int (mv 7), .int (mv 8), .int (mv 9), .int (mv 10), .int ft, .int (mv 11), .ref (ad 4), .ref (ad 5), .ref (ad 6), .ref (ad 7), .ref (ad 8), .ref (ad 9), .ref (ad 10), .int tr], iA G (ad 0) 255 (upd S (61 + (3 * ns)) x)] H := hP
            replace hD : va_D (va_A (w_X6_show G ko ad w h la tp ft tr mv S) ss.heap.size) [oC ko 6 [.ref (ad 0), .ref (ad 1), .int (nI w), .int (nI h), .int (nI la), .ref (ad 2), .int (mv 0), .int (mv 1), .int (mv 2), .int (mv 3), .int (mv 4), .int (mv 5), .int (mv 6), .ref (ad 3), .int (nI tp), .int (mv 7), .int (mv 8), .int (mv 9), .int (mv 10), .int ft, .int (mv 11), .ref (ad 4), .ref (ad 5), .ref (ad 6), .ref (ad 7), .ref (ad 8), .ref (ad 9), .ref (ad 10), .int tr], iA G (ad 0) 255 (upd S (61 + (3 * ns)) x)] := hD
            refine lv_aload_n hx hb dX6_show_68 rfl (lv_at hl 1 rfl) ?_
            refine va_get (D := G.1) (ci := 6) (v := .ref (ad 0)) (C := RX6) (T := TX6) (N := 29) hx hb hts hin6 hown hK.1 hP 0 rfl rfl 0 (by decide) (hts (.fieldLink RX6 7 "BackLensesModel" "st" "[I") (List.mem_of_getElem? (i := 1) rfl)) (fun _ h9 => h9) rfl dX6_show_69 ?_
            refine lv_iload hx hb dX6_show_72 (lv_at hl 0 rfl) ?_
            refine lv_iconst (v := nI 1) hx hb dX6_show_74 (by decide) ?_
            refine xn_iadd hx hb dX6_show_75 ?_
            refine lv_iload_n hx hb dX6_show_76 rfl (lv_at hl 3 rfl) ?_
            refine xn_iast hx hb hK hP hD hS 1 rfl (by omega) (by omega) dX6_show_77 (fun H locs hP hD hS => ?_)
            replace hP : xP G [oC ko 6 [.ref (ad 0), .ref (ad 1), .int (nI w), .int (nI h), .int (nI la), .ref (ad 2), .int (mv 0), .int (mv 1), .int (mv 2), .int (mv 3), .int (mv 4), .int (mv 5), .int (mv 6), .ref (ad 3), .int (nI tp), .int (mv 7), .int (mv 8), .int (mv 9), .int (mv 10), .int ft, .int (mv 11), .ref (ad 4), .ref (ad 5), .ref (ad 6), .ref (ad 7), .ref (ad 8), .ref (ad 9), .ref (ad 10), .int tr], iA G (ad 0) 255 (upd (upd S (61 + (3 * ns)) x) ((61 + (3 * ns)) + 1) c)] H := hP
            replace hD : va_D (va_A (w_X6_show G ko ad w h la tp ft tr mv S) ss.heap.size) [oC ko 6 [.ref (ad 0), .ref (ad 1), .int (nI w), .int (nI h), .int (nI la), .ref (ad 2), .int (mv 0), .int (mv 1), .int (mv 2), .int (mv 3), .int (mv 4), .int (mv 5), .int (mv 6), .ref (ad 3), .int (nI tp), .int (mv 7), .int (mv 8), .int (mv 9), .int (mv 10), .int ft, .int (mv 11), .ref (ad 4), .ref (ad 5), .ref (ad 6), .ref (ad 7), .ref (ad 8), .ref (ad 9), .ref (ad 10), .int tr], iA G (ad 0) 255 (upd (upd S (61 + (3 * ns)) x) ((61 + (3 * ns)) + 1) c)] := hD
            refine lv_aload_n hx hb dX6_show_78 rfl (lv_at hl 1 rfl) ?_
            refine va_get (D := G.1) (ci := 6) (v := .ref (ad 0)) (C := RX6) (T := TX6) (N := 29) hx hb hts hin6 hown hK.1 hP 0 rfl rfl 0 (by decide) (hts (.fieldLink RX6 7 "BackLensesModel" "st" "[I") (List.mem_of_getElem? (i := 1) rfl)) (fun _ h9 => h9) rfl dX6_show_79 ?_
            refine lv_iload hx hb dX6_show_82 (lv_at hl 0 rfl) ?_
            refine lv_iconst (v := nI 2) hx hb dX6_show_84 (by decide) ?_
            refine xn_iadd hx hb dX6_show_85 ?_
            refine lv_iload_n hx hb dX6_show_86 rfl (lv_at hl 4 rfl) ?_
            refine xn_iast hx hb hK hP hD hS 1 rfl (by omega) (by omega) dX6_show_87 (fun H locs hP hD hS => ?_)
            replace hP : xP G [oC ko 6 [.ref (ad 0), .ref (ad 1), .int (nI w), .int (nI h), .int (nI la), .ref (ad 2), .int (mv 0), .int (mv 1), .int (mv 2), .int (mv 3), .int (mv 4), .int (mv 5), .int (mv 6), .ref (ad 3), .int (nI tp), .int (mv 7), .int (mv 8), .int (mv 9), .int (mv 10), .int ft, .int (mv 11), .ref (ad 4), .ref (ad 5), .ref (ad 6), .ref (ad 7), .ref (ad 8), .ref (ad 9), .ref (ad 10), .int tr], iA G (ad 0) 255 (upd (upd (upd S (61 + (3 * ns)) x) ((61 + (3 * ns)) + 1) c) ((61 + (3 * ns)) + 2) m)] H := hP
            replace hD : va_D (va_A (w_X6_show G ko ad w h la tp ft tr mv S) ss.heap.size) [oC ko 6 [.ref (ad 0), .ref (ad 1), .int (nI w), .int (nI h), .int (nI la), .ref (ad 2), .int (mv 0), .int (mv 1), .int (mv 2), .int (mv 3), .int (mv 4), .int (mv 5), .int (mv 6), .ref (ad 3), .int (nI tp), .int (mv 7), .int (mv 8), .int (mv 9), .int (mv 10), .int ft, .int (mv 11), .ref (ad 4), .ref (ad 5), .ref (ad 6), .ref (ad 7), .ref (ad 8), .ref (ad 9), .ref (ad 10), .int tr], iA G (ad 0) 255 (upd (upd (upd S (61 + (3 * ns)) x) ((61 + (3 * ns)) + 1) c) ((61 + (3 * ns)) + 2) m)] := hD
            refine lv_aload_n hx hb dX6_show_88 rfl (lv_at hl 1 rfl) ?_
            refine va_get (D := G.1) (ci := 6) (v := .ref (ad 0)) (C := RX6) (T := TX6) (N := 29) hx hb hts hin6 hown hK.1 hP 0 rfl rfl 0 (by decide) (hts (.fieldLink RX6 7 "BackLensesModel" "st" "[I") (List.mem_of_getElem? (i := 1) rfl)) (fun _ h9 => h9) rfl dX6_show_89 ?_
            refine lv_bipush (v := nI 60) hx hb dX6_show_92 (by decide) ?_
            refine lv_dup2_11 hx hb dX6_show_94 rfl rfl ?_
            refine xn_iald hx hb hK hP 1 rfl (by omega) (by omega) dX6_show_95 ?_
            refine xn_top (y := nI ns) (by rw [upd_ne (by omega), upd_ne (by omega), upd_ne (by omega)]; exact hs60) ?_
            refine lv_iconst (v := nI 1) hx hb dX6_show_96 (by decide) ?_
            refine xn_iadd hx hb dX6_show_97 ?_
            refine xn_iast hx hb hK hP hD hS 1 rfl (by omega) (by omega) dX6_show_98 (fun H locs hP hD hS => ?_)
            replace hP : xP G [oC ko 6 [.ref (ad 0), .ref (ad 1), .int (nI w), .int (nI h), .int (nI la), .ref (ad 2), .int (mv 0), .int (mv 1), .int (mv 2), .int (mv 3), .int (mv 4), .int (mv 5), .int (mv 6), .ref (ad 3), .int (nI tp), .int (mv 7), .int (mv 8), .int (mv 9), .int (mv 10), .int ft, .int (mv 11), .ref (ad 4), .ref (ad 5), .ref (ad 6), .ref (ad 7), .ref (ad 8), .ref (ad 9), .ref (ad 10), .int tr], iA G (ad 0) 255 (upd (upd (upd (upd S (61 + (3 * ns)) x) ((61 + (3 * ns)) + 1) c) ((61 + (3 * ns)) + 2) m) 60 (nI (ns + 1)))] H := hP
            replace hD : va_D (va_A (w_X6_show G ko ad w h la tp ft tr mv S) ss.heap.size) [oC ko 6 [.ref (ad 0), .ref (ad 1), .int (nI w), .int (nI h), .int (nI la), .ref (ad 2), .int (mv 0), .int (mv 1), .int (mv 2), .int (mv 3), .int (mv 4), .int (mv 5), .int (mv 6), .ref (ad 3), .int (nI tp), .int (mv 7), .int (mv 8), .int (mv 9), .int (mv 10), .int ft, .int (mv 11), .ref (ad 4), .ref (ad 5), .ref (ad 6), .ref (ad 7), .ref (ad 8), .ref (ad 9), .ref (ad 10), .int tr], iA G (ad 0) 255 (upd (upd (upd (upd S (61 + (3 * ns)) x) ((61 + (3 * ns)) + 1) c) ((61 + (3 * ns)) + 2) m) 60 (nI (ns + 1)))] := hD
            refine lv_aload_n hx hb dX6_show_99 rfl (lv_at hl 1 rfl) ?_
            refine va_get (D := G.1) (ci := 6) (v := .ref (ad 0)) (C := RX6) (T := TX6) (N := 29) hx hb hts hin6 hown hK.1 hP 0 rfl rfl 0 (by decide) (hts (.fieldLink RX6 7 "BackLensesModel" "st" "[I") (List.mem_of_getElem? (i := 1) rfl)) (fun _ h9 => h9) rfl dX6_show_100 ?_
            refine lv_bipush (v := nI 60) hx hb dX6_show_103 (by decide) ?_
            refine xn_iald hx hb hK hP 1 rfl (by omega) (by omega) dX6_show_105 ?_
            refine xn_top (y := nI (ns + 1)) (by exact upd_eq) ?_
            have hP := hP.sub (ws' := [oC ko 6 [.ref (ad 0), .ref (ad 1), .int (nI w), .int (nI h), .int (nI la), .ref (ad 2), .int (mv 0), .int (mv 1), .int (mv 2), .int (mv 3), .int (mv 4), .int (mv 5), .int (mv 6), .ref (ad 3), .int (nI tp), .int (mv 7), .int (mv 8), .int (mv 9), .int (mv 10), .int ft, .int (mv 11), .ref (ad 4), .ref (ad 5), .ref (ad 6), .ref (ad 7), .ref (ad 8), .ref (ad 9), .ref (ad 10), .int tr], iA G (ad 0) 255 (upd (upd (upd (upd S (61 + (3 * ns)) x) ((61 + (3 * ns)) + 1) c) ((61 + (3 * ns)) + 2) m) 60 (nI (ns + 1)))]) [0, 1] rfl
            have hD := hD.sub (ws' := [oC ko 6 [.ref (ad 0), .ref (ad 1), .int (nI w), .int (nI h), .int (nI la), .ref (ad 2), .int (mv 0), .int (mv 1), .int (mv 2), .int (mv 3), .int (mv 4), .int (mv 5), .int (mv 6), .ref (ad 3), .int (nI tp), .int (mv 7), .int (mv 8), .int (mv 9), .int (mv 10), .int ft, .int (mv 11), .ref (ad 4), .ref (ad 5), .ref (ad 6), .ref (ad 7), .ref (ad 8), .ref (ad 9), .ref (ad 10), .int tr], iA G (ad 0) 255 (upd (upd (upd (upd S (61 + (3 * ns)) x) ((61 + (3 * ns)) + 1) c) ((61 + (3 * ns)) + 2) m) 60 (nI (ns + 1)))]) [0, 1] (by decide) rfl
            refine W.iret (v := nI (ns + 1)) hx hb hr (fun t ht hW => ⟨⟨nI (ns + 1), (upd (upd (upd (upd S (61 + (3 * ns)) x) ((61 + (3 * ns)) + 1) c) ((61 + (3 * ns)) + 2) m) 60 (nI (ns + 1))), rfl, ?_, by rw [ht]; exact hP, hD⟩, hS.F ht⟩) hS.2.2 dX6_show_106
            first | exact ⟨(if_neg (fun q => b5 q.1)).symm, (if_neg (fun q => b5 q.1)).symm⟩ | exact ⟨(if_neg (fun q => b13 q.2.1)).symm, (if_neg (fun q => b13 q.2.1)).symm⟩ | exact ⟨(if_neg (fun q => (q.2.2).elim b19 b26)).symm, (if_neg (fun q => (q.2.2.1).elim b19 b26)).symm⟩ | exact ⟨((if_pos ⟨b5, b13, hmm⟩).trans (if_neg (by omega))).symm, (if_neg (fun q => absurd q.2.2.2 (by omega))).symm⟩ | exact ⟨((if_pos ⟨b5, b13, hmm⟩).trans (if_pos (by omega))).symm, (if_pos ⟨b5, b13, hmm, by omega⟩).symm⟩
          · skip
            refine lv_bipush (v := (-3)) hx hb dX6_show_43 (by decide) ?_
            have hP := hP.sub (ws' := [oC ko 6 [.ref (ad 0), .ref (ad 1), .int (nI w), .int (nI h), .int (nI la), .ref (ad 2), .int (mv 0), .int (mv 1), .int (mv 2), .int (mv 3), .int (mv 4), .int (mv 5), .int (mv 6), .ref (ad 3), .int (nI tp), .int (mv 7), .int (mv 8), .int (mv 9), .int (mv 10), .int ft, .int (mv 11), .ref (ad 4), .ref (ad 5), .ref (ad 6), .ref (ad 7), .ref (ad 8), .ref (ad 9), .ref (ad 10), .int tr], iA G (ad 0) 255 S]) [0, 1] rfl
            have hD := hD.sub (ws' := [oC ko 6 [.ref (ad 0), .ref (ad 1), .int (nI w), .int (nI h), .int (nI la), .ref (ad 2), .int (mv 0), .int (mv 1), .int (mv 2), .int (mv 3), .int (mv 4), .int (mv 5), .int (mv 6), .ref (ad 3), .int (nI tp), .int (mv 7), .int (mv 8), .int (mv 9), .int (mv 10), .int ft, .int (mv 11), .ref (ad 4), .ref (ad 5), .ref (ad 6), .ref (ad 7), .ref (ad 8), .ref (ad 9), .ref (ad 10), .int tr], iA G (ad 0) 255 S]) [0, 1] (by decide) rfl
            refine W.iret (v := (-3)) hx hb hr (fun t ht hW => ⟨⟨(-3), (S), rfl, ?_, by rw [ht]; exact hP, hD⟩, hS.F ht⟩) hS.2.2 dX6_show_45
            first | exact ⟨(if_neg (fun q => b5 q.1)).symm, (if_neg (fun q => b5 q.1)).symm⟩ | exact ⟨(if_neg (fun q => b13 q.2.1)).symm, (if_neg (fun q => b13 q.2.1)).symm⟩ | exact ⟨(if_neg (fun q => (q.2.2).elim b19 b26)).symm, (if_neg (fun q => (q.2.2.1).elim b19 b26)).symm⟩ | exact ⟨((if_pos ⟨b5, b13, hmm⟩).trans (if_neg (by omega))).symm, (if_neg (fun q => absurd q.2.2.2 (by omega))).symm⟩ | exact ⟨((if_pos ⟨b5, b13, hmm⟩).trans (if_pos (by omega))).symm, (if_pos ⟨b5, b13, hmm, by omega⟩).symm⟩
        · skip
          refine lv_iconst (v := (-1)) hx hb dX6_show_29 (by decide) ?_
          have hP := hP.sub (ws' := [oC ko 6 [.ref (ad 0), .ref (ad 1), .int (nI w), .int (nI h), .int (nI la), .ref (ad 2), .int (mv 0), .int (mv 1), .int (mv 2), .int (mv 3), .int (mv 4), .int (mv 5), .int (mv 6), .ref (ad 3), .int (nI tp), .int (mv 7), .int (mv 8), .int (mv 9), .int (mv 10), .int ft, .int (mv 11), .ref (ad 4), .ref (ad 5), .ref (ad 6), .ref (ad 7), .ref (ad 8), .ref (ad 9), .ref (ad 10), .int tr], iA G (ad 0) 255 S]) [0, 1] rfl
          have hD := hD.sub (ws' := [oC ko 6 [.ref (ad 0), .ref (ad 1), .int (nI w), .int (nI h), .int (nI la), .ref (ad 2), .int (mv 0), .int (mv 1), .int (mv 2), .int (mv 3), .int (mv 4), .int (mv 5), .int (mv 6), .ref (ad 3), .int (nI tp), .int (mv 7), .int (mv 8), .int (mv 9), .int (mv 10), .int ft, .int (mv 11), .ref (ad 4), .ref (ad 5), .ref (ad 6), .ref (ad 7), .ref (ad 8), .ref (ad 9), .ref (ad 10), .int tr], iA G (ad 0) 255 S]) [0, 1] (by decide) rfl
          refine W.iret (v := (-1)) hx hb hr (fun t ht hW => ⟨⟨(-1), (S), rfl, ?_, by rw [ht]; exact hP, hD⟩, hS.F ht⟩) hS.2.2 dX6_show_30
          first | exact ⟨(if_neg (fun q => b5 q.1)).symm, (if_neg (fun q => b5 q.1)).symm⟩ | exact ⟨(if_neg (fun q => b13 q.2.1)).symm, (if_neg (fun q => b13 q.2.1)).symm⟩ | exact ⟨(if_neg (fun q => (q.2.2).elim b19 b26)).symm, (if_neg (fun q => (q.2.2.1).elim b19 b26)).symm⟩ | exact ⟨((if_pos ⟨b5, b13, hmm⟩).trans (if_neg (by omega))).symm, (if_neg (fun q => absurd q.2.2.2 (by omega))).symm⟩ | exact ⟨((if_pos ⟨b5, b13, hmm⟩).trans (if_pos (by omega))).symm, (if_pos ⟨b5, b13, hmm, by omega⟩).symm⟩

abbrev w_X6_grind (G : XG) (ko : Nat) (ad : Nat → Nat) (w h la tp : Nat) (ft tr : Int32) (mv : Nat → Int32) (S : Nat → Int32) : va_W := [oC ko 6 [.ref (ad 0), .ref (ad 1), .int (nI w), .int (nI h), .int (nI la), .ref (ad 2), .int (mv 0), .int (mv 1), .int (mv 2), .int (mv 3), .int (mv 4), .int (mv 5), .int (mv 6), .ref (ad 3), .int (nI tp), .int (mv 7), .int (mv 8), .int (mv 9), .int (mv 10), .int ft, .int (mv 11), .ref (ad 4), .ref (ad 5), .ref (ad 6), .ref (ad 7), .ref (ad 8), .ref (ad 9), .ref (ad 10), .int tr], iA G (ad 0) 255 S]
abbrev Q_X6_grind (G : XG) (sz : Nat) (ko : Nat) (ad : Nat → Nat) (w h la tp : Nat) (ft tr : Int32) (mv : Nat → Int32) (S : Nat → Int32) (nl : Nat) (d blind : Int32) : Array Value → State → Outcome → State → Prop := (va_Qi (fun (r : Int32) (u : (Nat → Int32)) => r = (if (inR d (la + 1) ∧ inR blind (2 ^ (w * h))) then (if nl < 6 then nI (nl + 1) else (-3)) else (-1)) ∧ u = (if (inR d (la + 1) ∧ inR blind (2 ^ (w * h)) ∧ nl < 6) then add2 S (48 + 2 * nl) 47 d blind (nl + 1) else S)) (xWb G sz (w_X6_grind G ko ad w h la tp ft tr mv S) (fun u : (Nat → Int32) => [oC ko 6 [.ref (ad 0), .ref (ad 1), .int (nI w), .int (nI h), .int (nI la), .ref (ad 2), .int (mv 0), .int (mv 1), .int (mv 2), .int (mv 3), .int (mv 4), .int (mv 5), .int (mv 6), .ref (ad 3), .int (nI tp), .int (mv 7), .int (mv 8), .int (mv 9), .int (mv 10), .int ft, .int (mv 11), .ref (ad 4), .ref (ad 5), .ref (ad 6), .ref (ad 7), .ref (ad 8), .ref (ad 9), .ref (ad 10), .int tr], iA G (ad 0) 255 u])) (va_A (w_X6_grind G ko ad w h la tp ft tr mv S) sz))
set_option maxHeartbeats 4000000 in
set_option maxRecDepth 100000 in
theorem c_X6_grind (l : Launch) (G : XG) (sz : Nat) (ko : Nat) (ad : Nat → Nat) (w h la tp : Nat) (ft tr : Int32) (mv : Nat → Int32) (S : Nat → Int32) (nl : Nat) (d blind : Int32) (hw : 1 ≤ w) (hwb : w ≤ 16) (hhb : h ≤ 16) (hwh1 : 1 ≤ w * h) (hwh : w * h ≤ 16) (hla : la ≤ 9) (hs47 : S 47 = nI nl) (hnl : nl ≤ 6) : Met l yX6_grind wsX6_grind ({ frames := 2, cells := 0, slots := 0, locals := 46 } : Room) (va_Pc [.ref ko, .int d, .int blind] (xWp G sz (w_X6_grind G ko ad w h la tp ft tr mv S))) (Q_X6_grind G sz ko ad w h la tp ft tr mv S nl d blind) 0 0 (va_A (w_X6_grind G ko ad w h la tp ft tr mv S) sz) := by
  refine Met.ofW (cc := cX6_grind) (maxL := 3) (ret := (some .int)) (by decide) rfl ?_
  intro pp ee ss mm aa below mt cd s₁ BB hml hv
  obtain ⟨rfl, hsz, hP, hK, hD0⟩ := hv
  have hx := BB.exec
  have hb := BB.bytes
  have hr := BB.returns
  have hts := atoms_spec (ws := wsX6_grind) BB.pre
  have hown : ss.vm.findClass RX6 = some mm.cls := findClass_of_methodNamed BB.named
  have hlocks := BB.notSynchronized
  subst hsz
  have hD := hD0.self (sz := ss.heap.size)
  have hA : ∀ q : Nat, ss.heap.size ≤ q → va_A (w_X6_grind G ko ad w h la tp ft tr mv S) ss.heap.size q := fun q h => Or.inr h
  have hS : va_S (va_A (w_X6_grind G ko ad w h la tp ft tr mv S) ss.heap.size) ss.heap ss.heap [] := va_S.rf
  replace hD : va_D (va_A (w_X6_grind G ko ad w h la tp ft tr mv S) ss.heap.size) [oC ko 6 [.ref (ad 0), .ref (ad 1), .int (nI w), .int (nI h), .int (nI la), .ref (ad 2), .int (mv 0), .int (mv 1), .int (mv 2), .int (mv 3), .int (mv 4), .int (mv 5), .int (mv 6), .ref (ad 3), .int (nI tp), .int (mv 7), .int (mv 8), .int (mv 9), .int (mv 10), .int ft, .int (mv 11), .ref (ad 4), .ref (ad 5), .ref (ad 6), .ref (ad 7), .ref (ad 8), .ref (ad 9), .ref (ad 10), .int tr], iA G (ad 0) 255 S] := hD
  replace hP : xP G [oC ko 6 [.ref (ad 0), .ref (ad 1), .int (nI w), .int (nI h), .int (nI la), .ref (ad 2), .int (mv 0), .int (mv 1), .int (mv 2), .int (mv 3), .int (mv 4), .int (mv 5), .int (mv 6), .ref (ad 3), .int (nI tp), .int (mv 7), .int (mv 8), .int (mv 9), .int (mv 10), .int ft, .int (mv 11), .ref (ad 4), .ref (ad 5), .ref (ad 6), .ref (ad 7), .ref (ad 8), .ref (ad 9), .ref (ad 10), .int tr], iA G (ad 0) 255 S] ss.heap := hP
  have hin6 : ∀ w ∈ u_ws RX6 TX6 29, w ∈ wsX6_grind := fun w h => List.mem_cons_of_mem _ (List.mem_append_right _ h)
  have hl := lv_entry ([.ref ko, .int d, .int blind]) (n := 3) (Nat.le_of_ble_eq_true rfl)
  rw [lg_entry_eq]
  generalize (lg_sl ([.ref ko, .int d, .int blind]) ++ List.replicate (3 - (lg_sl ([.ref ko, .int d, .int blind])).length) Slot.unset).toArray = ls at hl ⊢
  replace hl : lv_has ls 3 [(0, .ref ko), (1, .int d), (2, .int blind)] := hl
  refine lv_aload_n hx hb dX6_grind_0 rfl (lv_at hl 0 rfl) ?_
  refine lv_iload_n hx hb dX6_grind_1 rfl (lv_at hl 1 rfl) ?_
  refine xr_i (As := [.int d]) (rest := []) ⟨hx, hb, hml, hown, hts⟩ (c_X6_isDay l G ko ad w h la tp ft tr mv d (by first | assumption | omega)) (cwV 1 hts gX6_grind_X6_isDay rfl rfl rfl (by decide +kernel) ⟨Nat.le_of_ble_eq_true rfl, Nat.le_of_ble_eq_true rfl⟩) hK hP hS [0] rfl rfl rfl rfl hl.1 rfl (Nat.le_of_ble_eq_true rfl) dX6_grind_2 ⟨Nat.zero_le _, Nat.zero_le _⟩ (fun r2 H locs hp2 hP hS => ?_)
  rw [show r2 = _ from hp2]
  refine xb_if_eq (tgt := 26) hx hb dX6_grind_5 rfl (fun b5 => ?_) (fun b5 => ?_)
  · skip
    refine lv_iconst (v := (-1)) hx hb dX6_grind_26 (by decide) ?_
    have hP := hP.sub (ws' := [oC ko 6 [.ref (ad 0), .ref (ad 1), .int (nI w), .int (nI h), .int (nI la), .ref (ad 2), .int (mv 0), .int (mv 1), .int (mv 2), .int (mv 3), .int (mv 4), .int (mv 5), .int (mv 6), .ref (ad 3), .int (nI tp), .int (mv 7), .int (mv 8), .int (mv 9), .int (mv 10), .int ft, .int (mv 11), .ref (ad 4), .ref (ad 5), .ref (ad 6), .ref (ad 7), .ref (ad 8), .ref (ad 9), .ref (ad 10), .int tr], iA G (ad 0) 255 S]) [0, 1] rfl
    have hD := hD.sub (ws' := [oC ko 6 [.ref (ad 0), .ref (ad 1), .int (nI w), .int (nI h), .int (nI la), .ref (ad 2), .int (mv 0), .int (mv 1), .int (mv 2), .int (mv 3), .int (mv 4), .int (mv 5), .int (mv 6), .ref (ad 3), .int (nI tp), .int (mv 7), .int (mv 8), .int (mv 9), .int (mv 10), .int ft, .int (mv 11), .ref (ad 4), .ref (ad 5), .ref (ad 6), .ref (ad 7), .ref (ad 8), .ref (ad 9), .ref (ad 10), .int tr], iA G (ad 0) 255 S]) [0, 1] (by decide) rfl
    refine W.iret (v := (-1)) hx hb hr (fun t ht hW => ⟨⟨(-1), (S), rfl, ?_, by rw [ht]; exact hP, hD⟩, hS.F ht⟩) hS.2.2 dX6_grind_27
    first | exact ⟨(if_neg (fun q => b5 q.1)).symm, (if_neg (fun q => b5 q.1)).symm⟩ | exact ⟨(if_neg (fun q => b23 q.2)).symm, (if_neg (fun q => b23 q.2.1)).symm⟩ | exact ⟨((if_pos ⟨b5, b23⟩).trans (if_neg (by omega))).symm, (if_neg (fun q => absurd q.2.2 (by omega))).symm⟩ | exact ⟨((if_pos ⟨b5, b23⟩).trans (if_pos (by omega))).symm, (if_pos ⟨b5, b23, by omega⟩).symm⟩
  · skip
    refine lv_iload_n hx hb dX6_grind_8 rfl (lv_at hl 2 rfl) ?_
    refine xi_i2l hx hb dX6_grind_9 ?_
    refine lv_lconst (v := lN 0) hx hb dX6_grind_10 (by decide) ?_
    refine lv_iconst (v := nI 1) hx hb dX6_grind_11 (by decide) ?_
    refine lv_aload_n hx hb dX6_grind_12 rfl (lv_at hl 0 rfl) ?_
    refine xr_i (As := []) (rest := [.int (nI 1), .long (lN 0), .long blind.toInt64]) ⟨hx, hb, hml, hown, hts⟩ (c_X6_cellsNow l G ko ad w h la tp ft tr mv ) (cwV 0 hts gX6_grind_X6_cellsNow rfl rfl rfl (by decide +kernel) ⟨Nat.le_of_ble_eq_true rfl, Nat.le_of_ble_eq_true rfl⟩) hK hP hS [0] rfl rfl rfl rfl hl.1 rfl (Nat.le_of_ble_eq_true rfl) dX6_grind_13 ⟨Nat.zero_le _, Nat.zero_le _⟩ (fun r13 H locs hp13 hP hS => ?_)
    rw [show r13 = _ from hp13]
    refine lv_ishl hx hb dX6_grind_16 ?_
    obtain ⟨hp1, hp2, hp3⟩ := xs_pow hwh
    refine xn_top hp1 ?_
    refine lv_iconst (v := nI 1) hx hb dX6_grind_17 (by decide) ?_
    refine xn_isub hx hb (by omega) dX6_grind_18 ?_
    refine xn_i2l hx hb (by omega) dX6_grind_19 ?_
    refine xs_i (As := [.long blind.toInt64, .long (lN 0), .long (lN ((2 ^ (w * h)) - 1))]) (rest := []) ⟨hx, hb, hml, hown, hts⟩ (c_X6_in_r l G blind ((2 ^ (w * h)) - 1) (by first | assumption | omega)) (va_cwS 3 hts gX6_grind_X6_in rfl rfl rfl (by decide +kernel) ⟨Nat.le_of_ble_eq_true rfl, Nat.le_of_ble_eq_true rfl⟩) hP hS rfl hl.1 rfl (Nat.le_of_ble_eq_true rfl) dX6_grind_20 ⟨Nat.zero_le _, Nat.zero_le _⟩ (fun r20 H locs hp20 hP hS => ?_)
    rw [show r20 = _ from hp20]
    refine xn_top (y := xb (inR blind (2 ^ (w * h)))) (xb_congr (by rw [show 2 ^ (w * h) - 1 + 1 = 2 ^ (w * h) by omega])) ?_
    refine xb_if_ne (tgt := 28) hx hb dX6_grind_23 rfl (fun b23 => ?_) (fun b23 => ?_)
    · skip
      refine lv_aload_n hx hb dX6_grind_28 rfl (lv_at hl 0 rfl) ?_
      refine va_get (D := G.1) (ci := 6) (v := .ref (ad 0)) (C := RX6) (T := TX6) (N := 29) hx hb hts hin6 hown hK.1 hP 0 rfl rfl 0 (by decide) (hts (.fieldLink RX6 7 "BackLensesModel" "st" "[I") (List.mem_of_getElem? (i := 1) rfl)) (fun _ h9 => h9) rfl dX6_grind_29 ?_
      refine lv_bipush (v := nI 47) hx hb dX6_grind_32 (by decide) ?_
      refine xn_iald hx hb hK hP 1 rfl (by omega) (by omega) dX6_grind_34 ?_
      refine xn_top (y := nI nl) (by exact hs47) ?_
      refine lv_bipush (v := nI 6) hx hb dX6_grind_35 (by decide) ?_
      refine xn_icmp_ne (tgt := 43) hx hb (by omega) (by omega) dX6_grind_37 rfl (fun b37 => ?_) (fun b37 => ?_)
      · skip
        refine lv_aload_n hx hb dX6_grind_43 rfl (lv_at hl 0 rfl) ?_
        refine va_get (D := G.1) (ci := 6) (v := .ref (ad 0)) (C := RX6) (T := TX6) (N := 29) hx hb hts hin6 hown hK.1 hP 0 rfl rfl 0 (by decide) (hts (.fieldLink RX6 7 "BackLensesModel" "st" "[I") (List.mem_of_getElem? (i := 1) rfl)) (fun _ h9 => h9) rfl dX6_grind_44 ?_
        refine lv_bipush (v := nI 48) hx hb dX6_grind_47 (by decide) ?_
        refine lv_iconst (v := nI 2) hx hb dX6_grind_49 (by decide) ?_
        refine lv_aload_n hx hb dX6_grind_50 rfl (lv_at hl 0 rfl) ?_
        refine va_get (D := G.1) (ci := 6) (v := .ref (ad 0)) (C := RX6) (T := TX6) (N := 29) hx hb hts hin6 hown hK.1 hP 0 rfl rfl 0 (by decide) (hts (.fieldLink RX6 7 "BackLensesModel" "st" "[I") (List.mem_of_getElem? (i := 1) rfl)) (fun _ h9 => h9) rfl dX6_grind_51 ?_
        refine lv_bipush (v := nI 47) hx hb dX6_grind_54 (by decide) ?_
        refine xn_iald hx hb hK hP 1 rfl (by omega) (by omega) dX6_grind_56 ?_
        refine xn_top (y := nI nl) (by exact hs47) ?_
        refine xn_imul hx hb dX6_grind_57 ?_
        refine xn_iadd hx hb dX6_grind_58 ?_
        refine lv_iload_n hx hb dX6_grind_59 rfl (lv_at hl 1 rfl) ?_
        refine xn_iast hx hb hK hP hD hS 1 rfl (by omega) (by omega) dX6_grind_60 (fun H locs hP hD hS => ?_)
        replace hP : xP G [oC ko 6 [.ref (ad 0), .ref (ad 1), .int (nI w), .int (nI h), .int (nI la), .ref (ad 2), .int (mv 0), .int (mv 1), .int (mv 2), .int (mv 3), .int (mv 4), .int (mv 5), .int (mv 6), .ref (ad 3), .int (nI tp), .int (mv 7), .int (mv 8), .int (mv 9), .int (mv 10), .int ft, .int (mv 11), .ref (ad 4), .ref (ad 5), .ref (ad 6), .ref (ad 7), .ref (ad 8), .ref (ad 9), .ref (ad 10), .int tr], iA G (ad 0) 255 (upd S (48 + (2 * nl)) d)] H := hP
        replace hD : va_D (va_A (w_X6_grind G ko ad w h la tp ft tr mv S) ss.heap.size) [oC ko 6 [.ref (ad 0), .ref (ad 1), .int (nI w), .int (nI h), .int (nI la), .ref (ad 2), .int (mv 0), .int (mv 1), .int (mv 2), .int (mv 3), .int (mv 4), .int (mv 5), .int (mv 6), .ref (ad 3), .int (nI tp), .int (mv 7), .int (mv 8), .int (mv 9), .int (mv 10), .int ft, .int (mv 11), .ref (ad 4), .ref (ad 5), .ref (ad 6), .ref (ad 7), .ref (ad 8), .ref (ad 9), .ref (ad 10), .int tr], iA G (ad 0) 255 (upd S (48 + (2 * nl)) d)] := hD
        refine lv_aload_n hx hb dX6_grind_61 rfl (lv_at hl 0 rfl) ?_
        refine va_get (D := G.1) (ci := 6) (v := .ref (ad 0)) (C := RX6) (T := TX6) (N := 29) hx hb hts hin6 hown hK.1 hP 0 rfl rfl 0 (by decide) (hts (.fieldLink RX6 7 "BackLensesModel" "st" "[I") (List.mem_of_getElem? (i := 1) rfl)) (fun _ h9 => h9) rfl dX6_grind_62 ?_
        refine lv_bipush (v := nI 48) hx hb dX6_grind_65 (by decide) ?_
        refine lv_iconst (v := nI 2) hx hb dX6_grind_67 (by decide) ?_
        refine lv_aload_n hx hb dX6_grind_68 rfl (lv_at hl 0 rfl) ?_
        refine va_get (D := G.1) (ci := 6) (v := .ref (ad 0)) (C := RX6) (T := TX6) (N := 29) hx hb hts hin6 hown hK.1 hP 0 rfl rfl 0 (by decide) (hts (.fieldLink RX6 7 "BackLensesModel" "st" "[I") (List.mem_of_getElem? (i := 1) rfl)) (fun _ h9 => h9) rfl dX6_grind_69 ?_
        refine lv_bipush (v := nI 47) hx hb dX6_grind_72 (by decide) ?_
        refine xn_iald hx hb hK hP 1 rfl (by omega) (by omega) dX6_grind_74 ?_
        refine xn_top (y := nI nl) (by rw [upd_ne (by omega)]; exact hs47) ?_
        refine xn_imul hx hb dX6_grind_75 ?_
        refine xn_iadd hx hb dX6_grind_76 ?_
        refine lv_iconst (v := nI 1) hx hb dX6_grind_77 (by decide) ?_
        refine xn_iadd hx hb dX6_grind_78 ?_
        refine lv_iload_n hx hb dX6_grind_79 rfl (lv_at hl 2 rfl) ?_
        refine xn_iast hx hb hK hP hD hS 1 rfl (by omega) (by omega) dX6_grind_80 (fun H locs hP hD hS => ?_)
        replace hP : xP G [oC ko 6 [.ref (ad 0), .ref (ad 1), .int (nI w), .int (nI h), .int (nI la), .ref (ad 2), .int (mv 0), .int (mv 1), .int (mv 2), .int (mv 3), .int (mv 4), .int (mv 5), .int (mv 6), .ref (ad 3), .int (nI tp), .int (mv 7), .int (mv 8), .int (mv 9), .int (mv 10), .int ft, .int (mv 11), .ref (ad 4), .ref (ad 5), .ref (ad 6), .ref (ad 7), .ref (ad 8), .ref (ad 9), .ref (ad 10), .int tr], iA G (ad 0) 255 (upd (upd S (48 + (2 * nl)) d) ((48 + (2 * nl)) + 1) blind)] H := hP
        replace hD : va_D (va_A (w_X6_grind G ko ad w h la tp ft tr mv S) ss.heap.size) [oC ko 6 [.ref (ad 0), .ref (ad 1), .int (nI w), .int (nI h), .int (nI la), .ref (ad 2), .int (mv 0), .int (mv 1), .int (mv 2), .int (mv 3), .int (mv 4), .int (mv 5), .int (mv 6), .ref (ad 3), .int (nI tp), .int (mv 7), .int (mv 8), .int (mv 9), .int (mv 10), .int ft, .int (mv 11), .ref (ad 4), .ref (ad 5), .ref (ad 6), .ref (ad 7), .ref (ad 8), .ref (ad 9), .ref (ad 10), .int tr], iA G (ad 0) 255 (upd (upd S (48 + (2 * nl)) d) ((48 + (2 * nl)) + 1) blind)] := hD
        refine lv_aload_n hx hb dX6_grind_81 rfl (lv_at hl 0 rfl) ?_
        refine va_get (D := G.1) (ci := 6) (v := .ref (ad 0)) (C := RX6) (T := TX6) (N := 29) hx hb hts hin6 hown hK.1 hP 0 rfl rfl 0 (by decide) (hts (.fieldLink RX6 7 "BackLensesModel" "st" "[I") (List.mem_of_getElem? (i := 1) rfl)) (fun _ h9 => h9) rfl dX6_grind_82 ?_
        refine lv_bipush (v := nI 47) hx hb dX6_grind_85 (by decide) ?_
        refine lv_dup2_11 hx hb dX6_grind_87 rfl rfl ?_
        refine xn_iald hx hb hK hP 1 rfl (by omega) (by omega) dX6_grind_88 ?_
        refine xn_top (y := nI nl) (by rw [upd_ne (by omega), upd_ne (by omega)]; exact hs47) ?_
        refine lv_iconst (v := nI 1) hx hb dX6_grind_89 (by decide) ?_
        refine xn_iadd hx hb dX6_grind_90 ?_
        refine xn_iast hx hb hK hP hD hS 1 rfl (by omega) (by omega) dX6_grind_91 (fun H locs hP hD hS => ?_)
        replace hP : xP G [oC ko 6 [.ref (ad 0), .ref (ad 1), .int (nI w), .int (nI h), .int (nI la), .ref (ad 2), .int (mv 0), .int (mv 1), .int (mv 2), .int (mv 3), .int (mv 4), .int (mv 5), .int (mv 6), .ref (ad 3), .int (nI tp), .int (mv 7), .int (mv 8), .int (mv 9), .int (mv 10), .int ft, .int (mv 11), .ref (ad 4), .ref (ad 5), .ref (ad 6), .ref (ad 7), .ref (ad 8), .ref (ad 9), .ref (ad 10), .int tr], iA G (ad 0) 255 (upd (upd (upd S (48 + (2 * nl)) d) ((48 + (2 * nl)) + 1) blind) 47 (nI (nl + 1)))] H := hP
        replace hD : va_D (va_A (w_X6_grind G ko ad w h la tp ft tr mv S) ss.heap.size) [oC ko 6 [.ref (ad 0), .ref (ad 1), .int (nI w), .int (nI h), .int (nI la), .ref (ad 2), .int (mv 0), .int (mv 1), .int (mv 2), .int (mv 3), .int (mv 4), .int (mv 5), .int (mv 6), .ref (ad 3), .int (nI tp), .int (mv 7), .int (mv 8), .int (mv 9), .int (mv 10), .int ft, .int (mv 11), .ref (ad 4), .ref (ad 5), .ref (ad 6), .ref (ad 7), .ref (ad 8), .ref (ad 9), .ref (ad 10), .int tr], iA G (ad 0) 255 (upd (upd (upd S (48 + (2 * nl)) d) ((48 + (2 * nl)) + 1) blind) 47 (nI (nl + 1)))] := hD
        refine lv_aload_n hx hb dX6_grind_92 rfl (lv_at hl 0 rfl) ?_
        refine va_get (D := G.1) (ci := 6) (v := .ref (ad 0)) (C := RX6) (T := TX6) (N := 29) hx hb hts hin6 hown hK.1 hP 0 rfl rfl 0 (by decide) (hts (.fieldLink RX6 7 "BackLensesModel" "st" "[I") (List.mem_of_getElem? (i := 1) rfl)) (fun _ h9 => h9) rfl dX6_grind_93 ?_
        refine lv_bipush (v := nI 47) hx hb dX6_grind_96 (by decide) ?_
        refine xn_iald hx hb hK hP 1 rfl (by omega) (by omega) dX6_grind_98 ?_
        refine xn_top (y := nI (nl + 1)) (by exact upd_eq) ?_
        have hP := hP.sub (ws' := [oC ko 6 [.ref (ad 0), .ref (ad 1), .int (nI w), .int (nI h), .int (nI la), .ref (ad 2), .int (mv 0), .int (mv 1), .int (mv 2), .int (mv 3), .int (mv 4), .int (mv 5), .int (mv 6), .ref (ad 3), .int (nI tp), .int (mv 7), .int (mv 8), .int (mv 9), .int (mv 10), .int ft, .int (mv 11), .ref (ad 4), .ref (ad 5), .ref (ad 6), .ref (ad 7), .ref (ad 8), .ref (ad 9), .ref (ad 10), .int tr], iA G (ad 0) 255 (upd (upd (upd S (48 + (2 * nl)) d) ((48 + (2 * nl)) + 1) blind) 47 (nI (nl + 1)))]) [0, 1] rfl
        have hD := hD.sub (ws' := [oC ko 6 [.ref (ad 0), .ref (ad 1), .int (nI w), .int (nI h), .int (nI la), .ref (ad 2), .int (mv 0), .int (mv 1), .int (mv 2), .int (mv 3), .int (mv 4), .int (mv 5), .int (mv 6), .ref (ad 3), .int (nI tp), .int (mv 7), .int (mv 8), .int (mv 9), .int (mv 10), .int ft, .int (mv 11), .ref (ad 4), .ref (ad 5), .ref (ad 6), .ref (ad 7), .ref (ad 8), .ref (ad 9), .ref (ad 10), .int tr], iA G (ad 0) 255 (upd (upd (upd S (48 + (2 * nl)) d) ((48 + (2 * nl)) + 1) blind) 47 (nI (nl + 1)))]) [0, 1] (by decide) rfl
        refine W.iret (v := nI (nl + 1)) hx hb hr (fun t ht hW => ⟨⟨nI (nl + 1), (upd (upd (upd S (48 + (2 * nl)) d) ((48 + (2 * nl)) + 1) blind) 47 (nI (nl + 1))), rfl, ?_, by rw [ht]; exact hP, hD⟩, hS.F ht⟩) hS.2.2 dX6_grind_99
        first | exact ⟨(if_neg (fun q => b5 q.1)).symm, (if_neg (fun q => b5 q.1)).symm⟩ | exact ⟨(if_neg (fun q => b23 q.2)).symm, (if_neg (fun q => b23 q.2.1)).symm⟩ | exact ⟨((if_pos ⟨b5, b23⟩).trans (if_neg (by omega))).symm, (if_neg (fun q => absurd q.2.2 (by omega))).symm⟩ | exact ⟨((if_pos ⟨b5, b23⟩).trans (if_pos (by omega))).symm, (if_pos ⟨b5, b23, by omega⟩).symm⟩
      · skip
        refine lv_bipush (v := (-3)) hx hb dX6_grind_40 (by decide) ?_
        have hP := hP.sub (ws' := [oC ko 6 [.ref (ad 0), .ref (ad 1), .int (nI w), .int (nI h), .int (nI la), .ref (ad 2), .int (mv 0), .int (mv 1), .int (mv 2), .int (mv 3), .int (mv 4), .int (mv 5), .int (mv 6), .ref (ad 3), .int (nI tp), .int (mv 7), .int (mv 8), .int (mv 9), .int (mv 10), .int ft, .int (mv 11), .ref (ad 4), .ref (ad 5), .ref (ad 6), .ref (ad 7), .ref (ad 8), .ref (ad 9), .ref (ad 10), .int tr], iA G (ad 0) 255 S]) [0, 1] rfl
        have hD := hD.sub (ws' := [oC ko 6 [.ref (ad 0), .ref (ad 1), .int (nI w), .int (nI h), .int (nI la), .ref (ad 2), .int (mv 0), .int (mv 1), .int (mv 2), .int (mv 3), .int (mv 4), .int (mv 5), .int (mv 6), .ref (ad 3), .int (nI tp), .int (mv 7), .int (mv 8), .int (mv 9), .int (mv 10), .int ft, .int (mv 11), .ref (ad 4), .ref (ad 5), .ref (ad 6), .ref (ad 7), .ref (ad 8), .ref (ad 9), .ref (ad 10), .int tr], iA G (ad 0) 255 S]) [0, 1] (by decide) rfl
        refine W.iret (v := (-3)) hx hb hr (fun t ht hW => ⟨⟨(-3), (S), rfl, ?_, by rw [ht]; exact hP, hD⟩, hS.F ht⟩) hS.2.2 dX6_grind_42
        first | exact ⟨(if_neg (fun q => b5 q.1)).symm, (if_neg (fun q => b5 q.1)).symm⟩ | exact ⟨(if_neg (fun q => b23 q.2)).symm, (if_neg (fun q => b23 q.2.1)).symm⟩ | exact ⟨((if_pos ⟨b5, b23⟩).trans (if_neg (by omega))).symm, (if_neg (fun q => absurd q.2.2 (by omega))).symm⟩ | exact ⟨((if_pos ⟨b5, b23⟩).trans (if_pos (by omega))).symm, (if_pos ⟨b5, b23, by omega⟩).symm⟩
    · skip
      refine lv_iconst (v := (-1)) hx hb dX6_grind_26 (by decide) ?_
      have hP := hP.sub (ws' := [oC ko 6 [.ref (ad 0), .ref (ad 1), .int (nI w), .int (nI h), .int (nI la), .ref (ad 2), .int (mv 0), .int (mv 1), .int (mv 2), .int (mv 3), .int (mv 4), .int (mv 5), .int (mv 6), .ref (ad 3), .int (nI tp), .int (mv 7), .int (mv 8), .int (mv 9), .int (mv 10), .int ft, .int (mv 11), .ref (ad 4), .ref (ad 5), .ref (ad 6), .ref (ad 7), .ref (ad 8), .ref (ad 9), .ref (ad 10), .int tr], iA G (ad 0) 255 S]) [0, 1] rfl
      have hD := hD.sub (ws' := [oC ko 6 [.ref (ad 0), .ref (ad 1), .int (nI w), .int (nI h), .int (nI la), .ref (ad 2), .int (mv 0), .int (mv 1), .int (mv 2), .int (mv 3), .int (mv 4), .int (mv 5), .int (mv 6), .ref (ad 3), .int (nI tp), .int (mv 7), .int (mv 8), .int (mv 9), .int (mv 10), .int ft, .int (mv 11), .ref (ad 4), .ref (ad 5), .ref (ad 6), .ref (ad 7), .ref (ad 8), .ref (ad 9), .ref (ad 10), .int tr], iA G (ad 0) 255 S]) [0, 1] (by decide) rfl
      refine W.iret (v := (-1)) hx hb hr (fun t ht hW => ⟨⟨(-1), (S), rfl, ?_, by rw [ht]; exact hP, hD⟩, hS.F ht⟩) hS.2.2 dX6_grind_27
      first | exact ⟨(if_neg (fun q => b5 q.1)).symm, (if_neg (fun q => b5 q.1)).symm⟩ | exact ⟨(if_neg (fun q => b23 q.2)).symm, (if_neg (fun q => b23 q.2.1)).symm⟩ | exact ⟨((if_pos ⟨b5, b23⟩).trans (if_neg (by omega))).symm, (if_neg (fun q => absurd q.2.2 (by omega))).symm⟩ | exact ⟨((if_pos ⟨b5, b23⟩).trans (if_pos (by omega))).symm, (if_pos ⟨b5, b23, by omega⟩).symm⟩

abbrev w_X6_regrind (G : XG) (ko : Nat) (ad : Nat → Nat) (w h la tp : Nat) (ft tr : Int32) (mv : Nat → Int32) (S : Nat → Int32) : va_W := [oC ko 6 [.ref (ad 0), .ref (ad 1), .int (nI w), .int (nI h), .int (nI la), .ref (ad 2), .int (mv 0), .int (mv 1), .int (mv 2), .int (mv 3), .int (mv 4), .int (mv 5), .int (mv 6), .ref (ad 3), .int (nI tp), .int (mv 7), .int (mv 8), .int (mv 9), .int (mv 10), .int ft, .int (mv 11), .ref (ad 4), .ref (ad 5), .ref (ad 6), .ref (ad 7), .ref (ad 8), .ref (ad 9), .ref (ad 10), .int tr], iA G (ad 0) 255 S]
abbrev Q_X6_regrind (G : XG) (sz : Nat) (ko : Nat) (ad : Nat → Nat) (w h la tp : Nat) (ft tr : Int32) (mv : Nat → Int32) (S : Nat → Int32) (nl : Nat) (i d : Int32) : Array Value → State → Outcome → State → Prop := (va_Qi (fun (r : Int32) (u : (Nat → Int32)) => r = (if inR i nl ∧ inR d (la + 1) then S (48 + 2 * tn i) else (-1)) ∧ u = (if inR i nl ∧ inR d (la + 1) then upd S (48 + 2 * tn i) d else S)) (xWb G sz (w_X6_regrind G ko ad w h la tp ft tr mv S) (fun u : (Nat → Int32) => [oC ko 6 [.ref (ad 0), .ref (ad 1), .int (nI w), .int (nI h), .int (nI la), .ref (ad 2), .int (mv 0), .int (mv 1), .int (mv 2), .int (mv 3), .int (mv 4), .int (mv 5), .int (mv 6), .ref (ad 3), .int (nI tp), .int (mv 7), .int (mv 8), .int (mv 9), .int (mv 10), .int ft, .int (mv 11), .ref (ad 4), .ref (ad 5), .ref (ad 6), .ref (ad 7), .ref (ad 8), .ref (ad 9), .ref (ad 10), .int tr], iA G (ad 0) 255 u])) (va_A (w_X6_regrind G ko ad w h la tp ft tr mv S) sz))
set_option maxHeartbeats 4000000 in
set_option maxRecDepth 100000 in
theorem c_X6_regrind (l : Launch) (G : XG) (sz : Nat) (ko : Nat) (ad : Nat → Nat) (w h la tp : Nat) (ft tr : Int32) (mv : Nat → Int32) (S : Nat → Int32) (nl : Nat) (i d : Int32) (hla : la ≤ 9) (hs47 : S 47 = nI nl) (hnl : nl ≤ 6) : Met l yX6_regrind wsX6_regrind ({ frames := 2, cells := 0, slots := 0, locals := 46 } : Room) (va_Pc [.ref ko, .int i, .int d] (xWp G sz (w_X6_regrind G ko ad w h la tp ft tr mv S))) (Q_X6_regrind G sz ko ad w h la tp ft tr mv S nl i d) 0 0 (va_A (w_X6_regrind G ko ad w h la tp ft tr mv S) sz) := by
  refine Met.ofW (cc := cX6_regrind) (maxL := 3) (ret := (some .int)) (by decide) rfl ?_
  intro pp ee ss mm aa below mt cd s₁ BB hml hv
  obtain ⟨rfl, hsz, hP, hK, hD0⟩ := hv
  have hx := BB.exec
  have hb := BB.bytes
  have hr := BB.returns
  have hts := atoms_spec (ws := wsX6_regrind) BB.pre
  have hown : ss.vm.findClass RX6 = some mm.cls := findClass_of_methodNamed BB.named
  have hlocks := BB.notSynchronized
  subst hsz
  have hD := hD0.self (sz := ss.heap.size)
  have hA : ∀ q : Nat, ss.heap.size ≤ q → va_A (w_X6_regrind G ko ad w h la tp ft tr mv S) ss.heap.size q := fun q h => Or.inr h
  have hS : va_S (va_A (w_X6_regrind G ko ad w h la tp ft tr mv S) ss.heap.size) ss.heap ss.heap [] := va_S.rf
  replace hD : va_D (va_A (w_X6_regrind G ko ad w h la tp ft tr mv S) ss.heap.size) [oC ko 6 [.ref (ad 0), .ref (ad 1), .int (nI w), .int (nI h), .int (nI la), .ref (ad 2), .int (mv 0), .int (mv 1), .int (mv 2), .int (mv 3), .int (mv 4), .int (mv 5), .int (mv 6), .ref (ad 3), .int (nI tp), .int (mv 7), .int (mv 8), .int (mv 9), .int (mv 10), .int ft, .int (mv 11), .ref (ad 4), .ref (ad 5), .ref (ad 6), .ref (ad 7), .ref (ad 8), .ref (ad 9), .ref (ad 10), .int tr], iA G (ad 0) 255 S] := hD
  replace hP : xP G [oC ko 6 [.ref (ad 0), .ref (ad 1), .int (nI w), .int (nI h), .int (nI la), .ref (ad 2), .int (mv 0), .int (mv 1), .int (mv 2), .int (mv 3), .int (mv 4), .int (mv 5), .int (mv 6), .ref (ad 3), .int (nI tp), .int (mv 7), .int (mv 8), .int (mv 9), .int (mv 10), .int ft, .int (mv 11), .ref (ad 4), .ref (ad 5), .ref (ad 6), .ref (ad 7), .ref (ad 8), .ref (ad 9), .ref (ad 10), .int tr], iA G (ad 0) 255 S] ss.heap := hP
  have hin6 : ∀ w ∈ u_ws RX6 TX6 29, w ∈ wsX6_regrind := fun w h => List.mem_cons_of_mem _ (List.mem_append_right _ h)
  have hl := lv_entry ([.ref ko, .int i, .int d]) (n := 3) (Nat.le_of_ble_eq_true rfl)
  rw [lg_entry_eq]
  generalize (lg_sl ([.ref ko, .int i, .int d]) ++ List.replicate (3 - (lg_sl ([.ref ko, .int i, .int d])).length) Slot.unset).toArray = ls at hl ⊢
  replace hl : lv_has ls 3 [(0, .ref ko), (1, .int i), (2, .int d)] := hl
  refine lv_aload_n hx hb dX6_regrind_0 rfl (lv_at hl 0 rfl) ?_
  refine lv_iload_n hx hb dX6_regrind_1 rfl (lv_at hl 1 rfl) ?_
  refine xr_i (As := [.int i]) (rest := []) ⟨hx, hb, hml, hown, hts⟩ (c_X6_isLens l G ko ad w h la tp ft tr mv S _ i (by first | assumption | omega) (by first | assumption | omega)) (cwV 1 hts gX6_regrind_X6_isLens rfl rfl rfl (by decide +kernel) ⟨Nat.le_of_ble_eq_true rfl, Nat.le_of_ble_eq_true rfl⟩) hK hP hS [0, 1] rfl rfl rfl rfl hl.1 rfl (Nat.le_of_ble_eq_true rfl) dX6_regrind_2 ⟨Nat.zero_le _, Nat.zero_le _⟩ (fun r2 H locs hp2 hP hS => ?_)
  rw [show r2 = _ from hp2]
  refine xb_if_eq (tgt := 30) hx hb dX6_regrind_5 rfl (fun b5 => ?_) (fun b5 => ?_)
  · skip
    refine lv_iconst (v := (-1)) hx hb dX6_regrind_30 (by decide) ?_
    have hP := hP.sub (ws' := [oC ko 6 [.ref (ad 0), .ref (ad 1), .int (nI w), .int (nI h), .int (nI la), .ref (ad 2), .int (mv 0), .int (mv 1), .int (mv 2), .int (mv 3), .int (mv 4), .int (mv 5), .int (mv 6), .ref (ad 3), .int (nI tp), .int (mv 7), .int (mv 8), .int (mv 9), .int (mv 10), .int ft, .int (mv 11), .ref (ad 4), .ref (ad 5), .ref (ad 6), .ref (ad 7), .ref (ad 8), .ref (ad 9), .ref (ad 10), .int tr], iA G (ad 0) 255 S]) [0, 1] rfl
    have hD := hD.sub (ws' := [oC ko 6 [.ref (ad 0), .ref (ad 1), .int (nI w), .int (nI h), .int (nI la), .ref (ad 2), .int (mv 0), .int (mv 1), .int (mv 2), .int (mv 3), .int (mv 4), .int (mv 5), .int (mv 6), .ref (ad 3), .int (nI tp), .int (mv 7), .int (mv 8), .int (mv 9), .int (mv 10), .int ft, .int (mv 11), .ref (ad 4), .ref (ad 5), .ref (ad 6), .ref (ad 7), .ref (ad 8), .ref (ad 9), .ref (ad 10), .int tr], iA G (ad 0) 255 S]) [0, 1] (by decide) rfl
    refine W.iret (v := (-1)) hx hb hr (fun t ht hW => ⟨⟨(-1), (S), rfl, ?_, by rw [ht]; exact hP, hD⟩, hS.F ht⟩) hS.2.2 dX6_regrind_31
    first | exact ⟨(if_neg (fun q => b5 q.1)).symm, (if_neg (fun q => b5 q.1)).symm⟩ | exact ⟨(if_neg (fun q => b13 q.2)).symm, (if_neg (fun q => b13 q.2)).symm⟩ | (rw [if_pos ⟨inR_nI hi0 (by omega), b13⟩, if_pos ⟨inR_nI hi0 (by omega), b13⟩, tn_nI (by omega)]; exact ⟨rfl, rfl⟩)
  · skip
    refine lv_aload_n hx hb dX6_regrind_8 rfl (lv_at hl 0 rfl) ?_
    refine lv_iload_n hx hb dX6_regrind_9 rfl (lv_at hl 2 rfl) ?_
    refine xr_i (As := [.int d]) (rest := []) ⟨hx, hb, hml, hown, hts⟩ (c_X6_isDay l G ko ad w h la tp ft tr mv d (by first | assumption | omega)) (cwV 1 hts gX6_regrind_X6_isDay rfl rfl rfl (by decide +kernel) ⟨Nat.le_of_ble_eq_true rfl, Nat.le_of_ble_eq_true rfl⟩) hK hP hS [0] rfl rfl rfl rfl hl.1 rfl (Nat.le_of_ble_eq_true rfl) dX6_regrind_10 ⟨Nat.zero_le _, Nat.zero_le _⟩ (fun r10 H locs hp10 hP hS => ?_)
    rw [show r10 = _ from hp10]
    refine xb_if_eq (tgt := 30) hx hb dX6_regrind_13 rfl (fun b13 => ?_) (fun b13 => ?_)
    · skip
      refine lv_iconst (v := (-1)) hx hb dX6_regrind_30 (by decide) ?_
      have hP := hP.sub (ws' := [oC ko 6 [.ref (ad 0), .ref (ad 1), .int (nI w), .int (nI h), .int (nI la), .ref (ad 2), .int (mv 0), .int (mv 1), .int (mv 2), .int (mv 3), .int (mv 4), .int (mv 5), .int (mv 6), .ref (ad 3), .int (nI tp), .int (mv 7), .int (mv 8), .int (mv 9), .int (mv 10), .int ft, .int (mv 11), .ref (ad 4), .ref (ad 5), .ref (ad 6), .ref (ad 7), .ref (ad 8), .ref (ad 9), .ref (ad 10), .int tr], iA G (ad 0) 255 S]) [0, 1] rfl
      have hD := hD.sub (ws' := [oC ko 6 [.ref (ad 0), .ref (ad 1), .int (nI w), .int (nI h), .int (nI la), .ref (ad 2), .int (mv 0), .int (mv 1), .int (mv 2), .int (mv 3), .int (mv 4), .int (mv 5), .int (mv 6), .ref (ad 3), .int (nI tp), .int (mv 7), .int (mv 8), .int (mv 9), .int (mv 10), .int ft, .int (mv 11), .ref (ad 4), .ref (ad 5), .ref (ad 6), .ref (ad 7), .ref (ad 8), .ref (ad 9), .ref (ad 10), .int tr], iA G (ad 0) 255 S]) [0, 1] (by decide) rfl
      refine W.iret (v := (-1)) hx hb hr (fun t ht hW => ⟨⟨(-1), (S), rfl, ?_, by rw [ht]; exact hP, hD⟩, hS.F ht⟩) hS.2.2 dX6_regrind_31
      first | exact ⟨(if_neg (fun q => b5 q.1)).symm, (if_neg (fun q => b5 q.1)).symm⟩ | exact ⟨(if_neg (fun q => b13 q.2)).symm, (if_neg (fun q => b13 q.2)).symm⟩ | (rw [if_pos ⟨inR_nI hi0 (by omega), b13⟩, if_pos ⟨inR_nI hi0 (by omega), b13⟩, tn_nI (by omega)]; exact ⟨rfl, rfl⟩)
    · skip
      obtain ⟨i0, hi0, rfl⟩ := inR_nat b5
      refine lv_aload_n hx hb dX6_regrind_16 rfl (lv_at hl 0 rfl) ?_
      refine lv_bipush (v := nI 48) hx hb dX6_regrind_17 (by decide) ?_
      refine lv_iconst (v := nI 2) hx hb dX6_regrind_19 (by decide) ?_
      refine lv_iload_n hx hb dX6_regrind_20 rfl (lv_at hl 1 rfl) ?_
      refine xn_imul hx hb dX6_regrind_21 ?_
      refine xn_iadd hx hb dX6_regrind_22 ?_
      refine lv_iload_n hx hb dX6_regrind_23 rfl (lv_at hl 2 rfl) ?_
      refine xw_i (As := [.int (nI (48 + (2 * i0))), .int d]) (rest := []) (wr := []) ⟨hx, hb, hml, hown, hts⟩ (c_X6_becomes l G H.size ko ad w h la tp ft tr mv S (48 + (2 * i0)) d (by first | assumption | omega)) (cwV 2 hts gX6_regrind_X6_becomes rfl rfl rfl (by decide +kernel) ⟨Nat.le_of_ble_eq_true rfl, Nat.le_of_ble_eq_true rfl⟩) hK hP hD hS hA [0, 1] [] rfl rfl (by decide) (by decide) (by decide) rfl rfl rfl hl.1 rfl (Nat.le_of_ble_eq_true rfl) dX6_regrind_24 ⟨Nat.le_of_ble_eq_true rfl, Nat.le_of_ble_eq_true rfl⟩ (fun r24 u H locs hp24 hP hD hS => ?_)
      obtain ⟨u0_24, rfl⟩ : ∃ z, z = u := ⟨_, rfl⟩
      try dsimp only at hp24 hP hD
      obtain ⟨rfl, rfl⟩ := hp24
      replace hP : xP G [oC ko 6 [.ref (ad 0), .ref (ad 1), .int (nI w), .int (nI h), .int (nI la), .ref (ad 2), .int (mv 0), .int (mv 1), .int (mv 2), .int (mv 3), .int (mv 4), .int (mv 5), .int (mv 6), .ref (ad 3), .int (nI tp), .int (mv 7), .int (mv 8), .int (mv 9), .int (mv 10), .int ft, .int (mv 11), .ref (ad 4), .ref (ad 5), .ref (ad 6), .ref (ad 7), .ref (ad 8), .ref (ad 9), .ref (ad 10), .int tr], iA G (ad 0) 255 (upd S (48 + (2 * i0)) d)] H := hP
      replace hD : va_D (va_A (w_X6_regrind G ko ad w h la tp ft tr mv S) ss.heap.size) [oC ko 6 [.ref (ad 0), .ref (ad 1), .int (nI w), .int (nI h), .int (nI la), .ref (ad 2), .int (mv 0), .int (mv 1), .int (mv 2), .int (mv 3), .int (mv 4), .int (mv 5), .int (mv 6), .ref (ad 3), .int (nI tp), .int (mv 7), .int (mv 8), .int (mv 9), .int (mv 10), .int ft, .int (mv 11), .ref (ad 4), .ref (ad 5), .ref (ad 6), .ref (ad 7), .ref (ad 8), .ref (ad 9), .ref (ad 10), .int tr], iA G (ad 0) 255 (upd S (48 + (2 * i0)) d)] := hD
      refine lv_goto (tgt := 31) hx hb dX6_regrind_27 rfl ?_
      have hP := hP.sub (ws' := [oC ko 6 [.ref (ad 0), .ref (ad 1), .int (nI w), .int (nI h), .int (nI la), .ref (ad 2), .int (mv 0), .int (mv 1), .int (mv 2), .int (mv 3), .int (mv 4), .int (mv 5), .int (mv 6), .ref (ad 3), .int (nI tp), .int (mv 7), .int (mv 8), .int (mv 9), .int (mv 10), .int ft, .int (mv 11), .ref (ad 4), .ref (ad 5), .ref (ad 6), .ref (ad 7), .ref (ad 8), .ref (ad 9), .ref (ad 10), .int tr], iA G (ad 0) 255 (upd S (48 + (2 * i0)) d)]) [0, 1] rfl
      have hD := hD.sub (ws' := [oC ko 6 [.ref (ad 0), .ref (ad 1), .int (nI w), .int (nI h), .int (nI la), .ref (ad 2), .int (mv 0), .int (mv 1), .int (mv 2), .int (mv 3), .int (mv 4), .int (mv 5), .int (mv 6), .ref (ad 3), .int (nI tp), .int (mv 7), .int (mv 8), .int (mv 9), .int (mv 10), .int ft, .int (mv 11), .ref (ad 4), .ref (ad 5), .ref (ad 6), .ref (ad 7), .ref (ad 8), .ref (ad 9), .ref (ad 10), .int tr], iA G (ad 0) 255 (upd S (48 + (2 * i0)) d)]) [0, 1] (by decide) rfl
      refine W.iret (v := S (48 + (2 * i0))) hx hb hr (fun t ht hW => ⟨⟨S (48 + (2 * i0)), ((upd S (48 + (2 * i0)) d)), rfl, ?_, by rw [ht]; exact hP, hD⟩, hS.F ht⟩) hS.2.2 dX6_regrind_31
      first | exact ⟨(if_neg (fun q => b5 q.1)).symm, (if_neg (fun q => b5 q.1)).symm⟩ | exact ⟨(if_neg (fun q => b13 q.2)).symm, (if_neg (fun q => b13 q.2)).symm⟩ | (rw [if_pos ⟨inR_nI hi0 (by omega), b13⟩, if_pos ⟨inR_nI hi0 (by omega), b13⟩, tn_nI (by omega)]; exact ⟨rfl, rfl⟩)

abbrev w_X6_crack (G : XG) (ko : Nat) (ad : Nat → Nat) (w h la tp : Nat) (ft tr : Int32) (mv : Nat → Int32) (S : Nat → Int32) : va_W := [oC ko 6 [.ref (ad 0), .ref (ad 1), .int (nI w), .int (nI h), .int (nI la), .ref (ad 2), .int (mv 0), .int (mv 1), .int (mv 2), .int (mv 3), .int (mv 4), .int (mv 5), .int (mv 6), .ref (ad 3), .int (nI tp), .int (mv 7), .int (mv 8), .int (mv 9), .int (mv 10), .int ft, .int (mv 11), .ref (ad 4), .ref (ad 5), .ref (ad 6), .ref (ad 7), .ref (ad 8), .ref (ad 9), .ref (ad 10), .int tr], iA G (ad 0) 255 S]
abbrev Q_X6_crack (G : XG) (sz : Nat) (ko : Nat) (ad : Nat → Nat) (w h la tp : Nat) (ft tr : Int32) (mv : Nat → Int32) (S : Nat → Int32) (nl : Nat) (i c is : Int32) : Array Value → State → Outcome → State → Prop := (va_Qi (fun (r : Int32) (u : (Nat → Int32)) => r = (if inR i nl ∧ inR c (w * h) then ((S (48 + 2 * tn i + 1)) >>> (nI (tn c) &&& 31)) &&& nI 1 else (-1)) ∧ u = (if inR i nl ∧ inR c (w * h) then upd S (48 + 2 * tn i + 1) (if is = 0 then (S (48 + 2 * tn i + 1)) &&& (xbit (tn c) ^^^ (-1)) else (S (48 + 2 * tn i + 1)) ||| xbit (tn c)) else S)) (xWb G sz (w_X6_crack G ko ad w h la tp ft tr mv S) (fun u : (Nat → Int32) => [oC ko 6 [.ref (ad 0), .ref (ad 1), .int (nI w), .int (nI h), .int (nI la), .ref (ad 2), .int (mv 0), .int (mv 1), .int (mv 2), .int (mv 3), .int (mv 4), .int (mv 5), .int (mv 6), .ref (ad 3), .int (nI tp), .int (mv 7), .int (mv 8), .int (mv 9), .int (mv 10), .int ft, .int (mv 11), .ref (ad 4), .ref (ad 5), .ref (ad 6), .ref (ad 7), .ref (ad 8), .ref (ad 9), .ref (ad 10), .int tr], iA G (ad 0) 255 u])) (va_A (w_X6_crack G ko ad w h la tp ft tr mv S) sz))
set_option maxHeartbeats 4000000 in
set_option maxRecDepth 100000 in
theorem c_X6_crack (l : Launch) (G : XG) (sz : Nat) (ko : Nat) (ad : Nat → Nat) (w h la tp : Nat) (ft tr : Int32) (mv : Nat → Int32) (S : Nat → Int32) (nl : Nat) (i c is : Int32) (hw : 1 ≤ w) (hwb : w ≤ 16) (hhb : h ≤ 16) (hwh1 : 1 ≤ w * h) (hwh : w * h ≤ 16) (hs47 : S 47 = nI nl) (hnl : nl ≤ 6) : Met l yX6_crack wsX6_crack ({ frames := 2, cells := 0, slots := 0, locals := 46 } : Room) (va_Pc [.ref ko, .int i, .int c, .int is] (xWp G sz (w_X6_crack G ko ad w h la tp ft tr mv S))) (Q_X6_crack G sz ko ad w h la tp ft tr mv S nl i c is) 0 0 (va_A (w_X6_crack G ko ad w h la tp ft tr mv S) sz) := by
  refine Met.ofW (cc := cX6_crack) (maxL := 6) (ret := (some .int)) (by decide) rfl ?_
  intro pp ee ss mm aa below mt cd s₁ BB hml hv
  obtain ⟨rfl, hsz, hP, hK, hD0⟩ := hv
  have hx := BB.exec
  have hb := BB.bytes
  have hr := BB.returns
  have hts := atoms_spec (ws := wsX6_crack) BB.pre
  have hown : ss.vm.findClass RX6 = some mm.cls := findClass_of_methodNamed BB.named
  have hlocks := BB.notSynchronized
  subst hsz
  have hD := hD0.self (sz := ss.heap.size)
  have hA : ∀ q : Nat, ss.heap.size ≤ q → va_A (w_X6_crack G ko ad w h la tp ft tr mv S) ss.heap.size q := fun q h => Or.inr h
  have hS : va_S (va_A (w_X6_crack G ko ad w h la tp ft tr mv S) ss.heap.size) ss.heap ss.heap [] := va_S.rf
  replace hD : va_D (va_A (w_X6_crack G ko ad w h la tp ft tr mv S) ss.heap.size) [oC ko 6 [.ref (ad 0), .ref (ad 1), .int (nI w), .int (nI h), .int (nI la), .ref (ad 2), .int (mv 0), .int (mv 1), .int (mv 2), .int (mv 3), .int (mv 4), .int (mv 5), .int (mv 6), .ref (ad 3), .int (nI tp), .int (mv 7), .int (mv 8), .int (mv 9), .int (mv 10), .int ft, .int (mv 11), .ref (ad 4), .ref (ad 5), .ref (ad 6), .ref (ad 7), .ref (ad 8), .ref (ad 9), .ref (ad 10), .int tr], iA G (ad 0) 255 S] := hD
  replace hP : xP G [oC ko 6 [.ref (ad 0), .ref (ad 1), .int (nI w), .int (nI h), .int (nI la), .ref (ad 2), .int (mv 0), .int (mv 1), .int (mv 2), .int (mv 3), .int (mv 4), .int (mv 5), .int (mv 6), .ref (ad 3), .int (nI tp), .int (mv 7), .int (mv 8), .int (mv 9), .int (mv 10), .int ft, .int (mv 11), .ref (ad 4), .ref (ad 5), .ref (ad 6), .ref (ad 7), .ref (ad 8), .ref (ad 9), .ref (ad 10), .int tr], iA G (ad 0) 255 S] ss.heap := hP
  have hin6 : ∀ w ∈ u_ws RX6 TX6 29, w ∈ wsX6_crack := fun w h => List.mem_cons_of_mem _ (List.mem_append_right _ h)
  have hl := lv_entry ([.ref ko, .int i, .int c, .int is]) (n := 6) (Nat.le_of_ble_eq_true rfl)
  rw [lg_entry_eq]
  generalize (lg_sl ([.ref ko, .int i, .int c, .int is]) ++ List.replicate (6 - (lg_sl ([.ref ko, .int i, .int c, .int is])).length) Slot.unset).toArray = ls at hl ⊢
  replace hl : lv_has ls 6 [(0, .ref ko), (1, .int i), (2, .int c), (3, .int is)] := hl
  refine lv_aload_n hx hb dX6_crack_0 rfl (lv_at hl 0 rfl) ?_
  refine lv_iload_n hx hb dX6_crack_1 rfl (lv_at hl 1 rfl) ?_
  refine xr_i (As := [.int i]) (rest := []) ⟨hx, hb, hml, hown, hts⟩ (c_X6_isLens l G ko ad w h la tp ft tr mv S _ i (by first | assumption | omega) (by first | assumption | omega)) (cwV 1 hts gX6_crack_X6_isLens rfl rfl rfl (by decide +kernel) ⟨Nat.le_of_ble_eq_true rfl, Nat.le_of_ble_eq_true rfl⟩) hK hP hS [0, 1] rfl rfl rfl rfl hl.1 rfl (Nat.le_of_ble_eq_true rfl) dX6_crack_2 ⟨Nat.zero_le _, Nat.zero_le _⟩ (fun r2 H locs hp2 hP hS => ?_)
  rw [show r2 = _ from hp2]
  refine xb_if_eq (tgt := 16) hx hb dX6_crack_5 rfl (fun b5 => ?_) (fun b5 => ?_)
  · skip
    refine lv_iconst (v := (-1)) hx hb dX6_crack_16 (by decide) ?_
    have hP := hP.sub (ws' := [oC ko 6 [.ref (ad 0), .ref (ad 1), .int (nI w), .int (nI h), .int (nI la), .ref (ad 2), .int (mv 0), .int (mv 1), .int (mv 2), .int (mv 3), .int (mv 4), .int (mv 5), .int (mv 6), .ref (ad 3), .int (nI tp), .int (mv 7), .int (mv 8), .int (mv 9), .int (mv 10), .int ft, .int (mv 11), .ref (ad 4), .ref (ad 5), .ref (ad 6), .ref (ad 7), .ref (ad 8), .ref (ad 9), .ref (ad 10), .int tr], iA G (ad 0) 255 S]) [0, 1] rfl
    have hD := hD.sub (ws' := [oC ko 6 [.ref (ad 0), .ref (ad 1), .int (nI w), .int (nI h), .int (nI la), .ref (ad 2), .int (mv 0), .int (mv 1), .int (mv 2), .int (mv 3), .int (mv 4), .int (mv 5), .int (mv 6), .ref (ad 3), .int (nI tp), .int (mv 7), .int (mv 8), .int (mv 9), .int (mv 10), .int ft, .int (mv 11), .ref (ad 4), .ref (ad 5), .ref (ad 6), .ref (ad 7), .ref (ad 8), .ref (ad 9), .ref (ad 10), .int tr], iA G (ad 0) 255 S]) [0, 1] (by decide) rfl
    refine W.iret (v := (-1)) hx hb hr (fun t ht hW => ⟨⟨(-1), (S), rfl, ?_, by rw [ht]; exact hP, hD⟩, hS.F ht⟩) hS.2.2 dX6_crack_17
    first | exact ⟨(if_neg (fun q => b5 q.1)).symm, (if_neg (fun q => b5 q.1)).symm⟩ | exact ⟨(if_neg (fun q => b13 q.2)).symm, (if_neg (fun q => b13 q.2)).symm⟩ | (have hok : inR (nI i0) nl ∧ inR (nI c0) (w * h) := ⟨inR_nI hi0 (by omega), inR_nI hc0 (by omega)⟩; rw [if_pos hok, if_pos hok, tn_nI (by omega), tn_nI (by omega)]; first | (rw [if_pos b48]; exact ⟨rfl, rfl⟩) | (rw [if_neg b48]; exact ⟨rfl, rfl⟩))
  · skip
    refine lv_aload_n hx hb dX6_crack_8 rfl (lv_at hl 0 rfl) ?_
    refine lv_iload_n hx hb dX6_crack_9 rfl (lv_at hl 2 rfl) ?_
    refine xr_i (As := [.int c]) (rest := []) ⟨hx, hb, hml, hown, hts⟩ (c_X6_isCell l G ko ad w h la tp ft tr mv c (by first | assumption | omega) (by first | assumption | omega)) (cwV 1 hts gX6_crack_X6_isCell rfl rfl rfl (by decide +kernel) ⟨Nat.le_of_ble_eq_true rfl, Nat.le_of_ble_eq_true rfl⟩) hK hP hS [0] rfl rfl rfl rfl hl.1 rfl (Nat.le_of_ble_eq_true rfl) dX6_crack_10 ⟨Nat.zero_le _, Nat.zero_le _⟩ (fun r10 H locs hp10 hP hS => ?_)
    rw [show r10 = _ from hp10]
    refine xb_if_ne (tgt := 18) hx hb dX6_crack_13 rfl (fun b13 => ?_) (fun b13 => ?_)
    · skip
      obtain ⟨i0, hi0, rfl⟩ := inR_nat b5
      obtain ⟨c0, hc0, rfl⟩ := inR_nat b13
      refine lv_bipush (v := nI 48) hx hb dX6_crack_18 (by decide) ?_
      refine lv_iconst (v := nI 2) hx hb dX6_crack_20 (by decide) ?_
      refine lv_iload_n hx hb dX6_crack_21 rfl (lv_at hl 1 rfl) ?_
      refine xn_imul hx hb dX6_crack_22 ?_
      refine xn_iadd hx hb dX6_crack_23 ?_
      refine lv_iconst (v := nI 1) hx hb dX6_crack_24 (by decide) ?_
      refine xn_iadd hx hb dX6_crack_25 ?_
      refine lv_istore (lv' := [(4, .int (nI ((48 + (2 * i0)) + 1))), (0, .ref ko), (1, .int (nI i0)), (2, .int (nI c0)), (3, .int is)]) hx hb dX6_crack_26 hl (by decide) rfl (fun ls hl => ?_)
      refine lv_aload_n hx hb dX6_crack_28 rfl (lv_at hl 1 rfl) ?_
      refine va_get (D := G.1) (ci := 6) (v := .ref (ad 0)) (C := RX6) (T := TX6) (N := 29) hx hb hts hin6 hown hK.1 hP 0 rfl rfl 0 (by decide) (hts (.fieldLink RX6 7 "BackLensesModel" "st" "[I") (List.mem_of_getElem? (i := 1) rfl)) (fun _ h9 => h9) rfl dX6_crack_29 ?_
      refine lv_iload hx hb dX6_crack_32 (lv_at hl 0 rfl) ?_
      refine xn_iald hx hb hK hP 1 rfl (by omega) (by omega) dX6_crack_34 ?_
      refine lv_iload_n hx hb dX6_crack_35 rfl (lv_at hl 3 rfl) ?_
      refine lv_ishr hx hb dX6_crack_36 ?_
      refine lv_iconst (v := nI 1) hx hb dX6_crack_37 (by decide) ?_
      refine lv_iand hx hb dX6_crack_38 ?_
      refine lv_istore (lv' := [(5, .int (((S ((48 + (2 * i0)) + 1)) >>> ((nI c0) &&& 31)) &&& (nI 1))), (4, .int (nI ((48 + (2 * i0)) + 1))), (0, .ref ko), (1, .int (nI i0)), (2, .int (nI c0)), (3, .int is)]) hx hb dX6_crack_39 hl (by decide) rfl (fun ls hl => ?_)
      refine lv_aload_n hx hb dX6_crack_41 rfl (lv_at hl 2 rfl) ?_
      refine va_get (D := G.1) (ci := 6) (v := .ref (ad 0)) (C := RX6) (T := TX6) (N := 29) hx hb hts hin6 hown hK.1 hP 0 rfl rfl 0 (by decide) (hts (.fieldLink RX6 7 "BackLensesModel" "st" "[I") (List.mem_of_getElem? (i := 1) rfl)) (fun _ h9 => h9) rfl dX6_crack_42 ?_
      refine lv_iload hx hb dX6_crack_45 (lv_at hl 1 rfl) ?_
      refine lv_iload_n hx hb dX6_crack_47 rfl (lv_at hl 5 rfl) ?_
      refine lv_if_eq (tgt := 65) hx hb dX6_crack_48 rfl (fun b48 => ?_) (fun b48 => ?_)
      · skip
        refine lv_aload_n hx hb dX6_crack_65 rfl (lv_at hl 2 rfl) ?_
        refine va_get (D := G.1) (ci := 6) (v := .ref (ad 0)) (C := RX6) (T := TX6) (N := 29) hx hb hts hin6 hown hK.1 hP 0 rfl rfl 0 (by decide) (hts (.fieldLink RX6 7 "BackLensesModel" "st" "[I") (List.mem_of_getElem? (i := 1) rfl)) (fun _ h9 => h9) rfl dX6_crack_66 ?_
        refine lv_iload hx hb dX6_crack_69 (lv_at hl 1 rfl) ?_
        refine xn_iald hx hb hK hP 1 rfl (by omega) (by omega) dX6_crack_71 ?_
        refine lv_iconst (v := nI 1) hx hb dX6_crack_72 (by decide) ?_
        refine lv_iload_n hx hb dX6_crack_73 rfl (lv_at hl 4 rfl) ?_
        refine lv_ishl hx hb dX6_crack_74 ?_
        refine lv_iconst (v := (-1)) hx hb dX6_crack_75 (by decide) ?_
        refine lv_ixor hx hb dX6_crack_76 ?_
        refine lv_iand hx hb dX6_crack_77 ?_
        refine xn_iast hx hb hK hP hD hS 1 rfl (by omega) (by omega) dX6_crack_78 (fun H locs hP hD hS => ?_)
        replace hP : xP G [oC ko 6 [.ref (ad 0), .ref (ad 1), .int (nI w), .int (nI h), .int (nI la), .ref (ad 2), .int (mv 0), .int (mv 1), .int (mv 2), .int (mv 3), .int (mv 4), .int (mv 5), .int (mv 6), .ref (ad 3), .int (nI tp), .int (mv 7), .int (mv 8), .int (mv 9), .int (mv 10), .int ft, .int (mv 11), .ref (ad 4), .ref (ad 5), .ref (ad 6), .ref (ad 7), .ref (ad 8), .ref (ad 9), .ref (ad 10), .int tr], iA G (ad 0) 255 (upd S ((48 + (2 * i0)) + 1) ((S ((48 + (2 * i0)) + 1)) &&& (((nI 1) <<< ((nI c0) &&& 31)) ^^^ (-1))))] H := hP
        replace hD : va_D (va_A (w_X6_crack G ko ad w h la tp ft tr mv S) ss.heap.size) [oC ko 6 [.ref (ad 0), .ref (ad 1), .int (nI w), .int (nI h), .int (nI la), .ref (ad 2), .int (mv 0), .int (mv 1), .int (mv 2), .int (mv 3), .int (mv 4), .int (mv 5), .int (mv 6), .ref (ad 3), .int (nI tp), .int (mv 7), .int (mv 8), .int (mv 9), .int (mv 10), .int ft, .int (mv 11), .ref (ad 4), .ref (ad 5), .ref (ad 6), .ref (ad 7), .ref (ad 8), .ref (ad 9), .ref (ad 10), .int tr], iA G (ad 0) 255 (upd S ((48 + (2 * i0)) + 1) ((S ((48 + (2 * i0)) + 1)) &&& (((nI 1) <<< ((nI c0) &&& 31)) ^^^ (-1))))] := hD
        refine lv_iload hx hb dX6_crack_79 (lv_at hl 0 rfl) ?_
        have hP := hP.sub (ws' := [oC ko 6 [.ref (ad 0), .ref (ad 1), .int (nI w), .int (nI h), .int (nI la), .ref (ad 2), .int (mv 0), .int (mv 1), .int (mv 2), .int (mv 3), .int (mv 4), .int (mv 5), .int (mv 6), .ref (ad 3), .int (nI tp), .int (mv 7), .int (mv 8), .int (mv 9), .int (mv 10), .int ft, .int (mv 11), .ref (ad 4), .ref (ad 5), .ref (ad 6), .ref (ad 7), .ref (ad 8), .ref (ad 9), .ref (ad 10), .int tr], iA G (ad 0) 255 (upd S ((48 + (2 * i0)) + 1) ((S ((48 + (2 * i0)) + 1)) &&& (((nI 1) <<< ((nI c0) &&& 31)) ^^^ (-1))))]) [0, 1] rfl
        have hD := hD.sub (ws' := [oC ko 6 [.ref (ad 0), .ref (ad 1), .int (nI w), .int (nI h), .int (nI la), .ref (ad 2), .int (mv 0), .int (mv 1), .int (mv 2), .int (mv 3), .int (mv 4), .int (mv 5), .int (mv 6), .ref (ad 3), .int (nI tp), .int (mv 7), .int (mv 8), .int (mv 9), .int (mv 10), .int ft, .int (mv 11), .ref (ad 4), .ref (ad 5), .ref (ad 6), .ref (ad 7), .ref (ad 8), .ref (ad 9), .ref (ad 10), .int tr], iA G (ad 0) 255 (upd S ((48 + (2 * i0)) + 1) ((S ((48 + (2 * i0)) + 1)) &&& (((nI 1) <<< ((nI c0) &&& 31)) ^^^ (-1))))]) [0, 1] (by decide) rfl
        refine W.iret (v := ((S ((48 + (2 * i0)) + 1)) >>> ((nI c0) &&& 31)) &&& (nI 1)) hx hb hr (fun t ht hW => ⟨⟨((S ((48 + (2 * i0)) + 1)) >>> ((nI c0) &&& 31)) &&& (nI 1), (upd S ((48 + (2 * i0)) + 1) ((S ((48 + (2 * i0)) + 1)) &&& (((nI 1) <<< ((nI c0) &&& 31)) ^^^ (-1)))), rfl, ?_, by rw [ht]; exact hP, hD⟩, hS.F ht⟩) hS.2.2 dX6_crack_81
        first | exact ⟨(if_neg (fun q => b5 q.1)).symm, (if_neg (fun q => b5 q.1)).symm⟩ | exact ⟨(if_neg (fun q => b13 q.2)).symm, (if_neg (fun q => b13 q.2)).symm⟩ | (have hok : inR (nI i0) nl ∧ inR (nI c0) (w * h) := ⟨inR_nI hi0 (by omega), inR_nI hc0 (by omega)⟩; rw [if_pos hok, if_pos hok, tn_nI (by omega), tn_nI (by omega)]; first | (rw [if_pos b48]; exact ⟨rfl, rfl⟩) | (rw [if_neg b48]; exact ⟨rfl, rfl⟩))
      · skip
        refine lv_aload_n hx hb dX6_crack_51 rfl (lv_at hl 2 rfl) ?_
        refine va_get (D := G.1) (ci := 6) (v := .ref (ad 0)) (C := RX6) (T := TX6) (N := 29) hx hb hts hin6 hown hK.1 hP 0 rfl rfl 0 (by decide) (hts (.fieldLink RX6 7 "BackLensesModel" "st" "[I") (List.mem_of_getElem? (i := 1) rfl)) (fun _ h9 => h9) rfl dX6_crack_52 ?_
        refine lv_iload hx hb dX6_crack_55 (lv_at hl 1 rfl) ?_
        refine xn_iald hx hb hK hP 1 rfl (by omega) (by omega) dX6_crack_57 ?_
        refine lv_iconst (v := nI 1) hx hb dX6_crack_58 (by decide) ?_
        refine lv_iload_n hx hb dX6_crack_59 rfl (lv_at hl 4 rfl) ?_
        refine lv_ishl hx hb dX6_crack_60 ?_
        refine lv_ior hx hb dX6_crack_61 ?_
        refine lv_goto (tgt := 78) hx hb dX6_crack_62 rfl ?_
        refine xn_iast hx hb hK hP hD hS 1 rfl (by omega) (by omega) dX6_crack_78 (fun H locs hP hD hS => ?_)
        replace hP : xP G [oC ko 6 [.ref (ad 0), .ref (ad 1), .int (nI w), .int (nI h), .int (nI la), .ref (ad 2), .int (mv 0), .int (mv 1), .int (mv 2), .int (mv 3), .int (mv 4), .int (mv 5), .int (mv 6), .ref (ad 3), .int (nI tp), .int (mv 7), .int (mv 8), .int (mv 9), .int (mv 10), .int ft, .int (mv 11), .ref (ad 4), .ref (ad 5), .ref (ad 6), .ref (ad 7), .ref (ad 8), .ref (ad 9), .ref (ad 10), .int tr], iA G (ad 0) 255 (upd S ((48 + (2 * i0)) + 1) ((S ((48 + (2 * i0)) + 1)) ||| ((nI 1) <<< ((nI c0) &&& 31))))] H := hP
        replace hD : va_D (va_A (w_X6_crack G ko ad w h la tp ft tr mv S) ss.heap.size) [oC ko 6 [.ref (ad 0), .ref (ad 1), .int (nI w), .int (nI h), .int (nI la), .ref (ad 2), .int (mv 0), .int (mv 1), .int (mv 2), .int (mv 3), .int (mv 4), .int (mv 5), .int (mv 6), .ref (ad 3), .int (nI tp), .int (mv 7), .int (mv 8), .int (mv 9), .int (mv 10), .int ft, .int (mv 11), .ref (ad 4), .ref (ad 5), .ref (ad 6), .ref (ad 7), .ref (ad 8), .ref (ad 9), .ref (ad 10), .int tr], iA G (ad 0) 255 (upd S ((48 + (2 * i0)) + 1) ((S ((48 + (2 * i0)) + 1)) ||| ((nI 1) <<< ((nI c0) &&& 31))))] := hD
        refine lv_iload hx hb dX6_crack_79 (lv_at hl 0 rfl) ?_
        have hP := hP.sub (ws' := [oC ko 6 [.ref (ad 0), .ref (ad 1), .int (nI w), .int (nI h), .int (nI la), .ref (ad 2), .int (mv 0), .int (mv 1), .int (mv 2), .int (mv 3), .int (mv 4), .int (mv 5), .int (mv 6), .ref (ad 3), .int (nI tp), .int (mv 7), .int (mv 8), .int (mv 9), .int (mv 10), .int ft, .int (mv 11), .ref (ad 4), .ref (ad 5), .ref (ad 6), .ref (ad 7), .ref (ad 8), .ref (ad 9), .ref (ad 10), .int tr], iA G (ad 0) 255 (upd S ((48 + (2 * i0)) + 1) ((S ((48 + (2 * i0)) + 1)) ||| ((nI 1) <<< ((nI c0) &&& 31))))]) [0, 1] rfl
        have hD := hD.sub (ws' := [oC ko 6 [.ref (ad 0), .ref (ad 1), .int (nI w), .int (nI h), .int (nI la), .ref (ad 2), .int (mv 0), .int (mv 1), .int (mv 2), .int (mv 3), .int (mv 4), .int (mv 5), .int (mv 6), .ref (ad 3), .int (nI tp), .int (mv 7), .int (mv 8), .int (mv 9), .int (mv 10), .int ft, .int (mv 11), .ref (ad 4), .ref (ad 5), .ref (ad 6), .ref (ad 7), .ref (ad 8), .ref (ad 9), .ref (ad 10), .int tr], iA G (ad 0) 255 (upd S ((48 + (2 * i0)) + 1) ((S ((48 + (2 * i0)) + 1)) ||| ((nI 1) <<< ((nI c0) &&& 31))))]) [0, 1] (by decide) rfl
        refine W.iret (v := ((S ((48 + (2 * i0)) + 1)) >>> ((nI c0) &&& 31)) &&& (nI 1)) hx hb hr (fun t ht hW => ⟨⟨((S ((48 + (2 * i0)) + 1)) >>> ((nI c0) &&& 31)) &&& (nI 1), (upd S ((48 + (2 * i0)) + 1) ((S ((48 + (2 * i0)) + 1)) ||| ((nI 1) <<< ((nI c0) &&& 31)))), rfl, ?_, by rw [ht]; exact hP, hD⟩, hS.F ht⟩) hS.2.2 dX6_crack_81
        first | exact ⟨(if_neg (fun q => b5 q.1)).symm, (if_neg (fun q => b5 q.1)).symm⟩ | exact ⟨(if_neg (fun q => b13 q.2)).symm, (if_neg (fun q => b13 q.2)).symm⟩ | (have hok : inR (nI i0) nl ∧ inR (nI c0) (w * h) := ⟨inR_nI hi0 (by omega), inR_nI hc0 (by omega)⟩; rw [if_pos hok, if_pos hok, tn_nI (by omega), tn_nI (by omega)]; first | (rw [if_pos b48]; exact ⟨rfl, rfl⟩) | (rw [if_neg b48]; exact ⟨rfl, rfl⟩))
    · skip
      refine lv_iconst (v := (-1)) hx hb dX6_crack_16 (by decide) ?_
      have hP := hP.sub (ws' := [oC ko 6 [.ref (ad 0), .ref (ad 1), .int (nI w), .int (nI h), .int (nI la), .ref (ad 2), .int (mv 0), .int (mv 1), .int (mv 2), .int (mv 3), .int (mv 4), .int (mv 5), .int (mv 6), .ref (ad 3), .int (nI tp), .int (mv 7), .int (mv 8), .int (mv 9), .int (mv 10), .int ft, .int (mv 11), .ref (ad 4), .ref (ad 5), .ref (ad 6), .ref (ad 7), .ref (ad 8), .ref (ad 9), .ref (ad 10), .int tr], iA G (ad 0) 255 S]) [0, 1] rfl
      have hD := hD.sub (ws' := [oC ko 6 [.ref (ad 0), .ref (ad 1), .int (nI w), .int (nI h), .int (nI la), .ref (ad 2), .int (mv 0), .int (mv 1), .int (mv 2), .int (mv 3), .int (mv 4), .int (mv 5), .int (mv 6), .ref (ad 3), .int (nI tp), .int (mv 7), .int (mv 8), .int (mv 9), .int (mv 10), .int ft, .int (mv 11), .ref (ad 4), .ref (ad 5), .ref (ad 6), .ref (ad 7), .ref (ad 8), .ref (ad 9), .ref (ad 10), .int tr], iA G (ad 0) 255 S]) [0, 1] (by decide) rfl
      refine W.iret (v := (-1)) hx hb hr (fun t ht hW => ⟨⟨(-1), (S), rfl, ?_, by rw [ht]; exact hP, hD⟩, hS.F ht⟩) hS.2.2 dX6_crack_17
      first | exact ⟨(if_neg (fun q => b5 q.1)).symm, (if_neg (fun q => b5 q.1)).symm⟩ | exact ⟨(if_neg (fun q => b13 q.2)).symm, (if_neg (fun q => b13 q.2)).symm⟩ | (have hok : inR (nI i0) nl ∧ inR (nI c0) (w * h) := ⟨inR_nI hi0 (by omega), inR_nI hc0 (by omega)⟩; rw [if_pos hok, if_pos hok, tn_nI (by omega), tn_nI (by omega)]; first | (rw [if_pos b48]; exact ⟨rfl, rfl⟩) | (rw [if_neg b48]; exact ⟨rfl, rfl⟩))

abbrev w_X6_forget (G : XG) (ko : Nat) (ad : Nat → Nat) (w h la tp : Nat) (ft tr : Int32) (mv : Nat → Int32) (S : Nat → Int32) : va_W := [oC ko 6 [.ref (ad 0), .ref (ad 1), .int (nI w), .int (nI h), .int (nI la), .ref (ad 2), .int (mv 0), .int (mv 1), .int (mv 2), .int (mv 3), .int (mv 4), .int (mv 5), .int (mv 6), .ref (ad 3), .int (nI tp), .int (mv 7), .int (mv 8), .int (mv 9), .int (mv 10), .int ft, .int (mv 11), .ref (ad 4), .ref (ad 5), .ref (ad 6), .ref (ad 7), .ref (ad 8), .ref (ad 9), .ref (ad 10), .int tr], iA G (ad 0) 255 S]
abbrev Q_X6_forget (G : XG) (sz : Nat) (ko : Nat) (ad : Nat → Nat) (w h la tp : Nat) (ft tr : Int32) (mv : Nat → Int32) (S : Nat → Int32) (ns : Nat) (v : Int32) : Array Value → State → Outcome → State → Prop := (va_Qi (fun (r : Int32) (u : (Nat → Int32)) => r = (if inR v (ns + 1) then nI ns else (-1)) ∧ u = (if inR v (ns + 1) then upd S 60 v else S)) (xWb G sz (w_X6_forget G ko ad w h la tp ft tr mv S) (fun u : (Nat → Int32) => [oC ko 6 [.ref (ad 0), .ref (ad 1), .int (nI w), .int (nI h), .int (nI la), .ref (ad 2), .int (mv 0), .int (mv 1), .int (mv 2), .int (mv 3), .int (mv 4), .int (mv 5), .int (mv 6), .ref (ad 3), .int (nI tp), .int (mv 7), .int (mv 8), .int (mv 9), .int (mv 10), .int ft, .int (mv 11), .ref (ad 4), .ref (ad 5), .ref (ad 6), .ref (ad 7), .ref (ad 8), .ref (ad 9), .ref (ad 10), .int tr], iA G (ad 0) 255 u])) (va_A (w_X6_forget G ko ad w h la tp ft tr mv S) sz))
set_option maxHeartbeats 4000000 in
set_option maxRecDepth 100000 in
theorem c_X6_forget (l : Launch) (G : XG) (sz : Nat) (ko : Nat) (ad : Nat → Nat) (w h la tp : Nat) (ft tr : Int32) (mv : Nat → Int32) (S : Nat → Int32) (ns : Nat) (v : Int32) (hs60 : S 60 = nI ns) (hns : ns ≤ 8) : Met l yX6_forget wsX6_forget ({ frames := 1, cells := 0, slots := 0, locals := 25 } : Room) (va_Pc [.ref ko, .int v] (xWp G sz (w_X6_forget G ko ad w h la tp ft tr mv S))) (Q_X6_forget G sz ko ad w h la tp ft tr mv S ns v) 0 0 (va_A (w_X6_forget G ko ad w h la tp ft tr mv S) sz) := by
  refine Met.ofW (cc := cX6_forget) (maxL := 2) (ret := (some .int)) (by decide) rfl ?_
  intro pp ee ss mm aa below mt cd s₁ BB hml hv
  obtain ⟨rfl, hsz, hP, hK, hD0⟩ := hv
  have hx := BB.exec
  have hb := BB.bytes
  have hr := BB.returns
  have hts := atoms_spec (ws := wsX6_forget) BB.pre
  have hown : ss.vm.findClass RX6 = some mm.cls := findClass_of_methodNamed BB.named
  have hlocks := BB.notSynchronized
  subst hsz
  have hD := hD0.self (sz := ss.heap.size)
  have hA : ∀ q : Nat, ss.heap.size ≤ q → va_A (w_X6_forget G ko ad w h la tp ft tr mv S) ss.heap.size q := fun q h => Or.inr h
  have hS : va_S (va_A (w_X6_forget G ko ad w h la tp ft tr mv S) ss.heap.size) ss.heap ss.heap [] := va_S.rf
  replace hD : va_D (va_A (w_X6_forget G ko ad w h la tp ft tr mv S) ss.heap.size) [oC ko 6 [.ref (ad 0), .ref (ad 1), .int (nI w), .int (nI h), .int (nI la), .ref (ad 2), .int (mv 0), .int (mv 1), .int (mv 2), .int (mv 3), .int (mv 4), .int (mv 5), .int (mv 6), .ref (ad 3), .int (nI tp), .int (mv 7), .int (mv 8), .int (mv 9), .int (mv 10), .int ft, .int (mv 11), .ref (ad 4), .ref (ad 5), .ref (ad 6), .ref (ad 7), .ref (ad 8), .ref (ad 9), .ref (ad 10), .int tr], iA G (ad 0) 255 S] := hD
  replace hP : xP G [oC ko 6 [.ref (ad 0), .ref (ad 1), .int (nI w), .int (nI h), .int (nI la), .ref (ad 2), .int (mv 0), .int (mv 1), .int (mv 2), .int (mv 3), .int (mv 4), .int (mv 5), .int (mv 6), .ref (ad 3), .int (nI tp), .int (mv 7), .int (mv 8), .int (mv 9), .int (mv 10), .int ft, .int (mv 11), .ref (ad 4), .ref (ad 5), .ref (ad 6), .ref (ad 7), .ref (ad 8), .ref (ad 9), .ref (ad 10), .int tr], iA G (ad 0) 255 S] ss.heap := hP
  have hin6 : ∀ w ∈ u_ws RX6 TX6 29, w ∈ wsX6_forget := fun w h => List.mem_cons_of_mem _ (List.mem_append_right _ h)
  have hl := lv_entry ([.ref ko, .int v]) (n := 2) (Nat.le_of_ble_eq_true rfl)
  rw [lg_entry_eq]
  generalize (lg_sl ([.ref ko, .int v]) ++ List.replicate (2 - (lg_sl ([.ref ko, .int v])).length) Slot.unset).toArray = ls at hl ⊢
  replace hl : lv_has ls 2 [(0, .ref ko), (1, .int v)] := hl
  refine lv_iload_n hx hb dX6_forget_0 rfl (lv_at hl 1 rfl) ?_
  refine xi_i2l hx hb dX6_forget_1 ?_
  refine lv_lconst (v := lN 0) hx hb dX6_forget_2 (by decide) ?_
  refine lv_aload_n hx hb dX6_forget_3 rfl (lv_at hl 0 rfl) ?_
  refine va_get (D := G.1) (ci := 6) (v := .ref (ad 0)) (C := RX6) (T := TX6) (N := 29) hx hb hts hin6 hown hK.1 hP 0 rfl rfl 0 (by decide) (hts (.fieldLink RX6 7 "BackLensesModel" "st" "[I") (List.mem_of_getElem? (i := 1) rfl)) (fun _ h9 => h9) rfl dX6_forget_4 ?_
  refine lv_bipush (v := nI 60) hx hb dX6_forget_7 (by decide) ?_
  refine xn_iald hx hb hK hP 1 rfl (by omega) (by omega) dX6_forget_9 ?_
  refine xn_top (y := nI ns) (by exact hs60) ?_
  refine xn_i2l hx hb (by omega) dX6_forget_10 ?_
  refine xs_i (As := [.long v.toInt64, .long (lN 0), .long (lN ns)]) (rest := []) ⟨hx, hb, hml, hown, hts⟩ (c_X6_in_r l G v ns (by first | assumption | omega)) (va_cwS 3 hts gX6_forget_X6_in rfl rfl rfl (by decide +kernel) ⟨Nat.le_of_ble_eq_true rfl, Nat.le_of_ble_eq_true rfl⟩) hP hS rfl hl.1 rfl (Nat.le_of_ble_eq_true rfl) dX6_forget_11 ⟨Nat.zero_le _, Nat.zero_le _⟩ (fun r11 H locs hp11 hP hS => ?_)
  rw [show r11 = _ from hp11]
  refine xb_if_eq (tgt := 27) hx hb dX6_forget_14 rfl (fun b14 => ?_) (fun b14 => ?_)
  · skip
    refine lv_iconst (v := (-1)) hx hb dX6_forget_27 (by decide) ?_
    have hP := hP.sub (ws' := [oC ko 6 [.ref (ad 0), .ref (ad 1), .int (nI w), .int (nI h), .int (nI la), .ref (ad 2), .int (mv 0), .int (mv 1), .int (mv 2), .int (mv 3), .int (mv 4), .int (mv 5), .int (mv 6), .ref (ad 3), .int (nI tp), .int (mv 7), .int (mv 8), .int (mv 9), .int (mv 10), .int ft, .int (mv 11), .ref (ad 4), .ref (ad 5), .ref (ad 6), .ref (ad 7), .ref (ad 8), .ref (ad 9), .ref (ad 10), .int tr], iA G (ad 0) 255 S]) [0, 1] rfl
    have hD := hD.sub (ws' := [oC ko 6 [.ref (ad 0), .ref (ad 1), .int (nI w), .int (nI h), .int (nI la), .ref (ad 2), .int (mv 0), .int (mv 1), .int (mv 2), .int (mv 3), .int (mv 4), .int (mv 5), .int (mv 6), .ref (ad 3), .int (nI tp), .int (mv 7), .int (mv 8), .int (mv 9), .int (mv 10), .int ft, .int (mv 11), .ref (ad 4), .ref (ad 5), .ref (ad 6), .ref (ad 7), .ref (ad 8), .ref (ad 9), .ref (ad 10), .int tr], iA G (ad 0) 255 S]) [0, 1] (by decide) rfl
    refine W.iret (v := (-1)) hx hb hr (fun t ht hW => ⟨⟨(-1), (S), rfl, ?_, by rw [ht]; exact hP, hD⟩, hS.F ht⟩) hS.2.2 dX6_forget_28
    first | exact ⟨(if_neg b14).symm, (if_neg b14).symm⟩ | exact ⟨(by rw [if_pos b14]; exact hs60), (if_pos b14).symm⟩
  · skip
    refine lv_aload_n hx hb dX6_forget_17 rfl (lv_at hl 0 rfl) ?_
    refine lv_bipush (v := nI 60) hx hb dX6_forget_18 (by decide) ?_
    refine lv_iload_n hx hb dX6_forget_20 rfl (lv_at hl 1 rfl) ?_
    refine xw_i (As := [.int (nI 60), .int v]) (rest := []) (wr := []) ⟨hx, hb, hml, hown, hts⟩ (c_X6_becomes l G H.size ko ad w h la tp ft tr mv S 60 v (by first | assumption | omega)) (cwV 2 hts gX6_forget_X6_becomes rfl rfl rfl (by decide +kernel) ⟨Nat.le_of_ble_eq_true rfl, Nat.le_of_ble_eq_true rfl⟩) hK hP hD hS hA [0, 1] [] rfl rfl (by decide) (by decide) (by decide) rfl rfl rfl hl.1 rfl (Nat.le_of_ble_eq_true rfl) dX6_forget_21 ⟨Nat.le_of_ble_eq_true rfl, Nat.le_of_ble_eq_true rfl⟩ (fun r21 u H locs hp21 hP hD hS => ?_)
    obtain ⟨u0_21, rfl⟩ : ∃ z, z = u := ⟨_, rfl⟩
    try dsimp only at hp21 hP hD
    obtain ⟨rfl, rfl⟩ := hp21
    replace hP : xP G [oC ko 6 [.ref (ad 0), .ref (ad 1), .int (nI w), .int (nI h), .int (nI la), .ref (ad 2), .int (mv 0), .int (mv 1), .int (mv 2), .int (mv 3), .int (mv 4), .int (mv 5), .int (mv 6), .ref (ad 3), .int (nI tp), .int (mv 7), .int (mv 8), .int (mv 9), .int (mv 10), .int ft, .int (mv 11), .ref (ad 4), .ref (ad 5), .ref (ad 6), .ref (ad 7), .ref (ad 8), .ref (ad 9), .ref (ad 10), .int tr], iA G (ad 0) 255 (upd S 60 v)] H := hP
    replace hD : va_D (va_A (w_X6_forget G ko ad w h la tp ft tr mv S) ss.heap.size) [oC ko 6 [.ref (ad 0), .ref (ad 1), .int (nI w), .int (nI h), .int (nI la), .ref (ad 2), .int (mv 0), .int (mv 1), .int (mv 2), .int (mv 3), .int (mv 4), .int (mv 5), .int (mv 6), .ref (ad 3), .int (nI tp), .int (mv 7), .int (mv 8), .int (mv 9), .int (mv 10), .int ft, .int (mv 11), .ref (ad 4), .ref (ad 5), .ref (ad 6), .ref (ad 7), .ref (ad 8), .ref (ad 9), .ref (ad 10), .int tr], iA G (ad 0) 255 (upd S 60 v)] := hD
    refine lv_goto (tgt := 28) hx hb dX6_forget_24 rfl ?_
    have hP := hP.sub (ws' := [oC ko 6 [.ref (ad 0), .ref (ad 1), .int (nI w), .int (nI h), .int (nI la), .ref (ad 2), .int (mv 0), .int (mv 1), .int (mv 2), .int (mv 3), .int (mv 4), .int (mv 5), .int (mv 6), .ref (ad 3), .int (nI tp), .int (mv 7), .int (mv 8), .int (mv 9), .int (mv 10), .int ft, .int (mv 11), .ref (ad 4), .ref (ad 5), .ref (ad 6), .ref (ad 7), .ref (ad 8), .ref (ad 9), .ref (ad 10), .int tr], iA G (ad 0) 255 (upd S 60 v)]) [0, 1] rfl
    have hD := hD.sub (ws' := [oC ko 6 [.ref (ad 0), .ref (ad 1), .int (nI w), .int (nI h), .int (nI la), .ref (ad 2), .int (mv 0), .int (mv 1), .int (mv 2), .int (mv 3), .int (mv 4), .int (mv 5), .int (mv 6), .ref (ad 3), .int (nI tp), .int (mv 7), .int (mv 8), .int (mv 9), .int (mv 10), .int ft, .int (mv 11), .ref (ad 4), .ref (ad 5), .ref (ad 6), .ref (ad 7), .ref (ad 8), .ref (ad 9), .ref (ad 10), .int tr], iA G (ad 0) 255 (upd S 60 v)]) [0, 1] (by decide) rfl
    refine W.iret (v := S 60) hx hb hr (fun t ht hW => ⟨⟨S 60, ((upd S 60 v)), rfl, ?_, by rw [ht]; exact hP, hD⟩, hS.F ht⟩) hS.2.2 dX6_forget_28
    first | exact ⟨(if_neg b14).symm, (if_neg b14).symm⟩ | exact ⟨(by rw [if_pos b14]; exact hs60), (if_pos b14).symm⟩

abbrev w_X6_cut (G : XG) (ko : Nat) (ad : Nat → Nat) (w h la tp : Nat) (ft tr : Int32) (mv : Nat → Int32) (S : Nat → Int32) : va_W := [oC ko 6 [.ref (ad 0), .ref (ad 1), .int (nI w), .int (nI h), .int (nI la), .ref (ad 2), .int (mv 0), .int (mv 1), .int (mv 2), .int (mv 3), .int (mv 4), .int (mv 5), .int (mv 6), .ref (ad 3), .int (nI tp), .int (mv 7), .int (mv 8), .int (mv 9), .int (mv 10), .int ft, .int (mv 11), .ref (ad 4), .ref (ad 5), .ref (ad 6), .ref (ad 7), .ref (ad 8), .ref (ad 9), .ref (ad 10), .int tr], iA G (ad 0) 255 S]
abbrev Q_X6_cut (G : XG) (sz : Nat) (ko : Nat) (ad : Nat → Nat) (w h la tp : Nat) (ft tr : Int32) (mv : Nat → Int32) (S : Nat → Int32) (nc nl : Nat) (a v : Int32) : Array Value → State → Outcome → State → Prop := (va_Qi (fun (r : Int32) (u : (Nat → Int32)) => r = (if a = 0 then (if inR v (nc + 1) then nI nc else (-1)) else if a = nI 1 then (if inR v (nl + 1) then nI nl else (-1)) else (-1)) ∧ u = (if a = 0 ∧ inR v (nc + 1) then upd S 16 v else if a = nI 1 ∧ inR v (nl + 1) then upd S 47 v else S)) (xWb G sz (w_X6_cut G ko ad w h la tp ft tr mv S) (fun u : (Nat → Int32) => [oC ko 6 [.ref (ad 0), .ref (ad 1), .int (nI w), .int (nI h), .int (nI la), .ref (ad 2), .int (mv 0), .int (mv 1), .int (mv 2), .int (mv 3), .int (mv 4), .int (mv 5), .int (mv 6), .ref (ad 3), .int (nI tp), .int (mv 7), .int (mv 8), .int (mv 9), .int (mv 10), .int ft, .int (mv 11), .ref (ad 4), .ref (ad 5), .ref (ad 6), .ref (ad 7), .ref (ad 8), .ref (ad 9), .ref (ad 10), .int tr], iA G (ad 0) 255 u])) (va_A (w_X6_cut G ko ad w h la tp ft tr mv S) sz))
set_option maxHeartbeats 4000000 in
set_option maxRecDepth 100000 in
theorem c_X6_cut (l : Launch) (G : XG) (sz : Nat) (ko : Nat) (ad : Nat → Nat) (w h la tp : Nat) (ft tr : Int32) (mv : Nat → Int32) (S : Nat → Int32) (nc nl : Nat) (a v : Int32) (hs16 : S 16 = nI nc) (hnc : nc ≤ 10) (hs47 : S 47 = nI nl) (hnl : nl ≤ 6) : Met l yX6_cut wsX6_cut ({ frames := 2, cells := 0, slots := 0, locals := 45 } : Room) (va_Pc [.ref ko, .int a, .int v] (xWp G sz (w_X6_cut G ko ad w h la tp ft tr mv S))) (Q_X6_cut G sz ko ad w h la tp ft tr mv S nc nl a v) 0 0 (va_A (w_X6_cut G ko ad w h la tp ft tr mv S) sz) := by
  refine Met.ofW (cc := cX6_cut) (maxL := 4) (ret := (some .int)) (by decide) rfl ?_
  intro pp ee ss mm aa below mt cd s₁ BB hml hv
  obtain ⟨rfl, hsz, hP, hK, hD0⟩ := hv
  have hx := BB.exec
  have hb := BB.bytes
  have hr := BB.returns
  have hts := atoms_spec (ws := wsX6_cut) BB.pre
  have hown : ss.vm.findClass RX6 = some mm.cls := findClass_of_methodNamed BB.named
  have hlocks := BB.notSynchronized
  subst hsz
  have hD := hD0.self (sz := ss.heap.size)
  have hA : ∀ q : Nat, ss.heap.size ≤ q → va_A (w_X6_cut G ko ad w h la tp ft tr mv S) ss.heap.size q := fun q h => Or.inr h
  have hS : va_S (va_A (w_X6_cut G ko ad w h la tp ft tr mv S) ss.heap.size) ss.heap ss.heap [] := va_S.rf
  replace hD : va_D (va_A (w_X6_cut G ko ad w h la tp ft tr mv S) ss.heap.size) [oC ko 6 [.ref (ad 0), .ref (ad 1), .int (nI w), .int (nI h), .int (nI la), .ref (ad 2), .int (mv 0), .int (mv 1), .int (mv 2), .int (mv 3), .int (mv 4), .int (mv 5), .int (mv 6), .ref (ad 3), .int (nI tp), .int (mv 7), .int (mv 8), .int (mv 9), .int (mv 10), .int ft, .int (mv 11), .ref (ad 4), .ref (ad 5), .ref (ad 6), .ref (ad 7), .ref (ad 8), .ref (ad 9), .ref (ad 10), .int tr], iA G (ad 0) 255 S] := hD
  replace hP : xP G [oC ko 6 [.ref (ad 0), .ref (ad 1), .int (nI w), .int (nI h), .int (nI la), .ref (ad 2), .int (mv 0), .int (mv 1), .int (mv 2), .int (mv 3), .int (mv 4), .int (mv 5), .int (mv 6), .ref (ad 3), .int (nI tp), .int (mv 7), .int (mv 8), .int (mv 9), .int (mv 10), .int ft, .int (mv 11), .ref (ad 4), .ref (ad 5), .ref (ad 6), .ref (ad 7), .ref (ad 8), .ref (ad 9), .ref (ad 10), .int tr], iA G (ad 0) 255 S] ss.heap := hP
  have hin6 : ∀ w ∈ u_ws RX6 TX6 29, w ∈ wsX6_cut := fun w h => List.mem_cons_of_mem _ (List.mem_append_right _ h)
  have hl := lv_entry ([.ref ko, .int a, .int v]) (n := 4) (Nat.le_of_ble_eq_true rfl)
  rw [lg_entry_eq]
  generalize (lg_sl ([.ref ko, .int a, .int v]) ++ List.replicate (4 - (lg_sl ([.ref ko, .int a, .int v])).length) Slot.unset).toArray = ls at hl ⊢
  replace hl : lv_has ls 4 [(0, .ref ko), (1, .int a), (2, .int v)] := hl
  refine lv_iload_n hx hb dX6_cut_0 rfl (lv_at hl 1 rfl) ?_
  refine lv_if_ne (tgt := 9) hx hb dX6_cut_1 rfl (fun b1 => ?_) (fun b1 => ?_)
  · skip
    refine lv_bipush (v := nI 47) hx hb dX6_cut_9 (by decide) ?_
    refine lv_istore_n (lv' := [(3, .int (nI 47)), (0, .ref ko), (1, .int a), (2, .int v)]) hx hb dX6_cut_11 rfl hl (by decide) rfl (fun ls hl => ?_)
    refine lv_iload_n hx hb dX6_cut_12 rfl (lv_at hl 2 rfl) ?_
    refine xs_i (As := [.int a]) (rest := []) ⟨hx, hb, hml, hown, hts⟩ (c_X6_isPart l G a ) (va_cwS 1 hts gX6_cut_X6_isPart rfl rfl rfl (by decide +kernel) ⟨Nat.le_of_ble_eq_true rfl, Nat.le_of_ble_eq_true rfl⟩) hP hS rfl hl.1 rfl (Nat.le_of_ble_eq_true rfl) dX6_cut_13 ⟨Nat.zero_le _, Nat.zero_le _⟩ (fun r13 H locs hp13 hP hS => ?_)
    rw [show r13 = _ from hp13]
    refine xb_if_eq (tgt := 44) hx hb dX6_cut_16 rfl (fun b16 => ?_) (fun b16 => ?_)
    · skip
      refine lv_iconst (v := (-1)) hx hb dX6_cut_44 (by decide) ?_
      have hP := hP.sub (ws' := [oC ko 6 [.ref (ad 0), .ref (ad 1), .int (nI w), .int (nI h), .int (nI la), .ref (ad 2), .int (mv 0), .int (mv 1), .int (mv 2), .int (mv 3), .int (mv 4), .int (mv 5), .int (mv 6), .ref (ad 3), .int (nI tp), .int (mv 7), .int (mv 8), .int (mv 9), .int (mv 10), .int ft, .int (mv 11), .ref (ad 4), .ref (ad 5), .ref (ad 6), .ref (ad 7), .ref (ad 8), .ref (ad 9), .ref (ad 10), .int tr], iA G (ad 0) 255 S]) [0, 1] rfl
      have hD := hD.sub (ws' := [oC ko 6 [.ref (ad 0), .ref (ad 1), .int (nI w), .int (nI h), .int (nI la), .ref (ad 2), .int (mv 0), .int (mv 1), .int (mv 2), .int (mv 3), .int (mv 4), .int (mv 5), .int (mv 6), .ref (ad 3), .int (nI tp), .int (mv 7), .int (mv 8), .int (mv 9), .int (mv 10), .int ft, .int (mv 11), .ref (ad 4), .ref (ad 5), .ref (ad 6), .ref (ad 7), .ref (ad 8), .ref (ad 9), .ref (ad 10), .int tr], iA G (ad 0) 255 S]) [0, 1] (by decide) rfl
      refine W.iret (v := (-1)) hx hb hr (fun t ht hW => ⟨⟨(-1), (S), rfl, ?_, by rw [ht]; exact hP, hD⟩, hS.F ht⟩) hS.2.2 dX6_cut_45
      first | exact absurd (inR_2.mpr (Or.inl b1)) b16 | exact ⟨((if_pos b1).trans (if_neg b32)).symm, ((if_neg (fun q => b32 q.2)).trans (if_neg (fun q => absurd (q.1.symm.trans b1) (by decide)))).symm⟩ | exact ⟨hs16.trans ((if_pos b1).trans (if_pos b32)).symm, (if_pos ⟨b1, b32⟩).symm⟩ | exact ⟨((if_neg b1).trans (if_neg (fun q => b16 (inR_2.mpr (Or.inr q))))).symm, ((if_neg (fun q => b1 q.1)).trans (if_neg (fun q => b16 (inR_2.mpr (Or.inr q.1))))).symm⟩ | exact ⟨((if_neg b1).trans ((if_pos ((inR_2.mp b16).resolve_left b1)).trans (if_neg b32))).symm, ((if_neg (fun q => b1 q.1)).trans (if_neg (fun q => b32 q.2))).symm⟩ | exact ⟨hs47.trans ((if_neg b1).trans ((if_pos ((inR_2.mp b16).resolve_left b1)).trans (if_pos b32))).symm, ((if_neg (fun q => b1 q.1)).trans (if_pos ⟨((inR_2.mp b16).resolve_left b1), b32⟩)).symm⟩
    · skip
      refine lv_iload_n hx hb dX6_cut_19 rfl (lv_at hl 3 rfl) ?_
      refine xi_i2l hx hb dX6_cut_20 ?_
      refine lv_lconst (v := lN 0) hx hb dX6_cut_21 (by decide) ?_
      refine lv_aload_n hx hb dX6_cut_22 rfl (lv_at hl 1 rfl) ?_
      refine va_get (D := G.1) (ci := 6) (v := .ref (ad 0)) (C := RX6) (T := TX6) (N := 29) hx hb hts hin6 hown hK.1 hP 0 rfl rfl 0 (by decide) (hts (.fieldLink RX6 7 "BackLensesModel" "st" "[I") (List.mem_of_getElem? (i := 1) rfl)) (fun _ h9 => h9) rfl dX6_cut_23 ?_
      refine lv_iload_n hx hb dX6_cut_26 rfl (lv_at hl 0 rfl) ?_
      refine xn_iald hx hb hK hP 1 rfl (by omega) (by omega) dX6_cut_27 ?_
      refine xn_top (y := nI nl) (by exact hs47) ?_
      refine xn_i2l hx hb (by omega) dX6_cut_28 ?_
      refine xs_i (As := [.long v.toInt64, .long (lN 0), .long (lN nl)]) (rest := []) ⟨hx, hb, hml, hown, hts⟩ (c_X6_in_r l G v nl (by first | assumption | omega)) (va_cwS 3 hts gX6_cut_X6_in rfl rfl rfl (by decide +kernel) ⟨Nat.le_of_ble_eq_true rfl, Nat.le_of_ble_eq_true rfl⟩) hP hS rfl hl.1 rfl (Nat.le_of_ble_eq_true rfl) dX6_cut_29 ⟨Nat.zero_le _, Nat.zero_le _⟩ (fun r29 H locs hp29 hP hS => ?_)
      rw [show r29 = _ from hp29]
      refine xb_if_eq (tgt := 44) hx hb dX6_cut_32 rfl (fun b32 => ?_) (fun b32 => ?_)
      · skip
        refine lv_iconst (v := (-1)) hx hb dX6_cut_44 (by decide) ?_
        have hP := hP.sub (ws' := [oC ko 6 [.ref (ad 0), .ref (ad 1), .int (nI w), .int (nI h), .int (nI la), .ref (ad 2), .int (mv 0), .int (mv 1), .int (mv 2), .int (mv 3), .int (mv 4), .int (mv 5), .int (mv 6), .ref (ad 3), .int (nI tp), .int (mv 7), .int (mv 8), .int (mv 9), .int (mv 10), .int ft, .int (mv 11), .ref (ad 4), .ref (ad 5), .ref (ad 6), .ref (ad 7), .ref (ad 8), .ref (ad 9), .ref (ad 10), .int tr], iA G (ad 0) 255 S]) [0, 1] rfl
        have hD := hD.sub (ws' := [oC ko 6 [.ref (ad 0), .ref (ad 1), .int (nI w), .int (nI h), .int (nI la), .ref (ad 2), .int (mv 0), .int (mv 1), .int (mv 2), .int (mv 3), .int (mv 4), .int (mv 5), .int (mv 6), .ref (ad 3), .int (nI tp), .int (mv 7), .int (mv 8), .int (mv 9), .int (mv 10), .int ft, .int (mv 11), .ref (ad 4), .ref (ad 5), .ref (ad 6), .ref (ad 7), .ref (ad 8), .ref (ad 9), .ref (ad 10), .int tr], iA G (ad 0) 255 S]) [0, 1] (by decide) rfl
        refine W.iret (v := (-1)) hx hb hr (fun t ht hW => ⟨⟨(-1), (S), rfl, ?_, by rw [ht]; exact hP, hD⟩, hS.F ht⟩) hS.2.2 dX6_cut_45
        first | exact absurd (inR_2.mpr (Or.inl b1)) b16 | exact ⟨((if_pos b1).trans (if_neg b32)).symm, ((if_neg (fun q => b32 q.2)).trans (if_neg (fun q => absurd (q.1.symm.trans b1) (by decide)))).symm⟩ | exact ⟨hs16.trans ((if_pos b1).trans (if_pos b32)).symm, (if_pos ⟨b1, b32⟩).symm⟩ | exact ⟨((if_neg b1).trans (if_neg (fun q => b16 (inR_2.mpr (Or.inr q))))).symm, ((if_neg (fun q => b1 q.1)).trans (if_neg (fun q => b16 (inR_2.mpr (Or.inr q.1))))).symm⟩ | exact ⟨((if_neg b1).trans ((if_pos ((inR_2.mp b16).resolve_left b1)).trans (if_neg b32))).symm, ((if_neg (fun q => b1 q.1)).trans (if_neg (fun q => b32 q.2))).symm⟩ | exact ⟨hs47.trans ((if_neg b1).trans ((if_pos ((inR_2.mp b16).resolve_left b1)).trans (if_pos b32))).symm, ((if_neg (fun q => b1 q.1)).trans (if_pos ⟨((inR_2.mp b16).resolve_left b1), b32⟩)).symm⟩
      · skip
        refine lv_aload_n hx hb dX6_cut_35 rfl (lv_at hl 1 rfl) ?_
        refine lv_iload_n hx hb dX6_cut_36 rfl (lv_at hl 0 rfl) ?_
        refine lv_iload_n hx hb dX6_cut_37 rfl (lv_at hl 3 rfl) ?_
        refine xw_i (As := [.int (nI 47), .int v]) (rest := []) (wr := []) ⟨hx, hb, hml, hown, hts⟩ (c_X6_becomes l G H.size ko ad w h la tp ft tr mv S 47 v (by first | assumption | omega)) (cwV 2 hts gX6_cut_X6_becomes rfl rfl rfl (by decide +kernel) ⟨Nat.le_of_ble_eq_true rfl, Nat.le_of_ble_eq_true rfl⟩) hK hP hD hS hA [0, 1] [] rfl rfl (by decide) (by decide) (by decide) rfl rfl rfl hl.1 rfl (Nat.le_of_ble_eq_true rfl) dX6_cut_38 ⟨Nat.le_of_ble_eq_true rfl, Nat.le_of_ble_eq_true rfl⟩ (fun r38 u H locs hp38 hP hD hS => ?_)
        obtain ⟨u0_38, rfl⟩ : ∃ z, z = u := ⟨_, rfl⟩
        try dsimp only at hp38 hP hD
        obtain ⟨rfl, rfl⟩ := hp38
        replace hP : xP G [oC ko 6 [.ref (ad 0), .ref (ad 1), .int (nI w), .int (nI h), .int (nI la), .ref (ad 2), .int (mv 0), .int (mv 1), .int (mv 2), .int (mv 3), .int (mv 4), .int (mv 5), .int (mv 6), .ref (ad 3), .int (nI tp), .int (mv 7), .int (mv 8), .int (mv 9), .int (mv 10), .int ft, .int (mv 11), .ref (ad 4), .ref (ad 5), .ref (ad 6), .ref (ad 7), .ref (ad 8), .ref (ad 9), .ref (ad 10), .int tr], iA G (ad 0) 255 (upd S 47 v)] H := hP
        replace hD : va_D (va_A (w_X6_cut G ko ad w h la tp ft tr mv S) ss.heap.size) [oC ko 6 [.ref (ad 0), .ref (ad 1), .int (nI w), .int (nI h), .int (nI la), .ref (ad 2), .int (mv 0), .int (mv 1), .int (mv 2), .int (mv 3), .int (mv 4), .int (mv 5), .int (mv 6), .ref (ad 3), .int (nI tp), .int (mv 7), .int (mv 8), .int (mv 9), .int (mv 10), .int ft, .int (mv 11), .ref (ad 4), .ref (ad 5), .ref (ad 6), .ref (ad 7), .ref (ad 8), .ref (ad 9), .ref (ad 10), .int tr], iA G (ad 0) 255 (upd S 47 v)] := hD
        refine lv_goto (tgt := 45) hx hb dX6_cut_41 rfl ?_
        have hP := hP.sub (ws' := [oC ko 6 [.ref (ad 0), .ref (ad 1), .int (nI w), .int (nI h), .int (nI la), .ref (ad 2), .int (mv 0), .int (mv 1), .int (mv 2), .int (mv 3), .int (mv 4), .int (mv 5), .int (mv 6), .ref (ad 3), .int (nI tp), .int (mv 7), .int (mv 8), .int (mv 9), .int (mv 10), .int ft, .int (mv 11), .ref (ad 4), .ref (ad 5), .ref (ad 6), .ref (ad 7), .ref (ad 8), .ref (ad 9), .ref (ad 10), .int tr], iA G (ad 0) 255 (upd S 47 v)]) [0, 1] rfl
        have hD := hD.sub (ws' := [oC ko 6 [.ref (ad 0), .ref (ad 1), .int (nI w), .int (nI h), .int (nI la), .ref (ad 2), .int (mv 0), .int (mv 1), .int (mv 2), .int (mv 3), .int (mv 4), .int (mv 5), .int (mv 6), .ref (ad 3), .int (nI tp), .int (mv 7), .int (mv 8), .int (mv 9), .int (mv 10), .int ft, .int (mv 11), .ref (ad 4), .ref (ad 5), .ref (ad 6), .ref (ad 7), .ref (ad 8), .ref (ad 9), .ref (ad 10), .int tr], iA G (ad 0) 255 (upd S 47 v)]) [0, 1] (by decide) rfl
        refine W.iret (v := S 47) hx hb hr (fun t ht hW => ⟨⟨S 47, ((upd S 47 v)), rfl, ?_, by rw [ht]; exact hP, hD⟩, hS.F ht⟩) hS.2.2 dX6_cut_45
        first | exact absurd (inR_2.mpr (Or.inl b1)) b16 | exact ⟨((if_pos b1).trans (if_neg b32)).symm, ((if_neg (fun q => b32 q.2)).trans (if_neg (fun q => absurd (q.1.symm.trans b1) (by decide)))).symm⟩ | exact ⟨hs16.trans ((if_pos b1).trans (if_pos b32)).symm, (if_pos ⟨b1, b32⟩).symm⟩ | exact ⟨((if_neg b1).trans (if_neg (fun q => b16 (inR_2.mpr (Or.inr q))))).symm, ((if_neg (fun q => b1 q.1)).trans (if_neg (fun q => b16 (inR_2.mpr (Or.inr q.1))))).symm⟩ | exact ⟨((if_neg b1).trans ((if_pos ((inR_2.mp b16).resolve_left b1)).trans (if_neg b32))).symm, ((if_neg (fun q => b1 q.1)).trans (if_neg (fun q => b32 q.2))).symm⟩ | exact ⟨hs47.trans ((if_neg b1).trans ((if_pos ((inR_2.mp b16).resolve_left b1)).trans (if_pos b32))).symm, ((if_neg (fun q => b1 q.1)).trans (if_pos ⟨((inR_2.mp b16).resolve_left b1), b32⟩)).symm⟩
  · skip
    refine lv_bipush (v := nI 16) hx hb dX6_cut_4 (by decide) ?_
    refine lv_goto (tgt := 11) hx hb dX6_cut_6 rfl ?_
    refine lv_istore_n (lv' := [(3, .int (nI 16)), (0, .ref ko), (1, .int a), (2, .int v)]) hx hb dX6_cut_11 rfl hl (by decide) rfl (fun ls hl => ?_)
    refine lv_iload_n hx hb dX6_cut_12 rfl (lv_at hl 2 rfl) ?_
    refine xs_i (As := [.int a]) (rest := []) ⟨hx, hb, hml, hown, hts⟩ (c_X6_isPart l G a ) (va_cwS 1 hts gX6_cut_X6_isPart rfl rfl rfl (by decide +kernel) ⟨Nat.le_of_ble_eq_true rfl, Nat.le_of_ble_eq_true rfl⟩) hP hS rfl hl.1 rfl (Nat.le_of_ble_eq_true rfl) dX6_cut_13 ⟨Nat.zero_le _, Nat.zero_le _⟩ (fun r13 H locs hp13 hP hS => ?_)
    rw [show r13 = _ from hp13]
    refine xb_if_eq (tgt := 44) hx hb dX6_cut_16 rfl (fun b16 => ?_) (fun b16 => ?_)
    · skip
      refine lv_iconst (v := (-1)) hx hb dX6_cut_44 (by decide) ?_
      have hP := hP.sub (ws' := [oC ko 6 [.ref (ad 0), .ref (ad 1), .int (nI w), .int (nI h), .int (nI la), .ref (ad 2), .int (mv 0), .int (mv 1), .int (mv 2), .int (mv 3), .int (mv 4), .int (mv 5), .int (mv 6), .ref (ad 3), .int (nI tp), .int (mv 7), .int (mv 8), .int (mv 9), .int (mv 10), .int ft, .int (mv 11), .ref (ad 4), .ref (ad 5), .ref (ad 6), .ref (ad 7), .ref (ad 8), .ref (ad 9), .ref (ad 10), .int tr], iA G (ad 0) 255 S]) [0, 1] rfl
      have hD := hD.sub (ws' := [oC ko 6 [.ref (ad 0), .ref (ad 1), .int (nI w), .int (nI h), .int (nI la), .ref (ad 2), .int (mv 0), .int (mv 1), .int (mv 2), .int (mv 3), .int (mv 4), .int (mv 5), .int (mv 6), .ref (ad 3), .int (nI tp), .int (mv 7), .int (mv 8), .int (mv 9), .int (mv 10), .int ft, .int (mv 11), .ref (ad 4), .ref (ad 5), .ref (ad 6), .ref (ad 7), .ref (ad 8), .ref (ad 9), .ref (ad 10), .int tr], iA G (ad 0) 255 S]) [0, 1] (by decide) rfl
      refine W.iret (v := (-1)) hx hb hr (fun t ht hW => ⟨⟨(-1), (S), rfl, ?_, by rw [ht]; exact hP, hD⟩, hS.F ht⟩) hS.2.2 dX6_cut_45
      first | exact absurd (inR_2.mpr (Or.inl b1)) b16 | exact ⟨((if_pos b1).trans (if_neg b32)).symm, ((if_neg (fun q => b32 q.2)).trans (if_neg (fun q => absurd (q.1.symm.trans b1) (by decide)))).symm⟩ | exact ⟨hs16.trans ((if_pos b1).trans (if_pos b32)).symm, (if_pos ⟨b1, b32⟩).symm⟩ | exact ⟨((if_neg b1).trans (if_neg (fun q => b16 (inR_2.mpr (Or.inr q))))).symm, ((if_neg (fun q => b1 q.1)).trans (if_neg (fun q => b16 (inR_2.mpr (Or.inr q.1))))).symm⟩ | exact ⟨((if_neg b1).trans ((if_pos ((inR_2.mp b16).resolve_left b1)).trans (if_neg b32))).symm, ((if_neg (fun q => b1 q.1)).trans (if_neg (fun q => b32 q.2))).symm⟩ | exact ⟨hs47.trans ((if_neg b1).trans ((if_pos ((inR_2.mp b16).resolve_left b1)).trans (if_pos b32))).symm, ((if_neg (fun q => b1 q.1)).trans (if_pos ⟨((inR_2.mp b16).resolve_left b1), b32⟩)).symm⟩
    · skip
      refine lv_iload_n hx hb dX6_cut_19 rfl (lv_at hl 3 rfl) ?_
      refine xi_i2l hx hb dX6_cut_20 ?_
      refine lv_lconst (v := lN 0) hx hb dX6_cut_21 (by decide) ?_
      refine lv_aload_n hx hb dX6_cut_22 rfl (lv_at hl 1 rfl) ?_
      refine va_get (D := G.1) (ci := 6) (v := .ref (ad 0)) (C := RX6) (T := TX6) (N := 29) hx hb hts hin6 hown hK.1 hP 0 rfl rfl 0 (by decide) (hts (.fieldLink RX6 7 "BackLensesModel" "st" "[I") (List.mem_of_getElem? (i := 1) rfl)) (fun _ h9 => h9) rfl dX6_cut_23 ?_
      refine lv_iload_n hx hb dX6_cut_26 rfl (lv_at hl 0 rfl) ?_
      refine xn_iald hx hb hK hP 1 rfl (by omega) (by omega) dX6_cut_27 ?_
      refine xn_top (y := nI nc) (by exact hs16) ?_
      refine xn_i2l hx hb (by omega) dX6_cut_28 ?_
      refine xs_i (As := [.long v.toInt64, .long (lN 0), .long (lN nc)]) (rest := []) ⟨hx, hb, hml, hown, hts⟩ (c_X6_in_r l G v nc (by first | assumption | omega)) (va_cwS 3 hts gX6_cut_X6_in rfl rfl rfl (by decide +kernel) ⟨Nat.le_of_ble_eq_true rfl, Nat.le_of_ble_eq_true rfl⟩) hP hS rfl hl.1 rfl (Nat.le_of_ble_eq_true rfl) dX6_cut_29 ⟨Nat.zero_le _, Nat.zero_le _⟩ (fun r29 H locs hp29 hP hS => ?_)
      rw [show r29 = _ from hp29]
      refine xb_if_eq (tgt := 44) hx hb dX6_cut_32 rfl (fun b32 => ?_) (fun b32 => ?_)
      · skip
        refine lv_iconst (v := (-1)) hx hb dX6_cut_44 (by decide) ?_
        have hP := hP.sub (ws' := [oC ko 6 [.ref (ad 0), .ref (ad 1), .int (nI w), .int (nI h), .int (nI la), .ref (ad 2), .int (mv 0), .int (mv 1), .int (mv 2), .int (mv 3), .int (mv 4), .int (mv 5), .int (mv 6), .ref (ad 3), .int (nI tp), .int (mv 7), .int (mv 8), .int (mv 9), .int (mv 10), .int ft, .int (mv 11), .ref (ad 4), .ref (ad 5), .ref (ad 6), .ref (ad 7), .ref (ad 8), .ref (ad 9), .ref (ad 10), .int tr], iA G (ad 0) 255 S]) [0, 1] rfl
        have hD := hD.sub (ws' := [oC ko 6 [.ref (ad 0), .ref (ad 1), .int (nI w), .int (nI h), .int (nI la), .ref (ad 2), .int (mv 0), .int (mv 1), .int (mv 2), .int (mv 3), .int (mv 4), .int (mv 5), .int (mv 6), .ref (ad 3), .int (nI tp), .int (mv 7), .int (mv 8), .int (mv 9), .int (mv 10), .int ft, .int (mv 11), .ref (ad 4), .ref (ad 5), .ref (ad 6), .ref (ad 7), .ref (ad 8), .ref (ad 9), .ref (ad 10), .int tr], iA G (ad 0) 255 S]) [0, 1] (by decide) rfl
        refine W.iret (v := (-1)) hx hb hr (fun t ht hW => ⟨⟨(-1), (S), rfl, ?_, by rw [ht]; exact hP, hD⟩, hS.F ht⟩) hS.2.2 dX6_cut_45
        first | exact absurd (inR_2.mpr (Or.inl b1)) b16 | exact ⟨((if_pos b1).trans (if_neg b32)).symm, ((if_neg (fun q => b32 q.2)).trans (if_neg (fun q => absurd (q.1.symm.trans b1) (by decide)))).symm⟩ | exact ⟨hs16.trans ((if_pos b1).trans (if_pos b32)).symm, (if_pos ⟨b1, b32⟩).symm⟩ | exact ⟨((if_neg b1).trans (if_neg (fun q => b16 (inR_2.mpr (Or.inr q))))).symm, ((if_neg (fun q => b1 q.1)).trans (if_neg (fun q => b16 (inR_2.mpr (Or.inr q.1))))).symm⟩ | exact ⟨((if_neg b1).trans ((if_pos ((inR_2.mp b16).resolve_left b1)).trans (if_neg b32))).symm, ((if_neg (fun q => b1 q.1)).trans (if_neg (fun q => b32 q.2))).symm⟩ | exact ⟨hs47.trans ((if_neg b1).trans ((if_pos ((inR_2.mp b16).resolve_left b1)).trans (if_pos b32))).symm, ((if_neg (fun q => b1 q.1)).trans (if_pos ⟨((inR_2.mp b16).resolve_left b1), b32⟩)).symm⟩
      · skip
        refine lv_aload_n hx hb dX6_cut_35 rfl (lv_at hl 1 rfl) ?_
        refine lv_iload_n hx hb dX6_cut_36 rfl (lv_at hl 0 rfl) ?_
        refine lv_iload_n hx hb dX6_cut_37 rfl (lv_at hl 3 rfl) ?_
        refine xw_i (As := [.int (nI 16), .int v]) (rest := []) (wr := []) ⟨hx, hb, hml, hown, hts⟩ (c_X6_becomes l G H.size ko ad w h la tp ft tr mv S 16 v (by first | assumption | omega)) (cwV 2 hts gX6_cut_X6_becomes rfl rfl rfl (by decide +kernel) ⟨Nat.le_of_ble_eq_true rfl, Nat.le_of_ble_eq_true rfl⟩) hK hP hD hS hA [0, 1] [] rfl rfl (by decide) (by decide) (by decide) rfl rfl rfl hl.1 rfl (Nat.le_of_ble_eq_true rfl) dX6_cut_38 ⟨Nat.le_of_ble_eq_true rfl, Nat.le_of_ble_eq_true rfl⟩ (fun r38 u H locs hp38 hP hD hS => ?_)
        obtain ⟨u0_38, rfl⟩ : ∃ z, z = u := ⟨_, rfl⟩
        try dsimp only at hp38 hP hD
        obtain ⟨rfl, rfl⟩ := hp38
        replace hP : xP G [oC ko 6 [.ref (ad 0), .ref (ad 1), .int (nI w), .int (nI h), .int (nI la), .ref (ad 2), .int (mv 0), .int (mv 1), .int (mv 2), .int (mv 3), .int (mv 4), .int (mv 5), .int (mv 6), .ref (ad 3), .int (nI tp), .int (mv 7), .int (mv 8), .int (mv 9), .int (mv 10), .int ft, .int (mv 11), .ref (ad 4), .ref (ad 5), .ref (ad 6), .ref (ad 7), .ref (ad 8), .ref (ad 9), .ref (ad 10), .int tr], iA G (ad 0) 255 (upd S 16 v)] H := hP
        replace hD : va_D (va_A (w_X6_cut G ko ad w h la tp ft tr mv S) ss.heap.size) [oC ko 6 [.ref (ad 0), .ref (ad 1), .int (nI w), .int (nI h), .int (nI la), .ref (ad 2), .int (mv 0), .int (mv 1), .int (mv 2), .int (mv 3), .int (mv 4), .int (mv 5), .int (mv 6), .ref (ad 3), .int (nI tp), .int (mv 7), .int (mv 8), .int (mv 9), .int (mv 10), .int ft, .int (mv 11), .ref (ad 4), .ref (ad 5), .ref (ad 6), .ref (ad 7), .ref (ad 8), .ref (ad 9), .ref (ad 10), .int tr], iA G (ad 0) 255 (upd S 16 v)] := hD
        refine lv_goto (tgt := 45) hx hb dX6_cut_41 rfl ?_
        have hP := hP.sub (ws' := [oC ko 6 [.ref (ad 0), .ref (ad 1), .int (nI w), .int (nI h), .int (nI la), .ref (ad 2), .int (mv 0), .int (mv 1), .int (mv 2), .int (mv 3), .int (mv 4), .int (mv 5), .int (mv 6), .ref (ad 3), .int (nI tp), .int (mv 7), .int (mv 8), .int (mv 9), .int (mv 10), .int ft, .int (mv 11), .ref (ad 4), .ref (ad 5), .ref (ad 6), .ref (ad 7), .ref (ad 8), .ref (ad 9), .ref (ad 10), .int tr], iA G (ad 0) 255 (upd S 16 v)]) [0, 1] rfl
        have hD := hD.sub (ws' := [oC ko 6 [.ref (ad 0), .ref (ad 1), .int (nI w), .int (nI h), .int (nI la), .ref (ad 2), .int (mv 0), .int (mv 1), .int (mv 2), .int (mv 3), .int (mv 4), .int (mv 5), .int (mv 6), .ref (ad 3), .int (nI tp), .int (mv 7), .int (mv 8), .int (mv 9), .int (mv 10), .int ft, .int (mv 11), .ref (ad 4), .ref (ad 5), .ref (ad 6), .ref (ad 7), .ref (ad 8), .ref (ad 9), .ref (ad 10), .int tr], iA G (ad 0) 255 (upd S 16 v)]) [0, 1] (by decide) rfl
        refine W.iret (v := S 16) hx hb hr (fun t ht hW => ⟨⟨S 16, ((upd S 16 v)), rfl, ?_, by rw [ht]; exact hP, hD⟩, hS.F ht⟩) hS.2.2 dX6_cut_45
        first | exact absurd (inR_2.mpr (Or.inl b1)) b16 | exact ⟨((if_pos b1).trans (if_neg b32)).symm, ((if_neg (fun q => b32 q.2)).trans (if_neg (fun q => absurd (q.1.symm.trans b1) (by decide)))).symm⟩ | exact ⟨hs16.trans ((if_pos b1).trans (if_pos b32)).symm, (if_pos ⟨b1, b32⟩).symm⟩ | exact ⟨((if_neg b1).trans (if_neg (fun q => b16 (inR_2.mpr (Or.inr q))))).symm, ((if_neg (fun q => b1 q.1)).trans (if_neg (fun q => b16 (inR_2.mpr (Or.inr q.1))))).symm⟩ | exact ⟨((if_neg b1).trans ((if_pos ((inR_2.mp b16).resolve_left b1)).trans (if_neg b32))).symm, ((if_neg (fun q => b1 q.1)).trans (if_neg (fun q => b32 q.2))).symm⟩ | exact ⟨hs47.trans ((if_neg b1).trans ((if_pos ((inR_2.mp b16).resolve_left b1)).trans (if_pos b32))).symm, ((if_neg (fun q => b1 q.1)).trans (if_pos ⟨((inR_2.mp b16).resolve_left b1), b32⟩)).symm⟩

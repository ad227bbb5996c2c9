abbrev Q_X6_common (G : XG) (a b : Nat) : Array Value → State → Outcome → State → Prop := (xRl (fun r => r = lN (Nat.gcd a b)))
set_option maxHeartbeats 4000000 in
set_option maxRecDepth 100000 in
theorem c_X6_common (l : Launch) (G : XG) (a b : Nat) (ha : a < 1000000000000) (hb0 : b < 1000000000000) : Met l yX6_common wsX6_common ({ frames := 0, cells := 0, slots := 0, locals := 0 } : Room) (va_Pc [.long (lN a), .long (lN b)] (fun _ => True)) (Q_X6_common G a b) 0 0 (fun _ => False) := by
  refine Met.ofW (cc := cX6_common) (maxL := 10) (ret := (some .long)) (by decide) rfl ?_
  intro pp ee ss mm aa below mt cd s₁ BB hml hv
  obtain ⟨rfl, -⟩ := hv
  have hx := BB.exec
  have hb := BB.bytes
  have hr := BB.returns
  have hts := atoms_spec (ws := wsX6_common) BB.pre
  have hown : ss.vm.findClass RX6 = some mm.cls := findClass_of_methodNamed BB.named
  have hlocks := BB.notSynchronized
  have hS : va_S (fun _ => False) ss.heap ss.heap [] := va_S.rf
  have hP : xP (G) [] ss.heap := fun k q h => by cases h
  have hl := lv_entry ([.long (lN a), .long (lN b)]) (n := 10) (Nat.le_of_ble_eq_true rfl)
  rw [lg_entry_eq]
  generalize (lg_sl ([.long (lN a), .long (lN b)]) ++ List.replicate (10 - (lg_sl ([.long (lN a), .long (lN b)])).length) Slot.unset).toArray = ls at hl ⊢
  replace hl : lv_has ls 10 [(0, .long (lN a)), (2, .long (lN b))] := hl
  refine lv_lload_n hx hb dX6_common_0 rfl (lv_at hl 0 rfl) ?_
  refine lv_lstore (lv' := [(4, .long (lN a)), (0, .long (lN a)), (2, .long (lN b))]) hx hb dX6_common_1 hl (by decide) rfl (fun ls hl => ?_)
  refine lv_lload_n hx hb dX6_common_3 rfl (lv_at hl 2 rfl) ?_
  refine lv_lstore (lv' := [(6, .long (lN b)), (4, .long (lN a)), (0, .long (lN a)), (2, .long (lN b))]) hx hb dX6_common_4 hl (by decide) rfl (fun ls hl => ?_)
  have hL6 : ∀ k : Nat, ∀ (x : Nat) (y : Nat) (ls : Array Slot) (H : Heap) (locs : List Loc), y = k → (x < 1000000000000) → (y < 1000000000000) → (Nat.gcd a b = Nat.gcd x y) → lv_has ls 10 [(0, .long (lN a)), (2, .long (lN b)), (4, .long (lN x)), (6, .long (lN y))] → xP G [] H → va_S (fun _ => False) ss.heap H locs → W pp l ee ({ frames := 0, cells := 0, slots := 0, locals := 0 } : Room) ss mm ([.long (lN a), .long (lN b)] : List Value).toArray below mt cd H locs 0 0 (MQ below (Q_X6_common G a b) ([.long (lN a), .long (lN b)] : List Value).toArray ss 0 0 (fun _ => False)) (F0 mm 6 ls []) := by
    intro k
    induction k using Nat.strongRecOn with
    | _ k ih6 =>
    intro x y ls H locs hm6 hxl hyl hg hl hP hS
    refine lv_lload hx hb dX6_common_6 (lv_at hl 3 rfl) ?_
    refine lv_lconst (v := lN 0) hx hb dX6_common_8 (by decide) ?_
    refine W.lcmp hx hb dX6_common_9 ?_
    refine xl_if_eq (tgt := 31) hx hb dX6_common_10 rfl (fun b10 => ?_) (fun b10 => ?_)
    · skip
      refine lv_lload hx hb dX6_common_31 (lv_at hl 2 rfl) ?_
      refine W.lret (v := lN x) hx hb hr (fun t ht hW => ⟨⟨lN x, (), rfl, ?_, trivial⟩, hS.F ht⟩) hS.2.2 dX6_common_33
      have hy0 : y = 0 := (pk_lEQ (by omega) (by omega)).mp b10; rw [hg, hy0, Nat.gcd_zero_right]
    · skip
      have hy0 : 0 < y := (by rcases Nat.eq_zero_or_pos y with q | q; (subst q; exact absurd rfl b10); exact q)
      refine lv_lload hx hb dX6_common_13 (lv_at hl 2 rfl) ?_
      refine lv_lload hx hb dX6_common_15 (lv_at hl 3 rfl) ?_
      refine lv_lrem hx hb dX6_common_17 (lN_ne0 (by omega) (by omega)) ?_
      refine xl_top (pk_lRem (by omega) (by omega) (by omega)) ?_
      refine lv_lstore (lv' := [(8, .long (lN (x % y))), (0, .long (lN a)), (2, .long (lN b)), (4, .long (lN x)), (6, .long (lN y))]) hx hb dX6_common_18 hl (by decide) rfl (fun ls hl => ?_)
      refine lv_lload hx hb dX6_common_20 (lv_at hl 4 rfl) ?_
      refine lv_lstore (lv' := [(4, .long (lN y)), (8, .long (lN (x % y))), (0, .long (lN a)), (2, .long (lN b)), (6, .long (lN y))]) hx hb dX6_common_22 hl (by decide) rfl (fun ls hl => ?_)
      refine lv_lload hx hb dX6_common_24 (lv_at hl 1 rfl) ?_
      refine lv_lstore (lv' := [(6, .long (lN (x % y))), (4, .long (lN y)), (8, .long (lN (x % y))), (0, .long (lN a)), (2, .long (lN b))]) hx hb dX6_common_26 hl (by decide) rfl (fun ls hl => ?_)
      refine lv_goto (tgt := 6) hx hb dX6_common_28 rfl ?_
      have hl := lv_sub hl (l' := [(0, .long (lN a)), (2, .long (lN b)), (4, .long (lN y)), (6, .long (lN (x % y)))]) [3, 4, 1, 0] rfl
      exact ih6 (x % y) (by have := Nat.mod_lt x (show 0 < y by omega); omega) y (x % y) ls H locs rfl (by omega) (by have := Nat.mod_lt x (show 0 < y by omega); omega) (by rw [hg, Nat.gcd_comm x y, Nat.gcd_rec, Nat.gcd_comm]) hl hP hS
  have hl := lv_sub hl (l' := [(0, .long (lN a)), (2, .long (lN b)), (4, .long (lN a)), (6, .long (lN b))]) [2, 3, 1, 0] rfl
  exact hL6 b a b ls ss.heap [] rfl (by omega) (by omega) (by rfl) hl hP hS

abbrev Q_X6_told (G : XG) (o u : Nat) (a : Int32) : Array Value → State → Outcome → State → Prop := (xRl (fun r => r = (if a = 0 then lN (o / Nat.gcd u o) else lN (u / Nat.gcd u o))))
set_option maxHeartbeats 4000000 in
set_option maxRecDepth 100000 in
theorem c_X6_told (l : Launch) (G : XG) (o u : Nat) (a : Int32) (ho : o < 1000000000000) (hu : u < 1000000000000) (hu0 : 0 < u) : Met l yX6_told wsX6_told ({ frames := 1, cells := 0, slots := 0, locals := 29 } : Room) (va_Pc [.long (lN o), .long (lN u), .int a] (fun _ => True)) (Q_X6_told G o u a) 0 0 (fun _ => False) := by
  refine Met.ofW (cc := cX6_told) (maxL := 7) (ret := (some .long)) (by decide) rfl ?_
  intro pp ee ss mm aa below mt cd s₁ BB hml hv
  obtain ⟨rfl, -⟩ := hv
  have hx := BB.exec
  have hb := BB.bytes
  have hr := BB.returns
  have hts := atoms_spec (ws := wsX6_told) BB.pre
  have hown : ss.vm.findClass RX6 = some mm.cls := findClass_of_methodNamed BB.named
  have hlocks := BB.notSynchronized
  have hS : va_S (fun _ => False) ss.heap ss.heap [] := va_S.rf
  have hP : xP (G) [] ss.heap := fun k q h => by cases h
  have hl := lv_entry ([.long (lN o), .long (lN u), .int a]) (n := 7) (Nat.le_of_ble_eq_true rfl)
  rw [lg_entry_eq]
  generalize (lg_sl ([.long (lN o), .long (lN u), .int a]) ++ List.replicate (7 - (lg_sl ([.long (lN o), .long (lN u), .int a])).length) Slot.unset).toArray = ls at hl ⊢
  replace hl : lv_has ls 7 [(0, .long (lN o)), (2, .long (lN u)), (4, .int a)] := hl
  refine lv_lload_n hx hb dX6_told_0 rfl (lv_at hl 1 rfl) ?_
  refine lv_lload_n hx hb dX6_told_1 rfl (lv_at hl 0 rfl) ?_
  refine xs_l (As := [.long (lN u), .long (lN o)]) (rest := []) ⟨hx, hb, hml, hown, hts⟩ (c_X6_common l G u o (by first | assumption | omega) (by first | assumption | omega)) (va_cwS 2 hts gX6_told_X6_common rfl rfl rfl (by decide +kernel) ⟨Nat.le_of_ble_eq_true rfl, Nat.le_of_ble_eq_true rfl⟩) hP hS rfl hl.1 rfl (Nat.le_of_ble_eq_true rfl) dX6_told_2 ⟨Nat.zero_le _, Nat.zero_le _⟩ (fun r2 H locs hp2 hP hS => ?_)
  rw [show r2 = _ from hp2]
  have hg0 : 0 < Nat.gcd u o := Nat.gcd_pos_of_pos_left o hu0
  have hgl : Nat.gcd u o ≤ u := Nat.gcd_le_left o hu0
  refine lv_lstore (lv' := [(5, .long (lN (Nat.gcd u o))), (0, .long (lN o)), (2, .long (lN u)), (4, .int a)]) hx hb dX6_told_5 hl (by decide) rfl (fun ls hl => ?_)
  refine lv_iload hx hb dX6_told_7 (lv_at hl 3 rfl) ?_
  refine lv_if_ne (tgt := 19) hx hb dX6_told_9 rfl (fun b9 => ?_) (fun b9 => ?_)
  · skip
    refine lv_lload_n hx hb dX6_told_19 rfl (lv_at hl 2 rfl) ?_
    refine lv_lload hx hb dX6_told_20 (lv_at hl 0 rfl) ?_
    refine lv_ldiv hx hb dX6_told_22 (lN_ne0 (by omega) (by omega)) ?_
    refine xl_top (pk_lDiv (by omega) (by omega) (by omega)) ?_
    refine W.lret (v := lN (u / (Nat.gcd u o))) hx hb hr (fun t ht hW => ⟨⟨lN (u / (Nat.gcd u o)), (), rfl, ?_, trivial⟩, hS.F ht⟩) hS.2.2 dX6_told_23
    first | exact (if_pos b9).symm | exact (if_neg b9).symm
  · skip
    refine lv_lload_n hx hb dX6_told_12 rfl (lv_at hl 1 rfl) ?_
    refine lv_lload hx hb dX6_told_13 (lv_at hl 0 rfl) ?_
    refine lv_ldiv hx hb dX6_told_15 (lN_ne0 (by omega) (by omega)) ?_
    refine xl_top (pk_lDiv (by omega) (by omega) (by omega)) ?_
    refine lv_goto (tgt := 23) hx hb dX6_told_16 rfl ?_
    refine W.lret (v := lN (o / (Nat.gcd u o))) hx hb hr (fun t ht hW => ⟨⟨lN (o / (Nat.gcd u o)), (), rfl, ?_, trivial⟩, hS.F ht⟩) hS.2.2 dX6_told_23
    first | exact (if_pos b9).symm | exact (if_neg b9).symm

abbrev Q_X6_power (G : XG) (v n : Nat) : Array Value → State → Outcome → State → Prop := (xRl (fun r => r = lN (v ^ n)))
set_option maxHeartbeats 4000000 in
set_option maxRecDepth 100000 in
theorem c_X6_power (l : Launch) (G : XG) (v n : Nat) (hv : v ≤ 10) (hn : n ≤ 6) : Met l yX6_power wsX6_power ({ frames := 0, cells := 0, slots := 0, locals := 0 } : Room) (va_Pc [.int (nI v), .int (nI n)] (fun _ => True)) (Q_X6_power G v n) 0 0 (fun _ => False) := by
  refine Met.ofW (cc := cX6_power) (maxL := 5) (ret := (some .long)) (by decide) rfl ?_
  intro pp ee ss mm aa below mt cd s₁ BB hml hv
  obtain ⟨rfl, -⟩ := hv
  have hx := BB.exec
  have hb := BB.bytes
  have hr := BB.returns
  have hts := atoms_spec (ws := wsX6_power) BB.pre
  have hown : ss.vm.findClass RX6 = some mm.cls := findClass_of_methodNamed BB.named
  have hlocks := BB.notSynchronized
  have hS : va_S (fun _ => False) ss.heap ss.heap [] := va_S.rf
  have hP : xP (G) [] ss.heap := fun k q h => by cases h
  have hl := lv_entry ([.int (nI v), .int (nI n)]) (n := 5) (Nat.le_of_ble_eq_true rfl)
  rw [lg_entry_eq]
  generalize (lg_sl ([.int (nI v), .int (nI n)]) ++ List.replicate (5 - (lg_sl ([.int (nI v), .int (nI n)])).length) Slot.unset).toArray = ls at hl ⊢
  replace hl : lv_has ls 5 [(0, .int (nI v)), (1, .int (nI n))] := hl
  refine lv_lconst (v := lN 1) hx hb dX6_power_0 (by decide) ?_
  refine lv_lstore_n (lv' := [(2, .long (lN 1)), (0, .int (nI v)), (1, .int (nI n))]) hx hb dX6_power_1 rfl hl (by decide) rfl (fun ls hl => ?_)
  refine lv_iconst (v := nI 0) hx hb dX6_power_2 (by decide) ?_
  refine lv_istore (lv' := [(4, .int (nI 0)), (2, .long (lN 1)), (0, .int (nI v)), (1, .int (nI n))]) hx hb dX6_power_3 hl (by decide) rfl (fun ls hl => ?_)
  have hL5 : ∀ k : Nat, ∀ (k1 : Nat) (ls : Array Slot) (H : Heap) (locs : List Loc), n - k1 = k → (k1 ≤ n) → lv_has ls 5 [(0, .int (nI v)), (1, .int (nI n)), (2, .long (lN (v ^ k1))), (4, .int (nI k1))] → xP G [] H → va_S (fun _ => False) ss.heap H locs → W pp l ee ({ frames := 0, cells := 0, slots := 0, locals := 0 } : Room) ss mm ([.int (nI v), .int (nI n)] : List Value).toArray below mt cd H locs 0 0 (MQ below (Q_X6_power G v n) ([.int (nI v), .int (nI n)] : List Value).toArray ss 0 0 (fun _ => False)) (F0 mm 5 ls []) := by
    intro k
    induction k using Nat.strongRecOn with
    | _ k ih5 =>
    intro k1 ls H locs hm5 hk hl hP hS
    refine lv_iload hx hb dX6_power_5 (lv_at hl 3 rfl) ?_
    refine lv_iload_n hx hb dX6_power_7 rfl (lv_at hl 1 rfl) ?_
    refine xn_icmp_ge (tgt := 22) hx hb (by omega) (by omega) dX6_power_8 rfl (fun b8 => ?_) (fun b8 => ?_)
    · skip
      refine lv_lload_n hx hb dX6_power_22 rfl (lv_at hl 2 rfl) ?_
      refine W.lret (v := lN (v ^ k1)) hx hb hr (fun t ht hW => ⟨⟨lN (v ^ k1), (), rfl, ?_, trivial⟩, hS.F ht⟩) hS.2.2 dX6_power_23
      rw [show n = k1 by omega]
    · skip
      refine lv_lload_n hx hb dX6_power_11 rfl (lv_at hl 2 rfl) ?_
      refine lv_iload_n hx hb dX6_power_12 rfl (lv_at hl 0 rfl) ?_
      refine xn_i2l hx hb (by omega) dX6_power_13 ?_
      refine lv_lmul hx hb dX6_power_14 ?_
      refine xl_top (lN_mul _ _) ?_
      refine lv_lstore_n (lv' := [(2, .long (lN ((v ^ k1) * v))), (0, .int (nI v)), (1, .int (nI n)), (4, .int (nI k1))]) hx hb dX6_power_15 rfl hl (by decide) rfl (fun ls hl => ?_)
      rw [show v ^ k1 * v = v ^ (k1 + 1) from (Nat.pow_succ v k1).symm] at hl
      refine lv_iinc (k := 3) (v := nI (k1 + 1)) (lv' := [(4, .int (nI (k1 + 1))), (2, .long (lN (v ^ (k1 + 1)))), (0, .int (nI v)), (1, .int (nI n))]) hx hb dX6_power_16 hl rfl (xn_inc k1 1) (by decide) rfl (fun ls hl => ?_)
      refine lv_goto (tgt := 5) hx hb dX6_power_19 rfl ?_
      have hl := lv_sub hl (l' := [(0, .int (nI v)), (1, .int (nI n)), (2, .long (lN (v ^ (k1 + 1)))), (4, .int (nI (k1 + 1)))]) [2, 3, 1, 0] rfl
      exact ih5 (n - (k1 + 1)) (by omega) (k1 + 1) ls H locs rfl (by omega) hl hP hS
  have hl := lv_sub hl (l' := [(0, .int (nI v)), (1, .int (nI n)), (2, .long (lN 1)), (4, .int (nI 0))]) [2, 3, 1, 0] rfl
  exact hL5 (n - 0) 0 ls ss.heap [] rfl (by omega) hl hP hS

abbrev w_X6_showersOf (G : XG) (ko : Nat) (ad : Nat → Nat) (w h la tp : Nat) (ft tr : Int32) (mv : Nat → Int32) (S mk : Nat → Int32) : va_W := [oC ko 6 [.ref (ad 0), .ref (ad 1), .int (nI w), .int (nI h), .int (nI la), .ref (ad 2), .int (mv 0), .int (mv 1), .int (mv 2), .int (mv 3), .int (mv 4), .int (mv 5), .int (mv 6), .ref (ad 3), .int (nI tp), .int (mv 7), .int (mv 8), .int (mv 9), .int (mv 10), .int ft, .int (mv 11), .ref (ad 4), .ref (ad 5), .ref (ad 6), .ref (ad 7), .ref (ad 8), .ref (ad 9), .ref (ad 10), .int tr], iA G (ad 0) 255 S, iA G (ad 4) 16 mk]
abbrev Q_X6_showersOf (G : XG) (sz : Nat) (ko : Nat) (ad : Nat → Nat) (w h la tp : Nat) (ft tr : Int32) (mv : Nat → Int32) (S mk : Nat → Int32) (nc : Nat) (nl : Nat) (x c : Nat) : Array Value → State → Outcome → State → Prop := (va_Qi (fun (r : Int32) (u : (Nat → Int32)) => r = nI (cntF (fun l => bitB (shM w h S nc l x) c) nl)) (xWb G sz (w_X6_showersOf G ko ad w h la tp ft tr mv S mk) (fun u : (Nat → Int32) => [oC ko 6 [.ref (ad 0), .ref (ad 1), .int (nI w), .int (nI h), .int (nI la), .ref (ad 2), .int (mv 0), .int (mv 1), .int (mv 2), .int (mv 3), .int (mv 4), .int (mv 5), .int (mv 6), .ref (ad 3), .int (nI tp), .int (mv 7), .int (mv 8), .int (mv 9), .int (mv 10), .int ft, .int (mv 11), .ref (ad 4), .ref (ad 5), .ref (ad 6), .ref (ad 7), .ref (ad 8), .ref (ad 9), .ref (ad 10), .int tr], iA G (ad 0) 255 S, iA G (ad 4) 16 u])) (va_A (w_X6_showersOf G ko ad w h la tp ft tr mv S mk) sz))
set_option maxHeartbeats 4000000 in
set_option maxRecDepth 100000 in
theorem c_X6_showersOf (l : Launch) (G : XG) (sz : Nat) (ko : Nat) (ad : Nat → Nat) (w h la tp : Nat) (ft tr : Int32) (mv : Nat → Int32) (S mk : Nat → Int32) (nc : Nat) (nl : Nat) (x c : Nat) (hw : 1 ≤ w) (hwb : w ≤ 16) (hhb : h ≤ 16) (hwh1 : 1 ≤ w * h) (hwh : w * h ≤ 16) (hla : la ≤ 9) (hs16 : S 16 = nI nc) (hnc : nc ≤ 10) (hs47 : S 47 = nI nl) (hnl : nl ≤ 6) (hlens : ∀ i, i < nl → inR (S (48 + 2 * i)) (la + 1)) (hxx : x < w * h) (hcc : c < w * h) : Met l yX6_showersOf wsX6_showersOf ({ frames := 5, cells := 0, slots := 0, locals := 111 } : Room) (va_Pc [.ref ko, .int (nI x), .int (nI c)] (xWp G sz (w_X6_showersOf G ko ad w h la tp ft tr mv S mk))) (Q_X6_showersOf G sz ko ad w h la tp ft tr mv S mk nc nl x c) 0 0 (va_A (w_X6_showersOf G ko ad w h la tp ft tr mv S mk) sz) := by
  refine Met.ofW (cc := cX6_showersOf) (maxL := 5) (ret := (some .int)) (by decide) rfl ?_
  intro pp ee ss mm aa below mt cd s₁ BB hml hv
  obtain ⟨rfl, hsz, hP, hK, hD0⟩ := hv
  have hx := BB.exec
  have hb := BB.bytes
  have hr := BB.returns
  have hts := atoms_spec (ws := wsX6_showersOf) BB.pre
  have hown : ss.vm.findClass RX6 = some mm.cls := findClass_of_methodNamed BB.named
  have hlocks := BB.notSynchronized
  subst hsz
  have hD := hD0.self (sz := ss.heap.size)
  have hA : ∀ q : Nat, ss.heap.size ≤ q → va_A (w_X6_showersOf G ko ad w h la tp ft tr mv S mk) ss.heap.size q := fun q h => Or.inr h
  have hS : va_S (va_A (w_X6_showersOf G ko ad w h la tp ft tr mv S mk) ss.heap.size) ss.heap ss.heap [] := va_S.rf
  replace hD : va_D (va_A (w_X6_showersOf G ko ad w h la tp ft tr mv S mk) ss.heap.size) [oC ko 6 [.ref (ad 0), .ref (ad 1), .int (nI w), .int (nI h), .int (nI la), .ref (ad 2), .int (mv 0), .int (mv 1), .int (mv 2), .int (mv 3), .int (mv 4), .int (mv 5), .int (mv 6), .ref (ad 3), .int (nI tp), .int (mv 7), .int (mv 8), .int (mv 9), .int (mv 10), .int ft, .int (mv 11), .ref (ad 4), .ref (ad 5), .ref (ad 6), .ref (ad 7), .ref (ad 8), .ref (ad 9), .ref (ad 10), .int tr], iA G (ad 0) 255 S, iA G (ad 4) 16 mk] := hD
  replace hP : xP G [oC ko 6 [.ref (ad 0), .ref (ad 1), .int (nI w), .int (nI h), .int (nI la), .ref (ad 2), .int (mv 0), .int (mv 1), .int (mv 2), .int (mv 3), .int (mv 4), .int (mv 5), .int (mv 6), .ref (ad 3), .int (nI tp), .int (mv 7), .int (mv 8), .int (mv 9), .int (mv 10), .int ft, .int (mv 11), .ref (ad 4), .ref (ad 5), .ref (ad 6), .ref (ad 7), .ref (ad 8), .ref (ad 9), .ref (ad 10), .int tr], iA G (ad 0) 255 S, iA G (ad 4) 16 mk] ss.heap := hP
  have hin6 : ∀ w ∈ u_ws RX6 TX6 29, w ∈ wsX6_showersOf := fun w h => List.mem_cons_of_mem _ (List.mem_append_right _ h)
  have hl := lv_entry ([.ref ko, .int (nI x), .int (nI c)]) (n := 5) (Nat.le_of_ble_eq_true rfl)
  rw [lg_entry_eq]
  generalize (lg_sl ([.ref ko, .int (nI x), .int (nI c)]) ++ List.replicate (5 - (lg_sl ([.ref ko, .int (nI x), .int (nI c)])).length) Slot.unset).toArray = ls at hl ⊢
  replace hl : lv_has ls 5 [(0, .ref ko), (1, .int (nI x)), (2, .int (nI c))] := hl
  refine lv_iconst (v := nI 0) hx hb dX6_showersOf_0 (by decide) ?_
  refine lv_istore_n (lv' := [(3, .int (nI 0)), (0, .ref ko), (1, .int (nI x)), (2, .int (nI c))]) hx hb dX6_showersOf_1 rfl hl (by decide) rfl (fun ls hl => ?_)
  refine lv_iconst (v := nI 0) hx hb dX6_showersOf_2 (by decide) ?_
  refine lv_istore (lv' := [(4, .int (nI 0)), (3, .int (nI 0)), (0, .ref ko), (1, .int (nI x)), (2, .int (nI c))]) hx hb dX6_showersOf_3 hl (by decide) rfl (fun ls hl => ?_)
  have hL5 : ∀ k : Nat, ∀ (i : Nat) (n : Nat) (mk3 : Nat → Int32) (ls : Array Slot) (H : Heap) (locs : List Loc), nl - i = k → (i ≤ nl) → (n = cntF (fun l => bitB (shM w h S nc l x) c) i) → lv_has ls 5 [(0, .ref ko), (1, .int (nI x)), (2, .int (nI c)), (3, .int (nI n)), (4, .int (nI i))] → xP G [iA G (ad 0) 255 S, iA G (ad 4) 16 mk3, oC ko 6 [.ref (ad 0), .ref (ad 1), .int (nI w), .int (nI h), .int (nI la), .ref (ad 2), .int (mv 0), .int (mv 1), .int (mv 2), .int (mv 3), .int (mv 4), .int (mv 5), .int (mv 6), .ref (ad 3), .int (nI tp), .int (mv 7), .int (mv 8), .int (mv 9), .int (mv 10), .int ft, .int (mv 11), .ref (ad 4), .ref (ad 5), .ref (ad 6), .ref (ad 7), .ref (ad 8), .ref (ad 9), .ref (ad 10), .int tr]] H → va_D (va_A (w_X6_showersOf G ko ad w h la tp ft tr mv S mk) ss.heap.size) [iA G (ad 0) 255 S, iA G (ad 4) 16 mk3, oC ko 6 [.ref (ad 0), .ref (ad 1), .int (nI w), .int (nI h), .int (nI la), .ref (ad 2), .int (mv 0), .int (mv 1), .int (mv 2), .int (mv 3), .int (mv 4), .int (mv 5), .int (mv 6), .ref (ad 3), .int (nI tp), .int (mv 7), .int (mv 8), .int (mv 9), .int (mv 10), .int ft, .int (mv 11), .ref (ad 4), .ref (ad 5), .ref (ad 6), .ref (ad 7), .ref (ad 8), .ref (ad 9), .ref (ad 10), .int tr]] → va_S (va_A (w_X6_showersOf G ko ad w h la tp ft tr mv S mk) ss.heap.size) ss.heap H locs → W pp l ee ({ frames := 5, cells := 0, slots := 0, locals := 111 } : Room) ss mm ([.ref ko, .int (nI x), .int (nI c)] : List Value).toArray below mt cd H locs 0 0 (MQ below (Q_X6_showersOf G ss.heap.size ko ad w h la tp ft tr mv S mk nc nl x c) ([.ref ko, .int (nI x), .int (nI c)] : List Value).toArray ss 0 0 (va_A (w_X6_showersOf G ko ad w h la tp ft tr mv S mk) ss.heap.size)) (F0 mm 5 ls []) := by
    intro k
    induction k using Nat.strongRecOn with
    | _ k ih5 =>
    intro i n mk3 ls H locs hm5 hi hn hl hP hD hS
    refine lv_iload hx hb dX6_showersOf_5 (lv_at hl 4 rfl) ?_
    refine lv_aload_n hx hb dX6_showersOf_7 rfl (lv_at hl 0 rfl) ?_
    refine va_get (D := G.1) (ci := 6) (v := .ref (ad 0)) (C := RX6) (T := TX6) (N := 29) hx hb hts hin6 hown hK.1 hP 2 rfl rfl 0 (by decide) (hts (.fieldLink RX6 7 "BackLensesModel" "st" "[I") (List.mem_of_getElem? (i := 1) rfl)) (fun _ h9 => h9) rfl dX6_showersOf_8 ?_
    refine lv_bipush (v := nI 47) hx hb dX6_showersOf_11 (by decide) ?_
    refine xn_iald hx hb hK hP 0 rfl (by omega) (by omega) dX6_showersOf_13 ?_
    refine xn_top (y := nI nl) (by exact hs47) ?_
    refine xn_icmp_ge (tgt := 37) hx hb (by omega) (by omega) dX6_showersOf_14 rfl (fun b14 => ?_) (fun b14 => ?_)
    · skip
      refine lv_iload_n hx hb dX6_showersOf_37 rfl (lv_at hl 3 rfl) ?_
      have hP := hP.sub (ws' := [oC ko 6 [.ref (ad 0), .ref (ad 1), .int (nI w), .int (nI h), .int (nI la), .ref (ad 2), .int (mv 0), .int (mv 1), .int (mv 2), .int (mv 3), .int (mv 4), .int (mv 5), .int (mv 6), .ref (ad 3), .int (nI tp), .int (mv 7), .int (mv 8), .int (mv 9), .int (mv 10), .int ft, .int (mv 11), .ref (ad 4), .ref (ad 5), .ref (ad 6), .ref (ad 7), .ref (ad 8), .ref (ad 9), .ref (ad 10), .int tr], iA G (ad 0) 255 S, iA G (ad 4) 16 mk3]) [2, 0, 1] rfl
      have hD := hD.sub (ws' := [oC ko 6 [.ref (ad 0), .ref (ad 1), .int (nI w), .int (nI h), .int (nI la), .ref (ad 2), .int (mv 0), .int (mv 1), .int (mv 2), .int (mv 3), .int (mv 4), .int (mv 5), .int (mv 6), .ref (ad 3), .int (nI tp), .int (mv 7), .int (mv 8), .int (mv 9), .int (mv 10), .int ft, .int (mv 11), .ref (ad 4), .ref (ad 5), .ref (ad 6), .ref (ad 7), .ref (ad 8), .ref (ad 9), .ref (ad 10), .int tr], iA G (ad 0) 255 S, iA G (ad 4) 16 mk3]) [2, 0, 1] (by decide) rfl
      refine W.iret (v := nI n) hx hb hr (fun t ht hW => ⟨⟨nI n, (mk3), rfl, ?_, by rw [ht]; exact hP, hD⟩, hS.F ht⟩) hS.2.2 dX6_showersOf_38
      rw [hn, show i = nl by omega]
    · skip
      refine lv_iload_n hx hb dX6_showersOf_17 rfl (lv_at hl 3 rfl) ?_
      refine lv_aload_n hx hb dX6_showersOf_18 rfl (lv_at hl 0 rfl) ?_
      refine lv_iload hx hb dX6_showersOf_19 (lv_at hl 4 rfl) ?_
      refine lv_iload_n hx hb dX6_showersOf_21 rfl (lv_at hl 1 rfl) ?_
      refine xw_i (As := [.int (nI i), .int (nI x)]) (rest := [.int (nI n)]) (wr := []) ⟨hx, hb, hml, hown, hts⟩ (c_X6_shownBy l G H.size ko ad w h la tp ft tr mv S mk3 _ _ i x (by first | assumption | omega) (by first | assumption | omega) (by first | assumption | omega) (by first | assumption | omega) (by first | assumption | omega) (by first | assumption | omega) (by first | assumption | omega) (by first | assumption | omega) (by first | assumption | omega) (by first | assumption | omega) (by first | assumption | omega) (by first | assumption | omega) (by first | assumption | omega)) (cwV 2 hts gX6_showersOf_X6_shownBy rfl rfl rfl (by decide +kernel) ⟨Nat.le_of_ble_eq_true rfl, Nat.le_of_ble_eq_true rfl⟩) hK hP hD hS hA [2, 0, 1] [] rfl rfl (by decide) (by decide) (by decide) rfl rfl rfl hl.1 rfl (Nat.le_of_ble_eq_true rfl) dX6_showersOf_22 ⟨Nat.le_of_ble_eq_true rfl, Nat.le_of_ble_eq_true rfl⟩ (fun r22 u H locs hp22 hP hD hS => ?_)
      obtain ⟨mk2_22, rfl⟩ : ∃ z, z = u := ⟨_, rfl⟩
      try dsimp only at hp22 hP hD
      obtain rfl := hp22
      replace hP : xP G [oC ko 6 [.ref (ad 0), .ref (ad 1), .int (nI w), .int (nI h), .int (nI la), .ref (ad 2), .int (mv 0), .int (mv 1), .int (mv 2), .int (mv 3), .int (mv 4), .int (mv 5), .int (mv 6), .ref (ad 3), .int (nI tp), .int (mv 7), .int (mv 8), .int (mv 9), .int (mv 10), .int ft, .int (mv 11), .ref (ad 4), .ref (ad 5), .ref (ad 6), .ref (ad 7), .ref (ad 8), .ref (ad 9), .ref (ad 10), .int tr], iA G (ad 0) 255 S, iA G (ad 4) 16 mk2_22] H := hP
      replace hD : va_D (va_A (w_X6_showersOf G ko ad w h la tp ft tr mv S mk) ss.heap.size) [oC ko 6 [.ref (ad 0), .ref (ad 1), .int (nI w), .int (nI h), .int (nI la), .ref (ad 2), .int (mv 0), .int (mv 1), .int (mv 2), .int (mv 3), .int (mv 4), .int (mv 5), .int (mv 6), .ref (ad 3), .int (nI tp), .int (mv 7), .int (mv 8), .int (mv 9), .int (mv 10), .int ft, .int (mv 11), .ref (ad 4), .ref (ad 5), .ref (ad 6), .ref (ad 7), .ref (ad 8), .ref (ad 9), .ref (ad 10), .int tr], iA G (ad 0) 255 S, iA G (ad 4) 16 mk2_22] := hD
      refine lv_iload_n hx hb dX6_showersOf_25 rfl (lv_at hl 2 rfl) ?_
      refine lv_ishr hx hb dX6_showersOf_26 ?_
      refine lv_iconst (v := nI 1) hx hb dX6_showersOf_27 (by decide) ?_
      refine lv_iand hx hb dX6_showersOf_28 ?_
      refine lv_iadd hx hb dX6_showersOf_29 ?_
      refine xn_top (y := nI (cntF (fun l => bitB (shM w h S nc l x) c) (i + 1))) (by rw [hn]; exact cnt_and rfl) ?_
      refine lv_istore_n (lv' := [(3, .int (nI (cntF (fun l => bitB (shM w h S nc l x) c) (i + 1)))), (0, .ref ko), (1, .int (nI x)), (2, .int (nI c)), (4, .int (nI i))]) hx hb dX6_showersOf_30 rfl hl (by decide) rfl (fun ls hl => ?_)
      refine lv_iinc (k := 4) (v := nI (i + 1)) (lv' := [(4, .int (nI (i + 1))), (3, .int (nI (cntF (fun l => bitB (shM w h S nc l x) c) (i + 1)))), (0, .ref ko), (1, .int (nI x)), (2, .int (nI c))]) hx hb dX6_showersOf_31 hl rfl (xn_inc i 1) (by decide) rfl (fun ls hl => ?_)
      refine lv_goto (tgt := 5) hx hb dX6_showersOf_34 rfl ?_
      have hl := lv_sub hl (l' := [(0, .ref ko), (1, .int (nI x)), (2, .int (nI c)), (3, .int (nI (cntF (fun l => bitB (shM w h S nc l x) c) (i + 1)))), (4, .int (nI (i + 1)))]) [2, 3, 4, 1, 0] rfl
      have hP := hP.sub (ws' := [iA G (ad 0) 255 S, iA G (ad 4) 16 mk2_22, oC ko 6 [.ref (ad 0), .ref (ad 1), .int (nI w), .int (nI h), .int (nI la), .ref (ad 2), .int (mv 0), .int (mv 1), .int (mv 2), .int (mv 3), .int (mv 4), .int (mv 5), .int (mv 6), .ref (ad 3), .int (nI tp), .int (mv 7), .int (mv 8), .int (mv 9), .int (mv 10), .int ft, .int (mv 11), .ref (ad 4), .ref (ad 5), .ref (ad 6), .ref (ad 7), .ref (ad 8), .ref (ad 9), .ref (ad 10), .int tr]]) [1, 2, 0] rfl
      have hD := hD.sub (ws' := [iA G (ad 0) 255 S, iA G (ad 4) 16 mk2_22, oC ko 6 [.ref (ad 0), .ref (ad 1), .int (nI w), .int (nI h), .int (nI la), .ref (ad 2), .int (mv 0), .int (mv 1), .int (mv 2), .int (mv 3), .int (mv 4), .int (mv 5), .int (mv 6), .ref (ad 3), .int (nI tp), .int (mv 7), .int (mv 8), .int (mv 9), .int (mv 10), .int ft, .int (mv 11), .ref (ad 4), .ref (ad 5), .ref (ad 6), .ref (ad 7), .ref (ad 8), .ref (ad 9), .ref (ad 10), .int tr]]) [1, 2, 0] (by decide) rfl
      exact ih5 (nl - (i + 1)) (by omega) (i + 1) (cntF (fun l => bitB (shM w h S nc l x) c) (i + 1)) mk2_22 ls H locs rfl (by omega) (by rfl) hl hP hD hS
  have hl := lv_sub hl (l' := [(0, .ref ko), (1, .int (nI x)), (2, .int (nI c)), (3, .int (nI 0)), (4, .int (nI 0))]) [2, 3, 4, 1, 0] rfl
  have hP := hP.sub (ws' := [iA G (ad 0) 255 S, iA G (ad 4) 16 mk, oC ko 6 [.ref (ad 0), .ref (ad 1), .int (nI w), .int (nI h), .int (nI la), .ref (ad 2), .int (mv 0), .int (mv 1), .int (mv 2), .int (mv 3), .int (mv 4), .int (mv 5), .int (mv 6), .ref (ad 3), .int (nI tp), .int (mv 7), .int (mv 8), .int (mv 9), .int (mv 10), .int ft, .int (mv 11), .ref (ad 4), .ref (ad 5), .ref (ad 6), .ref (ad 7), .ref (ad 8), .ref (ad 9), .ref (ad 10), .int tr]]) [1, 2, 0] rfl
  have hD := hD.sub (ws' := [iA G (ad 0) 255 S, iA G (ad 4) 16 mk, oC ko 6 [.ref (ad 0), .ref (ad 1), .int (nI w), .int (nI h), .int (nI la), .ref (ad 2), .int (mv 0), .int (mv 1), .int (mv 2), .int (mv 3), .int (mv 4), .int (mv 5), .int (mv 6), .ref (ad 3), .int (nI tp), .int (mv 7), .int (mv 8), .int (mv 9), .int (mv 10), .int ft, .int (mv 11), .ref (ad 4), .ref (ad 5), .ref (ad 6), .ref (ad 7), .ref (ad 8), .ref (ad 9), .ref (ad 10), .int tr]]) [1, 2, 0] (by decide) rfl
  exact hL5 (nl - 0) 0 0 mk ls ss.heap [] rfl (by omega) (by rfl) hl hP hD hS

abbrev w_X6_luck (G : XG) (ko : Nat) (ad : Nat → Nat) (w h la tp : Nat) (ft tr : Int32) (mv : Nat → Int32) (S mk : Nat → Int32) : va_W := [oC ko 6 [.ref (ad 0), .ref (ad 1), .int (nI w), .int (nI h), .int (nI la), .ref (ad 2), .int (mv 0), .int (mv 1), .int (mv 2), .int (mv 3), .int (mv 4), .int (mv 5), .int (mv 6), .ref (ad 3), .int (nI tp), .int (mv 7), .int (mv 8), .int (mv 9), .int (mv 10), .int ft, .int (mv 11), .ref (ad 4), .ref (ad 5), .ref (ad 6), .ref (ad 7), .ref (ad 8), .ref (ad 9), .ref (ad 10), .int tr], iA G (ad 0) 255 S, iA G (ad 4) 16 mk]
abbrev Q_X6_luck (G : XG) (sz : Nat) (ko : Nat) (ad : Nat → Nat) (w h la tp : Nat) (ft tr : Int32) (mv : Nat → Int32) (S mk : Nat → Int32) (nc : Nat) (nl : Nat) (v x c a : Int32) : Array Value → State → Outcome → State → Prop := (va_Ql (fun (r : Int64) (u : (Nat → Int32)) => r = (if inR v 11 ∧ inR x (w * h) ∧ inR c (w * h) ∧ inR a 2 then (if a = 0 then lN (((10 ^ (cntF (fun l => bitB (shM w h S nc l (tn x)) (tn c)) nl) - tn v ^ (cntF (fun l => bitB (shM w h S nc l (tn x)) (tn c)) nl))) / Nat.gcd (10 ^ (cntF (fun l => bitB (shM w h S nc l (tn x)) (tn c)) nl)) ((10 ^ (cntF (fun l => bitB (shM w h S nc l (tn x)) (tn c)) nl) - tn v ^ (cntF (fun l => bitB (shM w h S nc l (tn x)) (tn c)) nl)))) else lN ((10 ^ (cntF (fun l => bitB (shM w h S nc l (tn x)) (tn c)) nl)) / Nat.gcd (10 ^ (cntF (fun l => bitB (shM w h S nc l (tn x)) (tn c)) nl)) ((10 ^ (cntF (fun l => bitB (shM w h S nc l (tn x)) (tn c)) nl) - tn v ^ (cntF (fun l => bitB (shM w h S nc l (tn x)) (tn c)) nl))))) else (-1))) (xWb G sz (w_X6_luck G ko ad w h la tp ft tr mv S mk) (fun u : (Nat → Int32) => [oC ko 6 [.ref (ad 0), .ref (ad 1), .int (nI w), .int (nI h), .int (nI la), .ref (ad 2), .int (mv 0), .int (mv 1), .int (mv 2), .int (mv 3), .int (mv 4), .int (mv 5), .int (mv 6), .ref (ad 3), .int (nI tp), .int (mv 7), .int (mv 8), .int (mv 9), .int (mv 10), .int ft, .int (mv 11), .ref (ad 4), .ref (ad 5), .ref (ad 6), .ref (ad 7), .ref (ad 8), .ref (ad 9), .ref (ad 10), .int tr], iA G (ad 0) 255 S, iA G (ad 4) 16 u])) (va_A (w_X6_luck G ko ad w h la tp ft tr mv S mk) sz))
set_option maxHeartbeats 4000000 in
set_option maxRecDepth 100000 in
theorem c_X6_luck (l : Launch) (G : XG) (sz : Nat) (ko : Nat) (ad : Nat → Nat) (w h la tp : Nat) (ft tr : Int32) (mv : Nat → Int32) (S mk : Nat → Int32) (nc : Nat) (nl : Nat) (v x c a : Int32) (hw : 1 ≤ w) (hwb : w ≤ 16) (hhb : h ≤ 16) (hwh1 : 1 ≤ w * h) (hwh : w * h ≤ 16) (hla : la ≤ 9) (hs16 : S 16 = nI nc) (hnc : nc ≤ 10) (hs47 : S 47 = nI nl) (hnl : nl ≤ 6) (hlens : ∀ i, i < nl → inR (S (48 + 2 * i)) (la + 1)) : Met l yX6_luck wsX6_luck ({ frames := 6, cells := 0, slots := 0, locals := 135 } : Room) (va_Pc [.ref ko, .int v, .int x, .int c, .int a] (xWp G sz (w_X6_luck G ko ad w h la tp ft tr mv S mk))) (Q_X6_luck G sz ko ad w h la tp ft tr mv S mk nc nl v x c a) 0 0 (va_A (w_X6_luck G ko ad w h la tp ft tr mv S mk) sz) := by
  refine Met.ofW (cc := cX6_luck) (maxL := 6) (ret := (some .long)) (by decide) rfl ?_
  intro pp ee ss mm aa below mt cd s₁ BB hml hv
  obtain ⟨rfl, hsz, hP, hK, hD0⟩ := hv
  have hx := BB.exec
  have hb := BB.bytes
  have hr := BB.returns
  have hts := atoms_spec (ws := wsX6_luck) BB.pre
  have hown : ss.vm.findClass RX6 = some mm.cls := findClass_of_methodNamed BB.named
  have hlocks := BB.notSynchronized
  subst hsz
  have hD := hD0.self (sz := ss.heap.size)
  have hA : ∀ q : Nat, ss.heap.size ≤ q → va_A (w_X6_luck G ko ad w h la tp ft tr mv S mk) ss.heap.size q := fun q h => Or.inr h
  have hS : va_S (va_A (w_X6_luck G ko ad w h la tp ft tr mv S mk) ss.heap.size) ss.heap ss.heap [] := va_S.rf
  replace hD : va_D (va_A (w_X6_luck G ko ad w h la tp ft tr mv S mk) ss.heap.size) [oC ko 6 [.ref (ad 0), .ref (ad 1), .int (nI w), .int (nI h), .int (nI la), .ref (ad 2), .int (mv 0), .int (mv 1), .int (mv 2), .int (mv 3), .int (mv 4), .int (mv 5), .int (mv 6), .ref (ad 3), .int (nI tp), .int (mv 7), .int (mv 8), .int (mv 9), .int (mv 10), .int ft, .int (mv 11), .ref (ad 4), .ref (ad 5), .ref (ad 6), .ref (ad 7), .ref (ad 8), .ref (ad 9), .ref (ad 10), .int tr], iA G (ad 0) 255 S, iA G (ad 4) 16 mk] := hD
  replace hP : xP G [oC ko 6 [.ref (ad 0), .ref (ad 1), .int (nI w), .int (nI h), .int (nI la), .ref (ad 2), .int (mv 0), .int (mv 1), .int (mv 2), .int (mv 3), .int (mv 4), .int (mv 5), .int (mv 6), .ref (ad 3), .int (nI tp), .int (mv 7), .int (mv 8), .int (mv 9), .int (mv 10), .int ft, .int (mv 11), .ref (ad 4), .ref (ad 5), .ref (ad 6), .ref (ad 7), .ref (ad 8), .ref (ad 9), .ref (ad 10), .int tr], iA G (ad 0) 255 S, iA G (ad 4) 16 mk] ss.heap := hP
  have hin6 : ∀ w ∈ u_ws RX6 TX6 29, w ∈ wsX6_luck := fun w h => List.mem_cons_of_mem _ (List.mem_append_right _ h)
  have hl := lv_entry ([.ref ko, .int v, .int x, .int c, .int a]) (n := 6) (Nat.le_of_ble_eq_true rfl)
  rw [lg_entry_eq]
  generalize (lg_sl ([.ref ko, .int v, .int x, .int c, .int a]) ++ List.replicate (6 - (lg_sl ([.ref ko, .int v, .int x, .int c, .int a])).length) Slot.unset).toArray = ls at hl ⊢
  replace hl : lv_has ls 6 [(0, .ref ko), (1, .int v), (2, .int x), (3, .int c), (4, .int a)] := hl
  refine lv_iload_n hx hb dX6_luck_0 rfl (lv_at hl 1 rfl) ?_
  refine xi_i2l hx hb dX6_luck_1 ?_
  refine lv_lconst (v := lN 0) hx hb dX6_luck_2 (by decide) ?_
  refine lv_ldc2 (v := lN 10) hx hb hown (hts (.constantLong RX6 247 (lN 10)) (List.mem_of_getElem? (i := 1) rfl)) dX6_luck_3 ?_
  refine xs_i (As := [.long v.toInt64, .long (lN 0), .long (lN 10)]) (rest := []) ⟨hx, hb, hml, hown, hts⟩ (c_X6_in_r l G v 10 (by first | assumption | omega)) (va_cwS 3 hts gX6_luck_X6_in rfl rfl rfl (by decide +kernel) ⟨Nat.le_of_ble_eq_true rfl, Nat.le_of_ble_eq_true rfl⟩) hP hS rfl hl.1 rfl (Nat.le_of_ble_eq_true rfl) dX6_luck_6 ⟨Nat.zero_le _, Nat.zero_le _⟩ (fun r6 H locs hp6 hP hS => ?_)
  rw [show r6 = _ from hp6]
  refine xb_if_eq (tgt := 36) hx hb dX6_luck_9 rfl (fun b9 => ?_) (fun b9 => ?_)
  · skip
    refine lv_ldc2 (v := (-1)) hx hb hown (hts (.constantLong RX6 229 ((-1))) (List.mem_of_getElem? (i := 2) rfl)) dX6_luck_36 ?_
    have hP := hP.sub (ws' := [oC ko 6 [.ref (ad 0), .ref (ad 1), .int (nI w), .int (nI h), .int (nI la), .ref (ad 2), .int (mv 0), .int (mv 1), .int (mv 2), .int (mv 3), .int (mv 4), .int (mv 5), .int (mv 6), .ref (ad 3), .int (nI tp), .int (mv 7), .int (mv 8), .int (mv 9), .int (mv 10), .int ft, .int (mv 11), .ref (ad 4), .ref (ad 5), .ref (ad 6), .ref (ad 7), .ref (ad 8), .ref (ad 9), .ref (ad 10), .int tr], iA G (ad 0) 255 S, iA G (ad 4) 16 mk]) [0, 1, 2] rfl
    have hD := hD.sub (ws' := [oC ko 6 [.ref (ad 0), .ref (ad 1), .int (nI w), .int (nI h), .int (nI la), .ref (ad 2), .int (mv 0), .int (mv 1), .int (mv 2), .int (mv 3), .int (mv 4), .int (mv 5), .int (mv 6), .ref (ad 3), .int (nI tp), .int (mv 7), .int (mv 8), .int (mv 9), .int (mv 10), .int ft, .int (mv 11), .ref (ad 4), .ref (ad 5), .ref (ad 6), .ref (ad 7), .ref (ad 8), .ref (ad 9), .ref (ad 10), .int tr], iA G (ad 0) 255 S, iA G (ad 4) 16 mk]) [0, 1, 2] (by decide) rfl
    refine W.lret (v := (-1)) hx hb hr (fun t ht hW => ⟨⟨(-1), (mk), rfl, ?_, by rw [ht]; exact hP, hD⟩, hS.F ht⟩) hS.2.2 dX6_luck_39
    first | exact (if_neg (fun q => b9 q.1)).symm | exact (if_neg (fun q => b17 q.2.1)).symm | exact (if_neg (fun q => b25 q.2.2.1)).symm | exact (if_neg (fun q => b33 q.2.2.2)).symm | (rw [if_pos ⟨inR_nI hv0 (by omega), inR_nI hx0 (by omega), inR_nI hc0 (by omega), b33⟩, tn_nI (by omega), tn_nI (by omega), tn_nI (by omega)])
  · skip
    refine lv_aload_n hx hb dX6_luck_12 rfl (lv_at hl 0 rfl) ?_
    refine lv_iload_n hx hb dX6_luck_13 rfl (lv_at hl 2 rfl) ?_
    refine xr_i (As := [.int x]) (rest := []) ⟨hx, hb, hml, hown, hts⟩ (c_X6_isCell l G ko ad w h la tp ft tr mv x (by first | assumption | omega) (by first | assumption | omega)) (cwV 1 hts gX6_luck_X6_isCell rfl rfl rfl (by decide +kernel) ⟨Nat.le_of_ble_eq_true rfl, Nat.le_of_ble_eq_true rfl⟩) hK hP hS [0] rfl rfl rfl rfl hl.1 rfl (Nat.le_of_ble_eq_true rfl) dX6_luck_14 ⟨Nat.zero_le _, Nat.zero_le _⟩ (fun r14 H locs hp14 hP hS => ?_)
    rw [show r14 = _ from hp14]
    refine xb_if_eq (tgt := 36) hx hb dX6_luck_17 rfl (fun b17 => ?_) (fun b17 => ?_)
    · skip
      refine lv_ldc2 (v := (-1)) hx hb hown (hts (.constantLong RX6 229 ((-1))) (List.mem_of_getElem? (i := 2) rfl)) dX6_luck_36 ?_
      have hP := hP.sub (ws' := [oC ko 6 [.ref (ad 0), .ref (ad 1), .int (nI w), .int (nI h), .int (nI la), .ref (ad 2), .int (mv 0), .int (mv 1), .int (mv 2), .int (mv 3), .int (mv 4), .int (mv 5), .int (mv 6), .ref (ad 3), .int (nI tp), .int (mv 7), .int (mv 8), .int (mv 9), .int (mv 10), .int ft, .int (mv 11), .ref (ad 4), .ref (ad 5), .ref (ad 6), .ref (ad 7), .ref (ad 8), .ref (ad 9), .ref (ad 10), .int tr], iA G (ad 0) 255 S, iA G (ad 4) 16 mk]) [0, 1, 2] rfl
      have hD := hD.sub (ws' := [oC ko 6 [.ref (ad 0), .ref (ad 1), .int (nI w), .int (nI h), .int (nI la), .ref (ad 2), .int (mv 0), .int (mv 1), .int (mv 2), .int (mv 3), .int (mv 4), .int (mv 5), .int (mv 6), .ref (ad 3), .int (nI tp), .int (mv 7), .int (mv 8), .int (mv 9), .int (mv 10), .int ft, .int (mv 11), .ref (ad 4), .ref (ad 5), .ref (ad 6), .ref (ad 7), .ref (ad 8), .ref (ad 9), .ref (ad 10), .int tr], iA G (ad 0) 255 S, iA G (ad 4) 16 mk]) [0, 1, 2] (by decide) rfl
      refine W.lret (v := (-1)) hx hb hr (fun t ht hW => ⟨⟨(-1), (mk), rfl, ?_, by rw [ht]; exact hP, hD⟩, hS.F ht⟩) hS.2.2 dX6_luck_39
      first | exact (if_neg (fun q => b9 q.1)).symm | exact (if_neg (fun q => b17 q.2.1)).symm | exact (if_neg (fun q => b25 q.2.2.1)).symm | exact (if_neg (fun q => b33 q.2.2.2)).symm | (rw [if_pos ⟨inR_nI hv0 (by omega), inR_nI hx0 (by omega), inR_nI hc0 (by omega), b33⟩, tn_nI (by omega), tn_nI (by omega), tn_nI (by omega)])
    · skip
      refine lv_aload_n hx hb dX6_luck_20 rfl (lv_at hl 0 rfl) ?_
      refine lv_iload_n hx hb dX6_luck_21 rfl (lv_at hl 3 rfl) ?_
      refine xr_i (As := [.int c]) (rest := []) ⟨hx, hb, hml, hown, hts⟩ (c_X6_isCell l G ko ad w h la tp ft tr mv c (by first | assumption | omega) (by first | assumption | omega)) (cwV 1 hts gX6_luck_X6_isCell rfl rfl rfl (by decide +kernel) ⟨Nat.le_of_ble_eq_true rfl, Nat.le_of_ble_eq_true rfl⟩) hK hP hS [0] rfl rfl rfl rfl hl.1 rfl (Nat.le_of_ble_eq_true rfl) dX6_luck_22 ⟨Nat.zero_le _, Nat.zero_le _⟩ (fun r22 H locs hp22 hP hS => ?_)
      rw [show r22 = _ from hp22]
      refine xb_if_eq (tgt := 36) hx hb dX6_luck_25 rfl (fun b25 => ?_) (fun b25 => ?_)
      · skip
        refine lv_ldc2 (v := (-1)) hx hb hown (hts (.constantLong RX6 229 ((-1))) (List.mem_of_getElem? (i := 2) rfl)) dX6_luck_36 ?_
        have hP := hP.sub (ws' := [oC ko 6 [.ref (ad 0), .ref (ad 1), .int (nI w), .int (nI h), .int (nI la), .ref (ad 2), .int (mv 0), .int (mv 1), .int (mv 2), .int (mv 3), .int (mv 4), .int (mv 5), .int (mv 6), .ref (ad 3), .int (nI tp), .int (mv 7), .int (mv 8), .int (mv 9), .int (mv 10), .int ft, .int (mv 11), .ref (ad 4), .ref (ad 5), .ref (ad 6), .ref (ad 7), .ref (ad 8), .ref (ad 9), .ref (ad 10), .int tr], iA G (ad 0) 255 S, iA G (ad 4) 16 mk]) [0, 1, 2] rfl
        have hD := hD.sub (ws' := [oC ko 6 [.ref (ad 0), .ref (ad 1), .int (nI w), .int (nI h), .int (nI la), .ref (ad 2), .int (mv 0), .int (mv 1), .int (mv 2), .int (mv 3), .int (mv 4), .int (mv 5), .int (mv 6), .ref (ad 3), .int (nI tp), .int (mv 7), .int (mv 8), .int (mv 9), .int (mv 10), .int ft, .int (mv 11), .ref (ad 4), .ref (ad 5), .ref (ad 6), .ref (ad 7), .ref (ad 8), .ref (ad 9), .ref (ad 10), .int tr], iA G (ad 0) 255 S, iA G (ad 4) 16 mk]) [0, 1, 2] (by decide) rfl
        refine W.lret (v := (-1)) hx hb hr (fun t ht hW => ⟨⟨(-1), (mk), rfl, ?_, by rw [ht]; exact hP, hD⟩, hS.F ht⟩) hS.2.2 dX6_luck_39
        first | exact (if_neg (fun q => b9 q.1)).symm | exact (if_neg (fun q => b17 q.2.1)).symm | exact (if_neg (fun q => b25 q.2.2.1)).symm | exact (if_neg (fun q => b33 q.2.2.2)).symm | (rw [if_pos ⟨inR_nI hv0 (by omega), inR_nI hx0 (by omega), inR_nI hc0 (by omega), b33⟩, tn_nI (by omega), tn_nI (by omega), tn_nI (by omega)])
      · skip
        refine lv_iload hx hb dX6_luck_28 (lv_at hl 4 rfl) ?_
        refine xs_i (As := [.int a]) (rest := []) ⟨hx, hb, hml, hown, hts⟩ (c_X6_isPart l G a ) (va_cwS 1 hts gX6_luck_X6_isPart rfl rfl rfl (by decide +kernel) ⟨Nat.le_of_ble_eq_true rfl, Nat.le_of_ble_eq_true rfl⟩) hP hS rfl hl.1 rfl (Nat.le_of_ble_eq_true rfl) dX6_luck_30 ⟨Nat.zero_le _, Nat.zero_le _⟩ (fun r30 H locs hp30 hP hS => ?_)
        rw [show r30 = _ from hp30]
        refine xb_if_ne (tgt := 40) hx hb dX6_luck_33 rfl (fun b33 => ?_) (fun b33 => ?_)
        · skip
          obtain ⟨v0, hv0, rfl⟩ := inR_nat b9
          obtain ⟨x0, hx0, rfl⟩ := inR_nat b17
          obtain ⟨c0, hc0, rfl⟩ := inR_nat b25
          refine lv_aload_n hx hb dX6_luck_40 rfl (lv_at hl 0 rfl) ?_
          refine lv_iload_n hx hb dX6_luck_41 rfl (lv_at hl 2 rfl) ?_
          refine lv_iload_n hx hb dX6_luck_42 rfl (lv_at hl 3 rfl) ?_
          refine xw_i (As := [.int (nI x0), .int (nI c0)]) (rest := []) (wr := []) ⟨hx, hb, hml, hown, hts⟩ (c_X6_showersOf l G H.size ko ad w h la tp ft tr mv S mk _ _ x0 c0 (by first | assumption | omega) (by first | assumption | omega) (by first | assumption | omega) (by first | assumption | omega) (by first | assumption | omega) (by first | assumption | omega) (by first | assumption | omega) (by first | assumption | omega) (by first | assumption | omega) (by first | assumption | omega) (by first | assumption | omega) (by first | assumption | omega) (by first | assumption | omega)) (cwV 2 hts gX6_luck_X6_showersOf rfl rfl rfl (by decide +kernel) ⟨Nat.le_of_ble_eq_true rfl, Nat.le_of_ble_eq_true rfl⟩) hK hP hD hS hA [0, 1, 2] [] rfl rfl (by decide) (by decide) (by decide) rfl rfl rfl hl.1 rfl (Nat.le_of_ble_eq_true rfl) dX6_luck_43 ⟨Nat.le_of_ble_eq_true rfl, Nat.le_of_ble_eq_true rfl⟩ (fun r43 u H locs hp43 hP hD hS => ?_)
          obtain ⟨mk2_43, rfl⟩ : ∃ z, z = u := ⟨_, rfl⟩
          try dsimp only at hp43 hP hD
          obtain rfl := hp43
          replace hP : xP G [oC ko 6 [.ref (ad 0), .ref (ad 1), .int (nI w), .int (nI h), .int (nI la), .ref (ad 2), .int (mv 0), .int (mv 1), .int (mv 2), .int (mv 3), .int (mv 4), .int (mv 5), .int (mv 6), .ref (ad 3), .int (nI tp), .int (mv 7), .int (mv 8), .int (mv 9), .int (mv 10), .int ft, .int (mv 11), .ref (ad 4), .ref (ad 5), .ref (ad 6), .ref (ad 7), .ref (ad 8), .ref (ad 9), .ref (ad 10), .int tr], iA G (ad 0) 255 S, iA G (ad 4) 16 mk2_43] H := hP
          replace hD : va_D (va_A (w_X6_luck G ko ad w h la tp ft tr mv S mk) ss.heap.size) [oC ko 6 [.ref (ad 0), .ref (ad 1), .int (nI w), .int (nI h), .int (nI la), .ref (ad 2), .int (mv 0), .int (mv 1), .int (mv 2), .int (mv 3), .int (mv 4), .int (mv 5), .int (mv 6), .ref (ad 3), .int (nI tp), .int (mv 7), .int (mv 8), .int (mv 9), .int (mv 10), .int ft, .int (mv 11), .ref (ad 4), .ref (ad 5), .ref (ad 6), .ref (ad 7), .ref (ad 8), .ref (ad 9), .ref (ad 10), .int tr], iA G (ad 0) 255 S, iA G (ad 4) 16 mk2_43] := hD
          have hcl := cntF_le (fun l => bitB (shM w h S nc l x0) c0) nl
          have hpl := Nat.pow_le_pow_left (show v0 ≤ 10 by omega) (cntF (fun l => bitB (shM w h S nc l x0) c0) nl)
          have hp6 : 10 ^ (cntF (fun l => bitB (shM w h S nc l x0) c0) nl) ≤ 1000000 := Nat.pow_le_pow_right (n := 10) (by omega) (show cntF (fun l => bitB (shM w h S nc l x0) c0) nl ≤ 6 by omega)
          have hp1 : 0 < 10 ^ (cntF (fun l => bitB (shM w h S nc l x0) c0) nl) := Nat.pow_pos (by omega)
          refine lv_istore (lv' := [(5, .int (nI (cntF (fun l => bitB (shM w h S _ l x0) c0) _))), (0, .ref ko), (1, .int (nI v0)), (2, .int (nI x0)), (3, .int (nI c0)), (4, .int a)]) hx hb dX6_luck_46 hl (by decide) rfl (fun ls hl => ?_)
          refine lv_bipush (v := nI 10) hx hb dX6_luck_48 (by decide) ?_
          refine lv_iload hx hb dX6_luck_50 (lv_at hl 0 rfl) ?_
          refine xs_l (As := [.int (nI 10), .int (nI (cntF (fun l => bitB (shM w h S _ l x0) c0) _))]) (rest := []) ⟨hx, hb, hml, hown, hts⟩ (c_X6_power l G 10 (cntF (fun l => bitB (shM w h S _ l x0) c0) _) (by first | assumption | omega) (by first | assumption | omega)) (va_cwS 2 hts gX6_luck_X6_power rfl rfl rfl (by decide +kernel) ⟨Nat.le_of_ble_eq_true rfl, Nat.le_of_ble_eq_true rfl⟩) hP hS rfl hl.1 rfl (Nat.le_of_ble_eq_true rfl) dX6_luck_52 ⟨Nat.zero_le _, Nat.zero_le _⟩ (fun r52 H locs hp52 hP hS => ?_)
          rw [show r52 = _ from hp52]
          refine lv_iload_n hx hb dX6_luck_55 rfl (lv_at hl 2 rfl) ?_
          refine lv_iload hx hb dX6_luck_56 (lv_at hl 0 rfl) ?_
          refine xs_l (As := [.int (nI v0), .int (nI (cntF (fun l => bitB (shM w h S _ l x0) c0) _))]) (rest := [.long (lN (10 ^ (cntF (fun l => bitB (shM w h S _ l x0) c0) _)))]) ⟨hx, hb, hml, hown, hts⟩ (c_X6_power l G v0 (cntF (fun l => bitB (shM w h S _ l x0) c0) _) (by first | assumption | omega) (by first | assumption | omega)) (va_cwS 2 hts gX6_luck_X6_power rfl rfl rfl (by decide +kernel) ⟨Nat.le_of_ble_eq_true rfl, Nat.le_of_ble_eq_true rfl⟩) hP hS rfl hl.1 rfl (Nat.le_of_ble_eq_true rfl) dX6_luck_58 ⟨Nat.zero_le _, Nat.zero_le _⟩ (fun r58 H locs hp58 hP hS => ?_)
          rw [show r58 = _ from hp58]
          refine lv_lsub hx hb dX6_luck_61 ?_
          refine xl_top (lN_sub (by omega)) ?_
          refine lv_bipush (v := nI 10) hx hb dX6_luck_62 (by decide) ?_
          refine lv_iload hx hb dX6_luck_64 (lv_at hl 0 rfl) ?_
          refine xs_l (As := [.int (nI 10), .int (nI (cntF (fun l => bitB (shM w h S _ l x0) c0) _))]) (rest := [.long (lN ((10 ^ (cntF (fun l => bitB (shM w h S _ l x0) c0) _)) - (v0 ^ (cntF (fun l => bitB (shM w h S _ l x0) c0) _))))]) ⟨hx, hb, hml, hown, hts⟩ (c_X6_power l G 10 (cntF (fun l => bitB (shM w h S _ l x0) c0) _) (by first | assumption | omega) (by first | assumption | omega)) (va_cwS 2 hts gX6_luck_X6_power rfl rfl rfl (by decide +kernel) ⟨Nat.le_of_ble_eq_true rfl, Nat.le_of_ble_eq_true rfl⟩) hP hS rfl hl.1 rfl (Nat.le_of_ble_eq_true rfl) dX6_luck_66 ⟨Nat.zero_le _, Nat.zero_le _⟩ (fun r66 H locs hp66 hP hS => ?_)
          rw [show r66 = _ from hp66]
          refine lv_iload hx hb dX6_luck_69 (lv_at hl 5 rfl) ?_
          refine xs_l (As := [.long (lN ((10 ^ (cntF (fun l => bitB (shM w h S _ l x0) c0) _)) - (v0 ^ (cntF (fun l => bitB (shM w h S _ l x0) c0) _)))), .long (lN (10 ^ (cntF (fun l => bitB (shM w h S _ l x0) c0) _))), .int a]) (rest := []) ⟨hx, hb, hml, hown, hts⟩ (c_X6_told l G ((10 ^ (cntF (fun l => bitB (shM w h S _ l x0) c0) _)) - (v0 ^ (cntF (fun l => bitB (shM w h S _ l x0) c0) _))) (10 ^ (cntF (fun l => bitB (shM w h S _ l x0) c0) _)) a (by first | assumption | omega) (by first | assumption | omega) (by first | assumption | omega)) (va_cwS 3 hts gX6_luck_X6_told rfl rfl rfl (by decide +kernel) ⟨Nat.le_of_ble_eq_true rfl, Nat.le_of_ble_eq_true rfl⟩) hP hS rfl hl.1 rfl (Nat.le_of_ble_eq_true rfl) dX6_luck_71 ⟨Nat.zero_le _, Nat.zero_le _⟩ (fun r71 H locs hp71 hP hS => ?_)
          rw [show r71 = _ from hp71]
          have hP := hP.sub (ws' := [oC ko 6 [.ref (ad 0), .ref (ad 1), .int (nI w), .int (nI h), .int (nI la), .ref (ad 2), .int (mv 0), .int (mv 1), .int (mv 2), .int (mv 3), .int (mv 4), .int (mv 5), .int (mv 6), .ref (ad 3), .int (nI tp), .int (mv 7), .int (mv 8), .int (mv 9), .int (mv 10), .int ft, .int (mv 11), .ref (ad 4), .ref (ad 5), .ref (ad 6), .ref (ad 7), .ref (ad 8), .ref (ad 9), .ref (ad 10), .int tr], iA G (ad 0) 255 S, iA G (ad 4) 16 mk2_43]) [0, 1, 2] rfl
          have hD := hD.sub (ws' := [oC ko 6 [.ref (ad 0), .ref (ad 1), .int (nI w), .int (nI h), .int (nI la), .ref (ad 2), .int (mv 0), .int (mv 1), .int (mv 2), .int (mv 3), .int (mv 4), .int (mv 5), .int (mv 6), .ref (ad 3), .int (nI tp), .int (mv 7), .int (mv 8), .int (mv 9), .int (mv 10), .int ft, .int (mv 11), .ref (ad 4), .ref (ad 5), .ref (ad 6), .ref (ad 7), .ref (ad 8), .ref (ad 9), .ref (ad 10), .int tr], iA G (ad 0) 255 S, iA G (ad 4) 16 mk2_43]) [0, 1, 2] (by decide) rfl
          refine W.lret (v := (if a = 0 then lN (((10 ^ (cntF (fun l => bitB (shM w h S _ l x0) c0) _)) - (v0 ^ (cntF (fun l => bitB (shM w h S _ l x0) c0) _))) / Nat.gcd (10 ^ (cntF (fun l => bitB (shM w h S _ l x0) c0) _)) ((10 ^ (cntF (fun l => bitB (shM w h S _ l x0) c0) _)) - (v0 ^ (cntF (fun l => bitB (shM w h S _ l x0) c0) _)))) else lN ((10 ^ (cntF (fun l => bitB (shM w h S _ l x0) c0) _)) / Nat.gcd (10 ^ (cntF (fun l => bitB (shM w h S _ l x0) c0) _)) ((10 ^ (cntF (fun l => bitB (shM w h S _ l x0) c0) _)) - (v0 ^ (cntF (fun l => bitB (shM w h S _ l x0) c0) _)))))) hx hb hr (fun t ht hW => ⟨⟨(if a = 0 then lN (((10 ^ (cntF (fun l => bitB (shM w h S _ l x0) c0) _)) - (v0 ^ (cntF (fun l => bitB (shM w h S _ l x0) c0) _))) / Nat.gcd (10 ^ (cntF (fun l => bitB (shM w h S _ l x0) c0) _)) ((10 ^ (cntF (fun l => bitB (shM w h S _ l x0) c0) _)) - (v0 ^ (cntF (fun l => bitB (shM w h S _ l x0) c0) _)))) else lN ((10 ^ (cntF (fun l => bitB (shM w h S _ l x0) c0) _)) / Nat.gcd (10 ^ (cntF (fun l => bitB (shM w h S _ l x0) c0) _)) ((10 ^ (cntF (fun l => bitB (shM w h S _ l x0) c0) _)) - (v0 ^ (cntF (fun l => bitB (shM w h S _ l x0) c0) _))))), (mk2_43), rfl, ?_, by rw [ht]; exact hP, hD⟩, hS.F ht⟩) hS.2.2 dX6_luck_74
          first | exact (if_neg (fun q => b9 q.1)).symm | exact (if_neg (fun q => b17 q.2.1)).symm | exact (if_neg (fun q => b25 q.2.2.1)).symm | exact (if_neg (fun q => b33 q.2.2.2)).symm | (rw [if_pos ⟨inR_nI hv0 (by omega), inR_nI hx0 (by omega), inR_nI hc0 (by omega), b33⟩, tn_nI (by omega), tn_nI (by omega), tn_nI (by omega)])
        · skip
          refine lv_ldc2 (v := (-1)) hx hb hown (hts (.constantLong RX6 229 ((-1))) (List.mem_of_getElem? (i := 2) rfl)) dX6_luck_36 ?_
          have hP := hP.sub (ws' := [oC ko 6 [.ref (ad 0), .ref (ad 1), .int (nI w), .int (nI h), .int (nI la), .ref (ad 2), .int (mv 0), .int (mv 1), .int (mv 2), .int (mv 3), .int (mv 4), .int (mv 5), .int (mv 6), .ref (ad 3), .int (nI tp), .int (mv 7), .int (mv 8), .int (mv 9), .int (mv 10), .int ft, .int (mv 11), .ref (ad 4), .ref (ad 5), .ref (ad 6), .ref (ad 7), .ref (ad 8), .ref (ad 9), .ref (ad 10), .int tr], iA G (ad 0) 255 S, iA G (ad 4) 16 mk]) [0, 1, 2] rfl
          have hD := hD.sub (ws' := [oC ko 6 [.ref (ad 0), .ref (ad 1), .int (nI w), .int (nI h), .int (nI la), .ref (ad 2), .int (mv 0), .int (mv 1), .int (mv 2), .int (mv 3), .int (mv 4), .int (mv 5), .int (mv 6), .ref (ad 3), .int (nI tp), .int (mv 7), .int (mv 8), .int (mv 9), .int (mv 10), .int ft, .int (mv 11), .ref (ad 4), .ref (ad 5), .ref (ad 6), .ref (ad 7), .ref (ad 8), .ref (ad 9), .ref (ad 10), .int tr], iA G (ad 0) 255 S, iA G (ad 4) 16 mk]) [0, 1, 2] (by decide) rfl
          refine W.lret (v := (-1)) hx hb hr (fun t ht hW => ⟨⟨(-1), (mk), rfl, ?_, by rw [ht]; exact hP, hD⟩, hS.F ht⟩) hS.2.2 dX6_luck_39
          first | exact (if_neg (fun q => b9 q.1)).symm | exact (if_neg (fun q => b17 q.2.1)).symm | exact (if_neg (fun q => b25 q.2.2.1)).symm | exact (if_neg (fun q => b33 q.2.2.2)).symm | (rw [if_pos ⟨inR_nI hv0 (by omega), inR_nI hx0 (by omega), inR_nI hc0 (by omega), b33⟩, tn_nI (by omega), tn_nI (by omega), tn_nI (by omega)])

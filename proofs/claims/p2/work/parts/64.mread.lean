abbrev w_X6_read (G : XG) (ko : Nat) (ad : Nat → Nat) (w h la tp : Nat) (ft tr : Int32) (mv : Nat → Int32) (S ml ms mc : Nat → Int32) : va_W := [oC ko 6 [.ref (ad 0), .ref (ad 1), .int (nI w), .int (nI h), .int (nI la), .ref (ad 2), .int (mv 0), .int (mv 1), .int (mv 2), .int (mv 3), .int (mv 4), .int (mv 5), .int (mv 6), .ref (ad 3), .int (nI tp), .int (mv 7), .int (mv 8), .int (mv 9), .int (mv 10), .int ft, .int (mv 11), .ref (ad 4), .ref (ad 5), .ref (ad 6), .ref (ad 7), .ref (ad 8), .ref (ad 9), .ref (ad 10), .int tr], iA G (ad 0) 255 S, iA G (ad 8) 4 ml, iA G (ad 9) 4 ms, iA G (ad 10) 160 mc]
abbrev Q_X6_read (G : XG) (sz : Nat) (ko : Nat) (ad : Nat → Nat) (w h la tp : Nat) (ft tr : Int32) (mv : Nat → Int32) (S ml ms mc : Nat → Int32) (nc j zz n : Nat) (lane f0 : Int32) : Array Value → State → Outcome → State → Prop := (va_Qi (fun (r : Int32) (u : (Nat → Int32) × Int32) => r = (match (rdM la (w * h) (rsM (ml j) lane zz f0) (fun i c => mc (40 * j + tn (f0 + nI (3 * i)) + c)) n 0 (nI 0) nc S).1 with | some i => (-20) - nI i | none => nI ((rdM la (w * h) (rsM (ml j) lane zz f0) (fun i c => mc (40 * j + tn (f0 + nI (3 * i)) + c)) n 0 (nI 0) nc S).2.2.1 - nc)) ∧ u.1 = (match (rdM la (w * h) (rsM (ml j) lane zz f0) (fun i c => mc (40 * j + tn (f0 + nI (3 * i)) + c)) n 0 (nI 0) nc S).1 with | some _ => upd (rdM la (w * h) (rsM (ml j) lane zz f0) (fun i c => mc (40 * j + tn (f0 + nI (3 * i)) + c)) n 0 (nI 0) nc S).2.2.2 16 (nI nc) | none => (rdM la (w * h) (rsM (ml j) lane zz f0) (fun i c => mc (40 * j + tn (f0 + nI (3 * i)) + c)) n 0 (nI 0) nc S).2.2.2) ∧ u.2 = (match (rdM la (w * h) (rsM (ml j) lane zz f0) (fun i c => mc (40 * j + tn (f0 + nI (3 * i)) + c)) n 0 (nI 0) nc S).1 with | some _ => tr | none => (rdM la (w * h) (rsM (ml j) lane zz f0) (fun i c => mc (40 * j + tn (f0 + nI (3 * i)) + c)) n 0 (nI 0) nc S).2.1)) (xWb G sz (w_X6_read G ko ad w h la tp ft tr mv S ml ms mc) (fun u : (Nat → Int32) × Int32 => [oC ko 6 [.ref (ad 0), .ref (ad 1), .int (nI w), .int (nI h), .int (nI la), .ref (ad 2), .int (mv 0), .int (mv 1), .int (mv 2), .int (mv 3), .int (mv 4), .int (mv 5), .int (mv 6), .ref (ad 3), .int (nI tp), .int (mv 7), .int (mv 8), .int (mv 9), .int (mv 10), .int ft, .int (mv 11), .ref (ad 4), .ref (ad 5), .ref (ad 6), .ref (ad 7), .ref (ad 8), .ref (ad 9), .ref (ad 10), .int u.2], iA G (ad 0) 255 u.1, iA G (ad 8) 4 ml, iA G (ad 9) 4 ms, iA G (ad 10) 160 mc])) (va_A (w_X6_read G ko ad w h la tp ft tr mv S ml ms mc) sz))
set_option maxHeartbeats 4000000 in
set_option maxRecDepth 100000 in
theorem c_X6_read (l : Launch) (G : XG) (sz : Nat) (ko : Nat) (ad : Nat → Nat) (w h la tp : Nat) (ft tr : Int32) (mv : Nat → Int32) (S ml ms mc : Nat → Int32) (nc j zz n : Nat) (lane f0 : Int32) (hw : 1 ≤ w) (hwb : w ≤ 16) (hhb : h ≤ 16) (hwh1 : 1 ≤ w * h) (hwh : w * h ≤ 16) (hla : la ≤ 9) (hs16 : S 16 = nI nc) (hnc : nc ≤ 10) (hj : j < 4) (hlane : inR lane 3) (hn : n ≤ 13) (hms : ms j = nI zz) (hzz : zz ≤ 40) : Met l yX6_read wsX6_read ({ frames := 3, cells := 0, slots := 0, locals := 70 } : Room) (va_Pc [.ref ko, .int (nI j), .int lane, .int f0, .int (nI n)] (xWp G sz (w_X6_read G ko ad w h la tp ft tr mv S ml ms mc))) (Q_X6_read G sz ko ad w h la tp ft tr mv S ml ms mc nc j zz n lane f0) 0 0 (va_A (w_X6_read G ko ad w h la tp ft tr mv S ml ms mc) sz) := by
  refine Met.ofW (cc := cX6_read) (maxL := 12) (ret := (some .int)) (by decide) rfl ?_
  intro pp ee ss mm aa below mt cd s₁ BB hml hv
  obtain ⟨rfl, hsz, hP, hK, hD0⟩ := hv
  have hx := BB.exec
  have hb := BB.bytes
  have hr := BB.returns
  have hts := atoms_spec (ws := wsX6_read) BB.pre
  have hown : ss.vm.findClass RX6 = some mm.cls := findClass_of_methodNamed BB.named
  have hlocks := BB.notSynchronized
  subst hsz
  have hD := hD0.self (sz := ss.heap.size)
  have hA : ∀ q : Nat, ss.heap.size ≤ q → va_A (w_X6_read G ko ad w h la tp ft tr mv S ml ms mc) ss.heap.size q := fun q h => Or.inr h
  have hS : va_S (va_A (w_X6_read G ko ad w h la tp ft tr mv S ml ms mc) ss.heap.size) ss.heap ss.heap [] := va_S.rf
  replace hD : va_D (va_A (w_X6_read G ko ad w h la tp ft tr mv S ml ms mc) ss.heap.size) [oC ko 6 [.ref (ad 0), .ref (ad 1), .int (nI w), .int (nI h), .int (nI la), .ref (ad 2), .int (mv 0), .int (mv 1), .int (mv 2), .int (mv 3), .int (mv 4), .int (mv 5), .int (mv 6), .ref (ad 3), .int (nI tp), .int (mv 7), .int (mv 8), .int (mv 9), .int (mv 10), .int ft, .int (mv 11), .ref (ad 4), .ref (ad 5), .ref (ad 6), .ref (ad 7), .ref (ad 8), .ref (ad 9), .ref (ad 10), .int tr], iA G (ad 0) 255 S, iA G (ad 8) 4 ml, iA G (ad 9) 4 ms, iA G (ad 10) 160 mc] := hD
  replace hP : xP G [oC ko 6 [.ref (ad 0), .ref (ad 1), .int (nI w), .int (nI h), .int (nI la), .ref (ad 2), .int (mv 0), .int (mv 1), .int (mv 2), .int (mv 3), .int (mv 4), .int (mv 5), .int (mv 6), .ref (ad 3), .int (nI tp), .int (mv 7), .int (mv 8), .int (mv 9), .int (mv 10), .int ft, .int (mv 11), .ref (ad 4), .ref (ad 5), .ref (ad 6), .ref (ad 7), .ref (ad 8), .ref (ad 9), .ref (ad 10), .int tr], iA G (ad 0) 255 S, iA G (ad 8) 4 ml, iA G (ad 9) 4 ms, iA G (ad 10) 160 mc] ss.heap := hP
  have hin6 : ∀ w ∈ u_ws RX6 TX6 29, w ∈ wsX6_read := fun w h => List.mem_cons_of_mem _ (List.mem_append_right _ h)
  have hl := lv_entry ([.ref ko, .int (nI j), .int lane, .int f0, .int (nI n)]) (n := 12) (Nat.le_of_ble_eq_true rfl)
  rw [lg_entry_eq]
  generalize (lg_sl ([.ref ko, .int (nI j), .int lane, .int f0, .int (nI n)]) ++ List.replicate (12 - (lg_sl ([.ref ko, .int (nI j), .int lane, .int f0, .int (nI n)])).length) Slot.unset).toArray = ls at hl ⊢
  replace hl : lv_has ls 12 [(0, .ref ko), (1, .int (nI j)), (2, .int lane), (3, .int f0), (4, .int (nI n))] := hl
  refine lv_iload_n hx hb dX6_read_0 rfl (lv_at hl 1 rfl) ?_
  refine lv_iload_n hx hb dX6_read_1 rfl (lv_at hl 2 rfl) ?_
  refine xs_i (As := [.int (nI j), .int lane]) (rest := []) ⟨hx, hb, hml, hown, hts⟩ (c_X6_isSheet l G (nI j) lane ) (va_cwS 2 hts gX6_read_X6_isSheet rfl rfl rfl (by decide +kernel) ⟨Nat.le_of_ble_eq_true rfl, Nat.le_of_ble_eq_true rfl⟩) hP hS rfl hl.1 rfl (Nat.le_of_ble_eq_true rfl) dX6_read_2 ⟨Nat.zero_le _, Nat.zero_le _⟩ (fun r2 H locs hp2 hP hS => ?_)
  rw [show r2 = _ from hp2]
  refine xb_if_eq (tgt := 21) hx hb dX6_read_5 rfl (fun b5 => absurd b5 (by exact fun q => q ⟨inR_nI hj (by omega), hlane⟩)) (fun _ => ?_)
  refine lv_iload hx hb dX6_read_8 (lv_at hl 4 rfl) ?_
  refine xi_i2l hx hb dX6_read_10 ?_
  refine lv_lconst (v := lN 0) hx hb dX6_read_11 (by decide) ?_
  refine lv_ldc2 (v := lN 13) hx hb hown (hts (.constantLong RX6 269 (lN 13)) (List.mem_of_getElem? (i := 1) rfl)) dX6_read_12 ?_
  refine xs_i (As := [.long ((nI n).toInt64), .long (lN 0), .long (lN 13)]) (rest := []) ⟨hx, hb, hml, hown, hts⟩ (c_X6_in_r l G (nI n) 13 (by first | assumption | omega)) (va_cwS 3 hts gX6_read_X6_in rfl rfl rfl (by decide +kernel) ⟨Nat.le_of_ble_eq_true rfl, Nat.le_of_ble_eq_true rfl⟩) hP hS rfl hl.1 rfl (Nat.le_of_ble_eq_true rfl) dX6_read_15 ⟨Nat.zero_le _, Nat.zero_le _⟩ (fun r15 H locs hp15 hP hS => ?_)
  rw [show r15 = _ from hp15]
  refine xb_if_ne (tgt := 23) hx hb dX6_read_18 rfl (fun _ => ?_) (fun b18 => absurd b18 (by exact fun q => q (inR_nI (by omega) (by omega))))
  refine lv_aload_n hx hb dX6_read_23 rfl (lv_at hl 0 rfl) ?_
  refine va_get (D := G.1) (ci := 6) (v := .ref (ad 0)) (C := RX6) (T := TX6) (N := 29) hx hb hts hin6 hown hK.1 hP 0 rfl rfl 0 (by decide) (hts (.fieldLink RX6 7 "BackLensesModel" "st" "[I") (List.mem_of_getElem? (i := 2) rfl)) (fun _ h9 => h9) rfl dX6_read_24 ?_
  refine lv_bipush (v := nI 16) hx hb dX6_read_27 (by decide) ?_
  refine xn_iald hx hb hK hP 1 rfl (by omega) (by omega) dX6_read_29 ?_
  refine xn_top (y := nI nc) (by exact hs16) ?_
  refine lv_istore (lv' := [(5, .int (nI nc)), (0, .ref ko), (1, .int (nI j)), (2, .int lane), (3, .int f0), (4, .int (nI n))]) hx hb dX6_read_30 hl (by decide) rfl (fun ls hl => ?_)
  refine lv_iconst (v := nI 0) hx hb dX6_read_32 (by decide) ?_
  refine lv_istore (lv' := [(6, .int (nI 0)), (5, .int (nI nc)), (0, .ref ko), (1, .int (nI j)), (2, .int lane), (3, .int f0), (4, .int (nI n))]) hx hb dX6_read_33 hl (by decide) rfl (fun ls hl => ?_)
  refine lv_iconst (v := nI 0) hx hb dX6_read_35 (by decide) ?_
  refine lv_istore (lv' := [(7, .int (nI 0)), (6, .int (nI 0)), (5, .int (nI nc)), (0, .ref ko), (1, .int (nI j)), (2, .int lane), (3, .int f0), (4, .int (nI n))]) hx hb dX6_read_36 hl (by decide) rfl (fun ls hl => ?_)
  refine lv_iconst (v := nI 0) hx hb dX6_read_38 (by decide) ?_
  refine lv_istore (lv' := [(8, .int (nI 0)), (7, .int (nI 0)), (6, .int (nI 0)), (5, .int (nI nc)), (0, .ref ko), (1, .int (nI j)), (2, .int lane), (3, .int f0), (4, .int (nI n))]) hx hb dX6_read_39 hl (by decide) rfl (fun ls hl => ?_)
  have hL41 : ∀ k : Nat, ∀ (i : Nat) (fd : Int32) (wl : Nat) (n3 : Nat) (S3 : Nat → Int32) (ls : Array Slot) (H : Heap) (locs : List Loc), n - i = k → (i ≤ n) → (nc ≤ n3) → (n3 ≤ 10) → (wl = n3 - nc) → (S3 16 = nI n3) → ((rdM la (w * h) (rsM (ml j) lane zz f0) (fun i c => mc (40 * j + tn (f0 + nI (3 * i)) + c)) n 0 (nI 0) nc S) = rdM la (w * h) (rsM (ml j) lane zz f0) (fun i c => mc (40 * j + tn (f0 + nI (3 * i)) + c)) (n - i) i fd n3 S3) → lv_has ls 12 [(0, .ref ko), (1, .int (nI j)), (2, .int lane), (3, .int f0), (4, .int (nI n)), (5, .int (nI nc)), (6, .int fd), (7, .int (nI wl)), (8, .int (nI i))] → xP G [iA G (ad 0) 255 S3, iA G (ad 10) 160 mc, iA G (ad 8) 4 ml, iA G (ad 9) 4 ms, oC ko 6 [.ref (ad 0), .ref (ad 1), .int (nI w), .int (nI h), .int (nI la), .ref (ad 2), .int (mv 0), .int (mv 1), .int (mv 2), .int (mv 3), .int (mv 4), .int (mv 5), .int (mv 6), .ref (ad 3), .int (nI tp), .int (mv 7), .int (mv 8), .int (mv 9), .int (mv 10), .int ft, .int (mv 11), .ref (ad 4), .ref (ad 5), .ref (ad 6), .ref (ad 7), .ref (ad 8), .ref (ad 9), .ref (ad 10), .int tr]] H → va_D (va_A (w_X6_read G ko ad w h la tp ft tr mv S ml ms mc) ss.heap.size) [iA G (ad 0) 255 S3, iA G (ad 10) 160 mc, iA G (ad 8) 4 ml, iA G (ad 9) 4 ms, oC ko 6 [.ref (ad 0), .ref (ad 1), .int (nI w), .int (nI h), .int (nI la), .ref (ad 2), .int (mv 0), .int (mv 1), .int (mv 2), .int (mv 3), .int (mv 4), .int (mv 5), .int (mv 6), .ref (ad 3), .int (nI tp), .int (mv 7), .int (mv 8), .int (mv 9), .int (mv 10), .int ft, .int (mv 11), .ref (ad 4), .ref (ad 5), .ref (ad 6), .ref (ad 7), .ref (ad 8), .ref (ad 9), .ref (ad 10), .int tr]] → va_S (va_A (w_X6_read G ko ad w h la tp ft tr mv S ml ms mc) ss.heap.size) ss.heap H locs → W pp l ee ({ frames := 3, cells := 0, slots := 0, locals := 70 } : Room) ss mm ([.ref ko, .int (nI j), .int lane, .int f0, .int (nI n)] : List Value).toArray below mt cd H locs 0 0 (MQ below (Q_X6_read G ss.heap.size ko ad w h la tp ft tr mv S ml ms mc nc j zz n lane f0) ([.ref ko, .int (nI j), .int lane, .int f0, .int (nI n)] : List Value).toArray ss 0 0 (va_A (w_X6_read G ko ad w h la tp ft tr mv S ml ms mc) ss.heap.size)) (F0 mm 41 ls []) := by
    intro k
    induction k using Nat.strongRecOn with
    | _ k ih41 =>
    intro i fd wl n3 S3 ls H locs hm41 hi hnn hn3 hwl hs3 hrd hl hP hD hS
    refine lv_iload hx hb dX6_read_41 (lv_at hl 8 rfl) ?_
    refine lv_iload hx hb dX6_read_43 (lv_at hl 4 rfl) ?_
    refine xn_icmp_ge (tgt := 217) hx hb (by omega) (by omega) dX6_read_45 rfl (fun b45 => ?_) (fun b45 => ?_)
    · skip
      refine lv_aload_n hx hb dX6_read_217 rfl (lv_at hl 0 rfl) ?_
      refine lv_iload hx hb dX6_read_218 (lv_at hl 6 rfl) ?_
      refine va_put (D := G.1) (ci := 6) (v := .int fd) (ty := .int) (C := RX6) (T := TX6) (N := 29) hx hb hts hin6 tyX6 tyX6_ok nmX6 hown hK.1 hP hD hS 4 rfl rfl 28 (by decide) (hts (.fieldLink RX6 274 "BackLensesModel" "torn" "I") (List.mem_of_getElem? (i := 6) rfl)) (fun _ h9 => h9) rfl (by decide +kernel) rfl rfl (Nat.le_of_ble_eq_true rfl) dX6_read_220 (fun H locs hP hD hS => ?_)
      replace hP : xP G [iA G (ad 0) 255 S3, iA G (ad 10) 160 mc, iA G (ad 8) 4 ml, iA G (ad 9) 4 ms, oC ko 6 [.ref (ad 0), .ref (ad 1), .int (nI w), .int (nI h), .int (nI la), .ref (ad 2), .int (mv 0), .int (mv 1), .int (mv 2), .int (mv 3), .int (mv 4), .int (mv 5), .int (mv 6), .ref (ad 3), .int (nI tp), .int (mv 7), .int (mv 8), .int (mv 9), .int (mv 10), .int ft, .int (mv 11), .ref (ad 4), .ref (ad 5), .ref (ad 6), .ref (ad 7), .ref (ad 8), .ref (ad 9), .ref (ad 10), .int fd]] H := hP
      replace hD : va_D (va_A (w_X6_read G ko ad w h la tp ft tr mv S ml ms mc) ss.heap.size) [iA G (ad 0) 255 S3, iA G (ad 10) 160 mc, iA G (ad 8) 4 ml, iA G (ad 9) 4 ms, oC ko 6 [.ref (ad 0), .ref (ad 1), .int (nI w), .int (nI h), .int (nI la), .ref (ad 2), .int (mv 0), .int (mv 1), .int (mv 2), .int (mv 3), .int (mv 4), .int (mv 5), .int (mv 6), .ref (ad 3), .int (nI tp), .int (mv 7), .int (mv 8), .int (mv 9), .int (mv 10), .int ft, .int (mv 11), .ref (ad 4), .ref (ad 5), .ref (ad 6), .ref (ad 7), .ref (ad 8), .ref (ad 9), .ref (ad 10), .int fd]] := hD
      refine lv_iload hx hb dX6_read_223 (lv_at hl 7 rfl) ?_
      have hP := hP.sub (ws' := [oC ko 6 [.ref (ad 0), .ref (ad 1), .int (nI w), .int (nI h), .int (nI la), .ref (ad 2), .int (mv 0), .int (mv 1), .int (mv 2), .int (mv 3), .int (mv 4), .int (mv 5), .int (mv 6), .ref (ad 3), .int (nI tp), .int (mv 7), .int (mv 8), .int (mv 9), .int (mv 10), .int ft, .int (mv 11), .ref (ad 4), .ref (ad 5), .ref (ad 6), .ref (ad 7), .ref (ad 8), .ref (ad 9), .ref (ad 10), .int fd], iA G (ad 0) 255 S3, iA G (ad 8) 4 ml, iA G (ad 9) 4 ms, iA G (ad 10) 160 mc]) [4, 0, 2, 3, 1] rfl
      have hD := hD.sub (ws' := [oC ko 6 [.ref (ad 0), .ref (ad 1), .int (nI w), .int (nI h), .int (nI la), .ref (ad 2), .int (mv 0), .int (mv 1), .int (mv 2), .int (mv 3), .int (mv 4), .int (mv 5), .int (mv 6), .ref (ad 3), .int (nI tp), .int (mv 7), .int (mv 8), .int (mv 9), .int (mv 10), .int ft, .int (mv 11), .ref (ad 4), .ref (ad 5), .ref (ad 6), .ref (ad 7), .ref (ad 8), .ref (ad 9), .ref (ad 10), .int fd], iA G (ad 0) 255 S3, iA G (ad 8) 4 ml, iA G (ad 9) 4 ms, iA G (ad 10) 160 mc]) [4, 0, 2, 3, 1] (by decide) rfl
      refine W.iret (v := nI wl) hx hb hr (fun t ht hW => ⟨⟨nI wl, (S3, fd), rfl, ?_, by rw [ht]; exact hP, hD⟩, hS.F ht⟩) hS.2.2 dX6_read_225
      try dsimp only
      have hR : (rdM la (w * h) (rsM (ml j) lane zz f0) (fun i c => mc (40 * j + tn (f0 + nI (3 * i)) + c)) n 0 (nI 0) nc S) = (none, fd, n3, S3) := (by rw [hrd]; first | (rw [show n - i = 0 by omega, rdM]) | (rw [show n - i = (n - (i + 1)) + 1 by omega, rdM, if_neg b50])); rw [hR, hwl]; exact ⟨rfl, rfl, rfl⟩
    · skip
      refine lv_iload hx hb dX6_read_48 (lv_at hl 6 rfl) ?_
      refine lv_if_ne (tgt := 217) hx hb dX6_read_50 rfl (fun b50 => ?_) (fun b50 => ?_)
      · skip
        refine lv_aload_n hx hb dX6_read_217 rfl (lv_at hl 0 rfl) ?_
        refine lv_iload hx hb dX6_read_218 (lv_at hl 6 rfl) ?_
        refine va_put (D := G.1) (ci := 6) (v := .int fd) (ty := .int) (C := RX6) (T := TX6) (N := 29) hx hb hts hin6 tyX6 tyX6_ok nmX6 hown hK.1 hP hD hS 4 rfl rfl 28 (by decide) (hts (.fieldLink RX6 274 "BackLensesModel" "torn" "I") (List.mem_of_getElem? (i := 6) rfl)) (fun _ h9 => h9) rfl (by decide +kernel) rfl rfl (Nat.le_of_ble_eq_true rfl) dX6_read_220 (fun H locs hP hD hS => ?_)
        replace hP : xP G [iA G (ad 0) 255 S3, iA G (ad 10) 160 mc, iA G (ad 8) 4 ml, iA G (ad 9) 4 ms, oC ko 6 [.ref (ad 0), .ref (ad 1), .int (nI w), .int (nI h), .int (nI la), .ref (ad 2), .int (mv 0), .int (mv 1), .int (mv 2), .int (mv 3), .int (mv 4), .int (mv 5), .int (mv 6), .ref (ad 3), .int (nI tp), .int (mv 7), .int (mv 8), .int (mv 9), .int (mv 10), .int ft, .int (mv 11), .ref (ad 4), .ref (ad 5), .ref (ad 6), .ref (ad 7), .ref (ad 8), .ref (ad 9), .ref (ad 10), .int fd]] H := hP
        replace hD : va_D (va_A (w_X6_read G ko ad w h la tp ft tr mv S ml ms mc) ss.heap.size) [iA G (ad 0) 255 S3, iA G (ad 10) 160 mc, iA G (ad 8) 4 ml, iA G (ad 9) 4 ms, oC ko 6 [.ref (ad 0), .ref (ad 1), .int (nI w), .int (nI h), .int (nI la), .ref (ad 2), .int (mv 0), .int (mv 1), .int (mv 2), .int (mv 3), .int (mv 4), .int (mv 5), .int (mv 6), .ref (ad 3), .int (nI tp), .int (mv 7), .int (mv 8), .int (mv 9), .int (mv 10), .int ft, .int (mv 11), .ref (ad 4), .ref (ad 5), .ref (ad 6), .ref (ad 7), .ref (ad 8), .ref (ad 9), .ref (ad 10), .int fd]] := hD
        refine lv_iload hx hb dX6_read_223 (lv_at hl 7 rfl) ?_
        have hP := hP.sub (ws' := [oC ko 6 [.ref (ad 0), .ref (ad 1), .int (nI w), .int (nI h), .int (nI la), .ref (ad 2), .int (mv 0), .int (mv 1), .int (mv 2), .int (mv 3), .int (mv 4), .int (mv 5), .int (mv 6), .ref (ad 3), .int (nI tp), .int (mv 7), .int (mv 8), .int (mv 9), .int (mv 10), .int ft, .int (mv 11), .ref (ad 4), .ref (ad 5), .ref (ad 6), .ref (ad 7), .ref (ad 8), .ref (ad 9), .ref (ad 10), .int fd], iA G (ad 0) 255 S3, iA G (ad 8) 4 ml, iA G (ad 9) 4 ms, iA G (ad 10) 160 mc]) [4, 0, 2, 3, 1] rfl
        have hD := hD.sub (ws' := [oC ko 6 [.ref (ad 0), .ref (ad 1), .int (nI w), .int (nI h), .int (nI la), .ref (ad 2), .int (mv 0), .int (mv 1), .int (mv 2), .int (mv 3), .int (mv 4), .int (mv 5), .int (mv 6), .ref (ad 3), .int (nI tp), .int (mv 7), .int (mv 8), .int (mv 9), .int (mv 10), .int ft, .int (mv 11), .ref (ad 4), .ref (ad 5), .ref (ad 6), .ref (ad 7), .ref (ad 8), .ref (ad 9), .ref (ad 10), .int fd], iA G (ad 0) 255 S3, iA G (ad 8) 4 ml, iA G (ad 9) 4 ms, iA G (ad 10) 160 mc]) [4, 0, 2, 3, 1] (by decide) rfl
        refine W.iret (v := nI wl) hx hb hr (fun t ht hW => ⟨⟨nI wl, (S3, fd), rfl, ?_, by rw [ht]; exact hP, hD⟩, hS.F ht⟩) hS.2.2 dX6_read_225
        try dsimp only
        have hR : (rdM la (w * h) (rsM (ml j) lane zz f0) (fun i c => mc (40 * j + tn (f0 + nI (3 * i)) + c)) n 0 (nI 0) nc S) = (none, fd, n3, S3) := (by rw [hrd]; first | (rw [show n - i = 0 by omega, rdM]) | (rw [show n - i = (n - (i + 1)) + 1 by omega, rdM, if_neg b50])); rw [hR, hwl]; exact ⟨rfl, rfl, rfl⟩
      · skip
        refine lv_iconst (v := nI 0) hx hb dX6_read_53 (by decide) ?_
        refine lv_istore (lv' := [(9, .int (nI 0)), (0, .ref ko), (1, .int (nI j)), (2, .int lane), (3, .int f0), (4, .int (nI n)), (5, .int (nI nc)), (6, .int fd), (7, .int (nI wl)), (8, .int (nI i))]) hx hb dX6_read_54 hl (by decide) rfl (fun ls hl => ?_)
        refine lv_iload hx hb dX6_read_56 (lv_at hl 0 rfl) ?_
        refine lv_iconst (v := nI 3) hx hb dX6_read_58 (by decide) ?_
        refine xn_icmp_ge (tgt := 143) hx hb (by omega) (by omega) dX6_read_59 rfl (fun b59 => absurd b59 (by omega)) (fun _ => ?_)
        refine lv_iload hx hb dX6_read_62 (lv_at hl 7 rfl) ?_
        refine lv_if_ne (tgt := 143) hx hb dX6_read_64 rfl (fun b64 => ?_) (fun b64 => ?_)
        · skip
          exact absurd b50 b64
        · skip
          refine lv_iload_n hx hb dX6_read_67 rfl (lv_at hl 4 rfl) ?_
          refine xi_i2l hx hb dX6_read_68 ?_
          refine lv_iconst (v := nI 3) hx hb dX6_read_69 (by decide) ?_
          refine lv_iload hx hb dX6_read_70 (lv_at hl 9 rfl) ?_
          refine xn_imul hx hb dX6_read_72 ?_
          refine xn_i2l hx hb (by omega) dX6_read_73 ?_
          refine lv_ladd hx hb dX6_read_74 ?_
          refine lv_iload hx hb dX6_read_75 (lv_at hl 0 rfl) ?_
          refine xn_i2l hx hb (by omega) dX6_read_77 ?_
          refine lv_ladd hx hb dX6_read_78 ?_
          refine lv_lstore (lv' := [(10, .long ((f0.toInt64 + (lN (3 * i))) + (lN 0))), (9, .int (nI 0)), (0, .ref ko), (1, .int (nI j)), (2, .int lane), (3, .int f0), (4, .int (nI n)), (5, .int (nI nc)), (6, .int fd), (7, .int (nI wl)), (8, .int (nI i))]) hx hb dX6_read_79 hl (by decide) rfl (fun ls hl => ?_)
          refine lv_aload_n hx hb dX6_read_81 rfl (lv_at hl 2 rfl) ?_
          refine va_get (D := G.1) (ci := 6) (v := .ref (ad 8)) (C := RX6) (T := TX6) (N := 29) hx hb hts hin6 hown hK.1 hP 4 rfl rfl 25 (by decide) (hts (.fieldLink RX6 35 "BackLensesModel" "lanes" "[I") (List.mem_of_getElem? (i := 3) rfl)) (fun _ h9 => h9) rfl dX6_read_82 ?_
          refine lv_iload_n hx hb dX6_read_85 rfl (lv_at hl 3 rfl) ?_
          refine xn_iald hx hb hK hP 2 rfl (by omega) (by omega) dX6_read_86 ?_
          refine lv_bipush (v := (-4)) hx hb dX6_read_87 (by decide) ?_
          refine lv_icmp_ne (tgt := 96) hx hb dX6_read_89 rfl (fun b89 => ?_) (fun b89 => ?_)
          · skip
            have hl4 := b89
            refine lv_aload_n hx hb dX6_read_96 rfl (lv_at hl 2 rfl) ?_
            refine va_get (D := G.1) (ci := 6) (v := .ref (ad 8)) (C := RX6) (T := TX6) (N := 29) hx hb hts hin6 hown hK.1 hP 4 rfl rfl 25 (by decide) (hts (.fieldLink RX6 35 "BackLensesModel" "lanes" "[I") (List.mem_of_getElem? (i := 3) rfl)) (fun _ h9 => h9) rfl dX6_read_97 ?_
            refine lv_iload_n hx hb dX6_read_100 rfl (lv_at hl 3 rfl) ?_
            refine xn_iald hx hb hK hP 2 rfl (by omega) (by omega) dX6_read_101 ?_
            refine lv_iload_n hx hb dX6_read_102 rfl (lv_at hl 4 rfl) ?_
            refine lv_icmp_eq (tgt := 110) hx hb dX6_read_103 rfl (fun b103 => ?_) (fun b103 => ?_)
            · skip
              have hln := b103
              refine lv_lload hx hb dX6_read_110 (lv_at hl 0 rfl) ?_
              refine lv_lconst (v := lN 0) hx hb dX6_read_112 (by decide) ?_
              refine W.lcmp hx hb dX6_read_113 ?_
              refine xl_if_lt (tgt := 130) hx hb dX6_read_114 rfl (fun b114 => ?_) (fun b114 => ?_)
              · skip
                have hpo : f0.toInt + ((3 * i : Nat) : Int) + 0 < 0 ∨ (zz : Int) ≤ f0.toInt + ((3 * i : Nat) : Int) + 0 := Or.inl (by rw [pL (by omega) (by omega), lN_toInt' (by omega)] at b114; omega)
                refine lv_iconst (v := nI 2) hx hb dX6_read_130 (by decide) ?_
                refine lv_goto (tgt := 135) hx hb dX6_read_131 rfl ?_
                refine lv_istore (lv' := [(6, .int (nI 2)), (10, .long ((f0.toInt64 + (lN (3 * i))) + (lN 0))), (9, .int (nI 0)), (0, .ref ko), (1, .int (nI j)), (2, .int lane), (3, .int f0), (4, .int (nI n)), (5, .int (nI nc)), (7, .int (nI wl)), (8, .int (nI i))]) hx hb dX6_read_135 hl (by decide) rfl (fun ls hl => ?_)
                refine lv_iinc (k := 2) (v := nI 1) (lv' := [(9, .int (nI 1)), (6, .int (nI 2)), (10, .long ((f0.toInt64 + (lN (3 * i))) + (lN 0))), (0, .ref ko), (1, .int (nI j)), (2, .int lane), (3, .int f0), (4, .int (nI n)), (5, .int (nI nc)), (7, .int (nI wl)), (8, .int (nI i))]) hx hb dX6_read_137 hl rfl (xn_inc 0 1) (by decide) rfl (fun ls hl => ?_)
                refine lv_goto (tgt := 56) hx hb dX6_read_140 rfl ?_
                refine lv_iload hx hb dX6_read_56 (lv_at hl 0 rfl) ?_
                refine lv_iconst (v := nI 3) hx hb dX6_read_58 (by decide) ?_
                refine xn_icmp_ge (tgt := 143) hx hb (by omega) (by omega) dX6_read_59 rfl (fun b59 => absurd b59 (by omega)) (fun _ => ?_)
                refine lv_iload hx hb dX6_read_62 (lv_at hl 1 rfl) ?_
                refine xn_if_ne (tgt := 143) hx hb (by omega) dX6_read_64 rfl (fun _ => ?_) (fun b64 => absurd b64 (by omega))
                have hrs : rsM (ml j) lane zz f0 i = nI 2 := (if_neg hl4).trans ((if_neg (fun q => q hln)).trans (if_neg (by omega)))
                refine lv_iload hx hb dX6_read_143 (lv_at hl 1 rfl) ?_
                refine xn_if_ne (tgt := 211) hx hb (by omega) dX6_read_145 rfl (fun _ => ?_) (fun b145 => absurd b145 (by omega))
                refine lv_iinc (k := 10) (v := nI (i + 1)) (lv' := [(8, .int (nI (i + 1))), (9, .int (nI 1)), (6, .int (nI 2)), (10, .long ((f0.toInt64 + (lN (3 * i))) + (lN 0))), (0, .ref ko), (1, .int (nI j)), (2, .int lane), (3, .int f0), (4, .int (nI n)), (5, .int (nI nc)), (7, .int (nI wl))]) hx hb dX6_read_211 hl rfl (xn_inc i 1) (by decide) rfl (fun ls hl => ?_)
                refine lv_goto (tgt := 41) hx hb dX6_read_214 rfl ?_
                have hl := lv_sub hl (l' := [(0, .ref ko), (1, .int (nI j)), (2, .int lane), (3, .int f0), (4, .int (nI n)), (5, .int (nI nc)), (6, .int (nI 2)), (7, .int (nI wl)), (8, .int (nI (i + 1)))]) [4, 5, 6, 7, 8, 9, 2, 10, 0] rfl
                exact ih41 (n - (i + 1)) (by omega) (i + 1) (nI 2) wl n3 S3 ls H locs rfl (by omega) (by omega) (by omega) (by omega) (by first | exact upd_eq | exact hs3) (by rw [hrd, show n - i = (n - (i + 1)) + 1 by omega, rdM, if_pos b50]; first | (rw [if_pos (show rsM (ml j) lane zz f0 i = 0 from hrs), ea, tn_nI (by omega)]; exact if_pos hok) | (rw [if_neg (by rw [hrs]; decide), hrs])) hl hP hD hS
              · skip
                have hpa0 : 0 ≤ f0.toInt + ((3 * i : Nat) : Int) + 0 := (by rw [pL (by omega) (by omega), lN_toInt' (by omega)] at b114; omega)
                refine lv_lload hx hb dX6_read_117 (lv_at hl 0 rfl) ?_
                refine lv_aload_n hx hb dX6_read_119 rfl (lv_at hl 2 rfl) ?_
                refine va_get (D := G.1) (ci := 6) (v := .ref (ad 9)) (C := RX6) (T := TX6) (N := 29) hx hb hts hin6 hown hK.1 hP 4 rfl rfl 26 (by decide) (hts (.fieldLink RX6 38 "BackLensesModel" "sizes" "[I") (List.mem_of_getElem? (i := 4) rfl)) (fun _ h9 => h9) rfl dX6_read_120 ?_
                refine lv_iload_n hx hb dX6_read_123 rfl (lv_at hl 3 rfl) ?_
                refine xn_iald hx hb hK hP 3 rfl (by omega) (by omega) dX6_read_124 ?_
                refine xn_top (y := nI zz) (by exact hms) ?_
                refine xn_i2l hx hb (by omega) dX6_read_125 ?_
                refine W.lcmp hx hb dX6_read_126 ?_
                refine xl_if_lt (tgt := 134) hx hb dX6_read_127 rfl (fun b127 => ?_) (fun b127 => ?_)
                · skip
                  have hpb0 : f0.toInt + ((3 * i : Nat) : Int) + 0 < (zz : Int) := (by rw [pL (by omega) (by omega), lN_toInt' (by omega)] at b127; omega)
                  refine lv_iconst (v := nI 0) hx hb dX6_read_134 (by decide) ?_
                  refine lv_istore (lv' := [(6, .int (nI 0)), (10, .long ((f0.toInt64 + (lN (3 * i))) + (lN 0))), (9, .int (nI 0)), (0, .ref ko), (1, .int (nI j)), (2, .int lane), (3, .int f0), (4, .int (nI n)), (5, .int (nI nc)), (7, .int (nI wl)), (8, .int (nI i))]) hx hb dX6_read_135 hl (by decide) rfl (fun ls hl => ?_)
                  refine lv_iinc (k := 2) (v := nI 1) (lv' := [(9, .int (nI 1)), (6, .int (nI 0)), (10, .long ((f0.toInt64 + (lN (3 * i))) + (lN 0))), (0, .ref ko), (1, .int (nI j)), (2, .int lane), (3, .int f0), (4, .int (nI n)), (5, .int (nI nc)), (7, .int (nI wl)), (8, .int (nI i))]) hx hb dX6_read_137 hl rfl (xn_inc 0 1) (by decide) rfl (fun ls hl => ?_)
                  refine lv_goto (tgt := 56) hx hb dX6_read_140 rfl ?_
                  refine lv_iload hx hb dX6_read_56 (lv_at hl 0 rfl) ?_
                  refine lv_iconst (v := nI 3) hx hb dX6_read_58 (by decide) ?_
                  refine xn_icmp_ge (tgt := 143) hx hb (by omega) (by omega) dX6_read_59 rfl (fun b59 => absurd b59 (by omega)) (fun _ => ?_)
                  refine lv_iload hx hb dX6_read_62 (lv_at hl 1 rfl) ?_
                  refine xn_if_ne (tgt := 143) hx hb (by omega) dX6_read_64 rfl (fun b64 => absurd b64 (by omega)) (fun _ => ?_)
                  refine lv_iload_n hx hb dX6_read_67 rfl (lv_at hl 6 rfl) ?_
                  refine xi_i2l hx hb dX6_read_68 ?_
                  refine lv_iconst (v := nI 3) hx hb dX6_read_69 (by decide) ?_
                  refine lv_iload hx hb dX6_read_70 (lv_at hl 10 rfl) ?_
                  refine xn_imul hx hb dX6_read_72 ?_
                  refine xn_i2l hx hb (by omega) dX6_read_73 ?_
                  refine lv_ladd hx hb dX6_read_74 ?_
                  refine lv_iload hx hb dX6_read_75 (lv_at hl 0 rfl) ?_
                  refine xn_i2l hx hb (by omega) dX6_read_77 ?_
                  refine lv_ladd hx hb dX6_read_78 ?_
                  refine lv_lstore (lv' := [(10, .long ((f0.toInt64 + (lN (3 * i))) + (lN 1))), (9, .int (nI 1)), (6, .int (nI 0)), (0, .ref ko), (1, .int (nI j)), (2, .int lane), (3, .int f0), (4, .int (nI n)), (5, .int (nI nc)), (7, .int (nI wl)), (8, .int (nI i))]) hx hb dX6_read_79 hl (by decide) rfl (fun ls hl => ?_)
                  refine lv_aload_n hx hb dX6_read_81 rfl (lv_at hl 3 rfl) ?_
                  refine va_get (D := G.1) (ci := 6) (v := .ref (ad 8)) (C := RX6) (T := TX6) (N := 29) hx hb hts hin6 hown hK.1 hP 4 rfl rfl 25 (by decide) (hts (.fieldLink RX6 35 "BackLensesModel" "lanes" "[I") (List.mem_of_getElem? (i := 3) rfl)) (fun _ h9 => h9) rfl dX6_read_82 ?_
                  refine lv_iload_n hx hb dX6_read_85 rfl (lv_at hl 4 rfl) ?_
                  refine xn_iald hx hb hK hP 2 rfl (by omega) (by omega) dX6_read_86 ?_
                  refine lv_bipush (v := (-4)) hx hb dX6_read_87 (by decide) ?_
                  refine lv_icmp_ne (tgt := 96) hx hb dX6_read_89 rfl (fun b89 => ?_) (fun b89 => ?_)
                  · skip
                    refine lv_aload_n hx hb dX6_read_96 rfl (lv_at hl 3 rfl) ?_
                    refine va_get (D := G.1) (ci := 6) (v := .ref (ad 8)) (C := RX6) (T := TX6) (N := 29) hx hb hts hin6 hown hK.1 hP 4 rfl rfl 25 (by decide) (hts (.fieldLink RX6 35 "BackLensesModel" "lanes" "[I") (List.mem_of_getElem? (i := 3) rfl)) (fun _ h9 => h9) rfl dX6_read_97 ?_
                    refine lv_iload_n hx hb dX6_read_100 rfl (lv_at hl 4 rfl) ?_
                    refine xn_iald hx hb hK hP 2 rfl (by omega) (by omega) dX6_read_101 ?_
                    refine lv_iload_n hx hb dX6_read_102 rfl (lv_at hl 5 rfl) ?_
                    refine lv_icmp_eq (tgt := 110) hx hb dX6_read_103 rfl (fun b103 => ?_) (fun b103 => ?_)
                    · skip
                      refine lv_lload hx hb dX6_read_110 (lv_at hl 0 rfl) ?_
                      refine lv_lconst (v := lN 0) hx hb dX6_read_112 (by decide) ?_
                      refine W.lcmp hx hb dX6_read_113 ?_
                      refine xl_if_lt (tgt := 130) hx hb dX6_read_114 rfl (fun b114 => ?_) (fun b114 => ?_)
                      · skip
                        have hpo : f0.toInt + ((3 * i : Nat) : Int) + 1 < 0 ∨ (zz : Int) ≤ f0.toInt + ((3 * i : Nat) : Int) + 1 := Or.inl (by rw [pL (by omega) (by omega), lN_toInt' (by omega)] at b114; omega)
                        refine lv_iconst (v := nI 2) hx hb dX6_read_130 (by decide) ?_
                        refine lv_goto (tgt := 135) hx hb dX6_read_131 rfl ?_
                        refine lv_istore (lv' := [(6, .int (nI 2)), (10, .long ((f0.toInt64 + (lN (3 * i))) + (lN 1))), (9, .int (nI 1)), (0, .ref ko), (1, .int (nI j)), (2, .int lane), (3, .int f0), (4, .int (nI n)), (5, .int (nI nc)), (7, .int (nI wl)), (8, .int (nI i))]) hx hb dX6_read_135 hl (by decide) rfl (fun ls hl => ?_)
                        refine lv_iinc (k := 2) (v := nI 2) (lv' := [(9, .int (nI 2)), (6, .int (nI 2)), (10, .long ((f0.toInt64 + (lN (3 * i))) + (lN 1))), (0, .ref ko), (1, .int (nI j)), (2, .int lane), (3, .int f0), (4, .int (nI n)), (5, .int (nI nc)), (7, .int (nI wl)), (8, .int (nI i))]) hx hb dX6_read_137 hl rfl (xn_inc 1 1) (by decide) rfl (fun ls hl => ?_)
                        refine lv_goto (tgt := 56) hx hb dX6_read_140 rfl ?_
                        refine lv_iload hx hb dX6_read_56 (lv_at hl 0 rfl) ?_
                        refine lv_iconst (v := nI 3) hx hb dX6_read_58 (by decide) ?_
                        refine xn_icmp_ge (tgt := 143) hx hb (by omega) (by omega) dX6_read_59 rfl (fun b59 => absurd b59 (by omega)) (fun _ => ?_)
                        refine lv_iload hx hb dX6_read_62 (lv_at hl 1 rfl) ?_
                        refine xn_if_ne (tgt := 143) hx hb (by omega) dX6_read_64 rfl (fun _ => ?_) (fun b64 => absurd b64 (by omega))
                        have hrs : rsM (ml j) lane zz f0 i = nI 2 := (if_neg hl4).trans ((if_neg (fun q => q hln)).trans (if_neg (by omega)))
                        refine lv_iload hx hb dX6_read_143 (lv_at hl 1 rfl) ?_
                        refine xn_if_ne (tgt := 211) hx hb (by omega) dX6_read_145 rfl (fun _ => ?_) (fun b145 => absurd b145 (by omega))
                        refine lv_iinc (k := 10) (v := nI (i + 1)) (lv' := [(8, .int (nI (i + 1))), (9, .int (nI 2)), (6, .int (nI 2)), (10, .long ((f0.toInt64 + (lN (3 * i))) + (lN 1))), (0, .ref ko), (1, .int (nI j)), (2, .int lane), (3, .int f0), (4, .int (nI n)), (5, .int (nI nc)), (7, .int (nI wl))]) hx hb dX6_read_211 hl rfl (xn_inc i 1) (by decide) rfl (fun ls hl => ?_)
                        refine lv_goto (tgt := 41) hx hb dX6_read_214 rfl ?_
                        have hl := lv_sub hl (l' := [(0, .ref ko), (1, .int (nI j)), (2, .int lane), (3, .int f0), (4, .int (nI n)), (5, .int (nI nc)), (6, .int (nI 2)), (7, .int (nI wl)), (8, .int (nI (i + 1)))]) [4, 5, 6, 7, 8, 9, 2, 10, 0] rfl
                        exact ih41 (n - (i + 1)) (by omega) (i + 1) (nI 2) wl n3 S3 ls H locs rfl (by omega) (by omega) (by omega) (by omega) (by first | exact upd_eq | exact hs3) (by rw [hrd, show n - i = (n - (i + 1)) + 1 by omega, rdM, if_pos b50]; first | (rw [if_pos (show rsM (ml j) lane zz f0 i = 0 from hrs), ea, tn_nI (by omega)]; exact if_pos hok) | (rw [if_neg (by rw [hrs]; decide), hrs])) hl hP hD hS
                      · skip
                        have hpa1 : 0 ≤ f0.toInt + ((3 * i : Nat) : Int) + 1 := (by rw [pL (by omega) (by omega), lN_toInt' (by omega)] at b114; omega)
                        refine lv_lload hx hb dX6_read_117 (lv_at hl 0 rfl) ?_
                        refine lv_aload_n hx hb dX6_read_119 rfl (lv_at hl 3 rfl) ?_
                        refine va_get (D := G.1) (ci := 6) (v := .ref (ad 9)) (C := RX6) (T := TX6) (N := 29) hx hb hts hin6 hown hK.1 hP 4 rfl rfl 26 (by decide) (hts (.fieldLink RX6 38 "BackLensesModel" "sizes" "[I") (List.mem_of_getElem? (i := 4) rfl)) (fun _ h9 => h9) rfl dX6_read_120 ?_
                        refine lv_iload_n hx hb dX6_read_123 rfl (lv_at hl 4 rfl) ?_
                        refine xn_iald hx hb hK hP 3 rfl (by omega) (by omega) dX6_read_124 ?_
                        refine xn_top (y := nI zz) (by exact hms) ?_
                        refine xn_i2l hx hb (by omega) dX6_read_125 ?_
                        refine W.lcmp hx hb dX6_read_126 ?_
                        refine xl_if_lt (tgt := 134) hx hb dX6_read_127 rfl (fun b127 => ?_) (fun b127 => ?_)
                        · skip
                          have hpb1 : f0.toInt + ((3 * i : Nat) : Int) + 1 < (zz : Int) := (by rw [pL (by omega) (by omega), lN_toInt' (by omega)] at b127; omega)
                          refine lv_iconst (v := nI 0) hx hb dX6_read_134 (by decide) ?_
                          refine lv_istore (lv' := [(6, .int (nI 0)), (10, .long ((f0.toInt64 + (lN (3 * i))) + (lN 1))), (9, .int (nI 1)), (0, .ref ko), (1, .int (nI j)), (2, .int lane), (3, .int f0), (4, .int (nI n)), (5, .int (nI nc)), (7, .int (nI wl)), (8, .int (nI i))]) hx hb dX6_read_135 hl (by decide) rfl (fun ls hl => ?_)
                          refine lv_iinc (k := 2) (v := nI 2) (lv' := [(9, .int (nI 2)), (6, .int (nI 0)), (10, .long ((f0.toInt64 + (lN (3 * i))) + (lN 1))), (0, .ref ko), (1, .int (nI j)), (2, .int lane), (3, .int f0), (4, .int (nI n)), (5, .int (nI nc)), (7, .int (nI wl)), (8, .int (nI i))]) hx hb dX6_read_137 hl rfl (xn_inc 1 1) (by decide) rfl (fun ls hl => ?_)
                          refine lv_goto (tgt := 56) hx hb dX6_read_140 rfl ?_
                          refine lv_iload hx hb dX6_read_56 (lv_at hl 0 rfl) ?_
                          refine lv_iconst (v := nI 3) hx hb dX6_read_58 (by decide) ?_
                          refine xn_icmp_ge (tgt := 143) hx hb (by omega) (by omega) dX6_read_59 rfl (fun b59 => absurd b59 (by omega)) (fun _ => ?_)
                          refine lv_iload hx hb dX6_read_62 (lv_at hl 1 rfl) ?_
                          refine xn_if_ne (tgt := 143) hx hb (by omega) dX6_read_64 rfl (fun b64 => absurd b64 (by omega)) (fun _ => ?_)
                          refine lv_iload_n hx hb dX6_read_67 rfl (lv_at hl 6 rfl) ?_
                          refine xi_i2l hx hb dX6_read_68 ?_
                          refine lv_iconst (v := nI 3) hx hb dX6_read_69 (by decide) ?_
                          refine lv_iload hx hb dX6_read_70 (lv_at hl 10 rfl) ?_
                          refine xn_imul hx hb dX6_read_72 ?_
                          refine xn_i2l hx hb (by omega) dX6_read_73 ?_
                          refine lv_ladd hx hb dX6_read_74 ?_
                          refine lv_iload hx hb dX6_read_75 (lv_at hl 0 rfl) ?_
                          refine xn_i2l hx hb (by omega) dX6_read_77 ?_
                          refine lv_ladd hx hb dX6_read_78 ?_
                          refine lv_lstore (lv' := [(10, .long ((f0.toInt64 + (lN (3 * i))) + (lN 2))), (9, .int (nI 2)), (6, .int (nI 0)), (0, .ref ko), (1, .int (nI j)), (2, .int lane), (3, .int f0), (4, .int (nI n)), (5, .int (nI nc)), (7, .int (nI wl)), (8, .int (nI i))]) hx hb dX6_read_79 hl (by decide) rfl (fun ls hl => ?_)
                          refine lv_aload_n hx hb dX6_read_81 rfl (lv_at hl 3 rfl) ?_
                          refine va_get (D := G.1) (ci := 6) (v := .ref (ad 8)) (C := RX6) (T := TX6) (N := 29) hx hb hts hin6 hown hK.1 hP 4 rfl rfl 25 (by decide) (hts (.fieldLink RX6 35 "BackLensesModel" "lanes" "[I") (List.mem_of_getElem? (i := 3) rfl)) (fun _ h9 => h9) rfl dX6_read_82 ?_
                          refine lv_iload_n hx hb dX6_read_85 rfl (lv_at hl 4 rfl) ?_
                          refine xn_iald hx hb hK hP 2 rfl (by omega) (by omega) dX6_read_86 ?_
                          refine lv_bipush (v := (-4)) hx hb dX6_read_87 (by decide) ?_
                          refine lv_icmp_ne (tgt := 96) hx hb dX6_read_89 rfl (fun b89 => ?_) (fun b89 => ?_)
                          · skip
                            refine lv_aload_n hx hb dX6_read_96 rfl (lv_at hl 3 rfl) ?_
                            refine va_get (D := G.1) (ci := 6) (v := .ref (ad 8)) (C := RX6) (T := TX6) (N := 29) hx hb hts hin6 hown hK.1 hP 4 rfl rfl 25 (by decide) (hts (.fieldLink RX6 35 "BackLensesModel" "lanes" "[I") (List.mem_of_getElem? (i := 3) rfl)) (fun _ h9 => h9) rfl dX6_read_97 ?_
                            refine lv_iload_n hx hb dX6_read_100 rfl (lv_at hl 4 rfl) ?_
                            refine xn_iald hx hb hK hP 2 rfl (by omega) (by omega) dX6_read_101 ?_
                            refine lv_iload_n hx hb dX6_read_102 rfl (lv_at hl 5 rfl) ?_
                            refine lv_icmp_eq (tgt := 110) hx hb dX6_read_103 rfl (fun b103 => ?_) (fun b103 => ?_)
                            · skip
                              refine lv_lload hx hb dX6_read_110 (lv_at hl 0 rfl) ?_
                              refine lv_lconst (v := lN 0) hx hb dX6_read_112 (by decide) ?_
                              refine W.lcmp hx hb dX6_read_113 ?_
                              refine xl_if_lt (tgt := 130) hx hb dX6_read_114 rfl (fun b114 => ?_) (fun b114 => ?_)
                              · skip
                                have hpo : f0.toInt + ((3 * i : Nat) : Int) + 2 < 0 ∨ (zz : Int) ≤ f0.toInt + ((3 * i : Nat) : Int) + 2 := Or.inl (by rw [pL (by omega) (by omega), lN_toInt' (by omega)] at b114; omega)
                                refine lv_iconst (v := nI 2) hx hb dX6_read_130 (by decide) ?_
                                refine lv_goto (tgt := 135) hx hb dX6_read_131 rfl ?_
                                refine lv_istore (lv' := [(6, .int (nI 2)), (10, .long ((f0.toInt64 + (lN (3 * i))) + (lN 2))), (9, .int (nI 2)), (0, .ref ko), (1, .int (nI j)), (2, .int lane), (3, .int f0), (4, .int (nI n)), (5, .int (nI nc)), (7, .int (nI wl)), (8, .int (nI i))]) hx hb dX6_read_135 hl (by decide) rfl (fun ls hl => ?_)
                                refine lv_iinc (k := 2) (v := nI 3) (lv' := [(9, .int (nI 3)), (6, .int (nI 2)), (10, .long ((f0.toInt64 + (lN (3 * i))) + (lN 2))), (0, .ref ko), (1, .int (nI j)), (2, .int lane), (3, .int f0), (4, .int (nI n)), (5, .int (nI nc)), (7, .int (nI wl)), (8, .int (nI i))]) hx hb dX6_read_137 hl rfl (xn_inc 2 1) (by decide) rfl (fun ls hl => ?_)
                                refine lv_goto (tgt := 56) hx hb dX6_read_140 rfl ?_
                                refine lv_iload hx hb dX6_read_56 (lv_at hl 0 rfl) ?_
                                refine lv_iconst (v := nI 3) hx hb dX6_read_58 (by decide) ?_
                                refine xn_icmp_ge (tgt := 143) hx hb (by omega) (by omega) dX6_read_59 rfl (fun _ => ?_) (fun b59 => absurd b59 (by omega))
                                have hrs : rsM (ml j) lane zz f0 i = nI 2 := (if_neg hl4).trans ((if_neg (fun q => q hln)).trans (if_neg (by omega)))
                                refine lv_iload hx hb dX6_read_143 (lv_at hl 1 rfl) ?_
                                refine xn_if_ne (tgt := 211) hx hb (by omega) dX6_read_145 rfl (fun _ => ?_) (fun b145 => absurd b145 (by omega))
                                refine lv_iinc (k := 10) (v := nI (i + 1)) (lv' := [(8, .int (nI (i + 1))), (9, .int (nI 3)), (6, .int (nI 2)), (10, .long ((f0.toInt64 + (lN (3 * i))) + (lN 2))), (0, .ref ko), (1, .int (nI j)), (2, .int lane), (3, .int f0), (4, .int (nI n)), (5, .int (nI nc)), (7, .int (nI wl))]) hx hb dX6_read_211 hl rfl (xn_inc i 1) (by decide) rfl (fun ls hl => ?_)
                                refine lv_goto (tgt := 41) hx hb dX6_read_214 rfl ?_
                                have hl := lv_sub hl (l' := [(0, .ref ko), (1, .int (nI j)), (2, .int lane), (3, .int f0), (4, .int (nI n)), (5, .int (nI nc)), (6, .int (nI 2)), (7, .int (nI wl)), (8, .int (nI (i + 1)))]) [4, 5, 6, 7, 8, 9, 2, 10, 0] rfl
                                exact ih41 (n - (i + 1)) (by omega) (i + 1) (nI 2) wl n3 S3 ls H locs rfl (by omega) (by omega) (by omega) (by omega) (by first | exact upd_eq | exact hs3) (by rw [hrd, show n - i = (n - (i + 1)) + 1 by omega, rdM, if_pos b50]; first | (rw [if_pos (show rsM (ml j) lane zz f0 i = 0 from hrs), ea, tn_nI (by omega)]; exact if_pos hok) | (rw [if_neg (by rw [hrs]; decide), hrs])) hl hP hD hS
                              · skip
                                have hpa2 : 0 ≤ f0.toInt + ((3 * i : Nat) : Int) + 2 := (by rw [pL (by omega) (by omega), lN_toInt' (by omega)] at b114; omega)
                                refine lv_lload hx hb dX6_read_117 (lv_at hl 0 rfl) ?_
                                refine lv_aload_n hx hb dX6_read_119 rfl (lv_at hl 3 rfl) ?_
                                refine va_get (D := G.1) (ci := 6) (v := .ref (ad 9)) (C := RX6) (T := TX6) (N := 29) hx hb hts hin6 hown hK.1 hP 4 rfl rfl 26 (by decide) (hts (.fieldLink RX6 38 "BackLensesModel" "sizes" "[I") (List.mem_of_getElem? (i := 4) rfl)) (fun _ h9 => h9) rfl dX6_read_120 ?_
                                refine lv_iload_n hx hb dX6_read_123 rfl (lv_at hl 4 rfl) ?_
                                refine xn_iald hx hb hK hP 3 rfl (by omega) (by omega) dX6_read_124 ?_
                                refine xn_top (y := nI zz) (by exact hms) ?_
                                refine xn_i2l hx hb (by omega) dX6_read_125 ?_
                                refine W.lcmp hx hb dX6_read_126 ?_
                                refine xl_if_lt (tgt := 134) hx hb dX6_read_127 rfl (fun b127 => ?_) (fun b127 => ?_)
                                · skip
                                  have hpb2 : f0.toInt + ((3 * i : Nat) : Int) + 2 < (zz : Int) := (by rw [pL (by omega) (by omega), lN_toInt' (by omega)] at b127; omega)
                                  refine lv_iconst (v := nI 0) hx hb dX6_read_134 (by decide) ?_
                                  refine lv_istore (lv' := [(6, .int (nI 0)), (10, .long ((f0.toInt64 + (lN (3 * i))) + (lN 2))), (9, .int (nI 2)), (0, .ref ko), (1, .int (nI j)), (2, .int lane), (3, .int f0), (4, .int (nI n)), (5, .int (nI nc)), (7, .int (nI wl)), (8, .int (nI i))]) hx hb dX6_read_135 hl (by decide) rfl (fun ls hl => ?_)
                                  refine lv_iinc (k := 2) (v := nI 3) (lv' := [(9, .int (nI 3)), (6, .int (nI 0)), (10, .long ((f0.toInt64 + (lN (3 * i))) + (lN 2))), (0, .ref ko), (1, .int (nI j)), (2, .int lane), (3, .int f0), (4, .int (nI n)), (5, .int (nI nc)), (7, .int (nI wl)), (8, .int (nI i))]) hx hb dX6_read_137 hl rfl (xn_inc 2 1) (by decide) rfl (fun ls hl => ?_)
                                  refine lv_goto (tgt := 56) hx hb dX6_read_140 rfl ?_
                                  refine lv_iload hx hb dX6_read_56 (lv_at hl 0 rfl) ?_
                                  refine lv_iconst (v := nI 3) hx hb dX6_read_58 (by decide) ?_
                                  refine xn_icmp_ge (tgt := 143) hx hb (by omega) (by omega) dX6_read_59 rfl (fun _ => ?_) (fun b59 => absurd b59 (by omega))
                                  have hrs : rsM (ml j) lane zz f0 i = nI 0 := (if_neg hl4).trans ((if_neg (fun q => q hln)).trans (if_pos ⟨by omega, by omega⟩))
                                  refine lv_iload hx hb dX6_read_143 (lv_at hl 1 rfl) ?_
                                  refine xn_if_ne (tgt := 211) hx hb (by omega) dX6_read_145 rfl (fun b145 => absurd b145 (by omega)) (fun _ => ?_)
                                  refine lv_bipush (v := nI 40) hx hb dX6_read_148 (by decide) ?_
                                  refine lv_iload_n hx hb dX6_read_150 rfl (lv_at hl 4 rfl) ?_
                                  refine xn_imul hx hb dX6_read_151 ?_
                                  refine lv_iload_n hx hb dX6_read_152 rfl (lv_at hl 6 rfl) ?_
                                  refine lv_iadd hx hb dX6_read_153 ?_
                                  refine lv_iconst (v := nI 3) hx hb dX6_read_154 (by decide) ?_
                                  refine lv_iload hx hb dX6_read_155 (lv_at hl 10 rfl) ?_
                                  refine xn_imul hx hb dX6_read_157 ?_
                                  refine lv_iadd hx hb dX6_read_158 ?_
                                  obtain ⟨a0, ha0, ea⟩ := aI (f0 := f0) (a := 3 * i) (z := zz) (by omega) (by omega) hzz (by omega)
                                  refine xn_top (y := nI (40 * j + a0)) (by rw [Int32.add_assoc, ea, nI_add]) ?_
                                  refine lv_istore (lv' := [(9, .int (nI (40 * j + a0))), (6, .int (nI 0)), (10, .long ((f0.toInt64 + (lN (3 * i))) + (lN 2))), (0, .ref ko), (1, .int (nI j)), (2, .int lane), (3, .int f0), (4, .int (nI n)), (5, .int (nI nc)), (7, .int (nI wl)), (8, .int (nI i))]) hx hb dX6_read_159 hl (by decide) rfl (fun ls hl => ?_)
                                  refine lv_aload_n hx hb dX6_read_161 rfl (lv_at hl 3 rfl) ?_
                                  refine lv_aload_n hx hb dX6_read_162 rfl (lv_at hl 3 rfl) ?_
                                  refine va_get (D := G.1) (ci := 6) (v := .ref (ad 10)) (C := RX6) (T := TX6) (N := 29) hx hb hts hin6 hown hK.1 hP 4 rfl rfl 27 (by decide) (hts (.fieldLink RX6 41 "BackLensesModel" "cells" "[I") (List.mem_of_getElem? (i := 5) rfl)) (fun _ h9 => h9) rfl dX6_read_163 ?_
                                  refine lv_iload hx hb dX6_read_166 (lv_at hl 0 rfl) ?_
                                  refine xn_iald hx hb hK hP 1 rfl (by omega) (by omega) dX6_read_168 ?_
                                  refine lv_aload_n hx hb dX6_read_169 rfl (lv_at hl 3 rfl) ?_
                                  refine va_get (D := G.1) (ci := 6) (v := .ref (ad 10)) (C := RX6) (T := TX6) (N := 29) hx hb hts hin6 hown hK.1 hP 4 rfl rfl 27 (by decide) (hts (.fieldLink RX6 41 "BackLensesModel" "cells" "[I") (List.mem_of_getElem? (i := 5) rfl)) (fun _ h9 => h9) rfl dX6_read_170 ?_
                                  refine lv_iload hx hb dX6_read_173 (lv_at hl 0 rfl) ?_
                                  refine lv_iconst (v := nI 1) hx hb dX6_read_175 (by decide) ?_
                                  refine xn_iadd hx hb dX6_read_176 ?_
                                  refine xn_iald hx hb hK hP 1 rfl (by omega) (by omega) dX6_read_177 ?_
                                  refine lv_aload_n hx hb dX6_read_178 rfl (lv_at hl 3 rfl) ?_
                                  refine va_get (D := G.1) (ci := 6) (v := .ref (ad 10)) (C := RX6) (T := TX6) (N := 29) hx hb hts hin6 hown hK.1 hP 4 rfl rfl 27 (by decide) (hts (.fieldLink RX6 41 "BackLensesModel" "cells" "[I") (List.mem_of_getElem? (i := 5) rfl)) (fun _ h9 => h9) rfl dX6_read_179 ?_
                                  refine lv_iload hx hb dX6_read_182 (lv_at hl 0 rfl) ?_
                                  refine lv_iconst (v := nI 2) hx hb dX6_read_184 (by decide) ?_
                                  refine xn_iadd hx hb dX6_read_185 ?_
                                  refine xn_iald hx hb hK hP 1 rfl (by omega) (by omega) dX6_read_186 ?_
                                  refine xw_i (As := [.int (mc (40 * j + a0)), .int (mc ((40 * j + a0) + 1)), .int (mc ((40 * j + a0) + 2))]) (rest := []) (wr := [iA G (ad 10) 160 mc, iA G (ad 8) 4 ml, iA G (ad 9) 4 ms]) ⟨hx, hb, hml, hown, hts⟩ (c_X6_turn l G H.size ko ad w h la tp ft tr mv S3 n3 (mc (40 * j + a0)) (mc ((40 * j + a0) + 1)) (mc ((40 * j + a0) + 2)) (by first | assumption | omega) (by first | assumption | omega) (by first | assumption | omega) (by first | assumption | omega) (by first | assumption | omega) (by first | assumption | omega) (by exact hs3) (by omega)) (cwV 3 hts gX6_read_X6_turn rfl rfl rfl (by decide +kernel) ⟨Nat.le_of_ble_eq_true rfl, Nat.le_of_ble_eq_true rfl⟩) hK hP hD hS hA [4, 0] [1, 2, 3] rfl rfl (by decide) (by decide) (by decide) rfl rfl rfl hl.1 rfl (Nat.le_of_ble_eq_true rfl) dX6_read_187 ⟨Nat.le_of_ble_eq_true rfl, Nat.le_of_ble_eq_true rfl⟩ (fun r187 u H locs hp187 hP hD hS => ?_)
                                  obtain ⟨u0_187, rfl⟩ : ∃ z, z = u := ⟨_, rfl⟩
                                  try dsimp only at hp187 hP hD
                                  obtain ⟨rfl, rfl⟩ := hp187
                                  replace hP : xP G [iA G (ad 10) 160 mc, iA G (ad 8) 4 ml, iA G (ad 9) 4 ms, oC ko 6 [.ref (ad 0), .ref (ad 1), .int (nI w), .int (nI h), .int (nI la), .ref (ad 2), .int (mv 0), .int (mv 1), .int (mv 2), .int (mv 3), .int (mv 4), .int (mv 5), .int (mv 6), .ref (ad 3), .int (nI tp), .int (mv 7), .int (mv 8), .int (mv 9), .int (mv 10), .int ft, .int (mv 11), .ref (ad 4), .ref (ad 5), .ref (ad 6), .ref (ad 7), .ref (ad 8), .ref (ad 9), .ref (ad 10), .int tr], iA G (ad 0) 255 (if (inR (mc (40 * j + a0)) (la + 1) ∧ inR (mc ((40 * j + a0) + 1)) (w * h) ∧ inR (mc ((40 * j + a0) + 2)) 6 ∧ n3 < 10) then add3 S3 (17 + 3 * n3) 16 (mc (40 * j + a0)) (mc ((40 * j + a0) + 1)) (mc ((40 * j + a0) + 2)) (n3 + 1) else S3)] H := hP
                                  replace hD : va_D (va_A (w_X6_read G ko ad w h la tp ft tr mv S ml ms mc) ss.heap.size) [iA G (ad 10) 160 mc, iA G (ad 8) 4 ml, iA G (ad 9) 4 ms, oC ko 6 [.ref (ad 0), .ref (ad 1), .int (nI w), .int (nI h), .int (nI la), .ref (ad 2), .int (mv 0), .int (mv 1), .int (mv 2), .int (mv 3), .int (mv 4), .int (mv 5), .int (mv 6), .ref (ad 3), .int (nI tp), .int (mv 7), .int (mv 8), .int (mv 9), .int (mv 10), .int ft, .int (mv 11), .ref (ad 4), .ref (ad 5), .ref (ad 6), .ref (ad 7), .ref (ad 8), .ref (ad 9), .ref (ad 10), .int tr], iA G (ad 0) 255 (if (inR (mc (40 * j + a0)) (la + 1) ∧ inR (mc ((40 * j + a0) + 1)) (w * h) ∧ inR (mc ((40 * j + a0) + 2)) 6 ∧ n3 < 10) then add3 S3 (17 + 3 * n3) 16 (mc (40 * j + a0)) (mc ((40 * j + a0) + 1)) (mc ((40 * j + a0) + 2)) (n3 + 1) else S3)] := hD
                                  refine xi_if_ge (tgt := 208) hx hb dX6_read_190 rfl (fun b190 => ?_) (fun b190 => ?_)
                                  · skip
                                    have hok : (inR (mc (40 * j + a0)) (la + 1) ∧ inR (mc (40 * j + a0 + 1)) (w * h) ∧ inR (mc (40 * j + a0 + 2)) 6 ∧ n3 < 10) := (by obtain ⟨q, q4⟩ := tk_ok b190; exact ⟨q.1, q.2.1, q.2.2, q4⟩)
                                    rw [if_pos hok] at hP hD
                                    refine lv_iinc (k := 9) (v := nI (wl + 1)) (lv' := [(7, .int (nI (wl + 1))), (9, .int (nI (40 * j + a0))), (6, .int (nI 0)), (10, .long ((f0.toInt64 + (lN (3 * i))) + (lN 2))), (0, .ref ko), (1, .int (nI j)), (2, .int lane), (3, .int f0), (4, .int (nI n)), (5, .int (nI nc)), (8, .int (nI i))]) hx hb dX6_read_208 hl rfl (xn_inc wl 1) (by decide) rfl (fun ls hl => ?_)
                                    refine lv_iinc (k := 10) (v := nI (i + 1)) (lv' := [(8, .int (nI (i + 1))), (7, .int (nI (wl + 1))), (9, .int (nI (40 * j + a0))), (6, .int (nI 0)), (10, .long ((f0.toInt64 + (lN (3 * i))) + (lN 2))), (0, .ref ko), (1, .int (nI j)), (2, .int lane), (3, .int f0), (4, .int (nI n)), (5, .int (nI nc))]) hx hb dX6_read_211 hl rfl (xn_inc i 1) (by decide) rfl (fun ls hl => ?_)
                                    refine lv_goto (tgt := 41) hx hb dX6_read_214 rfl ?_
                                    have hl := lv_sub hl (l' := [(0, .ref ko), (1, .int (nI j)), (2, .int lane), (3, .int f0), (4, .int (nI n)), (5, .int (nI nc)), (6, .int (nI 0)), (7, .int (nI (wl + 1))), (8, .int (nI (i + 1)))]) [5, 6, 7, 8, 9, 10, 3, 1, 0] rfl
                                    have hP := hP.sub (ws' := [iA G (ad 0) 255 (add3 S3 (17 + 3 * n3) 16 (mc (40 * j + a0)) (mc (40 * j + a0 + 1)) (mc (40 * j + a0 + 2)) (n3 + 1)), iA G (ad 10) 160 mc, iA G (ad 8) 4 ml, iA G (ad 9) 4 ms, oC ko 6 [.ref (ad 0), .ref (ad 1), .int (nI w), .int (nI h), .int (nI la), .ref (ad 2), .int (mv 0), .int (mv 1), .int (mv 2), .int (mv 3), .int (mv 4), .int (mv 5), .int (mv 6), .ref (ad 3), .int (nI tp), .int (mv 7), .int (mv 8), .int (mv 9), .int (mv 10), .int ft, .int (mv 11), .ref (ad 4), .ref (ad 5), .ref (ad 6), .ref (ad 7), .ref (ad 8), .ref (ad 9), .ref (ad 10), .int tr]]) [4, 0, 1, 2, 3] rfl
                                    have hD := hD.sub (ws' := [iA G (ad 0) 255 (add3 S3 (17 + 3 * n3) 16 (mc (40 * j + a0)) (mc (40 * j + a0 + 1)) (mc (40 * j + a0 + 2)) (n3 + 1)), iA G (ad 10) 160 mc, iA G (ad 8) 4 ml, iA G (ad 9) 4 ms, oC ko 6 [.ref (ad 0), .ref (ad 1), .int (nI w), .int (nI h), .int (nI la), .ref (ad 2), .int (mv 0), .int (mv 1), .int (mv 2), .int (mv 3), .int (mv 4), .int (mv 5), .int (mv 6), .ref (ad 3), .int (nI tp), .int (mv 7), .int (mv 8), .int (mv 9), .int (mv 10), .int ft, .int (mv 11), .ref (ad 4), .ref (ad 5), .ref (ad 6), .ref (ad 7), .ref (ad 8), .ref (ad 9), .ref (ad 10), .int tr]]) [4, 0, 1, 2, 3] (by decide) rfl
                                    exact ih41 (n - (i + 1)) (by omega) (i + 1) (nI 0) (wl + 1) (n3 + 1) (add3 S3 (17 + 3 * n3) 16 (mc (40 * j + a0)) (mc (40 * j + a0 + 1)) (mc (40 * j + a0 + 2)) (n3 + 1)) ls H locs rfl (by omega) (by omega) (by omega) (by omega) (by first | exact upd_eq | exact hs3) (by rw [hrd, show n - i = (n - (i + 1)) + 1 by omega, rdM, if_pos b50]; first | (rw [if_pos (show rsM (ml j) lane zz f0 i = 0 from hrs), ea, tn_nI (by omega)]; exact if_pos hok) | (rw [if_neg (by rw [hrs]; decide), hrs])) hl hP hD hS
                                  · skip
                                    have hnk : ¬ (inR (mc (40 * j + a0)) (la + 1) ∧ inR (mc (40 * j + a0 + 1)) (w * h) ∧ inR (mc (40 * j + a0 + 2)) 6 ∧ n3 < 10) := (fun q => tk_no b190 ⟨⟨q.1, q.2.1, q.2.2.1⟩, q.2.2.2⟩)
                                    rw [if_neg hnk] at hP hD
                                    refine lv_aload_n hx hb dX6_read_193 rfl (lv_at hl 3 rfl) ?_
                                    refine va_get (D := G.1) (ci := 6) (v := .ref (ad 0)) (C := RX6) (T := TX6) (N := 29) hx hb hts hin6 hown hK.1 hP 3 rfl rfl 0 (by decide) (hts (.fieldLink RX6 7 "BackLensesModel" "st" "[I") (List.mem_of_getElem? (i := 2) rfl)) (fun _ h9 => h9) rfl dX6_read_194 ?_
                                    refine lv_bipush (v := nI 16) hx hb dX6_read_197 (by decide) ?_
                                    refine lv_iload hx hb dX6_read_199 (lv_at hl 8 rfl) ?_
                                    refine xn_iast hx hb hK hP hD hS 4 rfl (by omega) (by omega) dX6_read_201 (fun H locs hP hD hS => ?_)
                                    replace hP : xP G [iA G (ad 10) 160 mc, iA G (ad 8) 4 ml, iA G (ad 9) 4 ms, oC ko 6 [.ref (ad 0), .ref (ad 1), .int (nI w), .int (nI h), .int (nI la), .ref (ad 2), .int (mv 0), .int (mv 1), .int (mv 2), .int (mv 3), .int (mv 4), .int (mv 5), .int (mv 6), .ref (ad 3), .int (nI tp), .int (mv 7), .int (mv 8), .int (mv 9), .int (mv 10), .int ft, .int (mv 11), .ref (ad 4), .ref (ad 5), .ref (ad 6), .ref (ad 7), .ref (ad 8), .ref (ad 9), .ref (ad 10), .int tr], iA G (ad 0) 255 (upd S3 16 (nI nc))] H := hP
                                    replace hD : va_D (va_A (w_X6_read G ko ad w h la tp ft tr mv S ml ms mc) ss.heap.size) [iA G (ad 10) 160 mc, iA G (ad 8) 4 ml, iA G (ad 9) 4 ms, oC ko 6 [.ref (ad 0), .ref (ad 1), .int (nI w), .int (nI h), .int (nI la), .ref (ad 2), .int (mv 0), .int (mv 1), .int (mv 2), .int (mv 3), .int (mv 4), .int (mv 5), .int (mv 6), .ref (ad 3), .int (nI tp), .int (mv 7), .int (mv 8), .int (mv 9), .int (mv 10), .int ft, .int (mv 11), .ref (ad 4), .ref (ad 5), .ref (ad 6), .ref (ad 7), .ref (ad 8), .ref (ad 9), .ref (ad 10), .int tr], iA G (ad 0) 255 (upd S3 16 (nI nc))] := hD
                                    refine lv_bipush (v := (-20)) hx hb dX6_read_202 (by decide) ?_
                                    refine lv_iload hx hb dX6_read_204 (lv_at hl 10 rfl) ?_
                                    refine lv_isub hx hb dX6_read_206 ?_
                                    have hP := hP.sub (ws' := [oC ko 6 [.ref (ad 0), .ref (ad 1), .int (nI w), .int (nI h), .int (nI la), .ref (ad 2), .int (mv 0), .int (mv 1), .int (mv 2), .int (mv 3), .int (mv 4), .int (mv 5), .int (mv 6), .ref (ad 3), .int (nI tp), .int (mv 7), .int (mv 8), .int (mv 9), .int (mv 10), .int ft, .int (mv 11), .ref (ad 4), .ref (ad 5), .ref (ad 6), .ref (ad 7), .ref (ad 8), .ref (ad 9), .ref (ad 10), .int tr], iA G (ad 0) 255 (upd S3 16 (nI nc)), iA G (ad 8) 4 ml, iA G (ad 9) 4 ms, iA G (ad 10) 160 mc]) [3, 4, 1, 2, 0] rfl
                                    have hD := hD.sub (ws' := [oC ko 6 [.ref (ad 0), .ref (ad 1), .int (nI w), .int (nI h), .int (nI la), .ref (ad 2), .int (mv 0), .int (mv 1), .int (mv 2), .int (mv 3), .int (mv 4), .int (mv 5), .int (mv 6), .ref (ad 3), .int (nI tp), .int (mv 7), .int (mv 8), .int (mv 9), .int (mv 10), .int ft, .int (mv 11), .ref (ad 4), .ref (ad 5), .ref (ad 6), .ref (ad 7), .ref (ad 8), .ref (ad 9), .ref (ad 10), .int tr], iA G (ad 0) 255 (upd S3 16 (nI nc)), iA G (ad 8) 4 ml, iA G (ad 9) 4 ms, iA G (ad 10) 160 mc]) [3, 4, 1, 2, 0] (by decide) rfl
                                    refine W.iret (v := (-20) - (nI i)) hx hb hr (fun t ht hW => ⟨⟨(-20) - (nI i), (upd S3 16 (nI nc), tr), rfl, ?_, by rw [ht]; exact hP, hD⟩, hS.F ht⟩) hS.2.2 dX6_read_207
                                    try dsimp only
                                    have hR : (rdM la (w * h) (rsM (ml j) lane zz f0) (fun i c => mc (40 * j + tn (f0 + nI (3 * i)) + c)) n 0 (nI 0) nc S) = (some i, nI 0, n3, S3) := (by rw [hrd, show n - i = (n - (i + 1)) + 1 by omega, rdM, if_pos b50, if_pos (show rsM (ml j) lane zz f0 i = 0 from hrs), ea, tn_nI (by omega)]; exact if_neg hnk); rw [hR]; exact ⟨rfl, rfl, rfl⟩
                                · skip
                                  have hpo : f0.toInt + ((3 * i : Nat) : Int) + 2 < 0 ∨ (zz : Int) ≤ f0.toInt + ((3 * i : Nat) : Int) + 2 := Or.inr (by rw [pL (by omega) (by omega), lN_toInt' (by omega)] at b127; omega)
                                  refine lv_iconst (v := nI 2) hx hb dX6_read_130 (by decide) ?_
                                  refine lv_goto (tgt := 135) hx hb dX6_read_131 rfl ?_
                                  refine lv_istore (lv' := [(6, .int (nI 2)), (10, .long ((f0.toInt64 + (lN (3 * i))) + (lN 2))), (9, .int (nI 2)), (0, .ref ko), (1, .int (nI j)), (2, .int lane), (3, .int f0), (4, .int (nI n)), (5, .int (nI nc)), (7, .int (nI wl)), (8, .int (nI i))]) hx hb dX6_read_135 hl (by decide) rfl (fun ls hl => ?_)
                                  refine lv_iinc (k := 2) (v := nI 3) (lv' := [(9, .int (nI 3)), (6, .int (nI 2)), (10, .long ((f0.toInt64 + (lN (3 * i))) + (lN 2))), (0, .ref ko), (1, .int (nI j)), (2, .int lane), (3, .int f0), (4, .int (nI n)), (5, .int (nI nc)), (7, .int (nI wl)), (8, .int (nI i))]) hx hb dX6_read_137 hl rfl (xn_inc 2 1) (by decide) rfl (fun ls hl => ?_)
                                  refine lv_goto (tgt := 56) hx hb dX6_read_140 rfl ?_
                                  refine lv_iload hx hb dX6_read_56 (lv_at hl 0 rfl) ?_
                                  refine lv_iconst (v := nI 3) hx hb dX6_read_58 (by decide) ?_
                                  refine xn_icmp_ge (tgt := 143) hx hb (by omega) (by omega) dX6_read_59 rfl (fun _ => ?_) (fun b59 => absurd b59 (by omega))
                                  have hrs : rsM (ml j) lane zz f0 i = nI 2 := (if_neg hl4).trans ((if_neg (fun q => q hln)).trans (if_neg (by omega)))
                                  refine lv_iload hx hb dX6_read_143 (lv_at hl 1 rfl) ?_
                                  refine xn_if_ne (tgt := 211) hx hb (by omega) dX6_read_145 rfl (fun _ => ?_) (fun b145 => absurd b145 (by omega))
                                  refine lv_iinc (k := 10) (v := nI (i + 1)) (lv' := [(8, .int (nI (i + 1))), (9, .int (nI 3)), (6, .int (nI 2)), (10, .long ((f0.toInt64 + (lN (3 * i))) + (lN 2))), (0, .ref ko), (1, .int (nI j)), (2, .int lane), (3, .int f0), (4, .int (nI n)), (5, .int (nI nc)), (7, .int (nI wl))]) hx hb dX6_read_211 hl rfl (xn_inc i 1) (by decide) rfl (fun ls hl => ?_)
                                  refine lv_goto (tgt := 41) hx hb dX6_read_214 rfl ?_
                                  have hl := lv_sub hl (l' := [(0, .ref ko), (1, .int (nI j)), (2, .int lane), (3, .int f0), (4, .int (nI n)), (5, .int (nI nc)), (6, .int (nI 2)), (7, .int (nI wl)), (8, .int (nI (i + 1)))]) [4, 5, 6, 7, 8, 9, 2, 10, 0] rfl
                                  exact ih41 (n - (i + 1)) (by omega) (i + 1) (nI 2) wl n3 S3 ls H locs rfl (by omega) (by omega) (by omega) (by omega) (by first | exact upd_eq | exact hs3) (by rw [hrd, show n - i = (n - (i + 1)) + 1 by omega, rdM, if_pos b50]; first | (rw [if_pos (show rsM (ml j) lane zz f0 i = 0 from hrs), ea, tn_nI (by omega)]; exact if_pos hok) | (rw [if_neg (by rw [hrs]; decide), hrs])) hl hP hD hS
                            · skip
                              exact absurd hln b103
                          · skip
                            exact absurd b89 hl4
                        · skip
                          have hpo : f0.toInt + ((3 * i : Nat) : Int) + 1 < 0 ∨ (zz : Int) ≤ f0.toInt + ((3 * i : Nat) : Int) + 1 := Or.inr (by rw [pL (by omega) (by omega), lN_toInt' (by omega)] at b127; omega)
                          refine lv_iconst (v := nI 2) hx hb dX6_read_130 (by decide) ?_
                          refine lv_goto (tgt := 135) hx hb dX6_read_131 rfl ?_
                          refine lv_istore (lv' := [(6, .int (nI 2)), (10, .long ((f0.toInt64 + (lN (3 * i))) + (lN 1))), (9, .int (nI 1)), (0, .ref ko), (1, .int (nI j)), (2, .int lane), (3, .int f0), (4, .int (nI n)), (5, .int (nI nc)), (7, .int (nI wl)), (8, .int (nI i))]) hx hb dX6_read_135 hl (by decide) rfl (fun ls hl => ?_)
                          refine lv_iinc (k := 2) (v := nI 2) (lv' := [(9, .int (nI 2)), (6, .int (nI 2)), (10, .long ((f0.toInt64 + (lN (3 * i))) + (lN 1))), (0, .ref ko), (1, .int (nI j)), (2, .int lane), (3, .int f0), (4, .int (nI n)), (5, .int (nI nc)), (7, .int (nI wl)), (8, .int (nI i))]) hx hb dX6_read_137 hl rfl (xn_inc 1 1) (by decide) rfl (fun ls hl => ?_)
                          refine lv_goto (tgt := 56) hx hb dX6_read_140 rfl ?_
                          refine lv_iload hx hb dX6_read_56 (lv_at hl 0 rfl) ?_
                          refine lv_iconst (v := nI 3) hx hb dX6_read_58 (by decide) ?_
                          refine xn_icmp_ge (tgt := 143) hx hb (by omega) (by omega) dX6_read_59 rfl (fun b59 => absurd b59 (by omega)) (fun _ => ?_)
                          refine lv_iload hx hb dX6_read_62 (lv_at hl 1 rfl) ?_
                          refine xn_if_ne (tgt := 143) hx hb (by omega) dX6_read_64 rfl (fun _ => ?_) (fun b64 => absurd b64 (by omega))
                          have hrs : rsM (ml j) lane zz f0 i = nI 2 := (if_neg hl4).trans ((if_neg (fun q => q hln)).trans (if_neg (by omega)))
                          refine lv_iload hx hb dX6_read_143 (lv_at hl 1 rfl) ?_
                          refine xn_if_ne (tgt := 211) hx hb (by omega) dX6_read_145 rfl (fun _ => ?_) (fun b145 => absurd b145 (by omega))
                          refine lv_iinc (k := 10) (v := nI (i + 1)) (lv' := [(8, .int (nI (i + 1))), (9, .int (nI 2)), (6, .int (nI 2)), (10, .long ((f0.toInt64 + (lN (3 * i))) + (lN 1))), (0, .ref ko), (1, .int (nI j)), (2, .int lane), (3, .int f0), (4, .int (nI n)), (5, .int (nI nc)), (7, .int (nI wl))]) hx hb dX6_read_211 hl rfl (xn_inc i 1) (by decide) rfl (fun ls hl => ?_)
                          refine lv_goto (tgt := 41) hx hb dX6_read_214 rfl ?_
                          have hl := lv_sub hl (l' := [(0, .ref ko), (1, .int (nI j)), (2, .int lane), (3, .int f0), (4, .int (nI n)), (5, .int (nI nc)), (6, .int (nI 2)), (7, .int (nI wl)), (8, .int (nI (i + 1)))]) [4, 5, 6, 7, 8, 9, 2, 10, 0] rfl
                          exact ih41 (n - (i + 1)) (by omega) (i + 1) (nI 2) wl n3 S3 ls H locs rfl (by omega) (by omega) (by omega) (by omega) (by first | exact upd_eq | exact hs3) (by rw [hrd, show n - i = (n - (i + 1)) + 1 by omega, rdM, if_pos b50]; first | (rw [if_pos (show rsM (ml j) lane zz f0 i = 0 from hrs), ea, tn_nI (by omega)]; exact if_pos hok) | (rw [if_neg (by rw [hrs]; decide), hrs])) hl hP hD hS
                    · skip
                      exact absurd hln b103
                  · skip
                    exact absurd b89 hl4
                · skip
                  have hpo : f0.toInt + ((3 * i : Nat) : Int) + 0 < 0 ∨ (zz : Int) ≤ f0.toInt + ((3 * i : Nat) : Int) + 0 := Or.inr (by rw [pL (by omega) (by omega), lN_toInt' (by omega)] at b127; omega)
                  refine lv_iconst (v := nI 2) hx hb dX6_read_130 (by decide) ?_
                  refine lv_goto (tgt := 135) hx hb dX6_read_131 rfl ?_
                  refine lv_istore (lv' := [(6, .int (nI 2)), (10, .long ((f0.toInt64 + (lN (3 * i))) + (lN 0))), (9, .int (nI 0)), (0, .ref ko), (1, .int (nI j)), (2, .int lane), (3, .int f0), (4, .int (nI n)), (5, .int (nI nc)), (7, .int (nI wl)), (8, .int (nI i))]) hx hb dX6_read_135 hl (by decide) rfl (fun ls hl => ?_)
                  refine lv_iinc (k := 2) (v := nI 1) (lv' := [(9, .int (nI 1)), (6, .int (nI 2)), (10, .long ((f0.toInt64 + (lN (3 * i))) + (lN 0))), (0, .ref ko), (1, .int (nI j)), (2, .int lane), (3, .int f0), (4, .int (nI n)), (5, .int (nI nc)), (7, .int (nI wl)), (8, .int (nI i))]) hx hb dX6_read_137 hl rfl (xn_inc 0 1) (by decide) rfl (fun ls hl => ?_)
                  refine lv_goto (tgt := 56) hx hb dX6_read_140 rfl ?_
                  refine lv_iload hx hb dX6_read_56 (lv_at hl 0 rfl) ?_
                  refine lv_iconst (v := nI 3) hx hb dX6_read_58 (by decide) ?_
                  refine xn_icmp_ge (tgt := 143) hx hb (by omega) (by omega) dX6_read_59 rfl (fun b59 => absurd b59 (by omega)) (fun _ => ?_)
                  refine lv_iload hx hb dX6_read_62 (lv_at hl 1 rfl) ?_
                  refine xn_if_ne (tgt := 143) hx hb (by omega) dX6_read_64 rfl (fun _ => ?_) (fun b64 => absurd b64 (by omega))
                  have hrs : rsM (ml j) lane zz f0 i = nI 2 := (if_neg hl4).trans ((if_neg (fun q => q hln)).trans (if_neg (by omega)))
                  refine lv_iload hx hb dX6_read_143 (lv_at hl 1 rfl) ?_
                  refine xn_if_ne (tgt := 211) hx hb (by omega) dX6_read_145 rfl (fun _ => ?_) (fun b145 => absurd b145 (by omega))
                  refine lv_iinc (k := 10) (v := nI (i + 1)) (lv' := [(8, .int (nI (i + 1))), (9, .int (nI 1)), (6, .int (nI 2)), (10, .long ((f0.toInt64 + (lN (3 * i))) + (lN 0))), (0, .ref ko), (1, .int (nI j)), (2, .int lane), (3, .int f0), (4, .int (nI n)), (5, .int (nI nc)), (7, .int (nI wl))]) hx hb dX6_read_211 hl rfl (xn_inc i 1) (by decide) rfl (fun ls hl => ?_)
                  refine lv_goto (tgt := 41) hx hb dX6_read_214 rfl ?_
                  have hl := lv_sub hl (l' := [(0, .ref ko), (1, .int (nI j)), (2, .int lane), (3, .int f0), (4, .int (nI n)), (5, .int (nI nc)), (6, .int (nI 2)), (7, .int (nI wl)), (8, .int (nI (i + 1)))]) [4, 5, 6, 7, 8, 9, 2, 10, 0] rfl
                  exact ih41 (n - (i + 1)) (by omega) (i + 1) (nI 2) wl n3 S3 ls H locs rfl (by omega) (by omega) (by omega) (by omega) (by first | exact upd_eq | exact hs3) (by rw [hrd, show n - i = (n - (i + 1)) + 1 by omega, rdM, if_pos b50]; first | (rw [if_pos (show rsM (ml j) lane zz f0 i = 0 from hrs), ea, tn_nI (by omega)]; exact if_pos hok) | (rw [if_neg (by rw [hrs]; decide), hrs])) hl hP hD hS
            · skip
              refine lv_iconst (v := nI 3) hx hb dX6_read_106 (by decide) ?_
              refine lv_goto (tgt := 135) hx hb dX6_read_107 rfl ?_
              refine lv_istore (lv' := [(6, .int (nI 3)), (10, .long ((f0.toInt64 + (lN (3 * i))) + (lN 0))), (9, .int (nI 0)), (0, .ref ko), (1, .int (nI j)), (2, .int lane), (3, .int f0), (4, .int (nI n)), (5, .int (nI nc)), (7, .int (nI wl)), (8, .int (nI i))]) hx hb dX6_read_135 hl (by decide) rfl (fun ls hl => ?_)
              refine lv_iinc (k := 2) (v := nI 1) (lv' := [(9, .int (nI 1)), (6, .int (nI 3)), (10, .long ((f0.toInt64 + (lN (3 * i))) + (lN 0))), (0, .ref ko), (1, .int (nI j)), (2, .int lane), (3, .int f0), (4, .int (nI n)), (5, .int (nI nc)), (7, .int (nI wl)), (8, .int (nI i))]) hx hb dX6_read_137 hl rfl (xn_inc 0 1) (by decide) rfl (fun ls hl => ?_)
              refine lv_goto (tgt := 56) hx hb dX6_read_140 rfl ?_
              refine lv_iload hx hb dX6_read_56 (lv_at hl 0 rfl) ?_
              refine lv_iconst (v := nI 3) hx hb dX6_read_58 (by decide) ?_
              refine xn_icmp_ge (tgt := 143) hx hb (by omega) (by omega) dX6_read_59 rfl (fun b59 => absurd b59 (by omega)) (fun _ => ?_)
              refine lv_iload hx hb dX6_read_62 (lv_at hl 1 rfl) ?_
              refine xn_if_ne (tgt := 143) hx hb (by omega) dX6_read_64 rfl (fun _ => ?_) (fun b64 => absurd b64 (by omega))
              have hrs : rsM (ml j) lane zz f0 i = nI 3 := (if_neg hl4).trans (if_pos b103)
              refine lv_iload hx hb dX6_read_143 (lv_at hl 1 rfl) ?_
              refine xn_if_ne (tgt := 211) hx hb (by omega) dX6_read_145 rfl (fun _ => ?_) (fun b145 => absurd b145 (by omega))
              refine lv_iinc (k := 10) (v := nI (i + 1)) (lv' := [(8, .int (nI (i + 1))), (9, .int (nI 1)), (6, .int (nI 3)), (10, .long ((f0.toInt64 + (lN (3 * i))) + (lN 0))), (0, .ref ko), (1, .int (nI j)), (2, .int lane), (3, .int f0), (4, .int (nI n)), (5, .int (nI nc)), (7, .int (nI wl))]) hx hb dX6_read_211 hl rfl (xn_inc i 1) (by decide) rfl (fun ls hl => ?_)
              refine lv_goto (tgt := 41) hx hb dX6_read_214 rfl ?_
              have hl := lv_sub hl (l' := [(0, .ref ko), (1, .int (nI j)), (2, .int lane), (3, .int f0), (4, .int (nI n)), (5, .int (nI nc)), (6, .int (nI 3)), (7, .int (nI wl)), (8, .int (nI (i + 1)))]) [4, 5, 6, 7, 8, 9, 2, 10, 0] rfl
              exact ih41 (n - (i + 1)) (by omega) (i + 1) (nI 3) wl n3 S3 ls H locs rfl (by omega) (by omega) (by omega) (by omega) (by first | exact upd_eq | exact hs3) (by rw [hrd, show n - i = (n - (i + 1)) + 1 by omega, rdM, if_pos b50]; first | (rw [if_pos (show rsM (ml j) lane zz f0 i = 0 from hrs), ea, tn_nI (by omega)]; exact if_pos hok) | (rw [if_neg (by rw [hrs]; decide), hrs])) hl hP hD hS
          · skip
            refine lv_iconst (v := nI 1) hx hb dX6_read_92 (by decide) ?_
            refine lv_goto (tgt := 135) hx hb dX6_read_93 rfl ?_
            refine lv_istore (lv' := [(6, .int (nI 1)), (10, .long ((f0.toInt64 + (lN (3 * i))) + (lN 0))), (9, .int (nI 0)), (0, .ref ko), (1, .int (nI j)), (2, .int lane), (3, .int f0), (4, .int (nI n)), (5, .int (nI nc)), (7, .int (nI wl)), (8, .int (nI i))]) hx hb dX6_read_135 hl (by decide) rfl (fun ls hl => ?_)
            refine lv_iinc (k := 2) (v := nI 1) (lv' := [(9, .int (nI 1)), (6, .int (nI 1)), (10, .long ((f0.toInt64 + (lN (3 * i))) + (lN 0))), (0, .ref ko), (1, .int (nI j)), (2, .int lane), (3, .int f0), (4, .int (nI n)), (5, .int (nI nc)), (7, .int (nI wl)), (8, .int (nI i))]) hx hb dX6_read_137 hl rfl (xn_inc 0 1) (by decide) rfl (fun ls hl => ?_)
            refine lv_goto (tgt := 56) hx hb dX6_read_140 rfl ?_
            refine lv_iload hx hb dX6_read_56 (lv_at hl 0 rfl) ?_
            refine lv_iconst (v := nI 3) hx hb dX6_read_58 (by decide) ?_
            refine xn_icmp_ge (tgt := 143) hx hb (by omega) (by omega) dX6_read_59 rfl (fun b59 => absurd b59 (by omega)) (fun _ => ?_)
            refine lv_iload hx hb dX6_read_62 (lv_at hl 1 rfl) ?_
            refine xn_if_ne (tgt := 143) hx hb (by omega) dX6_read_64 rfl (fun _ => ?_) (fun b64 => absurd b64 (by omega))
            have hrs : rsM (ml j) lane zz f0 i = nI 1 := if_pos b89
            refine lv_iload hx hb dX6_read_143 (lv_at hl 1 rfl) ?_
            refine xn_if_ne (tgt := 211) hx hb (by omega) dX6_read_145 rfl (fun _ => ?_) (fun b145 => absurd b145 (by omega))
            refine lv_iinc (k := 10) (v := nI (i + 1)) (lv' := [(8, .int (nI (i + 1))), (9, .int (nI 1)), (6, .int (nI 1)), (10, .long ((f0.toInt64 + (lN (3 * i))) + (lN 0))), (0, .ref ko), (1, .int (nI j)), (2, .int lane), (3, .int f0), (4, .int (nI n)), (5, .int (nI nc)), (7, .int (nI wl))]) hx hb dX6_read_211 hl rfl (xn_inc i 1) (by decide) rfl (fun ls hl => ?_)
            refine lv_goto (tgt := 41) hx hb dX6_read_214 rfl ?_
            have hl := lv_sub hl (l' := [(0, .ref ko), (1, .int (nI j)), (2, .int lane), (3, .int f0), (4, .int (nI n)), (5, .int (nI nc)), (6, .int (nI 1)), (7, .int (nI wl)), (8, .int (nI (i + 1)))]) [4, 5, 6, 7, 8, 9, 2, 10, 0] rfl
            exact ih41 (n - (i + 1)) (by omega) (i + 1) (nI 1) wl n3 S3 ls H locs rfl (by omega) (by omega) (by omega) (by omega) (by first | exact upd_eq | exact hs3) (by rw [hrd, show n - i = (n - (i + 1)) + 1 by omega, rdM, if_pos b50]; first | (rw [if_pos (show rsM (ml j) lane zz f0 i = 0 from hrs), ea, tn_nI (by omega)]; exact if_pos hok) | (rw [if_neg (by rw [hrs]; decide), hrs])) hl hP hD hS
  have hl := lv_sub hl (l' := [(0, .ref ko), (1, .int (nI j)), (2, .int lane), (3, .int f0), (4, .int (nI n)), (5, .int (nI nc)), (6, .int (nI 0)), (7, .int (nI 0)), (8, .int (nI 0))]) [4, 5, 6, 7, 8, 3, 2, 1, 0] rfl
  have hP := hP.sub (ws' := [iA G (ad 0) 255 S, iA G (ad 10) 160 mc, iA G (ad 8) 4 ml, iA G (ad 9) 4 ms, oC ko 6 [.ref (ad 0), .ref (ad 1), .int (nI w), .int (nI h), .int (nI la), .ref (ad 2), .int (mv 0), .int (mv 1), .int (mv 2), .int (mv 3), .int (mv 4), .int (mv 5), .int (mv 6), .ref (ad 3), .int (nI tp), .int (mv 7), .int (mv 8), .int (mv 9), .int (mv 10), .int ft, .int (mv 11), .ref (ad 4), .ref (ad 5), .ref (ad 6), .ref (ad 7), .ref (ad 8), .ref (ad 9), .ref (ad 10), .int tr]]) [1, 4, 2, 3, 0] rfl
  have hD := hD.sub (ws' := [iA G (ad 0) 255 S, iA G (ad 10) 160 mc, iA G (ad 8) 4 ml, iA G (ad 9) 4 ms, oC ko 6 [.ref (ad 0), .ref (ad 1), .int (nI w), .int (nI h), .int (nI la), .ref (ad 2), .int (mv 0), .int (mv 1), .int (mv 2), .int (mv 3), .int (mv 4), .int (mv 5), .int (mv 6), .ref (ad 3), .int (nI tp), .int (mv 7), .int (mv 8), .int (mv 9), .int (mv 10), .int ft, .int (mv 11), .ref (ad 4), .ref (ad 5), .ref (ad 6), .ref (ad 7), .ref (ad 8), .ref (ad 9), .ref (ad 10), .int tr]]) [1, 4, 2, 3, 0] (by decide) rfl
  exact hL41 (n - 0) 0 (nI 0) 0 nc S ls H locs rfl (by omega) (by omega) (by omega) (by omega) (by exact hs16) (by rfl) hl hP hD hS

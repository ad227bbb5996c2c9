section
abbrev w_X6_read (G : XG) (ko : Nat) (ad : Nat → Nat) (w h la tp : Nat) (ft tr : Int32) (mv : Nat → Int32) (S ml ms mc : Nat → Int32) : va_W := [oC ko 6 [.ref (ad 0), .ref (ad 1), .int (nI w), .int (nI h), .int (nI la), .ref (ad 2), .int (mv 0), .int (mv 1), .int (mv 2), .int (mv 3), .int (mv 4), .int (mv 5), .int (mv 6), .ref (ad 3), .int (nI tp), .int (mv 7), .int (mv 8), .int (mv 9), .int (mv 10), .int ft, .int (mv 11), .ref (ad 4), .ref (ad 5), .ref (ad 6), .ref (ad 7), .ref (ad 8), .ref (ad 9), .ref (ad 10), .int tr], iA G (ad 0) 255 S, iA G (ad 8) 4 ml, iA G (ad 9) 4 ms, iA G (ad 10) 160 mc]
abbrev Q_X6_read (G : XG) (sz : Nat) (ko : Nat) (ad : Nat → Nat) (w h la tp : Nat) (ft tr : Int32) (mv : Nat → Int32) (S ml ms mc : Nat → Int32) (nc j zz n : Nat) (lane f0 : Int32) : Array Value → State → Outcome → State → Prop := (va_Qi (fun (r : Int32) (u : (Nat → Int32) × Int32) => r = (match (rdM la (w * h) (rsM (ml j) lane zz f0) (fun i c => mc (40 * j + tn (f0 + nI (3 * i)) + c)) n 0 (nI 0) nc S).1 with | some i => (-20) - nI i | none => nI ((rdM la (w * h) (rsM (ml j) lane zz f0) (fun i c => mc (40 * j + tn (f0 + nI (3 * i)) + c)) n 0 (nI 0) nc S).2.2.1 - nc)) ∧ u.1 = (match (rdM la (w * h) (rsM (ml j) lane zz f0) (fun i c => mc (40 * j + tn (f0 + nI (3 * i)) + c)) n 0 (nI 0) nc S).1 with | some _ => upd (rdM la (w * h) (rsM (ml j) lane zz f0) (fun i c => mc (40 * j + tn (f0 + nI (3 * i)) + c)) n 0 (nI 0) nc S).2.2.2 16 (nI nc) | none => (rdM la (w * h) (rsM (ml j) lane zz f0) (fun i c => mc (40 * j + tn (f0 + nI (3 * i)) + c)) n 0 (nI 0) nc S).2.2.2) ∧ u.2 = (match (rdM la (w * h) (rsM (ml j) lane zz f0) (fun i c => mc (40 * j + tn (f0 + nI (3 * i)) + c)) n 0 (nI 0) nc S).1 with | some _ => tr | none => (rdM la (w * h) (rsM (ml j) lane zz f0) (fun i c => mc (40 * j + tn (f0 + nI (3 * i)) + c)) n 0 (nI 0) nc S).2.1)) (xWb G sz (w_X6_read G ko ad w h la tp ft tr mv S ml ms mc) (fun u : (Nat → Int32) × Int32 => [oC ko 6 [.ref (ad 0), .ref (ad 1), .int (nI w), .int (nI h), .int (nI la), .ref (ad 2), .int (mv 0), .int (mv 1), .int (mv 2), .int (mv 3), .int (mv 4), .int (mv 5), .int (mv 6), .ref (ad 3), .int (nI tp), .int (mv 7), .int (mv 8), .int (mv 9), .int (mv 10), .int ft, .int (mv 11), .ref (ad 4), .ref (ad 5), .ref (ad 6), .ref (ad 7), .ref (ad 8), .ref (ad 9), .ref (ad 10), .int u.2], iA G (ad 0) 255 u.1, iA G (ad 8) 4 ml, iA G (ad 9) 4 ms, iA G (ad 10) 160 mc])) (va_A (w_X6_read G ko ad w h la tp ft tr mv S ml ms mc) sz))
set_option maxHeartbeats 4000000 in
set_option maxRecDepth 100000 in
theorem c_X6_read (l : Launch) (G : XG) (sz : Nat) (ko : Nat) (ad : Nat → Nat) (w h la tp : Nat) (ft tr : Int32) (mv : Nat → Int32) (S ml ms mc : Nat → Int32) (nc j zz n : Nat) (lane f0 : Int32) (hw : 1 ≤ w) (hwb : w ≤ 16) (hhb : h ≤ 16) (hwh1 : 1 ≤ w * h) (hwh : w * h ≤ 16) (hla : la ≤ 9) (hs16 : S 16 = nI nc) (hnc : nc ≤ 10) (hj : j < 4) (hlane : inR lane 3) (hn : n ≤ 13) (hms : ms j = nI zz) (hzz : zz ≤ 40) : Met l yX6_read wsX6_read ({ frames := 3, cells := 0, slots := 0, locals := 70 } : Room) (va_Pc [.ref ko, .int (nI j), .int lane, .int f0, .int (nI n)] (xWp G sz (w_X6_read G ko ad w h la tp ft tr mv S ml ms mc))) (Q_X6_read G sz ko ad w h la tp ft tr mv S ml ms mc nc j zz n lane f0) 0 0 (va_A (w_X6_read G ko ad w h la tp ft tr mv S ml ms mc) sz) := by
  refine Met.ofW (cc := cX6_read) (maxL := 12) (ret := (some .int)) (by decide) rfl ?_
  intro pp ee ss mm aa below mt cd s₁ BB hml hv
  obtain ⟨rfl, hsz, hP, hK, hD0⟩ := hv
  have hx := BB.exec
  have hb := BB.bytes
  have hr := BB.returns
  have hts := atoms_spec (ws := wsX6_read) BB.pre
  have hown : ss.vm.findClass RX6 = some mm.cls := findClass_of_methodNamed BB.named
  have hlocks := BB.notSynchronized
  subst hsz
  have hD := hD0.self (sz := ss.heap.size)
  have hA : ∀ q : Nat, ss.heap.size ≤ q → va_A (w_X6_read G ko ad w h la tp ft tr mv S ml ms mc) ss.heap.size q := fun q h => Or.inr h
  have hS : va_S (va_A (w_X6_read G ko ad w h la tp ft tr mv S ml ms mc) ss.heap.size) ss.heap ss.heap [] := va_S.rf
  replace hD : va_D (va_A (w_X6_read G ko ad w h la tp ft tr mv S ml ms mc) ss.heap.size) [oC ko 6 [.ref (ad 0), .ref (ad 1), .int (nI w), .int (nI h), .int (nI la), .ref (ad 2), .int (mv 0), .int (mv 1), .int (mv 2), .int (mv 3), .int (mv 4), .int (mv 5), .int (mv 6), .ref (ad 3), .int (nI tp), .int (mv 7), .int (mv 8), .int (mv 9), .int (mv 10), .int ft, .int (mv 11), .ref (ad 4), .ref (ad 5), .ref (ad 6), .ref (ad 7), .ref (ad 8), .ref (ad 9), .ref (ad 10), .int tr], iA G (ad 0) 255 S, iA G (ad 8) 4 ml, iA G (ad 9) 4 ms, iA G (ad 10) 160 mc] := hD
  replace hP : xP G [oC ko 6 [.ref (ad 0), .ref (ad 1), .int (nI w), .int (nI h), .int (nI la), .ref (ad 2), .int (mv 0), .int (mv 1), .int (mv 2), .int (mv 3), .int (mv 4), .int (mv 5), .int (mv 6), .ref (ad 3), .int (nI tp), .int (mv 7), .int (mv 8), .int (mv 9), .int (mv 10), .int ft, .int (mv 11), .ref (ad 4), .ref (ad 5), .ref (ad 6), .ref (ad 7), .ref (ad 8), .ref (ad 9), .ref (ad 10), .int tr], iA G (ad 0) 255 S, iA G (ad 8) 4 ml, iA G (ad 9) 4 ms, iA G (ad 10) 160 mc] ss.heap := hP
  have hin6 : ∀ w ∈ u_ws RX6 TX6 29, w ∈ wsX6_read := fun w h => List.mem_cons_of_mem _ (List.mem_append_right _ h)
  have hl := lv_entry ([.ref ko, .int (nI j), .int lane, .int f0, .int (nI n)]) (n := 12) (Nat.le_of_ble_eq_true rfl)
  rw [lg_entry_eq]
  generalize (lg_sl ([.ref ko, .int (nI j), .int lane, .int f0, .int (nI n)]) ++ List.replicate (12 - (lg_sl ([.ref ko, .int (nI j), .int lane, .int f0, .int (nI n)])).length) Slot.unset).toArray = ls at hl ⊢
  replace hl : lv_has ls 12 [(0, .ref ko), (1, .int (nI j)), (2, .int lane), (3, .int f0), (4, .int (nI n))] := hl
  refine lv_iload_n hx hb dX6_read_0 rfl (lv_at hl 1 rfl) ?_
  refine lv_iload_n hx hb dX6_read_1 rfl (lv_at hl 2 rfl) ?_
  refine xs_i (As := [.int (nI j), .int lane]) (rest := []) ⟨hx, hb, hml, hown, hts⟩ (c_X6_isSheet l G (nI j) lane ) (va_cwS 2 hts gX6_read_X6_isSheet rfl rfl rfl (by decide +kernel) ⟨Nat.le_of_ble_eq_true rfl, Nat.le_of_ble_eq_true rfl⟩) hP hS rfl hl.1 rfl (Nat.le_of_ble_eq_true rfl) dX6_read_2 ⟨Nat.zero_le _, Nat.zero_le _⟩ (fun r2 H locs hp2 hP hS => ?_)
  rw [show r2 = _ from hp2]
  refine xb_if_eq (tgt := 21) hx hb dX6_read_5 rfl (fun b5 => absurd b5 (by exact fun q => q ⟨inR_nI hj (by omega), hlane⟩)) (fun _ => ?_)
  refine lv_iload hx hb dX6_read_8 (lv_at hl 4 rfl) ?_
  refine xi_i2l hx hb dX6_read_10 ?_
  refine lv_lconst (v := lN 0) hx hb dX6_read_11 (by decide) ?_
  refine lv_ldc2 (v := lN 13) hx hb hown (hts (.constantLong RX6 269 (lN 13)) (List.mem_of_getElem? (i := 1) rfl)) dX6_read_12 ?_
  refine xs_i (As := [.long ((nI n).toInt64), .long (lN 0), .long (lN 13)]) (rest := []) ⟨hx, hb, hml, hown, hts⟩ (c_X6_in_r l G (nI n) 13 (by first | assumption | omega)) (va_cwS 3 hts gX6_read_X6_in rfl rfl rfl (by decide +kernel) ⟨Nat.le_of_ble_eq_true rfl, Nat.le_of_ble_eq_true rfl⟩) hP hS rfl hl.1 rfl (Nat.le_of_ble_eq_true rfl) dX6_read_15 ⟨Nat.zero_le _, Nat.zero_le _⟩ (fun r15 H locs hp15 hP hS => ?_)
  rw [show r15 = _ from hp15]
  refine xb_if_ne (tgt := 23) hx hb dX6_read_18 rfl (fun _ => ?_) (fun b18 => absurd b18 (by exact fun q => q (inR_nI (by omega) (by omega))))
  refine lv_aload_n hx hb dX6_read_23 rfl (lv_at hl 0 rfl) ?_
  refine va_get (D := G.1) (ci := 6) (v := .ref (ad 0)) (C := RX6) (T := TX6) (N := 29) hx hb hts hin6 hown hK.1 hP 0 rfl rfl 0 (by decide) (hts (.fieldLink RX6 7 "BackLensesModel" "st" "[I") (List.mem_of_getElem? (i := 2) rfl)) (fun _ h9 => h9) rfl dX6_read_24 ?_
  refine lv_bipush (v := nI 16) hx hb dX6_read_27 (by decide) ?_
  refine xn_iald hx hb hK hP 1 rfl (by omega) (by omega) dX6_read_29 ?_
  refine xn_top (y := nI nc) (by exact hs16) ?_
  refine lv_istore (lv' := [(5, .int (nI nc)), (0, .ref ko), (1, .int (nI j)), (2, .int lane), (3, .int f0), (4, .int (nI n))]) hx hb dX6_read_30 hl (by decide) rfl (fun ls hl => ?_)
  refine lv_iconst (v := nI 0) hx hb dX6_read_32 (by decide) ?_
  refine lv_istore (lv' := [(6, .int (nI 0)), (5, .int (nI nc)), (0, .ref ko), (1, .int (nI j)), (2, .int lane), (3, .int f0), (4, .int (nI n))]) hx hb dX6_read_33 hl (by decide) rfl (fun ls hl => ?_)
  refine lv_iconst (v := nI 0) hx hb dX6_read_35 (by decide) ?_
  refine lv_istore (lv' := [(7, .int (nI 0)), (6, .int (nI 0)), (5, .int (nI nc)), (0, .ref ko), (1, .int (nI j)), (2, .int lane), (3, .int f0), (4, .int (nI n))]) hx hb dX6_read_36 hl (by decide) rfl (fun ls hl => ?_)
  refine lv_iconst (v := nI 0) hx hb dX6_read_38 (by decide) ?_
  refine lv_istore (lv' := [(8, .int (nI 0)), (7, .int (nI 0)), (6, .int (nI 0)), (5, .int (nI nc)), (0, .ref ko), (1, .int (nI j)), (2, .int lane), (3, .int f0), (4, .int (nI n))]) hx hb dX6_read_39 hl (by decide) rfl (fun ls hl => ?_)
  have hL41 : ∀ k : Nat, ∀ (i : Nat) (fd : Int32) (wl : Nat) (n3 : Nat) (S3 : Nat → Int32) (ls : Array Slot) (H : Heap) (locs : List Loc), n - i = k → (i ≤ n) → (nc ≤ n3) → (n3 ≤ 10) → (wl = n3 - nc) → (S3 16 = nI n3) → ((rdM la (w * h) (rsM (ml j) lane zz f0) (fun i c => mc (40 * j + tn (f0 + nI (3 * i)) + c)) n 0 (nI 0) nc S) = rdM la (w * h) (rsM (ml j) lane zz f0) (fun i c => mc (40 * j + tn (f0 + nI (3 * i)) + c)) (n - i) i fd n3 S3) → lv_has ls 12 [(0, .ref ko), (1, .int (nI j)), (2, .int lane), (3, .int f0), (4, .int (nI n)), (5, .int (nI nc)), (6, .int fd), (7, .int (nI wl)), (8, .int (nI i))] → xP G [iA G (ad 0) 255 S3, iA G (ad 10) 160 mc, iA G (ad 8) 4 ml, iA G (ad 9) 4 ms, oC ko 6 [.ref (ad 0), .ref (ad 1), .int (nI w), .int (nI h), .int (nI la), .ref (ad 2), .int (mv 0), .int (mv 1), .int (mv 2), .int (mv 3), .int (mv 4), .int (mv 5), .int (mv 6), .ref (ad 3), .int (nI tp), .int (mv 7), .int (mv 8), .int (mv 9), .int (mv 10), .int ft, .int (mv 11), .ref (ad 4), .ref (ad 5), .ref (ad 6), .ref (ad 7), .ref (ad 8), .ref (ad 9), .ref (ad 10), .int tr]] H → va_D (va_A (w_X6_read G ko ad w h la tp ft tr mv S ml ms mc) ss.heap.size) [iA G (ad 0) 255 S3, iA G (ad 10) 160 mc, iA G (ad 8) 4 ml, iA G (ad 9) 4 ms, oC ko 6 [.ref (ad 0), .ref (ad 1), .int (nI w), .int (nI h), .int (nI la), .ref (ad 2), .int (mv 0), .int (mv 1), .int (mv 2), .int (mv 3), .int (mv 4), .int (mv 5), .int (mv 6), .ref (ad 3), .int (nI tp), .int (mv 7), .int (mv 8), .int (mv 9), .int (mv 10), .int ft, .int (mv 11), .ref (ad 4), .ref (ad 5), .ref (ad 6), .ref (ad 7), .ref (ad 8), .ref (ad 9), .ref (ad 10), .int tr]] → va_S (va_A (w_X6_read G ko ad w h la tp ft tr mv S ml ms mc) ss.heap.size) ss.heap H locs → W pp l ee ({ frames := 3, cells := 0, slots := 0, locals := 70 } : Room) ss mm ([.ref ko, .int (nI j), .int lane, .int f0, .int (nI n)] : List Value).toArray below mt cd H locs 0 0 (MQ below (Q_X6_read G ss.heap.size ko ad w h la tp ft tr mv S ml ms mc nc j zz n lane f0) ([.ref ko, .int (nI j), .int lane, .int f0, .int (nI n)] : List Value).toArray ss 0 0 (va_A (w_X6_read G ko ad w h la tp ft tr mv S ml ms mc) ss.heap.size)) (F0 mm 41 ls []) := by
    intro k
    induction k using Nat.strongRecOn with
    | _ k ih41 =>
    intro i fd wl n3 S3 ls H locs hm41 hi hnn hn3 hwl hs3 hrd hl hP hD hS
    refine lv_iload hx hb dX6_read_41 (lv_at hl 8 rfl) ?_
    refine lv_iload hx hb dX6_read_43 (lv_at hl 4 rfl) ?_
    refine xn_icmp_ge (tgt := 217) hx hb (by omega) (by omega) dX6_read_45 rfl (fun b45 => ?_) (fun b45 => ?_)
    · skip
      refine lv_aload_n hx hb dX6_read_217 rfl (lv_at hl 0 rfl) ?_
      refine lv_iload hx hb dX6_read_218 (lv_at hl 6 rfl) ?_
      refine va_put (D := G.1) (ci := 6) (v := .int fd) (ty := .int) (C := RX6) (T := TX6) (N := 29) hx hb hts hin6 tyX6 tyX6_ok nmX6 hown hK.1 hP hD hS 4 rfl rfl 28 (by decide) (hts (.fieldLink RX6 274 "BackLensesModel" "torn" "I") (List.mem_of_getElem? (i := 6) rfl)) (fun _ h9 => h9) rfl (by decide +kernel) rfl rfl (Nat.le_of_ble_eq_true rfl) dX6_read_220 (fun H locs hP hD hS => ?_)
      replace hP : xP G [iA G (ad 0) 255 S3, iA G (ad 10) 160 mc, iA G (ad 8) 4 ml, iA G (ad 9) 4 ms, oC ko 6 [.ref (ad 0), .ref (ad 1), .int (nI w), .int (nI h), .int (nI la), .ref (ad 2), .int (mv 0), .int (mv 1), .int (mv 2), .int (mv 3), .int (mv 4), .int (mv 5), .int (mv 6), .ref (ad 3), .int (nI tp), .int (mv 7), .int (mv 8), .int (mv 9), .int (mv 10), .int ft, .int (mv 11), .ref (ad 4), .ref (ad 5), .ref (ad 6), .ref (ad 7), .ref (ad 8), .ref (ad 9), .ref (ad 10), .int fd]] H := hP
      replace hD : va_D (va_A (w_X6_read G ko ad w h la tp ft tr mv S ml ms mc) ss.heap.size) [iA G (ad 0) 255 S3, iA G (ad 10) 160 mc, iA G (ad 8) 4 ml, iA G (ad 9) 4 ms, oC ko 6 [.ref (ad 0), .ref (ad 1), .int (nI w), .int (nI h), .int (nI la), .ref (ad 2), .int (mv 0), .int (mv 1), .int (mv 2), .int (mv 3), .int (mv 4), .int (mv 5), .int (mv 6), .ref (ad 3), .int (nI tp), .int (mv 7), .int (mv 8), .int (mv 9), .int (mv 10), .int ft, .int (mv 11), .ref (ad 4), .ref (ad 5), .ref (ad 6), .ref (ad 7), .ref (ad 8), .ref (ad 9), .ref (ad 10), .int fd]] := hD
      refine lv_iload hx hb dX6_read_223 (lv_at hl 7 rfl) ?_
      have hP := hP.sub (ws' := [oC ko 6 [.ref (ad 0), .ref (ad 1), .int (nI w), .int (nI h), .int (nI la), .ref (ad 2), .int (mv 0), .int (mv 1), .int (mv 2), .int (mv 3), .int (mv 4), .int (mv 5), .int (mv 6), .ref (ad 3), .int (nI tp), .int (mv 7), .int (mv 8), .int (mv 9), .int (mv 10), .int ft, .int (mv 11), .ref (ad 4), .ref (ad 5), .ref (ad 6), .ref (ad 7), .ref (ad 8), .ref (ad 9), .ref (ad 10), .int fd], iA G (ad 0) 255 S3, iA G (ad 8) 4 ml, iA G (ad 9) 4 ms, iA G (ad 10) 160 mc]) [4, 0, 2, 3, 1] rfl
      have hD := hD.sub (ws' := [oC ko 6 [.ref (ad 0), .ref (ad 1), .int (nI w), .int (nI h), .int (nI la), .ref (ad 2), .int (mv 0), .int (mv 1), .int (mv 2), .int (mv 3), .int (mv 4), .int (mv 5), .int (mv 6), .ref (ad 3), .int (nI tp), .int (mv 7), .int (mv 8), .int (mv 9), .int (mv 10), .int ft, .int (mv 11), .ref (ad 4), .ref (ad 5), .ref (ad 6), .ref (ad 7), .ref (ad 8), .ref (ad 9), .ref (ad 10), .int fd], iA G (ad 0) 255 S3, iA G (ad 8) 4 ml, iA G (ad 9) 4 ms, iA G (ad 10) 160 mc]) [4, 0, 2, 3, 1] (by decide) rfl
      refine W.iret (v := nI wl) hx hb hr (fun t ht hW => ⟨⟨nI wl, (S3, fd), rfl, ?_, by rw [ht]; exact hP, hD⟩, hS.F ht⟩) hS.2.2 dX6_read_225
      try dsimp only
      have hR : (rdM la (w * h) (rsM (ml j) lane zz f0) (fun i c => mc (40 * j + tn (f0 + nI (3 * i)) + c)) n 0 (nI 0) nc S) = (none, fd, n3, S3) := (by rw [hrd]; first | (rw [show n - i = 0 by omega, rdM]) | (rw [show n - i = (n - (i + 1)) + 1 by omega, rdM, if_neg b50])); rw [hR, hwl]; exact ⟨rfl, rfl, rfl⟩
    · skip
      refine lv_iload hx hb dX6_read_48 (lv_at hl 6 rfl) ?_
      refine lv_if_ne (tgt := 217) hx hb dX6_read_50 rfl (fun b50 => ?_) (fun b50 => ?_)
      · skip
        refine lv_aload_n hx hb dX6_read_217 rfl (lv_at hl 0 rfl) ?_
        refine lv_iload hx hb dX6_read_218 (lv_at hl 6 rfl) ?_
        refine va_put (D := G.1) (ci := 6) (v := .int fd) (ty := .int) (C := RX6) (T := TX6) (N := 29) hx hb hts hin6 tyX6 tyX6_ok nmX6 hown hK.1 hP hD hS 4 rfl rfl 28 (by decide) (hts (.fieldLink RX6 274 "BackLensesModel" "torn" "I") (List.mem_of_getElem? (i := 6) rfl)) (fun _ h9 => h9) rfl (by decide +kernel) rfl rfl (Nat.le_of_ble_eq_true rfl) dX6_read_220 (fun H locs hP hD hS => ?_)
        replace hP : xP G [iA G (ad 0) 255 S3, iA G (ad 10) 160 mc, iA G (ad 8) 4 ml, iA G (ad 9) 4 ms, oC ko 6 [.ref (ad 0), .ref (ad 1), .int (nI w), .int (nI h), .int (nI la), .ref (ad 2), .int (mv 0), .int (mv 1), .int (mv 2), .int (mv 3), .int (mv 4), .int (mv 5), .int (mv 6), .ref (ad 3), .int (nI tp), .int (mv 7), .int (mv 8), .int (mv 9), .int (mv 10), .int ft, .int (mv 11), .ref (ad 4), .ref (ad 5), .ref (ad 6), .ref (ad 7), .ref (ad 8), .ref (ad 9), .ref (ad 10), .int fd]] H := hP
        replace hD : va_D (va_A (w_X6_read G ko ad w h la tp ft tr mv S ml ms mc) ss.heap.size) [iA G (ad 0) 255 S3, iA G (ad 10) 160 mc, iA G (ad 8) 4 ml, iA G (ad 9) 4 ms, oC ko 6 [.ref (ad 0), .ref (ad 1), .int (nI w), .int (nI h), .int (nI la), .ref (ad 2), .int (mv 0), .int (mv 1), .int (mv 2), .int (mv 3), .int (mv 4), .int (mv 5), .int (mv 6), .ref (ad 3), .int (nI tp), .int (mv 7), .int (mv 8), .int (mv 9), .int (mv 10), .int ft, .int (mv 11), .ref (ad 4), .ref (ad 5), .ref (ad 6), .ref (ad 7), .ref (ad 8), .ref (ad 9), .ref (ad 10), .int fd]] := hD
        refine lv_iload hx hb dX6_read_223 (lv_at hl 7 rfl) ?_
        have hP := hP.sub (ws' := [oC ko 6 [.ref (ad 0), .ref (ad 1), .int (nI w), .int (nI h), .int (nI la), .ref (ad 2), .int (mv 0), .int (mv 1), .int (mv 2), .int (mv 3), .int (mv 4), .int (mv 5), .int (mv 6), .ref (ad 3), .int (nI tp), .int (mv 7), .int (mv 8), .int (mv 9), .int (mv 10), .int ft, .int (mv 11), .ref (ad 4), .ref (ad 5), .ref (ad 6), .ref (ad 7), .ref (ad 8), .ref (ad 9), .ref (ad 10), .int fd], iA G (ad 0) 255 S3, iA G (ad 8) 4 ml, iA G (ad 9) 4 ms, iA G (ad 10) 160 mc]) [4, 0, 2, 3, 1] rfl
        have hD := hD.sub (ws' := [oC ko 6 [.ref (ad 0), .ref (ad 1), .int (nI w), .int (nI h), .int (nI la), .ref (ad 2), .int (mv 0), .int (mv 1), .int (mv 2), .int (mv 3), .int (mv 4), .int (mv 5), .int (mv 6), .ref (ad 3), .int (nI tp), .int (mv 7), .int (mv 8), .int (mv 9), .int (mv 10), .int ft, .int (mv 11), .ref (ad 4), .ref (ad 5), .ref (ad 6), .ref (ad 7), .ref (ad 8), .ref (ad 9), .ref (ad 10), .int fd], iA G (ad 0) 255 S3, iA G (ad 8) 4 ml, iA G (ad 9) 4 ms, iA G (ad 10) 160 mc]) [4, 0, 2, 3, 1] (by decide) rfl
        refine W.iret (v := nI wl) hx hb hr (fun t ht hW => ⟨⟨nI wl, (S3, fd), rfl, ?_, by rw [ht]; exact hP, hD⟩, hS.F ht⟩) hS.2.2 dX6_read_225
        try dsimp only
        have hR : (rdM la (w * h) (rsM (ml j) lane zz f0) (fun i c => mc (40 * j + tn (f0 + nI (3 * i)) + c)) n 0 (nI 0) nc S) = (none, fd, n3, S3) := (by rw [hrd]; first | (rw [show n - i = 0 by omega, rdM]) | (rw [show n - i = (n - (i + 1)) + 1 by omega, rdM, if_neg b50])); rw [hR, hwl]; exact ⟨rfl, rfl, rfl⟩
      · skip
        refine lv_iconst (v := nI 0) hx hb dX6_read_53 (by decide) ?_
        refine lv_istore (lv' := [(9, .int (nI 0)), (0, .ref ko), (1, .int (nI j)), (2, .int lane), (3, .int f0), (4, .int (nI n)), (5, .int (nI nc)), (6, .int fd), (7, .int (nI wl)), (8, .int (nI i))]) hx hb dX6_read_54 hl (by decide) rfl (fun ls hl => ?_)
        refine lv_iload hx hb dX6_read_56 (lv_at hl 0 rfl) ?_
        refine lv_iconst (v := nI 3) hx hb dX6_read_58 (by decide) ?_
        refine xn_icmp_ge (tgt := 143) hx hb (by omega) (by omega) dX6_read_59 rfl (fun b59 => absurd b59 (by omega)) (fun _ => ?_)
        refine lv_iload hx hb dX6_read_62 (lv_at hl 7 rfl) ?_
        refine lv_if_ne (tgt := 143) hx hb dX6_read_64 rfl (fun b64 => ?_) (fun b64 => ?_)
        · skip
          exact absurd b50 b64
        · skip
          refine lv_iload_n hx hb dX6_read_67 rfl (lv_at hl 4 rfl) ?_
          refine xi_i2l hx hb dX6_read_68 ?_
          refine lv_iconst (v := nI 3) hx hb dX6_read_69 (by decide) ?_
          refine lv_iload hx hb dX6_read_70 (lv_at hl 9 rfl) ?_
          refine xn_imul hx hb dX6_read_72 ?_
          refine xn_i2l hx hb (by omega) dX6_read_73 ?_
          refine lv_ladd hx hb dX6_read_74 ?_
          refine lv_iload hx hb dX6_read_75 (lv_at hl 0 rfl) ?_
          refine xn_i2l hx hb (by omega) dX6_read_77 ?_
          refine lv_ladd hx hb dX6_read_78 ?_
          refine lv_lstore (lv' := [(10, .long ((f0.toInt64 + (lN (3 * i))) + (lN 0))), (9, .int (nI 0)), (0, .ref ko), (1, .int (nI j)), (2, .int lane), (3, .int f0), (4, .int (nI n)), (5, .int (nI nc)), (6, .int fd), (7, .int (nI wl)), (8, .int (nI i))]) hx hb dX6_read_79 hl (by decide) rfl (fun ls hl => ?_)
          refine lv_aload_n hx hb dX6_read_81 rfl (lv_at hl 2 rfl) ?_
          refine va_get (D := G.1) (ci := 6) (v := .ref (ad 8)) (C := RX6) (T := TX6) (N := 29) hx hb hts hin6 hown hK.1 hP 4 rfl rfl 25 (by decide) (hts (.fieldLink RX6 35 "BackLensesModel" "lanes" "[I") (List.mem_of_getElem? (i := 3) rfl)) (fun _ h9 => h9) rfl dX6_read_82 ?_
          refine lv_iload_n hx hb dX6_read_85 rfl (lv_at hl 3 rfl) ?_
          refine xn_iald hx hb hK hP 2 rfl (by omega) (by omega) dX6_read_86 ?_
          refine lv_bipush (v := (-4)) hx hb dX6_read_87 (by decide) ?_
          refine lv_icmp_ne (tgt := 96) hx hb dX6_read_89 rfl (fun b89 => ?_) (fun b89 => ?_)
          · skip
            have hl4 := b89
            refine lv_aload_n hx hb dX6_read_96 rfl (lv_at hl 2 rfl) ?_
            refine va_get (D := G.1) (ci := 6) (v := .ref (ad 8)) (C := RX6) (T := TX6) (N := 29) hx hb hts hin6 hown hK.1 hP 4 rfl rfl 25 (by decide) (hts (.fieldLink RX6 35 "BackLensesModel" "lanes" "[I") (List.mem_of_getElem? (i := 3) rfl)) (fun _ h9 => h9) rfl dX6_read_97 ?_
            refine lv_iload_n hx hb dX6_read_100 rfl (lv_at hl 3 rfl) ?_
            refine xn_iald hx hb hK hP 2 rfl (by omega) (by omega) dX6_read_101 ?_
            refine lv_iload_n hx hb dX6_read_102 rfl (lv_at hl 4 rfl) ?_
            refine lv_icmp_eq (tgt := 110) hx hb dX6_read_103 rfl (fun b103 => ?_) (fun b103 => ?_)
            · skip
              have hln := b103
              refine lv_lload hx hb dX6_read_110 (lv_at hl 0 rfl) ?_
              refine lv_lconst (v := lN 0) hx hb dX6_read_112 (by decide) ?_
              refine W.lcmp hx hb dX6_read_113 ?_
              refine xl_if_lt (tgt := 130) hx hb dX6_read_114 rfl (fun b114 => ?_) (fun b114 => ?_)
              · skip
                have hpo : f0.toInt + ((3 * i : Nat) : Int) + 0 < 0 ∨ (zz : Int) ≤ f0.toInt + ((3 * i : Nat) : Int) + 0 := Or.inl (by rw [pL (by omega) (by omega), lN_toInt' (by omega)] at b114; omega)
                refine lv_iconst (v := nI 2) hx hb dX6_read_130 (by decide) ?_
                refine lv_goto (tgt := 135) hx hb dX6_read_131 rfl ?_
                refine lv_istore (lv' := [(6, .int (nI 2)), (10, .long ((f0.toInt64 + (lN (3 * i))) + (lN 0))), (9, .int (nI 0)), (0, .ref ko), (1, .int (nI j)), (2, .int lane), (3, .int f0), (4, .int (nI n)), (5, .int (nI nc)), (7, .int (nI wl)), (8, .int (nI i))]) hx hb dX6_read_135 hl (by decide) rfl (fun ls hl => ?_)
                refine lv_iinc (k := 2) (v := nI 1) (lv' := [(9, .int (nI 1)), (6, .int (nI 2)), (10, .long ((f0.toInt64 + (lN (3 * i))) + (lN 0))), (0, .ref ko), (1, .int (nI j)), (2, .int lane), (3, .int f0), (4, .int (nI n)), (5, .int (nI nc)), (7, .int (nI wl)), (8, .int (nI i))]) hx hb dX6_read_137 hl rfl (xn_inc 0 1) (by decide) rfl (fun ls hl => ?_)
                refine lv_goto (tgt := 56) hx hb dX6_read_140 rfl ?_
                refine lv_iload hx hb dX6_read_56 (lv_at hl 0 rfl) ?_
                refine lv_iconst (v := nI 3) hx hb dX6_read_58 (by decide) ?_
                refine xn_icmp_ge (tgt := 143) hx hb (by omega) (by omega) dX6_read_59 rfl (fun b59 => absurd b59 (by omega)) (fun _ => ?_)
                refine lv_iload hx hb dX6_read_62 (lv_at hl 1 rfl) ?_
                refine xn_if_ne (tgt := 143) hx hb (by omega) dX6_read_64 rfl (fun _ => ?_) (fun b64 => absurd b64 (by omega))
                have hrs : rsM (ml j) lane zz f0 i = nI 2 := (if_neg hl4).trans ((if_neg (fun q => q hln)).trans (if_neg (by omega)))
                refine lv_iload hx hb dX6_read_143 (lv_at hl 1 rfl) ?_
                refine xn_if_ne (tgt := 211) hx hb (by omega) dX6_read_145 rfl (fun _ => ?_) (fun b145 => absurd b145 (by omega))
                refine lv_iinc (k := 10) (v := nI (i + 1)) (lv' := [(8, .int (nI (i + 1))), (9, .int (nI 1)), (6, .int (nI 2)), (10, .long ((f0.toInt64 + (lN (3 * i))) + (lN 0))), (0, .ref ko), (1, .int (nI j)), (2, .int lane), (3, .int f0), (4, .int (nI n)), (5, .int (nI nc)), (7, .int (nI wl))]) hx hb dX6_read_211 hl rfl (xn_inc i 1) (by decide) rfl (fun ls hl => ?_)
                refine lv_goto (tgt := 41) hx hb dX6_read_214 rfl ?_
                have hl := lv_sub hl (l' := [(0, .ref ko), (1, .int (nI j)), (2, .int lane), (3, .int f0), (4, .int (nI n)), (5, .int (nI nc)), (6, .int (nI 2)), (7, .int (nI wl)), (8, .int (nI (i + 1)))]) [4, 5, 6, 7, 8, 9, 2, 10, 0] rfl
                exact ih41 (n - (i + 1)) (by omega) (i + 1) (nI 2) wl n3 S3 ls H locs rfl (by omega) (by omega) (by omega) (by omega) (by first | exact upd_eq | exact hs3) (by rw [hrd, show n - i = (n - (i + 1)) + 1 by omega, rdM, if_pos b50]; first | (rw [if_pos (show rsM (ml j) lane zz f0 i = 0 from hrs), ea, tn_nI (by omega)]; exact if_pos hok) | (rw [if_neg (by rw [hrs]; decide), hrs])) hl hP hD hS
              · skip
                have hpa0 : 0 ≤ f0.toInt + ((3 * i : Nat) : Int) + 0 := (by rw [pL (by omega) (by omega), lN_toInt' (by omega)] at b114; omega)
                refine lv_lload hx hb dX6_read_117 (lv_at hl 0 rfl) ?_
                refine lv_aload_n hx hb dX6_read_119 rfl (lv_at hl 2 rfl) ?_
                refine va_get (D := G.1) (ci := 6) (v := .ref (ad 9)) (C := RX6) (T := TX6) (N := 29) hx hb hts hin6 hown hK.1 hP 4 rfl rfl 26 (by decide) (hts (.fieldLink RX6 38 "BackLensesModel" "sizes" "[I") (List.mem_of_getElem? (i := 4) rfl)) (fun _ h9 => h9) rfl dX6_read_120 ?_
                refine lv_iload_n hx hb dX6_read_123 rfl (lv_at hl 3 rfl) ?_
                refine xn_iald hx hb hK hP 3 rfl (by omega) (by omega) dX6_read_124 ?_
                refine xn_top (y := nI zz) (by exact hms) ?_
                refine xn_i2l hx hb (by omega) dX6_read_125 ?_
                refine W.lcmp hx hb dX6_read_126 ?_
                refine xl_if_lt (tgt := 134) hx hb dX6_read_127 rfl (fun b127 => ?_) (fun b127 => ?_)
                · skip
                  have hpb0 : f0.toInt + ((3 * i : Nat) : Int) + 0 < (zz : Int) := (by rw [pL (by omega) (by omega), lN_toInt' (by omega)] at b127; omega)
                  refine lv_iconst (v := nI 0) hx hb dX6_read_134 (by decide) ?_
                  refine lv_istore (lv' := [(6, .int (nI 0)), (10, .long ((f0.toInt64 + (lN (3 * i))) + (lN 0))), (9, .int (nI 0)), (0, .ref ko), (1, .int (nI j)), (2, .int lane), (3, .int f0), (4, .int (nI n)), (5, .int (nI nc)), (7, .int (nI wl)), (8, .int (nI i))]) hx hb dX6_read_135 hl (by decide) rfl (fun ls hl => ?_)
                  refine lv_iinc (k := 2) (v := nI 1) (lv' := [(9, .int (nI 1)), (6, .int (nI 0)), (10, .long ((f0.toInt64 + (lN (3 * i))) + (lN 0))), (0, .ref ko), (1, .int (nI j)), (2, .int lane), (3, .int f0), (4, .int (nI n)), (5, .int (nI nc)), (7, .int (nI wl)), (8, .int (nI i))]) hx hb dX6_read_137 hl rfl (xn_inc 0 1) (by decide) rfl (fun ls hl => ?_)
                  refine lv_goto (tgt := 56) hx hb dX6_read_140 rfl ?_
                  refine lv_iload hx hb dX6_read_56 (lv_at hl 0 rfl) ?_
                  refine lv_iconst (v := nI 3) hx hb dX6_read_58 (by decide) ?_
                  refine xn_icmp_ge (tgt := 143) hx hb (by omega) (by omega) dX6_read_59 rfl (fun b59 => absurd b59 (by omega)) (fun _ => ?_)
                  refine lv_iload hx hb dX6_read_62 (lv_at hl 1 rfl) ?_
                  refine xn_if_ne (tgt := 143) hx hb (by omega) dX6_read_64 rfl (fun b64 => absurd b64 (by omega)) (fun _ => ?_)
                  refine lv_iload_n hx hb dX6_read_67 rfl (lv_at hl 6 rfl) ?_
                  refine xi_i2l hx hb dX6_read_68 ?_
                  refine lv_iconst (v := nI 3) hx hb dX6_read_69 (by decide) ?_
                  refine lv_iload hx hb dX6_read_70 (lv_at hl 10 rfl) ?_
                  refine xn_imul hx hb dX6_read_72 ?_
                  refine xn_i2l hx hb (by omega) dX6_read_73 ?_
                  refine lv_ladd hx hb dX6_read_74 ?_
                  refine lv_iload hx hb dX6_read_75 (lv_at hl 0 rfl) ?_
                  refine xn_i2l hx hb (by omega) dX6_read_77 ?_
                  refine lv_ladd hx hb dX6_read_78 ?_
                  refine lv_lstore (lv' := [(10, .long ((f0.toInt64 + (lN (3 * i))) + (lN 1))), (9, .int (nI 1)), (6, .int (nI 0)), (0, .ref ko), (1, .int (nI j)), (2, .int lane), (3, .int f0), (4, .int (nI n)), (5, .int (nI nc)), (7, .int (nI wl)), (8, .int (nI i))]) hx hb dX6_read_79 hl (by decide) rfl (fun ls hl => ?_)
                  refine lv_aload_n hx hb dX6_read_81 rfl (lv_at hl 3 rfl) ?_
                  refine va_get (D := G.1) (ci := 6) (v := .ref (ad 8)) (C := RX6) (T := TX6) (N := 29) hx hb hts hin6 hown hK.1 hP 4 rfl rfl 25 (by decide) (hts (.fieldLink RX6 35 "BackLensesModel" "lanes" "[I") (List.mem_of_getElem? (i := 3) rfl)) (fun _ h9 => h9) rfl dX6_read_82 ?_
                  refine lv_iload_n hx hb dX6_read_85 rfl (lv_at hl 4 rfl) ?_
                  refine xn_iald hx hb hK hP 2 rfl (by omega) (by omega) dX6_read_86 ?_
                  refine lv_bipush (v := (-4)) hx hb dX6_read_87 (by decide) ?_
                  refine lv_icmp_ne (tgt := 96) hx hb dX6_read_89 rfl (fun b89 => ?_) (fun b89 => ?_)
                  · skip
                    refine lv_aload_n hx hb dX6_read_96 rfl (lv_at hl 3 rfl) ?_
                    refine va_get (D := G.1) (ci := 6) (v := .ref (ad 8)) (C := RX6) (T := TX6) (N := 29) hx hb hts hin6 hown hK.1 hP 4 rfl rfl 25 (by decide) (hts (.fieldLink RX6 35 "BackLensesModel" "lanes" "[I") (List.mem_of_getElem? (i := 3) rfl)) (fun _ h9 => h9) rfl dX6_read_97 ?_
                    refine lv_iload_n hx hb dX6_read_100 rfl (lv_at hl 4 rfl) ?_
                    refine xn_iald hx hb hK hP 2 rfl (by omega) (by omega) dX6_read_101 ?_
                    refine lv_iload_n hx hb dX6_read_102 rfl (lv_at hl 5 rfl) ?_
                    refine lv_icmp_eq (tgt := 110) hx hb dX6_read_103 rfl (fun b103 => ?_) (fun b103 => ?_)
                    · skip
                      refine lv_lload hx hb dX6_read_110 (lv_at hl 0 rfl) ?_
                      refine lv_lconst (v := lN 0) hx hb dX6_read_112 (by decide) ?_
                      refine W.lcmp hx hb dX6_read_113 ?_
                      refine xl_if_lt (tgt := 130) hx hb dX6_read_114 rfl (fun b114 => ?_) (fun b114 => ?_)
                      · skip
                        have hpo : f0.toInt + ((3 * i : Nat) : Int) + 1 < 0 ∨ (zz : Int) ≤ f0.toInt + ((3 * i : Nat) : Int) + 1 := Or.inl (by rw [pL (by omega) (by omega), lN_toInt' (by omega)] at b114; omega)
                        refine lv_iconst (v := nI 2) hx hb dX6_read_130 (by decide) ?_
                        refine lv_goto (tgt := 135) hx hb dX6_read_131 rfl ?_
                        refine lv_istore (lv' := [(6, .int (nI 2)), (10, .long ((f0.toInt64 + (lN (3 * i))) + (lN 1))), (9, .int (nI 1)), (0, .ref ko), (1, .int (nI j)), (2, .int lane), (3, .int f0), (4, .int (nI n)), (5, .int (nI nc)), (7, .int (nI wl)), (8, .int (nI i))]) hx hb dX6_read_135 hl (by decide) rfl (fun ls hl => ?_)
                        refine lv_iinc (k := 2) (v := nI 2) (lv' := [(9, .int (nI 2)), (6, .int (nI 2)), (10, .long ((f0.toInt64 + (lN (3 * i))) + (lN 1))), (0, .ref ko), (1, .int (nI j)), (2, .int lane), (3, .int f0), (4, .int (nI n)), (5, .int (nI nc)), (7, .int (nI wl)), (8, .int (nI i))]) hx hb dX6_read_137 hl rfl (xn_inc 1 1) (by decide) rfl (fun ls hl => ?_)
                        refine lv_goto (tgt := 56) hx hb dX6_read_140 rfl ?_
                        refine lv_iload hx hb dX6_read_56 (lv_at hl 0 rfl) ?_
                        refine lv_iconst (v := nI 3) hx hb dX6_read_58 (by decide) ?_
                        refine xn_icmp_ge (tgt := 143) hx hb (by omega) (by omega) dX6_read_59 rfl (fun b59 => absurd b59 (by omega)) (fun _ => ?_)
                        refine lv_iload hx hb dX6_read_62 (lv_at hl 1 rfl) ?_
                        refine xn_if_ne (tgt := 143) hx hb (by omega) dX6_read_64 rfl (fun _ => ?_) (fun b64 => absurd b64 (by omega))
                        have hrs : rsM (ml j) lane zz f0 i = nI 2 := (if_neg hl4).trans ((if_neg (fun q => q hln)).trans (if_neg (by omega)))
                        refine lv_iload hx hb dX6_read_143 (lv_at hl 1 rfl) ?_
                        refine xn_if_ne (tgt := 211) hx hb (by omega) dX6_read_145 rfl (fun _ => ?_) (fun b145 => absurd b145 (by omega))
                        refine lv_iinc (k := 10) (v := nI (i + 1)) (lv' := [(8, .int (nI (i + 1))), (9, .int (nI 2)), (6, .int (nI 2)), (10, .long ((f0.toInt64 + (lN (3 * i))) + (lN 1))), (0, .ref ko), (1, .int (nI j)), (2, .int lane), (3, .int f0), (4, .int (nI n)), (5, .int (nI nc)), (7, .int (nI wl))]) hx hb dX6_read_211 hl rfl (xn_inc i 1) (by decide) rfl (fun ls hl => ?_)
                        refine lv_goto (tgt := 41) hx hb dX6_read_214 rfl ?_
                        have hl := lv_sub hl (l' := [(0, .ref ko), (1, .int (nI j)), (2, .int lane), (3, .int f0), (4, .int (nI n)), (5, .int (nI nc)), (6, .int (nI 2)), (7, .int (nI wl)), (8, .int (nI (i + 1)))]) [4, 5, 6, 7, 8, 9, 2, 10, 0] rfl
                        exact ih41 (n - (i + 1)) (by omega) (i + 1) (nI 2) wl n3 S3 ls H locs rfl (by omega) (by omega) (by omega) (by omega) (by first | exact upd_eq | exact hs3) (by rw [hrd, show n - i = (n - (i + 1)) + 1 by omega, rdM, if_pos b50]; first | (rw [if_pos (show rsM (ml j) lane zz f0 i = 0 from hrs), ea, tn_nI (by omega)]; exact if_pos hok) | (rw [if_neg (by rw [hrs]; decide), hrs])) hl hP hD hS
                      · skip
                        have hpa1 : 0 ≤ f0.toInt + ((3 * i : Nat) : Int) + 1 := (by rw [pL (by omega) (by omega), lN_toInt' (by omega)] at b114; omega)
                        refine lv_lload hx hb dX6_read_117 (lv_at hl 0 rfl) ?_
                        refine lv_aload_n hx hb dX6_read_119 rfl (lv_at hl 3 rfl) ?_
                        refine va_get (D := G.1) (ci := 6) (v := .ref (ad 9)) (C := RX6) (T := TX6) (N := 29) hx hb hts hin6 hown hK.1 hP 4 rfl rfl 26 (by decide) (hts (.fieldLink RX6 38 "BackLensesModel" "sizes" "[I") (List.mem_of_getElem? (i := 4) rfl)) (fun _ h9 => h9) rfl dX6_read_120 ?_
                        refine lv_iload_n hx hb dX6_read_123 rfl (lv_at hl 4 rfl) ?_
                        refine xn_iald hx hb hK hP 3 rfl (by omega) (by omega) dX6_read_124 ?_
                        refine xn_top (y := nI zz) (by exact hms) ?_
                        refine xn_i2l hx hb (by omega) dX6_read_125 ?_
                        refine W.lcmp hx hb dX6_read_126 ?_
                        refine xl_if_lt (tgt := 134) hx hb dX6_read_127 rfl (fun b127 => ?_) (fun b127 => ?_)
                        · skip
                          have hpb1 : f0.toInt + ((3 * i : Nat) : Int) + 1 < (zz : Int) := (by rw [pL (by omega) (by omega), lN_toInt' (by omega)] at b127; omega)
                          refine lv_iconst (v := nI 0) hx hb dX6_read_134 (by decide) ?_
                          refine lv_istore (lv' := [(6, .int (nI 0)), (10, .long ((f0.toInt64 + (lN (3 * i))) + (lN 1))), (9, .int (nI 1)), (0, .ref ko), (1, .int (nI j)), (2, .int lane), (3, .int f0), (4, .int (nI n)), (5, .int (nI nc)), (7, .int (nI wl)), (8, .int (nI i))]) hx hb dX6_read_135 hl (by decide) rfl (fun ls hl => ?_)
                          refine lv_iinc (k := 2) (v := nI 2) (lv' := [(9, .int (nI 2)), (6, .int (nI 0)), (10, .long ((f0.toInt64 + (lN (3 * i))) + (lN 1))), (0, .ref ko), (1, .int (nI j)), (2, .int lane), (3, .int f0), (4, .int (nI n)), (5, .int (nI nc)), (7, .int (nI wl)), (8, .int (nI i))]) hx hb dX6_read_137 hl rfl (xn_inc 1 1) (by decide) rfl (fun ls hl => ?_)
                          refine lv_goto (tgt := 56) hx hb dX6_read_140 rfl ?_
                          refine lv_iload hx hb dX6_read_56 (lv_at hl 0 rfl) ?_
                          refine lv_iconst (v := nI 3) hx hb dX6_read_58 (by decide) ?_
                          refine xn_icmp_ge (tgt := 143) hx hb (by omega) (by omega) dX6_read_59 rfl (fun b59 => absurd b59 (by omega)) (fun _ => ?_)
                          refine lv_iload hx hb dX6_read_62 (lv_at hl 1 rfl) ?_
                          refine xn_if_ne (tgt := 143) hx hb (by omega) dX6_read_64 rfl (fun b64 => absurd b64 (by omega)) (fun _ => ?_)
                          refine lv_iload_n hx hb dX6_read_67 rfl (lv_at hl 6 rfl) ?_
                          refine xi_i2l hx hb dX6_read_68 ?_
                          refine lv_iconst (v := nI 3) hx hb dX6_read_69 (by decide) ?_
                          refine lv_iload hx hb dX6_read_70 (lv_at hl 10 rfl) ?_
                          refine xn_imul hx hb dX6_read_72 ?_
                          refine xn_i2l hx hb (by omega) dX6_read_73 ?_
                          refine lv_ladd hx hb dX6_read_74 ?_
                          refine lv_iload hx hb dX6_read_75 (lv_at hl 0 rfl) ?_
                          refine xn_i2l hx hb (by omega) dX6_read_77 ?_
                          refine lv_ladd hx hb dX6_read_78 ?_
                          refine lv_lstore (lv' := [(10, .long ((f0.toInt64 + (lN (3 * i))) + (lN 2))), (9, .int (nI 2)), (6, .int (nI 0)), (0, .ref ko), (1, .int (nI j)), (2, .int lane), (3, .int f0), (4, .int (nI n)), (5, .int (nI nc)), (7, .int (nI wl)), (8, .int (nI i))]) hx hb dX6_read_79 hl (by decide) rfl (fun ls hl => ?_)
                          refine lv_aload_n hx hb dX6_read_81 rfl (lv_at hl 3 rfl) ?_
                          refine va_get (D := G.1) (ci := 6) (v := .ref (ad 8)) (C := RX6) (T := TX6) (N := 29) hx hb hts hin6 hown hK.1 hP 4 rfl rfl 25 (by decide) (hts (.fieldLink RX6 35 "BackLensesModel" "lanes" "[I") (List.mem_of_getElem? (i := 3) rfl)) (fun _ h9 => h9) rfl dX6_read_82 ?_
                          refine lv_iload_n hx hb dX6_read_85 rfl (lv_at hl 4 rfl) ?_
                          refine xn_iald hx hb hK hP 2 rfl (by omega) (by omega) dX6_read_86 ?_
                          refine lv_bipush (v := (-4)) hx hb dX6_read_87 (by decide) ?_
                          refine lv_icmp_ne (tgt := 96) hx hb dX6_read_89 rfl (fun b89 => ?_) (fun b89 => ?_)
                          · skip
                            refine lv_aload_n hx hb dX6_read_96 rfl (lv_at hl 3 rfl) ?_
                            refine va_get (D := G.1) (ci := 6) (v := .ref (ad 8)) (C := RX6) (T := TX6) (N := 29) hx hb hts hin6 hown hK.1 hP 4 rfl rfl 25 (by decide) (hts (.fieldLink RX6 35 "BackLensesModel" "lanes" "[I") (List.mem_of_getElem? (i := 3) rfl)) (fun _ h9 => h9) rfl dX6_read_97 ?_
                            refine lv_iload_n hx hb dX6_read_100 rfl (lv_at hl 4 rfl) ?_
                            refine xn_iald hx hb hK hP 2 rfl (by omega) (by omega) dX6_read_101 ?_
                            refine lv_iload_n hx hb dX6_read_102 rfl (lv_at hl 5 rfl) ?_
                            refine lv_icmp_eq (tgt := 110) hx hb dX6_read_103 rfl (fun b103 => ?_) (fun b103 => ?_)
                            · skip
                              refine lv_lload hx hb dX6_read_110 (lv_at hl 0 rfl) ?_
                              refine lv_lconst (v := lN 0) hx hb dX6_read_112 (by decide) ?_
                              refine W.lcmp hx hb dX6_read_113 ?_
                              refine xl_if_lt (tgt := 130) hx hb dX6_read_114 rfl (fun b114 => ?_) (fun b114 => ?_)
                              · skip
                                have hpo : f0.toInt + ((3 * i : Nat) : Int) + 2 < 0 ∨ (zz : Int) ≤ f0.toInt + ((3 * i : Nat) : Int) + 2 := Or.inl (by rw [pL (by omega) (by omega), lN_toInt' (by omega)] at b114; omega)
                                refine lv_iconst (v := nI 2) hx hb dX6_read_130 (by decide) ?_
                                refine lv_goto (tgt := 135) hx hb dX6_read_131 rfl ?_
                                refine lv_istore (lv' := [(6, .int (nI 2)), (10, .long ((f0.toInt64 + (lN (3 * i))) + (lN 2))), (9, .int (nI 2)), (0, .ref ko), (1, .int (nI j)), (2, .int lane), (3, .int f0), (4, .int (nI n)), (5, .int (nI nc)), (7, .int (nI wl)), (8, .int (nI i))]) hx hb dX6_read_135 hl (by decide) rfl (fun ls hl => ?_)
                                refine lv_iinc (k := 2) (v := nI 3) (lv' := [(9, .int (nI 3)), (6, .int (nI 2)), (10, .long ((f0.toInt64 + (lN (3 * i))) + (lN 2))), (0, .ref ko), (1, .int (nI j)), (2, .int lane), (3, .int f0), (4, .int (nI n)), (5, .int (nI nc)), (7, .int (nI wl)), (8, .int (nI i))]) hx hb dX6_read_137 hl rfl (xn_inc 2 1) (by decide) rfl (fun ls hl => ?_)
                                refine lv_goto (tgt := 56) hx hb dX6_read_140 rfl ?_
                                refine lv_iload hx hb dX6_read_56 (lv_at hl 0 rfl) ?_
                                refine lv_iconst (v := nI 3) hx hb dX6_read_58 (by decide) ?_
                                refine xn_icmp_ge (tgt := 143) hx hb (by omega) (by omega) dX6_read_59 rfl (fun _ => ?_) (fun b59 => absurd b59 (by omega))
                                have hrs : rsM (ml j) lane zz f0 i = nI 2 := (if_neg hl4).trans ((if_neg (fun q => q hln)).trans (if_neg (by omega)))
                                refine lv_iload hx hb dX6_read_143 (lv_at hl 1 rfl) ?_
                                refine xn_if_ne (tgt := 211) hx hb (by omega) dX6_read_145 rfl (fun _ => ?_) (fun b145 => absurd b145 (by omega))
                                refine lv_iinc (k := 10) (v := nI (i + 1)) (lv' := [(8, .int (nI (i + 1))), (9, .int (nI 3)), (6, .int (nI 2)), (10, .long ((f0.toInt64 + (lN (3 * i))) + (lN 2))), (0, .ref ko), (1, .int (nI j)), (2, .int lane), (3, .int f0), (4, .int (nI n)), (5, .int (nI nc)), (7, .int (nI wl))]) hx hb dX6_read_211 hl rfl (xn_inc i 1) (by decide) rfl (fun ls hl => ?_)
                                refine lv_goto (tgt := 41) hx hb dX6_read_214 rfl ?_
                                have hl := lv_sub hl (l' := [(0, .ref ko), (1, .int (nI j)), (2, .int lane), (3, .int f0), (4, .int (nI n)), (5, .int (nI nc)), (6, .int (nI 2)), (7, .int (nI wl)), (8, .int (nI (i + 1)))]) [4, 5, 6, 7, 8, 9, 2, 10, 0] rfl
                                exact ih41 (n - (i + 1)) (by omega) (i + 1) (nI 2) wl n3 S3 ls H locs rfl (by omega) (by omega) (by omega) (by omega) (by first | exact upd_eq | exact hs3) (by rw [hrd, show n - i = (n - (i + 1)) + 1 by omega, rdM, if_pos b50]; first | (rw [if_pos (show rsM (ml j) lane zz f0 i = 0 from hrs), ea, tn_nI (by omega)]; exact if_pos hok) | (rw [if_neg (by rw [hrs]; decide), hrs])) hl hP hD hS
                              · skip
                                have hpa2 : 0 ≤ f0.toInt + ((3 * i : Nat) : Int) + 2 := (by rw [pL (by omega) (by omega), lN_toInt' (by omega)] at b114; omega)
                                refine lv_lload hx hb dX6_read_117 (lv_at hl 0 rfl) ?_
                                refine lv_aload_n hx hb dX6_read_119 rfl (lv_at hl 3 rfl) ?_
                                refine va_get (D := G.1) (ci := 6) (v := .ref (ad 9)) (C := RX6) (T := TX6) (N := 29) hx hb hts hin6 hown hK.1 hP 4 rfl rfl 26 (by decide) (hts (.fieldLink RX6 38 "BackLensesModel" "sizes" "[I") (List.mem_of_getElem? (i := 4) rfl)) (fun _ h9 => h9) rfl dX6_read_120 ?_
                                refine lv_iload_n hx hb dX6_read_123 rfl (lv_at hl 4 rfl) ?_
                                refine xn_iald hx hb hK hP 3 rfl (by omega) (by omega) dX6_read_124 ?_
                                refine xn_top (y := nI zz) (by exact hms) ?_
                                refine xn_i2l hx hb (by omega) dX6_read_125 ?_
                                refine W.lcmp hx hb dX6_read_126 ?_
                                refine xl_if_lt (tgt := 134) hx hb dX6_read_127 rfl (fun b127 => ?_) (fun b127 => ?_)
                                · skip
                                  have hpb2 : f0.toInt + ((3 * i : Nat) : Int) + 2 < (zz : Int) := (by rw [pL (by omega) (by omega), lN_toInt' (by omega)] at b127; omega)
                                  refine lv_iconst (v := nI 0) hx hb dX6_read_134 (by decide) ?_
                                  refine lv_istore (lv' := [(6, .int (nI 0)), (10, .long ((f0.toInt64 + (lN (3 * i))) + (lN 2))), (9, .int (nI 2)), (0, .ref ko), (1, .int (nI j)), (2, .int lane), (3, .int f0), (4, .int (nI n)), (5, .int (nI nc)), (7, .int (nI wl)), (8, .int (nI i))]) hx hb dX6_read_135 hl (by decide) rfl (fun ls hl => ?_)
                                  refine lv_iinc (k := 2) (v := nI 3) (lv' := [(9, .int (nI 3)), (6, .int (nI 0)), (10, .long ((f0.toInt64 + (lN (3 * i))) + (lN 2))), (0, .ref ko), (1, .int (nI j)), (2, .int lane), (3, .int f0), (4, .int (nI n)), (5, .int (nI nc)), (7, .int (nI wl)), (8, .int (nI i))]) hx hb dX6_read_137 hl rfl (xn_inc 2 1) (by decide) rfl (fun ls hl => ?_)
                                  refine lv_goto (tgt := 56) hx hb dX6_read_140 rfl ?_
                                  refine lv_iload hx hb dX6_read_56 (lv_at hl 0 rfl) ?_
                                  refine lv_iconst (v := nI 3) hx hb dX6_read_58 (by decide) ?_
                                  refine xn_icmp_ge (tgt := 143) hx hb (by omega) (by omega) dX6_read_59 rfl (fun _ => ?_) (fun b59 => absurd b59 (by omega))
                                  have hrs : rsM (ml j) lane zz f0 i = nI 0 := (if_neg hl4).trans ((if_neg (fun q => q hln)).trans (if_pos ⟨by omega, by omega⟩))
                                  refine lv_iload hx hb dX6_read_143 (lv_at hl 1 rfl) ?_
                                  refine xn_if_ne (tgt := 211) hx hb (by omega) dX6_read_145 rfl (fun b145 => absurd b145 (by omega)) (fun _ => ?_)
                                  refine lv_bipush (v := nI 40) hx hb dX6_read_148 (by decide) ?_
                                  refine lv_iload_n hx hb dX6_read_150 rfl (lv_at hl 4 rfl) ?_
                                  refine xn_imul hx hb dX6_read_151 ?_
                                  refine lv_iload_n hx hb dX6_read_152 rfl (lv_at hl 6 rfl) ?_
                                  refine lv_iadd hx hb dX6_read_153 ?_
                                  refine lv_iconst (v := nI 3) hx hb dX6_read_154 (by decide) ?_
                                  refine lv_iload hx hb dX6_read_155 (lv_at hl 10 rfl) ?_
                                  refine xn_imul hx hb dX6_read_157 ?_
                                  refine lv_iadd hx hb dX6_read_158 ?_
                                  obtain ⟨a0, ha0, ea⟩ := aI (f0 := f0) (a := 3 * i) (z := zz) (by omega) (by omega) hzz (by omega)
                                  refine xn_top (y := nI (40 * j + a0)) (by rw [Int32.add_assoc, ea, nI_add]) ?_
                                  refine lv_istore (lv' := [(9, .int (nI (40 * j + a0))), (6, .int (nI 0)), (10, .long ((f0.toInt64 + (lN (3 * i))) + (lN 2))), (0, .ref ko), (1, .int (nI j)), (2, .int lane), (3, .int f0), (4, .int (nI n)), (5, .int (nI nc)), (7, .int (nI wl)), (8, .int (nI i))]) hx hb dX6_read_159 hl (by decide) rfl (fun ls hl => ?_)
                                  refine lv_aload_n hx hb dX6_read_161 rfl (lv_at hl 3 rfl) ?_
                                  refine lv_aload_n hx hb dX6_read_162 rfl (lv_at hl 3 rfl) ?_
                                  refine va_get (D := G.1) (ci := 6) (v := .ref (ad 10)) (C := RX6) (T := TX6) (N := 29) hx hb hts hin6 hown hK.1 hP 4 rfl rfl 27 (by decide) (hts (.fieldLink RX6 41 "BackLensesModel" "cells" "[I") (List.mem_of_getElem? (i := 5) rfl)) (fun _ h9 => h9) rfl dX6_read_163 ?_
                                  refine lv_iload hx hb dX6_read_166 (lv_at hl 0 rfl) ?_
                                  refine xn_iald hx hb hK hP 1 rfl (by omega) (by omega) dX6_read_168 ?_
                                  refine lv_aload_n hx hb dX6_read_169 rfl (lv_at hl 3 rfl) ?_
                                  refine va_get (D := G.1) (ci := 6) (v := .ref (ad 10)) (C := RX6) (T := TX6) (N := 29) hx hb hts hin6 hown hK.1 hP 4 rfl rfl 27 (by decide) (hts (.fieldLink RX6 41 "BackLensesModel" "cells" "[I") (List.mem_of_getElem? (i := 5) rfl)) (fun _ h9 => h9) rfl dX6_read_170 ?_
                                  refine lv_iload hx hb dX6_read_173 (lv_at hl 0 rfl) ?_
                                  refine lv_iconst (v := nI 1) hx hb dX6_read_175 (by decide) ?_
                                  refine xn_iadd hx hb dX6_read_176 ?_
                                  refine xn_iald hx hb hK hP 1 rfl (by omega) (by omega) dX6_read_177 ?_
                                  refine lv_aload_n hx hb dX6_read_178 rfl (lv_at hl 3 rfl) ?_
                                  refine va_get (D := G.1) (ci := 6) (v := .ref (ad 10)) (C := RX6) (T := TX6) (N := 29) hx hb hts hin6 hown hK.1 hP 4 rfl rfl 27 (by decide) (hts (.fieldLink RX6 41 "BackLensesModel" "cells" "[I") (List.mem_of_getElem? (i := 5) rfl)) (fun _ h9 => h9) rfl dX6_read_179 ?_
                                  refine lv_iload hx hb dX6_read_182 (lv_at hl 0 rfl) ?_
                                  refine lv_iconst (v := nI 2) hx hb dX6_read_184 (by decide) ?_
                                  refine xn_iadd hx hb dX6_read_185 ?_
                                  refine xn_iald hx hb hK hP 1 rfl (by omega) (by omega) dX6_read_186 ?_
                                  refine xw_i (As := [.int (mc (40 * j + a0)), .int (mc ((40 * j + a0) + 1)), .int (mc ((40 * j + a0) + 2))]) (rest := []) (wr := [iA G (ad 10) 160 mc, iA G (ad 8) 4 ml, iA G (ad 9) 4 ms]) ⟨hx, hb, hml, hown, hts⟩ (c_X6_turn l G H.size ko ad w h la tp ft tr mv S3 n3 (mc (40 * j + a0)) (mc ((40 * j + a0) + 1)) (mc ((40 * j + a0) + 2)) (by first | assumption | omega) (by first | assumption | omega) (by first | assumption | omega) (by first | assumption | omega) (by first | assumption | omega) (by first | assumption | omega) (by exact hs3) (by omega)) (cwV 3 hts gX6_read_X6_turn rfl rfl rfl (by decide +kernel) ⟨Nat.le_of_ble_eq_true rfl, Nat.le_of_ble_eq_true rfl⟩) hK hP hD hS hA [4, 0] [1, 2, 3] rfl rfl (by decide) (by decide) (by decide) rfl rfl rfl hl.1 rfl (Nat.le_of_ble_eq_true rfl) dX6_read_187 ⟨Nat.le_of_ble_eq_true rfl, Nat.le_of_ble_eq_true rfl⟩ (fun r187 u H locs hp187 hP hD hS => ?_)
                                  obtain ⟨u0_187, rfl⟩ : ∃ z, z = u := ⟨_, rfl⟩
                                  try dsimp only at hp187 hP hD
                                  obtain ⟨rfl, rfl⟩ := hp187
                                  replace hP : xP G [iA G (ad 10) 160 mc, iA G (ad 8) 4 ml, iA G (ad 9) 4 ms, oC ko 6 [.ref (ad 0), .ref (ad 1), .int (nI w), .int (nI h), .int (nI la), .ref (ad 2), .int (mv 0), .int (mv 1), .int (mv 2), .int (mv 3), .int (mv 4), .int (mv 5), .int (mv 6), .ref (ad 3), .int (nI tp), .int (mv 7), .int (mv 8), .int (mv 9), .int (mv 10), .int ft, .int (mv 11), .ref (ad 4), .ref (ad 5), .ref (ad 6), .ref (ad 7), .ref (ad 8), .ref (ad 9), .ref (ad 10), .int tr], iA G (ad 0) 255 (if (inR (mc (40 * j + a0)) (la + 1) ∧ inR (mc ((40 * j + a0) + 1)) (w * h) ∧ inR (mc ((40 * j + a0) + 2)) 6 ∧ n3 < 10) then add3 S3 (17 + 3 * n3) 16 (mc (40 * j + a0)) (mc ((40 * j + a0) + 1)) (mc ((40 * j + a0) + 2)) (n3 + 1) else S3)] H := hP
                                  replace hD : va_D (va_A (w_X6_read G ko ad w h la tp ft tr mv S ml ms mc) ss.heap.size) [iA G (ad 10) 160 mc, iA G (ad 8) 4 ml, iA G (ad 9) 4 ms, oC ko 6 [.ref (ad 0), .ref (ad 1), .int (nI w), .int (nI h), .int (nI la), .ref (ad 2), .int (mv 0), .int (mv 1), .int (mv 2), .int (mv 3), .int (mv 4), .int (mv 5), .int (mv 6), .ref (ad 3), .int (nI tp), .int (mv 7), .int (mv 8), .int (mv 9), .int (mv 10), .int ft, .int (mv 11), .ref (ad 4), .ref (ad 5), .ref (ad 6), .ref (ad 7), .ref (ad 8), .ref (ad 9), .ref (ad 10), .int tr], iA G (ad 0) 255 (if (inR (mc (40 * j + a0)) (la + 1) ∧ inR (mc ((40 * j + a0) + 1)) (w * h) ∧ inR (mc ((40 * j + a0) + 2)) 6 ∧ n3 < 10) then add3 S3 (17 + 3 * n3) 16 (mc (40 * j + a0)) (mc ((40 * j + a0) + 1)) (mc ((40 * j + a0) + 2)) (n3 + 1) else S3)] := hD
                                  refine xi_if_ge (tgt := 208) hx hb dX6_read_190 rfl (fun b190 => ?_) (fun b190 => ?_)
                                  · skip
                                    have hok : (inR (mc (40 * j + a0)) (la + 1) ∧ inR (mc (40 * j + a0 + 1)) (w * h) ∧ inR (mc (40 * j + a0 + 2)) 6 ∧ n3 < 10) := (by obtain ⟨q, q4⟩ := tk_ok b190; exact ⟨q.1, q.2.1, q.2.2, q4⟩)
                                    rw [if_pos hok] at hP hD
                                    refine lv_iinc (k := 9) (v := nI (wl + 1)) (lv' := [(7, .int (nI (wl + 1))), (9, .int (nI (40 * j + a0))), (6, .int (nI 0)), (10, .long ((f0.toInt64 + (lN (3 * i))) + (lN 2))), (0, .ref ko), (1, .int (nI j)), (2, .int lane), (3, .int f0), (4, .int (nI n)), (5, .int (nI nc)), (8, .int (nI i))]) hx hb dX6_read_208 hl rfl (xn_inc wl 1) (by decide) rfl (fun ls hl => ?_)
                                    refine lv_iinc (k := 10) (v := nI (i + 1)) (lv' := [(8, .int (nI (i + 1))), (7, .int (nI (wl + 1))), (9, .int (nI (40 * j + a0))), (6, .int (nI 0)), (10, .long ((f0.toInt64 + (lN (3 * i))) + (lN 2))), (0, .ref ko), (1, .int (nI j)), (2, .int lane), (3, .int f0), (4, .int (nI n)), (5, .int (nI nc))]) hx hb dX6_read_211 hl rfl (xn_inc i 1) (by decide) rfl (fun ls hl => ?_)
                                    refine lv_goto (tgt := 41) hx hb dX6_read_214 rfl ?_
                                    have hl := lv_sub hl (l' := [(0, .ref ko), (1, .int (nI j)), (2, .int lane), (3, .int f0), (4, .int (nI n)), (5, .int (nI nc)), (6, .int (nI 0)), (7, .int (nI (wl + 1))), (8, .int (nI (i + 1)))]) [5, 6, 7, 8, 9, 10, 3, 1, 0] rfl
                                    have hP := hP.sub (ws' := [iA G (ad 0) 255 (add3 S3 (17 + 3 * n3) 16 (mc (40 * j + a0)) (mc (40 * j + a0 + 1)) (mc (40 * j + a0 + 2)) (n3 + 1)), iA G (ad 10) 160 mc, iA G (ad 8) 4 ml, iA G (ad 9) 4 ms, oC ko 6 [.ref (ad 0), .ref (ad 1), .int (nI w), .int (nI h), .int (nI la), .ref (ad 2), .int (mv 0), .int (mv 1), .int (mv 2), .int (mv 3), .int (mv 4), .int (mv 5), .int (mv 6), .ref (ad 3), .int (nI tp), .int (mv 7), .int (mv 8), .int (mv 9), .int (mv 10), .int ft, .int (mv 11), .ref (ad 4), .ref (ad 5), .ref (ad 6), .ref (ad 7), .ref (ad 8), .ref (ad 9), .ref (ad 10), .int tr]]) [4, 0, 1, 2, 3] rfl
                                    have hD := hD.sub (ws' := [iA G (ad 0) 255 (add3 S3 (17 + 3 * n3) 16 (mc (40 * j + a0)) (mc (40 * j + a0 + 1)) (mc (40 * j + a0 + 2)) (n3 + 1)), iA G (ad 10) 160 mc, iA G (ad 8) 4 ml, iA G (ad 9) 4 ms, oC ko 6 [.ref (ad 0), .ref (ad 1), .int (nI w), .int (nI h), .int (nI la), .ref (ad 2), .int (mv 0), .int (mv 1), .int (mv 2), .int (mv 3), .int (mv 4), .int (mv 5), .int (mv 6), .ref (ad 3), .int (nI tp), .int (mv 7), .int (mv 8), .int (mv 9), .int (mv 10), .int ft, .int (mv 11), .ref (ad 4), .ref (ad 5), .ref (ad 6), .ref (ad 7), .ref (ad 8), .ref (ad 9), .ref (ad 10), .int tr]]) [4, 0, 1, 2, 3] (by decide) rfl
                                    exact ih41 (n - (i + 1)) (by omega) (i + 1) (nI 0) (wl + 1) (n3 + 1) (add3 S3 (17 + 3 * n3) 16 (mc (40 * j + a0)) (mc (40 * j + a0 + 1)) (mc (40 * j + a0 + 2)) (n3 + 1)) ls H locs rfl (by omega) (by omega) (by omega) (by omega) (by first | exact upd_eq | exact hs3) (by rw [hrd, show n - i = (n - (i + 1)) + 1 by omega, rdM, if_pos b50]; first | (rw [if_pos (show rsM (ml j) lane zz f0 i = 0 from hrs), ea, tn_nI (by omega)]; exact if_pos hok) | (rw [if_neg (by rw [hrs]; decide), hrs])) hl hP hD hS
                                  · skip
                                    have hnk : ¬ (inR (mc (40 * j + a0)) (la + 1) ∧ inR (mc (40 * j + a0 + 1)) (w * h) ∧ inR (mc (40 * j + a0 + 2)) 6 ∧ n3 < 10) := (fun q => tk_no b190 ⟨⟨q.1, q.2.1, q.2.2.1⟩, q.2.2.2⟩)
                                    rw [if_neg hnk] at hP hD
                                    refine lv_aload_n hx hb dX6_read_193 rfl (lv_at hl 3 rfl) ?_
                                    refine va_get (D := G.1) (ci := 6) (v := .ref (ad 0)) (C := RX6) (T := TX6) (N := 29) hx hb hts hin6 hown hK.1 hP 3 rfl rfl 0 (by decide) (hts (.fieldLink RX6 7 "BackLensesModel" "st" "[I") (List.mem_of_getElem? (i := 2) rfl)) (fun _ h9 => h9) rfl dX6_read_194 ?_
                                    refine lv_bipush (v := nI 16) hx hb dX6_read_197 (by decide) ?_
                                    refine lv_iload hx hb dX6_read_199 (lv_at hl 8 rfl) ?_
                                    refine xn_iast hx hb hK hP hD hS 4 rfl (by omega) (by omega) dX6_read_201 (fun H locs hP hD hS => ?_)
                                    replace hP : xP G [iA G (ad 10) 160 mc, iA G (ad 8) 4 ml, iA G (ad 9) 4 ms, oC ko 6 [.ref (ad 0), .ref (ad 1), .int (nI w), .int (nI h), .int (nI la), .ref (ad 2), .int (mv 0), .int (mv 1), .int (mv 2), .int (mv 3), .int (mv 4), .int (mv 5), .int (mv 6), .ref (ad 3), .int (nI tp), .int (mv 7), .int (mv 8), .int (mv 9), .int (mv 10), .int ft, .int (mv 11), .ref (ad 4), .ref (ad 5), .ref (ad 6), .ref (ad 7), .ref (ad 8), .ref (ad 9), .ref (ad 10), .int tr], iA G (ad 0) 255 (upd S3 16 (nI nc))] H := hP
                                    replace hD : va_D (va_A (w_X6_read G ko ad w h la tp ft tr mv S ml ms mc) ss.heap.size) [iA G (ad 10) 160 mc, iA G (ad 8) 4 ml, iA G (ad 9) 4 ms, oC ko 6 [.ref (ad 0), .ref (ad 1), .int (nI w), .int (nI h), .int (nI la), .ref (ad 2), .int (mv 0), .int (mv 1), .int (mv 2), .int (mv 3), .int (mv 4), .int (mv 5), .int (mv 6), .ref (ad 3), .int (nI tp), .int (mv 7), .int (mv 8), .int (mv 9), .int (mv 10), .int ft, .int (mv 11), .ref (ad 4), .ref (ad 5), .ref (ad 6), .ref (ad 7), .ref (ad 8), .ref (ad 9), .ref (ad 10), .int tr], iA G (ad 0) 255 (upd S3 16 (nI nc))] := hD
                                    refine lv_bipush (v := (-20)) hx hb dX6_read_202 (by decide) ?_
                                    refine lv_iload hx hb dX6_read_204 (lv_at hl 10 rfl) ?_
                                    refine lv_isub hx hb dX6_read_206 ?_
                                    have hP := hP.sub (ws' := [oC ko 6 [.ref (ad 0), .ref (ad 1), .int (nI w), .int (nI h), .int (nI la), .ref (ad 2), .int (mv 0), .int (mv 1), .int (mv 2), .int (mv 3), .int (mv 4), .int (mv 5), .int (mv 6), .ref (ad 3), .int (nI tp), .int (mv 7), .int (mv 8), .int (mv 9), .int (mv 10), .int ft, .int (mv 11), .ref (ad 4), .ref (ad 5), .ref (ad 6), .ref (ad 7), .ref (ad 8), .ref (ad 9), .ref (ad 10), .int tr], iA G (ad 0) 255 (upd S3 16 (nI nc)), iA G (ad 8) 4 ml, iA G (ad 9) 4 ms, iA G (ad 10) 160 mc]) [3, 4, 1, 2, 0] rfl
                                    have hD := hD.sub (ws' := [oC ko 6 [.ref (ad 0), .ref (ad 1), .int (nI w), .int (nI h), .int (nI la), .ref (ad 2), .int (mv 0), .int (mv 1), .int (mv 2), .int (mv 3), .int (mv 4), .int (mv 5), .int (mv 6), .ref (ad 3), .int (nI tp), .int (mv 7), .int (mv 8), .int (mv 9), .int (mv 10), .int ft, .int (mv 11), .ref (ad 4), .ref (ad 5), .ref (ad 6), .ref (ad 7), .ref (ad 8), .ref (ad 9), .ref (ad 10), .int tr], iA G (ad 0) 255 (upd S3 16 (nI nc)), iA G (ad 8) 4 ml, iA G (ad 9) 4 ms, iA G (ad 10) 160 mc]) [3, 4, 1, 2, 0] (by decide) rfl
                                    refine W.iret (v := (-20) - (nI i)) hx hb hr (fun t ht hW => ⟨⟨(-20) - (nI i), (upd S3 16 (nI nc), tr), rfl, ?_, by rw [ht]; exact hP, hD⟩, hS.F ht⟩) hS.2.2 dX6_read_207
                                    try dsimp only
                                    have hR : (rdM la (w * h) (rsM (ml j) lane zz f0) (fun i c => mc (40 * j + tn (f0 + nI (3 * i)) + c)) n 0 (nI 0) nc S) = (some i, nI 0, n3, S3) := (by rw [hrd, show n - i = (n - (i + 1)) + 1 by omega, rdM, if_pos b50, if_pos (show rsM (ml j) lane zz f0 i = 0 from hrs), ea, tn_nI (by omega)]; exact if_neg hnk); rw [hR]; exact ⟨rfl, rfl, rfl⟩
                                · skip
                                  have hpo : f0.toInt + ((3 * i : Nat) : Int) + 2 < 0 ∨ (zz : Int) ≤ f0.toInt + ((3 * i : Nat) : Int) + 2 := Or.inr (by rw [pL (by omega) (by omega), lN_toInt' (by omega)] at b127; omega)
                                  refine lv_iconst (v := nI 2) hx hb dX6_read_130 (by decide) ?_
                                  refine lv_goto (tgt := 135) hx hb dX6_read_131 rfl ?_
                                  refine lv_istore (lv' := [(6, .int (nI 2)), (10, .long ((f0.toInt64 + (lN (3 * i))) + (lN 2))), (9, .int (nI 2)), (0, .ref ko), (1, .int (nI j)), (2, .int lane), (3, .int f0), (4, .int (nI n)), (5, .int (nI nc)), (7, .int (nI wl)), (8, .int (nI i))]) hx hb dX6_read_135 hl (by decide) rfl (fun ls hl => ?_)
                                  refine lv_iinc (k := 2) (v := nI 3) (lv' := [(9, .int (nI 3)), (6, .int (nI 2)), (10, .long ((f0.toInt64 + (lN (3 * i))) + (lN 2))), (0, .ref ko), (1, .int (nI j)), (2, .int lane), (3, .int f0), (4, .int (nI n)), (5, .int (nI nc)), (7, .int (nI wl)), (8, .int (nI i))]) hx hb dX6_read_137 hl rfl (xn_inc 2 1) (by decide) rfl (fun ls hl => ?_)
                                  refine lv_goto (tgt := 56) hx hb dX6_read_140 rfl ?_
                                  refine lv_iload hx hb dX6_read_56 (lv_at hl 0 rfl) ?_
                                  refine lv_iconst (v := nI 3) hx hb dX6_read_58 (by decide) ?_
                                  refine xn_icmp_ge (tgt := 143) hx hb (by omega) (by omega) dX6_read_59 rfl (fun _ => ?_) (fun b59 => absurd b59 (by omega))
                                  have hrs : rsM (ml j) lane zz f0 i = nI 2 := (if_neg hl4).trans ((if_neg (fun q => q hln)).trans (if_neg (by omega)))
                                  refine lv_iload hx hb dX6_read_143 (lv_at hl 1 rfl) ?_
                                  refine xn_if_ne (tgt := 211) hx hb (by omega) dX6_read_145 rfl (fun _ => ?_) (fun b145 => absurd b145 (by omega))
                                  refine lv_iinc (k := 10) (v := nI (i + 1)) (lv' := [(8, .int (nI (i + 1))), (9, .int (nI 3)), (6, .int (nI 2)), (10, .long ((f0.toInt64 + (lN (3 * i))) + (lN 2))), (0, .ref ko), (1, .int (nI j)), (2, .int lane), (3, .int f0), (4, .int (nI n)), (5, .int (nI nc)), (7, .int (nI wl))]) hx hb dX6_read_211 hl rfl (xn_inc i 1) (by decide) rfl (fun ls hl => ?_)
                                  refine lv_goto (tgt := 41) hx hb dX6_read_214 rfl ?_
                                  have hl := lv_sub hl (l' := [(0, .ref ko), (1, .int (nI j)), (2, .int lane), (3, .int f0), (4, .int (nI n)), (5, .int (nI nc)), (6, .int (nI 2)), (7, .int (nI wl)), (8, .int (nI (i + 1)))]) [4, 5, 6, 7, 8, 9, 2, 10, 0] rfl
                                  exact ih41 (n - (i + 1)) (by omega) (i + 1) (nI 2) wl n3 S3 ls H locs rfl (by omega) (by omega) (by omega) (by omega) (by first | exact upd_eq | exact hs3) (by rw [hrd, show n - i = (n - (i + 1)) + 1 by omega, rdM, if_pos b50]; first | (rw [if_pos (show rsM (ml j) lane zz f0 i = 0 from hrs), ea, tn_nI (by omega)]; exact if_pos hok) | (rw [if_neg (by rw [hrs]; decide), hrs])) hl hP hD hS
                            · skip
                              exact absurd hln b103
                          · skip
                            exact absurd b89 hl4
                        · skip
                          have hpo : f0.toInt + ((3 * i : Nat) : Int) + 1 < 0 ∨ (zz : Int) ≤ f0.toInt + ((3 * i : Nat) : Int) + 1 := Or.inr (by rw [pL (by omega) (by omega), lN_toInt' (by omega)] at b127; omega)
                          refine lv_iconst (v := nI 2) hx hb dX6_read_130 (by decide) ?_
                          refine lv_goto (tgt := 135) hx hb dX6_read_131 rfl ?_
                          refine lv_istore (lv' := [(6, .int (nI 2)), (10, .long ((f0.toInt64 + (lN (3 * i))) + (lN 1))), (9, .int (nI 1)), (0, .ref ko), (1, .int (nI j)), (2, .int lane), (3, .int f0), (4, .int (nI n)), (5, .int (nI nc)), (7, .int (nI wl)), (8, .int (nI i))]) hx hb dX6_read_135 hl (by decide) rfl (fun ls hl => ?_)
                          refine lv_iinc (k := 2) (v := nI 2) (lv' := [(9, .int (nI 2)), (6, .int (nI 2)), (10, .long ((f0.toInt64 + (lN (3 * i))) + (lN 1))), (0, .ref ko), (1, .int (nI j)), (2, .int lane), (3, .int f0), (4, .int (nI n)), (5, .int (nI nc)), (7, .int (nI wl)), (8, .int (nI i))]) hx hb dX6_read_137 hl rfl (xn_inc 1 1) (by decide) rfl (fun ls hl => ?_)
                          refine lv_goto (tgt := 56) hx hb dX6_read_140 rfl ?_
                          refine lv_iload hx hb dX6_read_56 (lv_at hl 0 rfl) ?_
                          refine lv_iconst (v := nI 3) hx hb dX6_read_58 (by decide) ?_
                          refine xn_icmp_ge (tgt := 143) hx hb (by omega) (by omega) dX6_read_59 rfl (fun b59 => absurd b59 (by omega)) (fun _ => ?_)
                          refine lv_iload hx hb dX6_read_62 (lv_at hl 1 rfl) ?_
                          refine xn_if_ne (tgt := 143) hx hb (by omega) dX6_read_64 rfl (fun _ => ?_) (fun b64 => absurd b64 (by omega))
                          have hrs : rsM (ml j) lane zz f0 i = nI 2 := (if_neg hl4).trans ((if_neg (fun q => q hln)).trans (if_neg (by omega)))
                          refine lv_iload hx hb dX6_read_143 (lv_at hl 1 rfl) ?_
                          refine xn_if_ne (tgt := 211) hx hb (by omega) dX6_read_145 rfl (fun _ => ?_) (fun b145 => absurd b145 (by omega))
                          refine lv_iinc (k := 10) (v := nI (i + 1)) (lv' := [(8, .int (nI (i + 1))), (9, .int (nI 2)), (6, .int (nI 2)), (10, .long ((f0.toInt64 + (lN (3 * i))) + (lN 1))), (0, .ref ko), (1, .int (nI j)), (2, .int lane), (3, .int f0), (4, .int (nI n)), (5, .int (nI nc)), (7, .int (nI wl))]) hx hb dX6_read_211 hl rfl (xn_inc i 1) (by decide) rfl (fun ls hl => ?_)
                          refine lv_goto (tgt := 41) hx hb dX6_read_214 rfl ?_
                          have hl := lv_sub hl (l' := [(0, .ref ko), (1, .int (nI j)), (2, .int lane), (3, .int f0), (4, .int (nI n)), (5, .int (nI nc)), (6, .int (nI 2)), (7, .int (nI wl)), (8, .int (nI (i + 1)))]) [4, 5, 6, 7, 8, 9, 2, 10, 0] rfl
                          exact ih41 (n - (i + 1)) (by omega) (i + 1) (nI 2) wl n3 S3 ls H locs rfl (by omega) (by omega) (by omega) (by omega) (by first | exact upd_eq | exact hs3) (by rw [hrd, show n - i = (n - (i + 1)) + 1 by omega, rdM, if_pos b50]; first | (rw [if_pos (show rsM (ml j) lane zz f0 i = 0 from hrs), ea, tn_nI (by omega)]; exact if_pos hok) | (rw [if_neg (by rw [hrs]; decide), hrs])) hl hP hD hS
                    · skip
                      exact absurd hln b103
                  · skip
                    exact absurd b89 hl4
                · skip
                  have hpo : f0.toInt + ((3 * i : Nat) : Int) + 0 < 0 ∨ (zz : Int) ≤ f0.toInt + ((3 * i : Nat) : Int) + 0 := Or.inr (by rw [pL (by omega) (by omega), lN_toInt' (by omega)] at b127; omega)
                  refine lv_iconst (v := nI 2) hx hb dX6_read_130 (by decide) ?_
                  refine lv_goto (tgt := 135) hx hb dX6_read_131 rfl ?_
                  refine lv_istore (lv' := [(6, .int (nI 2)), (10, .long ((f0.toInt64 + (lN (3 * i))) + (lN 0))), (9, .int (nI 0)), (0, .ref ko), (1, .int (nI j)), (2, .int lane), (3, .int f0), (4, .int (nI n)), (5, .int (nI nc)), (7, .int (nI wl)), (8, .int (nI i))]) hx hb dX6_read_135 hl (by decide) rfl (fun ls hl => ?_)
                  refine lv_iinc (k := 2) (v := nI 1) (lv' := [(9, .int (nI 1)), (6, .int (nI 2)), (10, .long ((f0.toInt64 + (lN (3 * i))) + (lN 0))), (0, .ref ko), (1, .int (nI j)), (2, .int lane), (3, .int f0), (4, .int (nI n)), (5, .int (nI nc)), (7, .int (nI wl)), (8, .int (nI i))]) hx hb dX6_read_137 hl rfl (xn_inc 0 1) (by decide) rfl (fun ls hl => ?_)
                  refine lv_goto (tgt := 56) hx hb dX6_read_140 rfl ?_
                  refine lv_iload hx hb dX6_read_56 (lv_at hl 0 rfl) ?_
                  refine lv_iconst (v := nI 3) hx hb dX6_read_58 (by decide) ?_
                  refine xn_icmp_ge (tgt := 143) hx hb (by omega) (by omega) dX6_read_59 rfl (fun b59 => absurd b59 (by omega)) (fun _ => ?_)
                  refine lv_iload hx hb dX6_read_62 (lv_at hl 1 rfl) ?_
                  refine xn_if_ne (tgt := 143) hx hb (by omega) dX6_read_64 rfl (fun _ => ?_) (fun b64 => absurd b64 (by omega))
                  have hrs : rsM (ml j) lane zz f0 i = nI 2 := (if_neg hl4).trans ((if_neg (fun q => q hln)).trans (if_neg (by omega)))
                  refine lv_iload hx hb dX6_read_143 (lv_at hl 1 rfl) ?_
                  refine xn_if_ne (tgt := 211) hx hb (by omega) dX6_read_145 rfl (fun _ => ?_) (fun b145 => absurd b145 (by omega))
                  refine lv_iinc (k := 10) (v := nI (i + 1)) (lv' := [(8, .int (nI (i + 1))), (9, .int (nI 1)), (6, .int (nI 2)), (10, .long ((f0.toInt64 + (lN (3 * i))) + (lN 0))), (0, .ref ko), (1, .int (nI j)), (2, .int lane), (3, .int f0), (4, .int (nI n)), (5, .int (nI nc)), (7, .int (nI wl))]) hx hb dX6_read_211 hl rfl (xn_inc i 1) (by decide) rfl (fun ls hl => ?_)
                  refine lv_goto (tgt := 41) hx hb dX6_read_214 rfl ?_
                  have hl := lv_sub hl (l' := [(0, .ref ko), (1, .int (nI j)), (2, .int lane), (3, .int f0), (4, .int (nI n)), (5, .int (nI nc)), (6, .int (nI 2)), (7, .int (nI wl)), (8, .int (nI (i + 1)))]) [4, 5, 6, 7, 8, 9, 2, 10, 0] rfl
                  exact ih41 (n - (i + 1)) (by omega) (i + 1) (nI 2) wl n3 S3 ls H locs rfl (by omega) (by omega) (by omega) (by omega) (by first | exact upd_eq | exact hs3) (by rw [hrd, show n - i = (n - (i + 1)) + 1 by omega, rdM, if_pos b50]; first | (rw [if_pos (show rsM (ml j) lane zz f0 i = 0 from hrs), ea, tn_nI (by omega)]; exact if_pos hok) | (rw [if_neg (by rw [hrs]; decide), hrs])) hl hP hD hS
            · skip
              refine lv_iconst (v := nI 3) hx hb dX6_read_106 (by decide) ?_
              refine lv_goto (tgt := 135) hx hb dX6_read_107 rfl ?_
              refine lv_istore (lv' := [(6, .int (nI 3)), (10, .long ((f0.toInt64 + (lN (3 * i))) + (lN 0))), (9, .int (nI 0)), (0, .ref ko), (1, .int (nI j)), (2, .int lane), (3, .int f0), (4, .int (nI n)), (5, .int (nI nc)), (7, .int (nI wl)), (8, .int (nI i))]) hx hb dX6_read_135 hl (by decide) rfl (fun ls hl => ?_)
              refine lv_iinc (k := 2) (v := nI 1) (lv' := [(9, .int (nI 1)), (6, .int (nI 3)), (10, .long ((f0.toInt64 + (lN (3 * i))) + (lN 0))), (0, .ref ko), (1, .int (nI j)), (2, .int lane), (3, .int f0), (4, .int (nI n)), (5, .int (nI nc)), (7, .int (nI wl)), (8, .int (nI i))]) hx hb dX6_read_137 hl rfl (xn_inc 0 1) (by decide) rfl (fun ls hl => ?_)
              refine lv_goto (tgt := 56) hx hb dX6_read_140 rfl ?_
              refine lv_iload hx hb dX6_read_56 (lv_at hl 0 rfl) ?_
              refine lv_iconst (v := nI 3) hx hb dX6_read_58 (by decide) ?_
              refine xn_icmp_ge (tgt := 143) hx hb (by omega) (by omega) dX6_read_59 rfl (fun b59 => absurd b59 (by omega)) (fun _ => ?_)
              refine lv_iload hx hb dX6_read_62 (lv_at hl 1 rfl) ?_
              refine xn_if_ne (tgt := 143) hx hb (by omega) dX6_read_64 rfl (fun _ => ?_) (fun b64 => absurd b64 (by omega))
              have hrs : rsM (ml j) lane zz f0 i = nI 3 := (if_neg hl4).trans (if_pos b103)
              refine lv_iload hx hb dX6_read_143 (lv_at hl 1 rfl) ?_
              refine xn_if_ne (tgt := 211) hx hb (by omega) dX6_read_145 rfl (fun _ => ?_) (fun b145 => absurd b145 (by omega))
              refine lv_iinc (k := 10) (v := nI (i + 1)) (lv' := [(8, .int (nI (i + 1))), (9, .int (nI 1)), (6, .int (nI 3)), (10, .long ((f0.toInt64 + (lN (3 * i))) + (lN 0))), (0, .ref ko), (1, .int (nI j)), (2, .int lane), (3, .int f0), (4, .int (nI n)), (5, .int (nI nc)), (7, .int (nI wl))]) hx hb dX6_read_211 hl rfl (xn_inc i 1) (by decide) rfl (fun ls hl => ?_)
              refine lv_goto (tgt := 41) hx hb dX6_read_214 rfl ?_
              have hl := lv_sub hl (l' := [(0, .ref ko), (1, .int (nI j)), (2, .int lane), (3, .int f0), (4, .int (nI n)), (5, .int (nI nc)), (6, .int (nI 3)), (7, .int (nI wl)), (8, .int (nI (i + 1)))]) [4, 5, 6, 7, 8, 9, 2, 10, 0] rfl
              exact ih41 (n - (i + 1)) (by omega) (i + 1) (nI 3) wl n3 S3 ls H locs rfl (by omega) (by omega) (by omega) (by omega) (by first | exact upd_eq | exact hs3) (by rw [hrd, show n - i = (n - (i + 1)) + 1 by omega, rdM, if_pos b50]; first | (rw [if_pos (show rsM (ml j) lane zz f0 i = 0 from hrs), ea, tn_nI (by omega)]; exact if_pos hok) | (rw [if_neg (by rw [hrs]; decide), hrs])) hl hP hD hS
          · skip
            refine lv_iconst (v := nI 1) hx hb dX6_read_92 (by decide) ?_
            refine lv_goto (tgt := 135) hx hb dX6_read_93 rfl ?_
            refine lv_istore (lv' := [(6, .int (nI 1)), (10, .long ((f0.toInt64 + (lN (3 * i))) + (lN 0))), (9, .int (nI 0)), (0, .ref ko), (1, .int (nI j)), (2, .int lane), (3, .int f0), (4, .int (nI n)), (5, .int (nI nc)), (7, .int (nI wl)), (8, .int (nI i))]) hx hb dX6_read_135 hl (by decide) rfl (fun ls hl => ?_)
            refine lv_iinc (k := 2) (v := nI 1) (lv' := [(9, .int (nI 1)), (6, .int (nI 1)), (10, .long ((f0.toInt64 + (lN (3 * i))) + (lN 0))), (0, .ref ko), (1, .int (nI j)), (2, .int lane), (3, .int f0), (4, .int (nI n)), (5, .int (nI nc)), (7, .int (nI wl)), (8, .int (nI i))]) hx hb dX6_read_137 hl rfl (xn_inc 0 1) (by decide) rfl (fun ls hl => ?_)
            refine lv_goto (tgt := 56) hx hb dX6_read_140 rfl ?_
            refine lv_iload hx hb dX6_read_56 (lv_at hl 0 rfl) ?_
            refine lv_iconst (v := nI 3) hx hb dX6_read_58 (by decide) ?_
            refine xn_icmp_ge (tgt := 143) hx hb (by omega) (by omega) dX6_read_59 rfl (fun b59 => absurd b59 (by omega)) (fun _ => ?_)
            refine lv_iload hx hb dX6_read_62 (lv_at hl 1 rfl) ?_
            refine xn_if_ne (tgt := 143) hx hb (by omega) dX6_read_64 rfl (fun _ => ?_) (fun b64 => absurd b64 (by omega))
            have hrs : rsM (ml j) lane zz f0 i = nI 1 := if_pos b89
            refine lv_iload hx hb dX6_read_143 (lv_at hl 1 rfl) ?_
            refine xn_if_ne (tgt := 211) hx hb (by omega) dX6_read_145 rfl (fun _ => ?_) (fun b145 => absurd b145 (by omega))
            refine lv_iinc (k := 10) (v := nI (i + 1)) (lv' := [(8, .int (nI (i + 1))), (9, .int (nI 1)), (6, .int (nI 1)), (10, .long ((f0.toInt64 + (lN (3 * i))) + (lN 0))), (0, .ref ko), (1, .int (nI j)), (2, .int lane), (3, .int f0), (4, .int (nI n)), (5, .int (nI nc)), (7, .int (nI wl))]) hx hb dX6_read_211 hl rfl (xn_inc i 1) (by decide) rfl (fun ls hl => ?_)
            refine lv_goto (tgt := 41) hx hb dX6_read_214 rfl ?_
            have hl := lv_sub hl (l' := [(0, .ref ko), (1, .int (nI j)), (2, .int lane), (3, .int f0), (4, .int (nI n)), (5, .int (nI nc)), (6, .int (nI 1)), (7, .int (nI wl)), (8, .int (nI (i + 1)))]) [4, 5, 6, 7, 8, 9, 2, 10, 0] rfl
            exact ih41 (n - (i + 1)) (by omega) (i + 1) (nI 1) wl n3 S3 ls H locs rfl (by omega) (by omega) (by omega) (by omega) (by first | exact upd_eq | exact hs3) (by rw [hrd, show n - i = (n - (i + 1)) + 1 by omega, rdM, if_pos b50]; first | (rw [if_pos (show rsM (ml j) lane zz f0 i = 0 from hrs), ea, tn_nI (by omega)]; exact if_pos hok) | (rw [if_neg (by rw [hrs]; decide), hrs])) hl hP hD hS
  have hl := lv_sub hl (l' := [(0, .ref ko), (1, .int (nI j)), (2, .int lane), (3, .int f0), (4, .int (nI n)), (5, .int (nI nc)), (6, .int (nI 0)), (7, .int (nI 0)), (8, .int (nI 0))]) [4, 5, 6, 7, 8, 3, 2, 1, 0] rfl
  have hP := hP.sub (ws' := [iA G (ad 0) 255 S, iA G (ad 10) 160 mc, iA G (ad 8) 4 ml, iA G (ad 9) 4 ms, oC ko 6 [.ref (ad 0), .ref (ad 1), .int (nI w), .int (nI h), .int (nI la), .ref (ad 2), .int (mv 0), .int (mv 1), .int (mv 2), .int (mv 3), .int (mv 4), .int (mv 5), .int (mv 6), .ref (ad 3), .int (nI tp), .int (mv 7), .int (mv 8), .int (mv 9), .int (mv 10), .int ft, .int (mv 11), .ref (ad 4), .ref (ad 5), .ref (ad 6), .ref (ad 7), .ref (ad 8), .ref (ad 9), .ref (ad 10), .int tr]]) [1, 4, 2, 3, 0] rfl
  have hD := hD.sub (ws' := [iA G (ad 0) 255 S, iA G (ad 10) 160 mc, iA G (ad 8) 4 ml, iA G (ad 9) 4 ms, oC ko 6 [.ref (ad 0), .ref (ad 1), .int (nI w), .int (nI h), .int (nI la), .ref (ad 2), .int (mv 0), .int (mv 1), .int (mv 2), .int (mv 3), .int (mv 4), .int (mv 5), .int (mv 6), .ref (ad 3), .int (nI tp), .int (mv 7), .int (mv 8), .int (mv 9), .int (mv 10), .int ft, .int (mv 11), .ref (ad 4), .ref (ad 5), .ref (ad 6), .ref (ad 7), .ref (ad 8), .ref (ad 9), .ref (ad 10), .int tr]]) [1, 4, 2, 3, 0] (by decide) rfl
  exact hL41 (n - 0) 0 (nI 0) 0 nc S ls H locs rfl (by omega) (by omega) (by omega) (by omega) (by exact hs16) (by rfl) hl hP hD hS
end
section
/-! the tokens of a tape: t its bytes, rl its length -/
def ruF (P : Int32 → Bool) (t : Nat → Int32) (rl : Nat) : Nat → Nat → Nat
  | 0, p => p
  | k + 1, p => if p < rl ∧ P (t p) = true then ruF P t rl k (p + 1) else p
/-- the first place from p on where P doesn't hold, or the end -/
abbrev ruE (P : Int32 → Bool) (t : Nat → Int32) (rl p : Nat) : Nat := ruF P t rl (rl - p) p
abbrev isSp (b : Int32) : Bool := decide (b = nI 32)
abbrev isL (b : Int32) : Bool := decide (97 ≤ b.toInt ∧ b.toInt ≤ 122)
abbrev isD (b : Int32) : Bool := decide (48 ≤ b.toInt ∧ b.toInt ≤ 57)
theorem ruF_go {P : Int32 → Bool} {t : Nat → Int32} {rl p : Nat} (h : p < rl) (hp : P (t p) = true) : ruE P t rl p = ruE P t rl (p + 1) := by
  unfold ruE
  rw [show rl - p = (rl - (p + 1)) + 1 by omega, ruF, if_pos ⟨h, hp⟩]
theorem ruF_end {P : Int32 → Bool} {t : Nat → Int32} {rl p : Nat} (h : ¬ (p < rl ∧ P (t p) = true)) : ruE P t rl p = p := by
  unfold ruE
  rcases Nat.eq_zero_or_pos (rl - p) with q | q
  · rw [q, ruF]
  · rw [show rl - p = (rl - (p + 1)) + 1 by omega, ruF, if_neg h]
theorem ruF_ge {P : Int32 → Bool} {t : Nat → Int32} {rl : Nat} : ∀ k p, p ≤ ruF P t rl k p
  | 0, p => Nat.le_refl _
  | k + 1, p => by
    rw [ruF]
    split
    · have := ruF_ge (P := P) (t := t) (rl := rl) k (p + 1); omega
    · exact Nat.le_refl _
theorem ruF_le {P : Int32 → Bool} {t : Nat → Int32} {rl : Nat} : ∀ k p, p ≤ rl → ruF P t rl k p ≤ rl
  | 0, p, h => h
  | k + 1, p, h => by
    rw [ruF]
    split
    · rename_i q; exact ruF_le k (p + 1) (by omega)
    · exact h
/-- digits of a number, as they are read -/
def dvF (t : Nat → Int32) : Nat → Nat → Int32 → Int32
  | 0, _, v => v
  | k + 1, q, v => dvF t k (q + 1) (nI 10 * v + t q - nI 48)
/-- the kind of the token that begins at q: 0 the end, 1 a name, 2 a number (or nothing that is one), 3 a semicolon -/
def kdT (t : Nat → Int32) (rl q : Nat) : Nat := if rl ≤ q then 0 else if t q = nI 59 then 3 else if isL (t q) = true then 1 else 2
def nxT (t : Nat → Int32) (rl q : Nat) : Nat := if rl ≤ q then q else if t q = nI 59 then q + 1 else if isL (t q) = true then ruE isL t rl q else ruE isD t rl q
def okT (t : Nat → Int32) (rl q : Nat) : Bool := decide (¬ kdT t rl q = 2 ∨ nxT t rl q - q = 1 ∨ nxT t rl q - q = 2)
theorem nxT_ge {t : Nat → Int32} {rl q : Nat} : q ≤ nxT t rl q := by
  unfold nxT
  split
  · exact Nat.le_refl _
  · split
    · omega
    · split <;> exact ruF_ge _ _
theorem nxT_le {t : Nat → Int32} {rl q : Nat} (h : q ≤ rl) : nxT t rl q ≤ rl := by
  unfold nxT
  split
  · exact h
  · split
    · omega
    · split <;> exact ruF_le _ _ h
section Lx
variable {t : Nat → Int32} {rl q : Nat}
theorem lx0 (h : rl ≤ q) : kdT t rl q = 0 ∧ nxT t rl q = q ∧ okT t rl q = true := by
  have h1 : kdT t rl q = 0 := if_pos h
  exact ⟨h1, if_pos h, by unfold okT; rw [h1]; exact decide_eq_true (Or.inl (by decide))⟩
theorem lx3 (h : ¬ rl ≤ q) (h2 : t q = nI 59) : kdT t rl q = 3 ∧ nxT t rl q = q + 1 ∧ okT t rl q = true := by
  have h1 : kdT t rl q = 3 := (if_neg h).trans (if_pos h2)
  exact ⟨h1, (if_neg h).trans (if_pos h2), by unfold okT; rw [h1]; exact decide_eq_true (Or.inl (by decide))⟩
theorem lx1 (h : ¬ rl ≤ q) (h2 : ¬ t q = nI 59) (h3 : isL (t q) = true) : kdT t rl q = 1 ∧ nxT t rl q = ruE isL t rl q ∧ okT t rl q = true := by
  have h1 : kdT t rl q = 1 := (if_neg h).trans ((if_neg h2).trans (if_pos h3))
  exact ⟨h1, (if_neg h).trans ((if_neg h2).trans (if_pos h3)), by unfold okT; rw [h1]; exact decide_eq_true (Or.inl (by decide))⟩
theorem lx2 (h : ¬ rl ≤ q) (h2 : ¬ t q = nI 59) (h3 : ¬ isL (t q) = true) : kdT t rl q = 2 ∧ nxT t rl q = ruE isD t rl q ∧ (okT t rl q = true ↔ ruE isD t rl q - q = 1 ∨ ruE isD t rl q - q = 2) := by
  have h1 : kdT t rl q = 2 := (if_neg h).trans ((if_neg h2).trans (if_neg h3))
  have h4 : nxT t rl q = ruE isD t rl q := (if_neg h).trans ((if_neg h2).trans (if_neg h3))
  refine ⟨h1, h4, ?_⟩
  unfold okT
  rw [h1, h4]
  exact ⟨fun q => (of_decide_eq_true q).resolve_left (fun z => z rfl), fun q => decide_eq_true (Or.inr q)⟩
end Lx
theorem dvF_snoc {t : Nat → Int32} : ∀ k q v, dvF t (k + 1) q v = nI 10 * dvF t k q v + t (q + k) - nI 48
  | 0, q, v => rfl
  | k + 1, q, v => by
    rw [dvF, dvF_snoc k (q + 1), dvF, show q + 1 + k = q + (k + 1) by omega]
end
section
abbrev Q_X1_isLetter (G : XG) (b : Int32) : Array Value → State → Outcome → State → Prop := (xRi (fun r => r = xb (97 ≤ b.toInt ∧ b.toInt ≤ 122)))
set_option maxHeartbeats 4000000 in
set_option maxRecDepth 100000 in
theorem c_X1_isLetter (l : Launch) (G : XG) (b : Int32)  : Met l yX1_isLetter wsX1_isLetter ({ frames := 0, cells := 0, slots := 0, locals := 0 } : Room) (va_Pc [.int b] (fun _ => True)) (Q_X1_isLetter G b) 0 0 (fun _ => False) := by
  refine Met.ofW (cc := cX1_isLetter) (maxL := 1) (ret := (some .boolean)) (by decide) rfl ?_
  intro pp ee ss mm aa below mt cd s₁ BB hml hv
  obtain ⟨rfl, -⟩ := hv
  have hx := BB.exec
  have hb := BB.bytes
  have hr := BB.returns
  have hts := atoms_spec (ws := wsX1_isLetter) BB.pre
  have hown : ss.vm.findClass RX1 = some mm.cls := findClass_of_methodNamed BB.named
  have hlocks := BB.notSynchronized
  have hS : va_S (fun _ => False) ss.heap ss.heap [] := va_S.rf
  have hP : xP (G) [] ss.heap := fun k q h => by cases h
  have hl := lv_entry ([.int b]) (n := 1) (Nat.le_of_ble_eq_true rfl)
  rw [lg_entry_eq]
  generalize (lg_sl ([.int b]) ++ List.replicate (1 - (lg_sl ([.int b])).length) Slot.unset).toArray = ls at hl ⊢
  replace hl : lv_has ls 1 [(0, .int b)] := hl
  refine lv_iload_n hx hb dX1_isLetter_0 rfl (lv_at hl 0 rfl) ?_
  refine lv_bipush (v := nI 97) hx hb dX1_isLetter_1 (by decide) ?_
  refine xm_icmp_lt (tgt := 16) hx hb (by omega) dX1_isLetter_3 rfl (fun b3 => ?_) (fun b3 => ?_)
  · skip
    refine lv_iconst (v := nI 0) hx hb dX1_isLetter_16 (by decide) ?_
    refine W.zret (v := nI 0) (ty := .boolean) hx hb hr (by decide) (fun t ht hW => ⟨⟨nI 0, (), rfl, ?_, trivial⟩, hS.F ht⟩) hS.2.2 dX1_isLetter_17
    first | exact (xb_t (by omega)).symm | exact (xb_f (by omega)).symm
  · skip
    refine lv_iload_n hx hb dX1_isLetter_6 rfl (lv_at hl 0 rfl) ?_
    refine lv_bipush (v := nI 122) hx hb dX1_isLetter_7 (by decide) ?_
    refine xm_icmp_gt (tgt := 16) hx hb (by omega) dX1_isLetter_9 rfl (fun b9 => ?_) (fun b9 => ?_)
    · skip
      refine lv_iconst (v := nI 0) hx hb dX1_isLetter_16 (by decide) ?_
      refine W.zret (v := nI 0) (ty := .boolean) hx hb hr (by decide) (fun t ht hW => ⟨⟨nI 0, (), rfl, ?_, trivial⟩, hS.F ht⟩) hS.2.2 dX1_isLetter_17
      first | exact (xb_t (by omega)).symm | exact (xb_f (by omega)).symm
    · skip
      refine lv_iconst (v := nI 1) hx hb dX1_isLetter_12 (by decide) ?_
      refine lv_goto (tgt := 17) hx hb dX1_isLetter_13 rfl ?_
      refine W.zret (v := nI 1) (ty := .boolean) hx hb hr (by decide) (fun t ht hW => ⟨⟨nI 1, (), rfl, ?_, trivial⟩, hS.F ht⟩) hS.2.2 dX1_isLetter_17
      first | exact (xb_t (by omega)).symm | exact (xb_f (by omega)).symm

abbrev Q_X1_isFigure (G : XG) (b : Int32) : Array Value → State → Outcome → State → Prop := (xRi (fun r => r = xb (48 ≤ b.toInt ∧ b.toInt ≤ 57)))
set_option maxHeartbeats 4000000 in
set_option maxRecDepth 100000 in
theorem c_X1_isFigure (l : Launch) (G : XG) (b : Int32)  : Met l yX1_isFigure wsX1_isFigure ({ frames := 0, cells := 0, slots := 0, locals := 0 } : Room) (va_Pc [.int b] (fun _ => True)) (Q_X1_isFigure G b) 0 0 (fun _ => False) := by
  refine Met.ofW (cc := cX1_isFigure) (maxL := 1) (ret := (some .boolean)) (by decide) rfl ?_
  intro pp ee ss mm aa below mt cd s₁ BB hml hv
  obtain ⟨rfl, -⟩ := hv
  have hx := BB.exec
  have hb := BB.bytes
  have hr := BB.returns
  have hts := atoms_spec (ws := wsX1_isFigure) BB.pre
  have hown : ss.vm.findClass RX1 = some mm.cls := findClass_of_methodNamed BB.named
  have hlocks := BB.notSynchronized
  have hS : va_S (fun _ => False) ss.heap ss.heap [] := va_S.rf
  have hP : xP (G) [] ss.heap := fun k q h => by cases h
  have hl := lv_entry ([.int b]) (n := 1) (Nat.le_of_ble_eq_true rfl)
  rw [lg_entry_eq]
  generalize (lg_sl ([.int b]) ++ List.replicate (1 - (lg_sl ([.int b])).length) Slot.unset).toArray = ls at hl ⊢
  replace hl : lv_has ls 1 [(0, .int b)] := hl
  refine lv_iload_n hx hb dX1_isFigure_0 rfl (lv_at hl 0 rfl) ?_
  refine lv_bipush (v := nI 48) hx hb dX1_isFigure_1 (by decide) ?_
  refine xm_icmp_lt (tgt := 16) hx hb (by omega) dX1_isFigure_3 rfl (fun b3 => ?_) (fun b3 => ?_)
  · skip
    refine lv_iconst (v := nI 0) hx hb dX1_isFigure_16 (by decide) ?_
    refine W.zret (v := nI 0) (ty := .boolean) hx hb hr (by decide) (fun t ht hW => ⟨⟨nI 0, (), rfl, ?_, trivial⟩, hS.F ht⟩) hS.2.2 dX1_isFigure_17
    first | exact (xb_t (by omega)).symm | exact (xb_f (by omega)).symm
  · skip
    refine lv_iload_n hx hb dX1_isFigure_6 rfl (lv_at hl 0 rfl) ?_
    refine lv_bipush (v := nI 57) hx hb dX1_isFigure_7 (by decide) ?_
    refine xm_icmp_gt (tgt := 16) hx hb (by omega) dX1_isFigure_9 rfl (fun b9 => ?_) (fun b9 => ?_)
    · skip
      refine lv_iconst (v := nI 0) hx hb dX1_isFigure_16 (by decide) ?_
      refine W.zret (v := nI 0) (ty := .boolean) hx hb hr (by decide) (fun t ht hW => ⟨⟨nI 0, (), rfl, ?_, trivial⟩, hS.F ht⟩) hS.2.2 dX1_isFigure_17
      first | exact (xb_t (by omega)).symm | exact (xb_f (by omega)).symm
    · skip
      refine lv_iconst (v := nI 1) hx hb dX1_isFigure_12 (by decide) ?_
      refine lv_goto (tgt := 17) hx hb dX1_isFigure_13 rfl ?_
      refine W.zret (v := nI 1) (ty := .boolean) hx hb hr (by decide) (fun t ht hW => ⟨⟨nI 1, (), rfl, ?_, trivial⟩, hS.F ht⟩) hS.2.2 dX1_isFigure_17
      first | exact (xb_t (by omega)).symm | exact (xb_f (by omega)).symm

abbrev w_X1_refuse (G : XG) (kre kbt kby : Nat) (rl nx kd sr : Nat) (vl fo pl li ht lt ct : Int32) : va_W := [oC kre 1 [.ref kbt, .ref kby, .int (nI rl), .int (nI nx), .int (nI kd), .int (nI sr), .int vl, .int fo, .int pl, .int li, .int ht, .int lt, .int ct]]
abbrev Q_X1_refuse (G : XG) (sz : Nat) (kre kbt kby : Nat) (rl nx kd sr : Nat) (vl fo pl li ht lt ct : Int32) (a b : Int32) : Array Value → State → Outcome → State → Prop := (va_Qi (fun (r : Int32) (u : Unit) => r = nI 0) (xWb G sz (w_X1_refuse G kre kbt kby rl nx kd sr vl fo pl li ht lt ct) (fun u : Unit => [oC kre 1 [.ref kbt, .ref kby, .int (nI rl), .int (nI nx), .int (nI kd), .int (nI sr), .int vl, .int a, .int b, .int li, .int ht, .int lt, .int ct]])) (va_A (w_X1_refuse G kre kbt kby rl nx kd sr vl fo pl li ht lt ct) sz))
set_option maxHeartbeats 4000000 in
set_option maxRecDepth 100000 in
theorem c_X1_refuse (l : Launch) (G : XG) (sz : Nat) (kre kbt kby : Nat) (rl nx kd sr : Nat) (vl fo pl li ht lt ct : Int32) (a b : Int32)  : Met l yX1_refuse wsX1_refuse ({ frames := 0, cells := 0, slots := 0, locals := 0 } : Room) (va_Pc [.ref kre, .int a, .int b] (xWp G sz (w_X1_refuse G kre kbt kby rl nx kd sr vl fo pl li ht lt ct))) (Q_X1_refuse G sz kre kbt kby rl nx kd sr vl fo pl li ht lt ct a b) 0 0 (va_A (w_X1_refuse G kre kbt kby rl nx kd sr vl fo pl li ht lt ct) sz) := by
  refine Met.ofW (cc := cX1_refuse) (maxL := 3) (ret := (some .boolean)) (by decide) rfl ?_
  intro pp ee ss mm aa below mt cd s₁ BB hml hv
  obtain ⟨rfl, hsz, hP, hK, hD0⟩ := hv
  have hx := BB.exec
  have hb := BB.bytes
  have hr := BB.returns
  have hts := atoms_spec (ws := wsX1_refuse) BB.pre
  have hown : ss.vm.findClass RX1 = some mm.cls := findClass_of_methodNamed BB.named
  have hlocks := BB.notSynchronized
  subst hsz
  have hD := hD0.self (sz := ss.heap.size)
  have hA : ∀ q : Nat, ss.heap.size ≤ q → va_A (w_X1_refuse G kre kbt kby rl nx kd sr vl fo pl li ht lt ct) ss.heap.size q := fun q h => Or.inr h
  have hS : va_S (va_A (w_X1_refuse G kre kbt kby rl nx kd sr vl fo pl li ht lt ct) ss.heap.size) ss.heap ss.heap [] := va_S.rf
  replace hD : va_D (va_A (w_X1_refuse G kre kbt kby rl nx kd sr vl fo pl li ht lt ct) ss.heap.size) [oC kre 1 [.ref kbt, .ref kby, .int (nI rl), .int (nI nx), .int (nI kd), .int (nI sr), .int vl, .int fo, .int pl, .int li, .int ht, .int lt, .int ct]] := hD
  replace hP : xP G [oC kre 1 [.ref kbt, .ref kby, .int (nI rl), .int (nI nx), .int (nI kd), .int (nI sr), .int vl, .int fo, .int pl, .int li, .int ht, .int lt, .int ct]] ss.heap := hP
  have hin1 : ∀ w ∈ u_ws RX1 TX1 13, w ∈ wsX1_refuse := fun w h => List.mem_cons_of_mem _ (List.mem_append_right _ h)
  have hl := lv_entry ([.ref kre, .int a, .int b]) (n := 3) (Nat.le_of_ble_eq_true rfl)
  rw [lg_entry_eq]
  generalize (lg_sl ([.ref kre, .int a, .int b]) ++ List.replicate (3 - (lg_sl ([.ref kre, .int a, .int b])).length) Slot.unset).toArray = ls at hl ⊢
  replace hl : lv_has ls 3 [(0, .ref kre), (1, .int a), (2, .int b)] := hl
  refine lv_aload_n hx hb dX1_refuse_0 rfl (lv_at hl 0 rfl) ?_
  refine lv_iload_n hx hb dX1_refuse_1 rfl (lv_at hl 1 rfl) ?_
  refine va_put (D := G.1) (ci := 1) (v := .int a) (ty := .int) (C := RX1) (T := TX1) (N := 13) hx hb hts hin1 tyX1 tyX1_ok nmX1 hown hK.1 hP hD hS 0 rfl rfl 7 (by decide) (hts (.fieldLink RX1 29 "BackLenses$Reader" "found" "I") (List.mem_of_getElem? (i := 1) rfl)) (fun _ h9 => h9) rfl (by decide +kernel) rfl rfl (Nat.le_of_ble_eq_true rfl) dX1_refuse_2 (fun H locs hP hD hS => ?_)
  replace hP : xP G [oC kre 1 [.ref kbt, .ref kby, .int (nI rl), .int (nI nx), .int (nI kd), .int (nI sr), .int vl, .int a, .int pl, .int li, .int ht, .int lt, .int ct]] H := hP
  replace hD : va_D (va_A (w_X1_refuse G kre kbt kby rl nx kd sr vl fo pl li ht lt ct) ss.heap.size) [oC kre 1 [.ref kbt, .ref kby, .int (nI rl), .int (nI nx), .int (nI kd), .int (nI sr), .int vl, .int a, .int pl, .int li, .int ht, .int lt, .int ct]] := hD
  refine lv_aload_n hx hb dX1_refuse_5 rfl (lv_at hl 0 rfl) ?_
  refine lv_iload_n hx hb dX1_refuse_6 rfl (lv_at hl 2 rfl) ?_
  refine va_put (D := G.1) (ci := 1) (v := .int b) (ty := .int) (C := RX1) (T := TX1) (N := 13) hx hb hts hin1 tyX1 tyX1_ok nmX1 hown hK.1 hP hD hS 0 rfl rfl 8 (by decide) (hts (.fieldLink RX1 32 "BackLenses$Reader" "place" "I") (List.mem_of_getElem? (i := 2) rfl)) (fun _ h9 => h9) rfl (by decide +kernel) rfl rfl (Nat.le_of_ble_eq_true rfl) dX1_refuse_7 (fun H locs hP hD hS => ?_)
  replace hP : xP G [oC kre 1 [.ref kbt, .ref kby, .int (nI rl), .int (nI nx), .int (nI kd), .int (nI sr), .int vl, .int a, .int b, .int li, .int ht, .int lt, .int ct]] H := hP
  replace hD : va_D (va_A (w_X1_refuse G kre kbt kby rl nx kd sr vl fo pl li ht lt ct) ss.heap.size) [oC kre 1 [.ref kbt, .ref kby, .int (nI rl), .int (nI nx), .int (nI kd), .int (nI sr), .int vl, .int a, .int b, .int li, .int ht, .int lt, .int ct]] := hD
  refine lv_iconst (v := nI 0) hx hb dX1_refuse_10 (by decide) ?_
  have hP := hP.sub (ws' := [oC kre 1 [.ref kbt, .ref kby, .int (nI rl), .int (nI nx), .int (nI kd), .int (nI sr), .int vl, .int a, .int b, .int li, .int ht, .int lt, .int ct]]) [0] rfl
  have hD := hD.sub (ws' := [oC kre 1 [.ref kbt, .ref kby, .int (nI rl), .int (nI nx), .int (nI kd), .int (nI sr), .int vl, .int a, .int b, .int li, .int ht, .int lt, .int ct]]) [0] (by decide) rfl
  refine W.zret (v := nI 0) (ty := .boolean) hx hb hr (by decide) (fun t ht hW => ⟨⟨nI 0, (), rfl, ?_, by rw [ht]; exact hP, hD⟩, hS.F ht⟩) hS.2.2 dX1_refuse_11
  rfl

abbrev w_X1_takeToken (G : XG) (kre kbt kby : Nat) (rl nx kd sr : Nat) (vl fo pl li ht lt ct : Int32) (tb : Nat → Int32) : va_W := [oC kre 1 [.ref kbt, .ref kby, .int (nI rl), .int (nI nx), .int (nI kd), .int (nI sr), .int vl, .int fo, .int pl, .int li, .int ht, .int lt, .int ct], bA G kby 160 tb]
abbrev Q_X1_takeToken (G : XG) (sz : Nat) (kre kbt kby : Nat) (rl nx kd sr : Nat) (vl fo pl li ht lt ct : Int32) (tb : Nat → Int32) : Array Value → State → Outcome → State → Prop := (va_Qi (fun (r : Int32) (u : Nat × Nat × Nat × Int32 × Int32 × Int32) => r = xb (okT tb rl (ruE isSp tb rl nx) = true) ∧ u.1 = nxT tb rl (ruE isSp tb rl nx) ∧ u.2.1 = kdT tb rl (ruE isSp tb rl nx) ∧ u.2.2.1 = (ruE isSp tb rl nx) ∧ u.2.2.2.1 = (if kdT tb rl (ruE isSp tb rl nx) = 2 then dvF tb (nxT tb rl (ruE isSp tb rl nx) - (ruE isSp tb rl nx)) (ruE isSp tb rl nx) (nI 0) else vl) ∧ u.2.2.2.2.1 = (if okT tb rl (ruE isSp tb rl nx) = true then fo else nI 1) ∧ u.2.2.2.2.2 = (if okT tb rl (ruE isSp tb rl nx) = true then pl else nI (ruE isSp tb rl nx))) (xWb G sz (w_X1_takeToken G kre kbt kby rl nx kd sr vl fo pl li ht lt ct tb) (fun u : Nat × Nat × Nat × Int32 × Int32 × Int32 => [oC kre 1 [.ref kbt, .ref kby, .int (nI rl), .int (nI u.1), .int (nI u.2.1), .int (nI u.2.2.1), .int u.2.2.2.1, .int u.2.2.2.2.1, .int u.2.2.2.2.2, .int li, .int ht, .int lt, .int ct], bA G kby 160 tb])) (va_A (w_X1_takeToken G kre kbt kby rl nx kd sr vl fo pl li ht lt ct tb) sz))
set_option maxHeartbeats 4000000 in
set_option maxRecDepth 100000 in
theorem c_X1_takeToken (l : Launch) (G : XG) (sz : Nat) (kre kbt kby : Nat) (rl nx kd sr : Nat) (vl fo pl li ht lt ct : Int32) (tb : Nat → Int32) (hrl : rl ≤ 160) (hnx : nx ≤ rl) : Met l yX1_takeToken wsX1_takeToken ({ frames := 1, cells := 0, slots := 0, locals := 22 } : Room) (va_Pc [.ref kre] (xWp G sz (w_X1_takeToken G kre kbt kby rl nx kd sr vl fo pl li ht lt ct tb))) (Q_X1_takeToken G sz kre kbt kby rl nx kd sr vl fo pl li ht lt ct tb) 0 0 (va_A (w_X1_takeToken G kre kbt kby rl nx kd sr vl fo pl li ht lt ct tb) sz) := by
  refine Met.ofW (cc := cX1_takeToken) (maxL := 1) (ret := (some .boolean)) (by decide) rfl ?_
  intro pp ee ss mm aa below mt cd s₁ BB hml hv
  obtain ⟨rfl, hsz, hP, hK, hD0⟩ := hv
  have hx := BB.exec
  have hb := BB.bytes
  have hr := BB.returns
  have hts := atoms_spec (ws := wsX1_takeToken) BB.pre
  have hown : ss.vm.findClass RX1 = some mm.cls := findClass_of_methodNamed BB.named
  have hlocks := BB.notSynchronized
  subst hsz
  have hD := hD0.self (sz := ss.heap.size)
  have hA : ∀ q : Nat, ss.heap.size ≤ q → va_A (w_X1_takeToken G kre kbt kby rl nx kd sr vl fo pl li ht lt ct tb) ss.heap.size q := fun q h => Or.inr h
  have hS : va_S (va_A (w_X1_takeToken G kre kbt kby rl nx kd sr vl fo pl li ht lt ct tb) ss.heap.size) ss.heap ss.heap [] := va_S.rf
  replace hD : va_D (va_A (w_X1_takeToken G kre kbt kby rl nx kd sr vl fo pl li ht lt ct tb) ss.heap.size) [oC kre 1 [.ref kbt, .ref kby, .int (nI rl), .int (nI nx), .int (nI kd), .int (nI sr), .int vl, .int fo, .int pl, .int li, .int ht, .int lt, .int ct], bA G kby 160 tb] := hD
  replace hP : xP G [oC kre 1 [.ref kbt, .ref kby, .int (nI rl), .int (nI nx), .int (nI kd), .int (nI sr), .int vl, .int fo, .int pl, .int li, .int ht, .int lt, .int ct], bA G kby 160 tb] ss.heap := hP
  have hin1 : ∀ w ∈ u_ws RX1 TX1 13, w ∈ wsX1_takeToken := fun w h => List.mem_cons_of_mem _ (List.mem_append_right _ h)
  have hl := lv_entry ([.ref kre]) (n := 1) (Nat.le_of_ble_eq_true rfl)
  rw [lg_entry_eq]
  generalize (lg_sl ([.ref kre]) ++ List.replicate (1 - (lg_sl ([.ref kre])).length) Slot.unset).toArray = ls at hl ⊢
  replace hl : lv_has ls 1 [(0, .ref kre)] := hl
  have hL38 : ∀ (p : Nat) (ls : Array Slot) (H : Heap) (locs : List Loc), (nx ≤ p) → (p ≤ rl) → ((ruE isSp tb rl nx) = p) → lv_has ls 1 [(0, .ref kre)] → xP G [bA G kby 160 tb, oC kre 1 [.ref kbt, .ref kby, .int (nI rl), .int (nI p), .int (nI kd), .int (nI sr), .int vl, .int fo, .int pl, .int li, .int ht, .int lt, .int ct]] H → va_D (va_A (w_X1_takeToken G kre kbt kby rl nx kd sr vl fo pl li ht lt ct tb) ss.heap.size) [bA G kby 160 tb, oC kre 1 [.ref kbt, .ref kby, .int (nI rl), .int (nI p), .int (nI kd), .int (nI sr), .int vl, .int fo, .int pl, .int li, .int ht, .int lt, .int ct]] → va_S (va_A (w_X1_takeToken G kre kbt kby rl nx kd sr vl fo pl li ht lt ct tb) ss.heap.size) ss.heap H locs → W pp l ee ({ frames := 1, cells := 0, slots := 0, locals := 22 } : Room) ss mm ([.ref kre] : List Value).toArray below mt cd H locs 0 0 (MQ below (Q_X1_takeToken G ss.heap.size kre kbt kby rl nx kd sr vl fo pl li ht lt ct tb) ([.ref kre] : List Value).toArray ss 0 0 (va_A (w_X1_takeToken G kre kbt kby rl nx kd sr vl fo pl li ht lt ct tb) ss.heap.size)) (F0 mm 38 ls []) := by
    intro p ls H locs hnp hpr hq hl hP hD hS
    refine lv_aload_n hx hb dX1_takeToken_38 rfl (lv_at hl 0 rfl) ?_
    refine lv_aload_n hx hb dX1_takeToken_39 rfl (lv_at hl 0 rfl) ?_
    refine va_get (D := G.1) (ci := 1) (v := .int (nI p)) (C := RX1) (T := TX1) (N := 13) hx hb hts hin1 hown hK.1 hP 1 rfl rfl 3 (by decide) (hts (.fieldLink RX1 26 "BackLenses$Reader" "next" "I") (List.mem_of_getElem? (i := 1) rfl)) (fun _ h9 => h9) rfl dX1_takeToken_40 ?_
    refine va_put (D := G.1) (ci := 1) (v := .int (nI p)) (ty := .int) (C := RX1) (T := TX1) (N := 13) hx hb hts hin1 tyX1 tyX1_ok nmX1 hown hK.1 hP hD hS 1 rfl rfl 5 (by decide) (hts (.fieldLink RX1 95 "BackLenses$Reader" "start" "I") (List.mem_of_getElem? (i := 4) rfl)) (fun _ h9 => h9) rfl (by decide +kernel) rfl rfl (Nat.le_of_ble_eq_true rfl) dX1_takeToken_43 (fun H locs hP hD hS => ?_)
    replace hP : xP G [bA G kby 160 tb, oC kre 1 [.ref kbt, .ref kby, .int (nI rl), .int (nI p), .int (nI kd), .int (nI p), .int vl, .int fo, .int pl, .int li, .int ht, .int lt, .int ct]] H := hP
    replace hD : va_D (va_A (w_X1_takeToken G kre kbt kby rl nx kd sr vl fo pl li ht lt ct tb) ss.heap.size) [bA G kby 160 tb, oC kre 1 [.ref kbt, .ref kby, .int (nI rl), .int (nI p), .int (nI kd), .int (nI p), .int vl, .int fo, .int pl, .int li, .int ht, .int lt, .int ct]] := hD
    refine lv_aload_n hx hb dX1_takeToken_46 rfl (lv_at hl 0 rfl) ?_
    refine va_get (D := G.1) (ci := 1) (v := .int (nI p)) (C := RX1) (T := TX1) (N := 13) hx hb hts hin1 hown hK.1 hP 1 rfl rfl 3 (by decide) (hts (.fieldLink RX1 26 "BackLenses$Reader" "next" "I") (List.mem_of_getElem? (i := 1) rfl)) (fun _ h9 => h9) rfl dX1_takeToken_47 ?_
    refine lv_aload_n hx hb dX1_takeToken_50 rfl (lv_at hl 0 rfl) ?_
    refine va_get (D := G.1) (ci := 1) (v := .int (nI rl)) (C := RX1) (T := TX1) (N := 13) hx hb hts hin1 hown hK.1 hP 1 rfl rfl 2 (by decide) (hts (.fieldLink RX1 22 "BackLenses$Reader" "length" "I") (List.mem_of_getElem? (i := 2) rfl)) (fun _ h9 => h9) rfl dX1_takeToken_51 ?_
    refine xn_icmp_lt (tgt := 64) hx hb (by omega) (by omega) dX1_takeToken_54 rfl (fun b54 => ?_) (fun b54 => ?_)
    · skip
      refine lv_aload_n hx hb dX1_takeToken_64 rfl (lv_at hl 0 rfl) ?_
      refine va_get (D := G.1) (ci := 1) (v := .ref kby) (C := RX1) (T := TX1) (N := 13) hx hb hts hin1 hown hK.1 hP 1 rfl rfl 1 (by decide) (hts (.fieldLink RX1 18 "BackLenses$Reader" "bytes" "[B") (List.mem_of_getElem? (i := 3) rfl)) (fun _ h9 => h9) rfl dX1_takeToken_65 ?_
      refine lv_aload_n hx hb dX1_takeToken_68 rfl (lv_at hl 0 rfl) ?_
      refine va_get (D := G.1) (ci := 1) (v := .int (nI p)) (C := RX1) (T := TX1) (N := 13) hx hb hts hin1 hown hK.1 hP 1 rfl rfl 3 (by decide) (hts (.fieldLink RX1 26 "BackLenses$Reader" "next" "I") (List.mem_of_getElem? (i := 1) rfl)) (fun _ h9 => h9) rfl dX1_takeToken_69 ?_
      refine xn_bald hx hb hK hP 0 rfl (by omega) (by omega) dX1_takeToken_72 ?_
      refine lv_bipush (v := nI 59) hx hb dX1_takeToken_73 (by decide) ?_
      refine lv_icmp_ne (tgt := 95) hx hb dX1_takeToken_75 rfl (fun b75 => ?_) (fun b75 => ?_)
      · skip
        refine lv_aload_n hx hb dX1_takeToken_95 rfl (lv_at hl 0 rfl) ?_
        refine va_get (D := G.1) (ci := 1) (v := .ref kby) (C := RX1) (T := TX1) (N := 13) hx hb hts hin1 hown hK.1 hP 1 rfl rfl 1 (by decide) (hts (.fieldLink RX1 18 "BackLenses$Reader" "bytes" "[B") (List.mem_of_getElem? (i := 3) rfl)) (fun _ h9 => h9) rfl dX1_takeToken_96 ?_
        refine lv_aload_n hx hb dX1_takeToken_99 rfl (lv_at hl 0 rfl) ?_
        refine va_get (D := G.1) (ci := 1) (v := .int (nI p)) (C := RX1) (T := TX1) (N := 13) hx hb hts hin1 hown hK.1 hP 1 rfl rfl 3 (by decide) (hts (.fieldLink RX1 26 "BackLenses$Reader" "next" "I") (List.mem_of_getElem? (i := 1) rfl)) (fun _ h9 => h9) rfl dX1_takeToken_100 ?_
        refine xn_bald hx hb hK hP 0 rfl (by omega) (by omega) dX1_takeToken_103 ?_
        refine xs_i (As := [.int (tb p)]) (rest := []) ⟨hx, hb, hml, hown, hts⟩ (c_X1_isLetter l G (tb p) ) (va_cwS 1 hts gX1_takeToken_X1_isLetter rfl rfl rfl (by decide +kernel) ⟨Nat.le_of_ble_eq_true rfl, Nat.le_of_ble_eq_true rfl⟩) hP hS rfl hl.1 rfl (Nat.le_of_ble_eq_true rfl) dX1_takeToken_104 ⟨Nat.zero_le _, Nat.zero_le _⟩ (fun r104 H locs hp104 hP hS => ?_)
        rw [show r104 = _ from hp104]
        refine xb_if_eq (tgt := 156) hx hb dX1_takeToken_107 rfl (fun b107 => ?_) (fun b107 => ?_)
        · skip
          refine lv_aload_n hx hb dX1_takeToken_156 rfl (lv_at hl 0 rfl) ?_
          refine lv_iconst (v := nI 0) hx hb dX1_takeToken_157 (by decide) ?_
          refine va_put (D := G.1) (ci := 1) (v := .int (nI 0)) (ty := .int) (C := RX1) (T := TX1) (N := 13) hx hb hts hin1 tyX1 tyX1_ok nmX1 hown hK.1 hP hD hS 1 rfl rfl 6 (by decide) (hts (.fieldLink RX1 130 "BackLenses$Reader" "value" "I") (List.mem_of_getElem? (i := 6) rfl)) (fun _ h9 => h9) rfl (by decide +kernel) rfl rfl (Nat.le_of_ble_eq_true rfl) dX1_takeToken_158 (fun H locs hP hD hS => ?_)
          replace hP : xP G [bA G kby 160 tb, oC kre 1 [.ref kbt, .ref kby, .int (nI rl), .int (nI p), .int (nI kd), .int (nI p), .int (nI 0), .int fo, .int pl, .int li, .int ht, .int lt, .int ct]] H := hP
          replace hD : va_D (va_A (w_X1_takeToken G kre kbt kby rl nx kd sr vl fo pl li ht lt ct tb) ss.heap.size) [bA G kby 160 tb, oC kre 1 [.ref kbt, .ref kby, .int (nI rl), .int (nI p), .int (nI kd), .int (nI p), .int (nI 0), .int fo, .int pl, .int li, .int ht, .int lt, .int ct]] := hD
          have hL161 : ∀ k : Nat, ∀ (p2 : Nat) (v2 : Int32) (ls : Array Slot) (H : Heap) (locs : List Loc), rl - p2 = k → (p ≤ p2) → (p2 ≤ rl) → (ruE isD tb rl p = ruE isD tb rl p2) → (v2 = dvF tb (p2 - p) p (nI 0)) → lv_has ls 1 [(0, .ref kre)] → xP G [bA G kby 160 tb, oC kre 1 [.ref kbt, .ref kby, .int (nI rl), .int (nI p2), .int (nI kd), .int (nI p), .int v2, .int fo, .int pl, .int li, .int ht, .int lt, .int ct]] H → va_D (va_A (w_X1_takeToken G kre kbt kby rl nx kd sr vl fo pl li ht lt ct tb) ss.heap.size) [bA G kby 160 tb, oC kre 1 [.ref kbt, .ref kby, .int (nI rl), .int (nI p2), .int (nI kd), .int (nI p), .int v2, .int fo, .int pl, .int li, .int ht, .int lt, .int ct]] → va_S (va_A (w_X1_takeToken G kre kbt kby rl nx kd sr vl fo pl li ht lt ct tb) ss.heap.size) ss.heap H locs → W pp l ee ({ frames := 1, cells := 0, slots := 0, locals := 22 } : Room) ss mm ([.ref kre] : List Value).toArray below mt cd H locs 0 0 (MQ below (Q_X1_takeToken G ss.heap.size kre kbt kby rl nx kd sr vl fo pl li ht lt ct tb) ([.ref kre] : List Value).toArray ss 0 0 (va_A (w_X1_takeToken G kre kbt kby rl nx kd sr vl fo pl li ht lt ct tb) ss.heap.size)) (F0 mm 161 ls []) := by
            intro k
            induction k using Nat.strongRecOn with
            | _ k ih161 =>
            intro p2 v2 ls H locs hm161 hp2 hp3 hdr hdv hl hP hD hS
            refine lv_aload_n hx hb dX1_takeToken_161 rfl (lv_at hl 0 rfl) ?_
            refine va_get (D := G.1) (ci := 1) (v := .int (nI p2)) (C := RX1) (T := TX1) (N := 13) hx hb hts hin1 hown hK.1 hP 1 rfl rfl 3 (by decide) (hts (.fieldLink RX1 26 "BackLenses$Reader" "next" "I") (List.mem_of_getElem? (i := 1) rfl)) (fun _ h9 => h9) rfl dX1_takeToken_162 ?_
            refine lv_aload_n hx hb dX1_takeToken_165 rfl (lv_at hl 0 rfl) ?_
            refine va_get (D := G.1) (ci := 1) (v := .int (nI rl)) (C := RX1) (T := TX1) (N := 13) hx hb hts hin1 hown hK.1 hP 1 rfl rfl 2 (by decide) (hts (.fieldLink RX1 22 "BackLenses$Reader" "length" "I") (List.mem_of_getElem? (i := 2) rfl)) (fun _ h9 => h9) rfl dX1_takeToken_166 ?_
            refine xn_icmp_ge (tgt := 224) hx hb (by omega) (by omega) dX1_takeToken_169 rfl (fun b169 => ?_) (fun b169 => ?_)
            · skip
              have hle := hdr.trans (ruF_end (fun q => absurd q.1 (by omega)))
              refine lv_aload_n hx hb dX1_takeToken_224 rfl (lv_at hl 0 rfl) ?_
              refine lv_iconst (v := nI 2) hx hb dX1_takeToken_225 (by decide) ?_
              refine va_put (D := G.1) (ci := 1) (v := .int (nI 2)) (ty := .int) (C := RX1) (T := TX1) (N := 13) hx hb hts hin1 tyX1 tyX1_ok nmX1 hown hK.1 hP hD hS 1 rfl rfl 4 (by decide) (hts (.fieldLink RX1 55 "BackLenses$Reader" "kind" "I") (List.mem_of_getElem? (i := 5) rfl)) (fun _ h9 => h9) rfl (by decide +kernel) rfl rfl (Nat.le_of_ble_eq_true rfl) dX1_takeToken_226 (fun H locs hP hD hS => ?_)
              replace hP : xP G [bA G kby 160 tb, oC kre 1 [.ref kbt, .ref kby, .int (nI rl), .int (nI p2), .int (nI 2), .int (nI p), .int v2, .int fo, .int pl, .int li, .int ht, .int lt, .int ct]] H := hP
              replace hD : va_D (va_A (w_X1_takeToken G kre kbt kby rl nx kd sr vl fo pl li ht lt ct tb) ss.heap.size) [bA G kby 160 tb, oC kre 1 [.ref kbt, .ref kby, .int (nI rl), .int (nI p2), .int (nI 2), .int (nI p), .int v2, .int fo, .int pl, .int li, .int ht, .int lt, .int ct]] := hD
              refine lv_aload_n hx hb dX1_takeToken_229 rfl (lv_at hl 0 rfl) ?_
              refine va_get (D := G.1) (ci := 1) (v := .int (nI p2)) (C := RX1) (T := TX1) (N := 13) hx hb hts hin1 hown hK.1 hP 1 rfl rfl 3 (by decide) (hts (.fieldLink RX1 26 "BackLenses$Reader" "next" "I") (List.mem_of_getElem? (i := 1) rfl)) (fun _ h9 => h9) rfl dX1_takeToken_230 ?_
              refine lv_aload_n hx hb dX1_takeToken_233 rfl (lv_at hl 0 rfl) ?_
              refine va_get (D := G.1) (ci := 1) (v := .int (nI p)) (C := RX1) (T := TX1) (N := 13) hx hb hts hin1 hown hK.1 hP 1 rfl rfl 5 (by decide) (hts (.fieldLink RX1 95 "BackLenses$Reader" "start" "I") (List.mem_of_getElem? (i := 4) rfl)) (fun _ h9 => h9) rfl dX1_takeToken_234 ?_
              refine xn_isub hx hb (by omega) dX1_takeToken_237 ?_
              refine lv_iconst (v := nI 1) hx hb dX1_takeToken_238 (by decide) ?_
              refine xn_icmp_eq (tgt := 267) hx hb (by omega) (by omega) dX1_takeToken_239 rfl (fun b239 => ?_) (fun b239 => ?_)
              · skip
                refine lv_iconst (v := nI 1) hx hb dX1_takeToken_267 (by decide) ?_
                refine lv_goto (tgt := 272) hx hb dX1_takeToken_268 rfl ?_
                have hP := hP.sub (ws' := [oC kre 1 [.ref kbt, .ref kby, .int (nI rl), .int (nI p2), .int (nI 2), .int (nI p), .int v2, .int fo, .int pl, .int li, .int ht, .int lt, .int ct], bA G kby 160 tb]) [1, 0] rfl
                have hD := hD.sub (ws' := [oC kre 1 [.ref kbt, .ref kby, .int (nI rl), .int (nI p2), .int (nI 2), .int (nI p), .int v2, .int fo, .int pl, .int li, .int ht, .int lt, .int ct], bA G kby 160 tb]) [1, 0] (by decide) rfl
                refine W.zret (v := nI 1) (ty := .boolean) hx hb hr (by decide) (fun t ht hW => ⟨⟨nI 1, (p2, 2, p, v2, fo, pl), rfl, ?_, by rw [ht]; exact hP, hD⟩, hS.F ht⟩) hS.2.2 dX1_takeToken_272
                try dsimp only
                rw [hq]; obtain ⟨k1, k2, k3⟩ := lx2 (t := tb) (rl := rl) (q := p) (by omega) b75 (fun z => b107 (of_decide_eq_true z)); rw [hle] at k2 k3; rw [k1, k2]; first | (have k4 : okT tb rl p = true := k3.mpr (by omega); exact ⟨(xb_t k4).symm, rfl, rfl, rfl, (by rw [if_pos rfl]; exact hdv), (if_pos k4).symm, (if_pos k4).symm⟩) | (have k4 : ¬ okT tb rl p = true := (fun z => absurd (k3.mp z) (by omega)); exact ⟨(xb_f k4).symm, rfl, rfl, rfl, (by rw [if_pos rfl]; exact hdv), (if_neg k4).symm, (if_neg k4).symm⟩)
              · skip
                refine lv_aload_n hx hb dX1_takeToken_242 rfl (lv_at hl 0 rfl) ?_
                refine va_get (D := G.1) (ci := 1) (v := .int (nI p2)) (C := RX1) (T := TX1) (N := 13) hx hb hts hin1 hown hK.1 hP 1 rfl rfl 3 (by decide) (hts (.fieldLink RX1 26 "BackLenses$Reader" "next" "I") (List.mem_of_getElem? (i := 1) rfl)) (fun _ h9 => h9) rfl dX1_takeToken_243 ?_
                refine lv_aload_n hx hb dX1_takeToken_246 rfl (lv_at hl 0 rfl) ?_
                refine va_get (D := G.1) (ci := 1) (v := .int (nI p)) (C := RX1) (T := TX1) (N := 13) hx hb hts hin1 hown hK.1 hP 1 rfl rfl 5 (by decide) (hts (.fieldLink RX1 95 "BackLenses$Reader" "start" "I") (List.mem_of_getElem? (i := 4) rfl)) (fun _ h9 => h9) rfl dX1_takeToken_247 ?_
                refine xn_isub hx hb (by omega) dX1_takeToken_250 ?_
                refine lv_iconst (v := nI 2) hx hb dX1_takeToken_251 (by decide) ?_
                refine xn_icmp_eq (tgt := 267) hx hb (by omega) (by omega) dX1_takeToken_252 rfl (fun b252 => ?_) (fun b252 => ?_)
                · skip
                  refine lv_iconst (v := nI 1) hx hb dX1_takeToken_267 (by decide) ?_
                  refine lv_goto (tgt := 272) hx hb dX1_takeToken_268 rfl ?_
                  have hP := hP.sub (ws' := [oC kre 1 [.ref kbt, .ref kby, .int (nI rl), .int (nI p2), .int (nI 2), .int (nI p), .int v2, .int fo, .int pl, .int li, .int ht, .int lt, .int ct], bA G kby 160 tb]) [1, 0] rfl
                  have hD := hD.sub (ws' := [oC kre 1 [.ref kbt, .ref kby, .int (nI rl), .int (nI p2), .int (nI 2), .int (nI p), .int v2, .int fo, .int pl, .int li, .int ht, .int lt, .int ct], bA G kby 160 tb]) [1, 0] (by decide) rfl
                  refine W.zret (v := nI 1) (ty := .boolean) hx hb hr (by decide) (fun t ht hW => ⟨⟨nI 1, (p2, 2, p, v2, fo, pl), rfl, ?_, by rw [ht]; exact hP, hD⟩, hS.F ht⟩) hS.2.2 dX1_takeToken_272
                  try dsimp only
                  rw [hq]; obtain ⟨k1, k2, k3⟩ := lx2 (t := tb) (rl := rl) (q := p) (by omega) b75 (fun z => b107 (of_decide_eq_true z)); rw [hle] at k2 k3; rw [k1, k2]; first | (have k4 : okT tb rl p = true := k3.mpr (by omega); exact ⟨(xb_t k4).symm, rfl, rfl, rfl, (by rw [if_pos rfl]; exact hdv), (if_pos k4).symm, (if_pos k4).symm⟩) | (have k4 : ¬ okT tb rl p = true := (fun z => absurd (k3.mp z) (by omega)); exact ⟨(xb_f k4).symm, rfl, rfl, rfl, (by rw [if_pos rfl]; exact hdv), (if_neg k4).symm, (if_neg k4).symm⟩)
                · skip
                  refine lv_aload_n hx hb dX1_takeToken_255 rfl (lv_at hl 0 rfl) ?_
                  refine lv_iconst (v := nI 1) hx hb dX1_takeToken_256 (by decide) ?_
                  refine lv_aload_n hx hb dX1_takeToken_257 rfl (lv_at hl 0 rfl) ?_
                  refine va_get (D := G.1) (ci := 1) (v := .int (nI p)) (C := RX1) (T := TX1) (N := 13) hx hb hts hin1 hown hK.1 hP 1 rfl rfl 5 (by decide) (hts (.fieldLink RX1 95 "BackLenses$Reader" "start" "I") (List.mem_of_getElem? (i := 4) rfl)) (fun _ h9 => h9) rfl dX1_takeToken_258 ?_
                  refine xw_i (As := [.int (nI 1), .int (nI p)]) (rest := []) (wr := [bA G kby 160 tb]) ⟨hx, hb, hml, hown, hts⟩ (c_X1_refuse l G H.size kre kbt kby rl p2 2 p v2 fo pl li ht lt ct (nI 1) (nI p) ) (cwV 2 hts gX1_takeToken_X1_refuse rfl rfl rfl (by decide +kernel) ⟨Nat.le_of_ble_eq_true rfl, Nat.le_of_ble_eq_true rfl⟩) hK hP hD hS hA [1] [0] rfl rfl (by decide) (by decide) (by decide) rfl rfl rfl hl.1 rfl (Nat.le_of_ble_eq_true rfl) dX1_takeToken_261 ⟨Nat.le_of_ble_eq_true rfl, Nat.le_of_ble_eq_true rfl⟩ (fun r261 u H locs hp261 hP hD hS => ?_)
                  obtain rfl := hp261
                  replace hP : xP G [bA G kby 160 tb, oC kre 1 [.ref kbt, .ref kby, .int (nI rl), .int (nI p2), .int (nI 2), .int (nI p), .int v2, .int (nI 1), .int (nI p), .int li, .int ht, .int lt, .int ct]] H := hP
                  replace hD : va_D (va_A (w_X1_takeToken G kre kbt kby rl nx kd sr vl fo pl li ht lt ct tb) ss.heap.size) [bA G kby 160 tb, oC kre 1 [.ref kbt, .ref kby, .int (nI rl), .int (nI p2), .int (nI 2), .int (nI p), .int v2, .int (nI 1), .int (nI p), .int li, .int ht, .int lt, .int ct]] := hD
                  refine xn_if_eq (tgt := 271) hx hb (by omega) dX1_takeToken_264 rfl (fun _ => ?_) (fun b264 => absurd b264 (by omega))
                  refine lv_iconst (v := nI 0) hx hb dX1_takeToken_271 (by decide) ?_
                  have hP := hP.sub (ws' := [oC kre 1 [.ref kbt, .ref kby, .int (nI rl), .int (nI p2), .int (nI 2), .int (nI p), .int v2, .int (nI 1), .int (nI p), .int li, .int ht, .int lt, .int ct], bA G kby 160 tb]) [1, 0] rfl
                  have hD := hD.sub (ws' := [oC kre 1 [.ref kbt, .ref kby, .int (nI rl), .int (nI p2), .int (nI 2), .int (nI p), .int v2, .int (nI 1), .int (nI p), .int li, .int ht, .int lt, .int ct], bA G kby 160 tb]) [1, 0] (by decide) rfl
                  refine W.zret (v := nI 0) (ty := .boolean) hx hb hr (by decide) (fun t ht hW => ⟨⟨nI 0, (p2, 2, p, v2, (nI 1), (nI p)), rfl, ?_, by rw [ht]; exact hP, hD⟩, hS.F ht⟩) hS.2.2 dX1_takeToken_272
                  try dsimp only
                  rw [hq]; obtain ⟨k1, k2, k3⟩ := lx2 (t := tb) (rl := rl) (q := p) (by omega) b75 (fun z => b107 (of_decide_eq_true z)); rw [hle] at k2 k3; rw [k1, k2]; first | (have k4 : okT tb rl p = true := k3.mpr (by omega); exact ⟨(xb_t k4).symm, rfl, rfl, rfl, (by rw [if_pos rfl]; exact hdv), (if_pos k4).symm, (if_pos k4).symm⟩) | (have k4 : ¬ okT tb rl p = true := (fun z => absurd (k3.mp z) (by omega)); exact ⟨(xb_f k4).symm, rfl, rfl, rfl, (by rw [if_pos rfl]; exact hdv), (if_neg k4).symm, (if_neg k4).symm⟩)
            · skip
              refine lv_aload_n hx hb dX1_takeToken_172 rfl (lv_at hl 0 rfl) ?_
              refine va_get (D := G.1) (ci := 1) (v := .ref kby) (C := RX1) (T := TX1) (N := 13) hx hb hts hin1 hown hK.1 hP 1 rfl rfl 1 (by decide) (hts (.fieldLink RX1 18 "BackLenses$Reader" "bytes" "[B") (List.mem_of_getElem? (i := 3) rfl)) (fun _ h9 => h9) rfl dX1_takeToken_173 ?_
              refine lv_aload_n hx hb dX1_takeToken_176 rfl (lv_at hl 0 rfl) ?_
              refine va_get (D := G.1) (ci := 1) (v := .int (nI p2)) (C := RX1) (T := TX1) (N := 13) hx hb hts hin1 hown hK.1 hP 1 rfl rfl 3 (by decide) (hts (.fieldLink RX1 26 "BackLenses$Reader" "next" "I") (List.mem_of_getElem? (i := 1) rfl)) (fun _ h9 => h9) rfl dX1_takeToken_177 ?_
              refine xn_bald hx hb hK hP 0 rfl (by omega) (by omega) dX1_takeToken_180 ?_
              refine xs_i (As := [.int (tb p2)]) (rest := []) ⟨hx, hb, hml, hown, hts⟩ (c_X1_isFigure l G (tb p2) ) (va_cwS 1 hts gX1_takeToken_X1_isFigure rfl rfl rfl (by decide +kernel) ⟨Nat.le_of_ble_eq_true rfl, Nat.le_of_ble_eq_true rfl⟩) hP hS rfl hl.1 rfl (Nat.le_of_ble_eq_true rfl) dX1_takeToken_181 ⟨Nat.zero_le _, Nat.zero_le _⟩ (fun r181 H locs hp181 hP hS => ?_)
              rw [show r181 = _ from hp181]
              refine xb_if_eq (tgt := 224) hx hb dX1_takeToken_184 rfl (fun b184 => ?_) (fun b184 => ?_)
              · skip
                have hle := hdr.trans (ruF_end (fun q => b184 (of_decide_eq_true q.2)))
                refine lv_aload_n hx hb dX1_takeToken_224 rfl (lv_at hl 0 rfl) ?_
                refine lv_iconst (v := nI 2) hx hb dX1_takeToken_225 (by decide) ?_
                refine va_put (D := G.1) (ci := 1) (v := .int (nI 2)) (ty := .int) (C := RX1) (T := TX1) (N := 13) hx hb hts hin1 tyX1 tyX1_ok nmX1 hown hK.1 hP hD hS 1 rfl rfl 4 (by decide) (hts (.fieldLink RX1 55 "BackLenses$Reader" "kind" "I") (List.mem_of_getElem? (i := 5) rfl)) (fun _ h9 => h9) rfl (by decide +kernel) rfl rfl (Nat.le_of_ble_eq_true rfl) dX1_takeToken_226 (fun H locs hP hD hS => ?_)
                replace hP : xP G [bA G kby 160 tb, oC kre 1 [.ref kbt, .ref kby, .int (nI rl), .int (nI p2), .int (nI 2), .int (nI p), .int v2, .int fo, .int pl, .int li, .int ht, .int lt, .int ct]] H := hP
                replace hD : va_D (va_A (w_X1_takeToken G kre kbt kby rl nx kd sr vl fo pl li ht lt ct tb) ss.heap.size) [bA G kby 160 tb, oC kre 1 [.ref kbt, .ref kby, .int (nI rl), .int (nI p2), .int (nI 2), .int (nI p), .int v2, .int fo, .int pl, .int li, .int ht, .int lt, .int ct]] := hD
                refine lv_aload_n hx hb dX1_takeToken_229 rfl (lv_at hl 0 rfl) ?_
                refine va_get (D := G.1) (ci := 1) (v := .int (nI p2)) (C := RX1) (T := TX1) (N := 13) hx hb hts hin1 hown hK.1 hP 1 rfl rfl 3 (by decide) (hts (.fieldLink RX1 26 "BackLenses$Reader" "next" "I") (List.mem_of_getElem? (i := 1) rfl)) (fun _ h9 => h9) rfl dX1_takeToken_230 ?_
                refine lv_aload_n hx hb dX1_takeToken_233 rfl (lv_at hl 0 rfl) ?_
                refine va_get (D := G.1) (ci := 1) (v := .int (nI p)) (C := RX1) (T := TX1) (N := 13) hx hb hts hin1 hown hK.1 hP 1 rfl rfl 5 (by decide) (hts (.fieldLink RX1 95 "BackLenses$Reader" "start" "I") (List.mem_of_getElem? (i := 4) rfl)) (fun _ h9 => h9) rfl dX1_takeToken_234 ?_
                refine xn_isub hx hb (by omega) dX1_takeToken_237 ?_
                refine lv_iconst (v := nI 1) hx hb dX1_takeToken_238 (by decide) ?_
                refine xn_icmp_eq (tgt := 267) hx hb (by omega) (by omega) dX1_takeToken_239 rfl (fun b239 => ?_) (fun b239 => ?_)
                · skip
                  refine lv_iconst (v := nI 1) hx hb dX1_takeToken_267 (by decide) ?_
                  refine lv_goto (tgt := 272) hx hb dX1_takeToken_268 rfl ?_
                  have hP := hP.sub (ws' := [oC kre 1 [.ref kbt, .ref kby, .int (nI rl), .int (nI p2), .int (nI 2), .int (nI p), .int v2, .int fo, .int pl, .int li, .int ht, .int lt, .int ct], bA G kby 160 tb]) [1, 0] rfl
                  have hD := hD.sub (ws' := [oC kre 1 [.ref kbt, .ref kby, .int (nI rl), .int (nI p2), .int (nI 2), .int (nI p), .int v2, .int fo, .int pl, .int li, .int ht, .int lt, .int ct], bA G kby 160 tb]) [1, 0] (by decide) rfl
                  refine W.zret (v := nI 1) (ty := .boolean) hx hb hr (by decide) (fun t ht hW => ⟨⟨nI 1, (p2, 2, p, v2, fo, pl), rfl, ?_, by rw [ht]; exact hP, hD⟩, hS.F ht⟩) hS.2.2 dX1_takeToken_272
                  try dsimp only
                  rw [hq]; obtain ⟨k1, k2, k3⟩ := lx2 (t := tb) (rl := rl) (q := p) (by omega) b75 (fun z => b107 (of_decide_eq_true z)); rw [hle] at k2 k3; rw [k1, k2]; first | (have k4 : okT tb rl p = true := k3.mpr (by omega); exact ⟨(xb_t k4).symm, rfl, rfl, rfl, (by rw [if_pos rfl]; exact hdv), (if_pos k4).symm, (if_pos k4).symm⟩) | (have k4 : ¬ okT tb rl p = true := (fun z => absurd (k3.mp z) (by omega)); exact ⟨(xb_f k4).symm, rfl, rfl, rfl, (by rw [if_pos rfl]; exact hdv), (if_neg k4).symm, (if_neg k4).symm⟩)
                · skip
                  refine lv_aload_n hx hb dX1_takeToken_242 rfl (lv_at hl 0 rfl) ?_
                  refine va_get (D := G.1) (ci := 1) (v := .int (nI p2)) (C := RX1) (T := TX1) (N := 13) hx hb hts hin1 hown hK.1 hP 1 rfl rfl 3 (by decide) (hts (.fieldLink RX1 26 "BackLenses$Reader" "next" "I") (List.mem_of_getElem? (i := 1) rfl)) (fun _ h9 => h9) rfl dX1_takeToken_243 ?_
                  refine lv_aload_n hx hb dX1_takeToken_246 rfl (lv_at hl 0 rfl) ?_
                  refine va_get (D := G.1) (ci := 1) (v := .int (nI p)) (C := RX1) (T := TX1) (N := 13) hx hb hts hin1 hown hK.1 hP 1 rfl rfl 5 (by decide) (hts (.fieldLink RX1 95 "BackLenses$Reader" "start" "I") (List.mem_of_getElem? (i := 4) rfl)) (fun _ h9 => h9) rfl dX1_takeToken_247 ?_
                  refine xn_isub hx hb (by omega) dX1_takeToken_250 ?_
                  refine lv_iconst (v := nI 2) hx hb dX1_takeToken_251 (by decide) ?_
                  refine xn_icmp_eq (tgt := 267) hx hb (by omega) (by omega) dX1_takeToken_252 rfl (fun b252 => ?_) (fun b252 => ?_)
                  · skip
                    refine lv_iconst (v := nI 1) hx hb dX1_takeToken_267 (by decide) ?_
                    refine lv_goto (tgt := 272) hx hb dX1_takeToken_268 rfl ?_
                    have hP := hP.sub (ws' := [oC kre 1 [.ref kbt, .ref kby, .int (nI rl), .int (nI p2), .int (nI 2), .int (nI p), .int v2, .int fo, .int pl, .int li, .int ht, .int lt, .int ct], bA G kby 160 tb]) [1, 0] rfl
                    have hD := hD.sub (ws' := [oC kre 1 [.ref kbt, .ref kby, .int (nI rl), .int (nI p2), .int (nI 2), .int (nI p), .int v2, .int fo, .int pl, .int li, .int ht, .int lt, .int ct], bA G kby 160 tb]) [1, 0] (by decide) rfl
                    refine W.zret (v := nI 1) (ty := .boolean) hx hb hr (by decide) (fun t ht hW => ⟨⟨nI 1, (p2, 2, p, v2, fo, pl), rfl, ?_, by rw [ht]; exact hP, hD⟩, hS.F ht⟩) hS.2.2 dX1_takeToken_272
                    try dsimp only
                    rw [hq]; obtain ⟨k1, k2, k3⟩ := lx2 (t := tb) (rl := rl) (q := p) (by omega) b75 (fun z => b107 (of_decide_eq_true z)); rw [hle] at k2 k3; rw [k1, k2]; first | (have k4 : okT tb rl p = true := k3.mpr (by omega); exact ⟨(xb_t k4).symm, rfl, rfl, rfl, (by rw [if_pos rfl]; exact hdv), (if_pos k4).symm, (if_pos k4).symm⟩) | (have k4 : ¬ okT tb rl p = true := (fun z => absurd (k3.mp z) (by omega)); exact ⟨(xb_f k4).symm, rfl, rfl, rfl, (by rw [if_pos rfl]; exact hdv), (if_neg k4).symm, (if_neg k4).symm⟩)
                  · skip
                    refine lv_aload_n hx hb dX1_takeToken_255 rfl (lv_at hl 0 rfl) ?_
                    refine lv_iconst (v := nI 1) hx hb dX1_takeToken_256 (by decide) ?_
                    refine lv_aload_n hx hb dX1_takeToken_257 rfl (lv_at hl 0 rfl) ?_
                    refine va_get (D := G.1) (ci := 1) (v := .int (nI p)) (C := RX1) (T := TX1) (N := 13) hx hb hts hin1 hown hK.1 hP 1 rfl rfl 5 (by decide) (hts (.fieldLink RX1 95 "BackLenses$Reader" "start" "I") (List.mem_of_getElem? (i := 4) rfl)) (fun _ h9 => h9) rfl dX1_takeToken_258 ?_
                    refine xw_i (As := [.int (nI 1), .int (nI p)]) (rest := []) (wr := [bA G kby 160 tb]) ⟨hx, hb, hml, hown, hts⟩ (c_X1_refuse l G H.size kre kbt kby rl p2 2 p v2 fo pl li ht lt ct (nI 1) (nI p) ) (cwV 2 hts gX1_takeToken_X1_refuse rfl rfl rfl (by decide +kernel) ⟨Nat.le_of_ble_eq_true rfl, Nat.le_of_ble_eq_true rfl⟩) hK hP hD hS hA [1] [0] rfl rfl (by decide) (by decide) (by decide) rfl rfl rfl hl.1 rfl (Nat.le_of_ble_eq_true rfl) dX1_takeToken_261 ⟨Nat.le_of_ble_eq_true rfl, Nat.le_of_ble_eq_true rfl⟩ (fun r261 u H locs hp261 hP hD hS => ?_)
                    obtain rfl := hp261
                    replace hP : xP G [bA G kby 160 tb, oC kre 1 [.ref kbt, .ref kby, .int (nI rl), .int (nI p2), .int (nI 2), .int (nI p), .int v2, .int (nI 1), .int (nI p), .int li, .int ht, .int lt, .int ct]] H := hP
                    replace hD : va_D (va_A (w_X1_takeToken G kre kbt kby rl nx kd sr vl fo pl li ht lt ct tb) ss.heap.size) [bA G kby 160 tb, oC kre 1 [.ref kbt, .ref kby, .int (nI rl), .int (nI p2), .int (nI 2), .int (nI p), .int v2, .int (nI 1), .int (nI p), .int li, .int ht, .int lt, .int ct]] := hD
                    refine xn_if_eq (tgt := 271) hx hb (by omega) dX1_takeToken_264 rfl (fun _ => ?_) (fun b264 => absurd b264 (by omega))
                    refine lv_iconst (v := nI 0) hx hb dX1_takeToken_271 (by decide) ?_
                    have hP := hP.sub (ws' := [oC kre 1 [.ref kbt, .ref kby, .int (nI rl), .int (nI p2), .int (nI 2), .int (nI p), .int v2, .int (nI 1), .int (nI p), .int li, .int ht, .int lt, .int ct], bA G kby 160 tb]) [1, 0] rfl
                    have hD := hD.sub (ws' := [oC kre 1 [.ref kbt, .ref kby, .int (nI rl), .int (nI p2), .int (nI 2), .int (nI p), .int v2, .int (nI 1), .int (nI p), .int li, .int ht, .int lt, .int ct], bA G kby 160 tb]) [1, 0] (by decide) rfl
                    refine W.zret (v := nI 0) (ty := .boolean) hx hb hr (by decide) (fun t ht hW => ⟨⟨nI 0, (p2, 2, p, v2, (nI 1), (nI p)), rfl, ?_, by rw [ht]; exact hP, hD⟩, hS.F ht⟩) hS.2.2 dX1_takeToken_272
                    try dsimp only
                    rw [hq]; obtain ⟨k1, k2, k3⟩ := lx2 (t := tb) (rl := rl) (q := p) (by omega) b75 (fun z => b107 (of_decide_eq_true z)); rw [hle] at k2 k3; rw [k1, k2]; first | (have k4 : okT tb rl p = true := k3.mpr (by omega); exact ⟨(xb_t k4).symm, rfl, rfl, rfl, (by rw [if_pos rfl]; exact hdv), (if_pos k4).symm, (if_pos k4).symm⟩) | (have k4 : ¬ okT tb rl p = true := (fun z => absurd (k3.mp z) (by omega)); exact ⟨(xb_f k4).symm, rfl, rfl, rfl, (by rw [if_pos rfl]; exact hdv), (if_neg k4).symm, (if_neg k4).symm⟩)
              · skip
                refine lv_aload_n hx hb dX1_takeToken_187 rfl (lv_at hl 0 rfl) ?_
                refine lv_bipush (v := nI 10) hx hb dX1_takeToken_188 (by decide) ?_
                refine lv_aload_n hx hb dX1_takeToken_190 rfl (lv_at hl 0 rfl) ?_
                refine va_get (D := G.1) (ci := 1) (v := .int v2) (C := RX1) (T := TX1) (N := 13) hx hb hts hin1 hown hK.1 hP 1 rfl rfl 6 (by decide) (hts (.fieldLink RX1 130 "BackLenses$Reader" "value" "I") (List.mem_of_getElem? (i := 6) rfl)) (fun _ h9 => h9) rfl dX1_takeToken_191 ?_
                refine lv_imul hx hb dX1_takeToken_194 ?_
                refine lv_aload_n hx hb dX1_takeToken_195 rfl (lv_at hl 0 rfl) ?_
                refine va_get (D := G.1) (ci := 1) (v := .ref kby) (C := RX1) (T := TX1) (N := 13) hx hb hts hin1 hown hK.1 hP 1 rfl rfl 1 (by decide) (hts (.fieldLink RX1 18 "BackLenses$Reader" "bytes" "[B") (List.mem_of_getElem? (i := 3) rfl)) (fun _ h9 => h9) rfl dX1_takeToken_196 ?_
                refine lv_aload_n hx hb dX1_takeToken_199 rfl (lv_at hl 0 rfl) ?_
                refine va_get (D := G.1) (ci := 1) (v := .int (nI p2)) (C := RX1) (T := TX1) (N := 13) hx hb hts hin1 hown hK.1 hP 1 rfl rfl 3 (by decide) (hts (.fieldLink RX1 26 "BackLenses$Reader" "next" "I") (List.mem_of_getElem? (i := 1) rfl)) (fun _ h9 => h9) rfl dX1_takeToken_200 ?_
                refine xn_bald hx hb hK hP 0 rfl (by omega) (by omega) dX1_takeToken_203 ?_
                refine lv_iadd hx hb dX1_takeToken_204 ?_
                refine lv_bipush (v := nI 48) hx hb dX1_takeToken_205 (by decide) ?_
                refine lv_isub hx hb dX1_takeToken_207 ?_
                refine va_put (D := G.1) (ci := 1) (v := .int ((((nI 10) * v2) + (tb p2)) - (nI 48))) (ty := .int) (C := RX1) (T := TX1) (N := 13) hx hb hts hin1 tyX1 tyX1_ok nmX1 hown hK.1 hP hD hS 1 rfl rfl 6 (by decide) (hts (.fieldLink RX1 130 "BackLenses$Reader" "value" "I") (List.mem_of_getElem? (i := 6) rfl)) (fun _ h9 => h9) rfl (by decide +kernel) rfl rfl (Nat.le_of_ble_eq_true rfl) dX1_takeToken_208 (fun H locs hP hD hS => ?_)
                replace hP : xP G [bA G kby 160 tb, oC kre 1 [.ref kbt, .ref kby, .int (nI rl), .int (nI p2), .int (nI kd), .int (nI p), .int ((((nI 10) * v2) + (tb p2)) - (nI 48)), .int fo, .int pl, .int li, .int ht, .int lt, .int ct]] H := hP
                replace hD : va_D (va_A (w_X1_takeToken G kre kbt kby rl nx kd sr vl fo pl li ht lt ct tb) ss.heap.size) [bA G kby 160 tb, oC kre 1 [.ref kbt, .ref kby, .int (nI rl), .int (nI p2), .int (nI kd), .int (nI p), .int ((((nI 10) * v2) + (tb p2)) - (nI 48)), .int fo, .int pl, .int li, .int ht, .int lt, .int ct]] := hD
                refine lv_aload_n hx hb dX1_takeToken_211 rfl (lv_at hl 0 rfl) ?_
                refine lv_dup hx hb dX1_takeToken_212 rfl ?_
                refine va_get (D := G.1) (ci := 1) (v := .int (nI p2)) (C := RX1) (T := TX1) (N := 13) hx hb hts hin1 hown hK.1 hP 1 rfl rfl 3 (by decide) (hts (.fieldLink RX1 26 "BackLenses$Reader" "next" "I") (List.mem_of_getElem? (i := 1) rfl)) (fun _ h9 => h9) rfl dX1_takeToken_213 ?_
                refine lv_iconst (v := nI 1) hx hb dX1_takeToken_216 (by decide) ?_
                refine xn_iadd hx hb dX1_takeToken_217 ?_
                refine va_put (D := G.1) (ci := 1) (v := .int (nI (p2 + 1))) (ty := .int) (C := RX1) (T := TX1) (N := 13) hx hb hts hin1 tyX1 tyX1_ok nmX1 hown hK.1 hP hD hS 1 rfl rfl 3 (by decide) (hts (.fieldLink RX1 26 "BackLenses$Reader" "next" "I") (List.mem_of_getElem? (i := 1) rfl)) (fun _ h9 => h9) rfl (by decide +kernel) rfl rfl (Nat.le_of_ble_eq_true rfl) dX1_takeToken_218 (fun H locs hP hD hS => ?_)
                replace hP : xP G [bA G kby 160 tb, oC kre 1 [.ref kbt, .ref kby, .int (nI rl), .int (nI (p2 + 1)), .int (nI kd), .int (nI p), .int ((((nI 10) * v2) + (tb p2)) - (nI 48)), .int fo, .int pl, .int li, .int ht, .int lt, .int ct]] H := hP
                replace hD : va_D (va_A (w_X1_takeToken G kre kbt kby rl nx kd sr vl fo pl li ht lt ct tb) ss.heap.size) [bA G kby 160 tb, oC kre 1 [.ref kbt, .ref kby, .int (nI rl), .int (nI (p2 + 1)), .int (nI kd), .int (nI p), .int ((((nI 10) * v2) + (tb p2)) - (nI 48)), .int fo, .int pl, .int li, .int ht, .int lt, .int ct]] := hD
                refine lv_goto (tgt := 161) hx hb dX1_takeToken_221 rfl ?_
                have hl := lv_sub hl (l' := [(0, .ref kre)]) [0] rfl
                exact ih161 (rl - (p2 + 1)) (by omega) (p2 + 1) ((((nI 10) * v2) + (tb p2)) - (nI 48)) ls H locs rfl (by omega) (by omega) (by exact hdr.trans (ruF_go (by omega) (decide_eq_true b184))) (by rw [show p2 + 1 - p = (p2 - p) + 1 by omega, dvF_snoc, ← hdv, show p + (p2 - p) = p2 by omega]) hl hP hD hS
          have hl := lv_sub hl (l' := [(0, .ref kre)]) [0] rfl
          exact hL161 (rl - p) p (nI 0) ls H locs rfl (by omega) (by omega) (by rfl) (by rw [Nat.sub_self, dvF]) hl hP hD hS
        · skip
          have hL110 : ∀ k : Nat, ∀ (p2 : Nat) (ls : Array Slot) (H : Heap) (locs : List Loc), rl - p2 = k → (p ≤ p2) → (p2 ≤ rl) → (ruE isL tb rl p = ruE isL tb rl p2) → lv_has ls 1 [(0, .ref kre)] → xP G [bA G kby 160 tb, oC kre 1 [.ref kbt, .ref kby, .int (nI rl), .int (nI p2), .int (nI kd), .int (nI p), .int vl, .int fo, .int pl, .int li, .int ht, .int lt, .int ct]] H → va_D (va_A (w_X1_takeToken G kre kbt kby rl nx kd sr vl fo pl li ht lt ct tb) ss.heap.size) [bA G kby 160 tb, oC kre 1 [.ref kbt, .ref kby, .int (nI rl), .int (nI p2), .int (nI kd), .int (nI p), .int vl, .int fo, .int pl, .int li, .int ht, .int lt, .int ct]] → va_S (va_A (w_X1_takeToken G kre kbt kby rl nx kd sr vl fo pl li ht lt ct tb) ss.heap.size) ss.heap H locs → W pp l ee ({ frames := 1, cells := 0, slots := 0, locals := 22 } : Room) ss mm ([.ref kre] : List Value).toArray below mt cd H locs 0 0 (MQ below (Q_X1_takeToken G ss.heap.size kre kbt kby rl nx kd sr vl fo pl li ht lt ct tb) ([.ref kre] : List Value).toArray ss 0 0 (va_A (w_X1_takeToken G kre kbt kby rl nx kd sr vl fo pl li ht lt ct tb) ss.heap.size)) (F0 mm 110 ls []) := by
            intro k
            induction k using Nat.strongRecOn with
            | _ k ih110 =>
            intro p2 ls H locs hm110 hp2 hp3 hlr hl hP hD hS
            refine lv_aload_n hx hb dX1_takeToken_110 rfl (lv_at hl 0 rfl) ?_
            refine va_get (D := G.1) (ci := 1) (v := .int (nI p2)) (C := RX1) (T := TX1) (N := 13) hx hb hts hin1 hown hK.1 hP 1 rfl rfl 3 (by decide) (hts (.fieldLink RX1 26 "BackLenses$Reader" "next" "I") (List.mem_of_getElem? (i := 1) rfl)) (fun _ h9 => h9) rfl dX1_takeToken_111 ?_
            refine lv_aload_n hx hb dX1_takeToken_114 rfl (lv_at hl 0 rfl) ?_
            refine va_get (D := G.1) (ci := 1) (v := .int (nI rl)) (C := RX1) (T := TX1) (N := 13) hx hb hts hin1 hown hK.1 hP 1 rfl rfl 2 (by decide) (hts (.fieldLink RX1 22 "BackLenses$Reader" "length" "I") (List.mem_of_getElem? (i := 2) rfl)) (fun _ h9 => h9) rfl dX1_takeToken_115 ?_
            refine xn_icmp_ge (tgt := 149) hx hb (by omega) (by omega) dX1_takeToken_118 rfl (fun b118 => ?_) (fun b118 => ?_)
            · skip
              have hle := hlr.trans (ruF_end (fun q => absurd q.1 (by omega)))
              refine lv_aload_n hx hb dX1_takeToken_149 rfl (lv_at hl 0 rfl) ?_
              refine lv_iconst (v := nI 1) hx hb dX1_takeToken_150 (by decide) ?_
              refine va_put (D := G.1) (ci := 1) (v := .int (nI 1)) (ty := .int) (C := RX1) (T := TX1) (N := 13) hx hb hts hin1 tyX1 tyX1_ok nmX1 hown hK.1 hP hD hS 1 rfl rfl 4 (by decide) (hts (.fieldLink RX1 55 "BackLenses$Reader" "kind" "I") (List.mem_of_getElem? (i := 5) rfl)) (fun _ h9 => h9) rfl (by decide +kernel) rfl rfl (Nat.le_of_ble_eq_true rfl) dX1_takeToken_151 (fun H locs hP hD hS => ?_)
              replace hP : xP G [bA G kby 160 tb, oC kre 1 [.ref kbt, .ref kby, .int (nI rl), .int (nI p2), .int (nI 1), .int (nI p), .int vl, .int fo, .int pl, .int li, .int ht, .int lt, .int ct]] H := hP
              replace hD : va_D (va_A (w_X1_takeToken G kre kbt kby rl nx kd sr vl fo pl li ht lt ct tb) ss.heap.size) [bA G kby 160 tb, oC kre 1 [.ref kbt, .ref kby, .int (nI rl), .int (nI p2), .int (nI 1), .int (nI p), .int vl, .int fo, .int pl, .int li, .int ht, .int lt, .int ct]] := hD
              refine lv_iconst (v := nI 1) hx hb dX1_takeToken_154 (by decide) ?_
              have hP := hP.sub (ws' := [oC kre 1 [.ref kbt, .ref kby, .int (nI rl), .int (nI p2), .int (nI 1), .int (nI p), .int vl, .int fo, .int pl, .int li, .int ht, .int lt, .int ct], bA G kby 160 tb]) [1, 0] rfl
              have hD := hD.sub (ws' := [oC kre 1 [.ref kbt, .ref kby, .int (nI rl), .int (nI p2), .int (nI 1), .int (nI p), .int vl, .int fo, .int pl, .int li, .int ht, .int lt, .int ct], bA G kby 160 tb]) [1, 0] (by decide) rfl
              refine W.zret (v := nI 1) (ty := .boolean) hx hb hr (by decide) (fun t ht hW => ⟨⟨nI 1, (p2, 1, p, vl, fo, pl), rfl, ?_, by rw [ht]; exact hP, hD⟩, hS.F ht⟩) hS.2.2 dX1_takeToken_155
              try dsimp only
              rw [hq]; obtain ⟨k1, k2, k3⟩ := lx1 (t := tb) (rl := rl) (q := p) (by omega) b75 (decide_eq_true b107); rw [hle] at k2; exact ⟨(xb_t k3).symm, k2.symm, k1.symm, rfl, (if_neg (by rw [k1]; decide)).symm, (if_pos k3).symm, (if_pos k3).symm⟩
            · skip
              refine lv_aload_n hx hb dX1_takeToken_121 rfl (lv_at hl 0 rfl) ?_
              refine va_get (D := G.1) (ci := 1) (v := .ref kby) (C := RX1) (T := TX1) (N := 13) hx hb hts hin1 hown hK.1 hP 1 rfl rfl 1 (by decide) (hts (.fieldLink RX1 18 "BackLenses$Reader" "bytes" "[B") (List.mem_of_getElem? (i := 3) rfl)) (fun _ h9 => h9) rfl dX1_takeToken_122 ?_
              refine lv_aload_n hx hb dX1_takeToken_125 rfl (lv_at hl 0 rfl) ?_
              refine va_get (D := G.1) (ci := 1) (v := .int (nI p2)) (C := RX1) (T := TX1) (N := 13) hx hb hts hin1 hown hK.1 hP 1 rfl rfl 3 (by decide) (hts (.fieldLink RX1 26 "BackLenses$Reader" "next" "I") (List.mem_of_getElem? (i := 1) rfl)) (fun _ h9 => h9) rfl dX1_takeToken_126 ?_
              refine xn_bald hx hb hK hP 0 rfl (by omega) (by omega) dX1_takeToken_129 ?_
              refine xs_i (As := [.int (tb p2)]) (rest := []) ⟨hx, hb, hml, hown, hts⟩ (c_X1_isLetter l G (tb p2) ) (va_cwS 1 hts gX1_takeToken_X1_isLetter rfl rfl rfl (by decide +kernel) ⟨Nat.le_of_ble_eq_true rfl, Nat.le_of_ble_eq_true rfl⟩) hP hS rfl hl.1 rfl (Nat.le_of_ble_eq_true rfl) dX1_takeToken_130 ⟨Nat.zero_le _, Nat.zero_le _⟩ (fun r130 H locs hp130 hP hS => ?_)
              rw [show r130 = _ from hp130]
              refine xb_if_eq (tgt := 149) hx hb dX1_takeToken_133 rfl (fun b133 => ?_) (fun b133 => ?_)
              · skip
                have hle := hlr.trans (ruF_end (fun q => b133 (of_decide_eq_true q.2)))
                refine lv_aload_n hx hb dX1_takeToken_149 rfl (lv_at hl 0 rfl) ?_
                refine lv_iconst (v := nI 1) hx hb dX1_takeToken_150 (by decide) ?_
                refine va_put (D := G.1) (ci := 1) (v := .int (nI 1)) (ty := .int) (C := RX1) (T := TX1) (N := 13) hx hb hts hin1 tyX1 tyX1_ok nmX1 hown hK.1 hP hD hS 1 rfl rfl 4 (by decide) (hts (.fieldLink RX1 55 "BackLenses$Reader" "kind" "I") (List.mem_of_getElem? (i := 5) rfl)) (fun _ h9 => h9) rfl (by decide +kernel) rfl rfl (Nat.le_of_ble_eq_true rfl) dX1_takeToken_151 (fun H locs hP hD hS => ?_)
                replace hP : xP G [bA G kby 160 tb, oC kre 1 [.ref kbt, .ref kby, .int (nI rl), .int (nI p2), .int (nI 1), .int (nI p), .int vl, .int fo, .int pl, .int li, .int ht, .int lt, .int ct]] H := hP
                replace hD : va_D (va_A (w_X1_takeToken G kre kbt kby rl nx kd sr vl fo pl li ht lt ct tb) ss.heap.size) [bA G kby 160 tb, oC kre 1 [.ref kbt, .ref kby, .int (nI rl), .int (nI p2), .int (nI 1), .int (nI p), .int vl, .int fo, .int pl, .int li, .int ht, .int lt, .int ct]] := hD
                refine lv_iconst (v := nI 1) hx hb dX1_takeToken_154 (by decide) ?_
                have hP := hP.sub (ws' := [oC kre 1 [.ref kbt, .ref kby, .int (nI rl), .int (nI p2), .int (nI 1), .int (nI p), .int vl, .int fo, .int pl, .int li, .int ht, .int lt, .int ct], bA G kby 160 tb]) [1, 0] rfl
                have hD := hD.sub (ws' := [oC kre 1 [.ref kbt, .ref kby, .int (nI rl), .int (nI p2), .int (nI 1), .int (nI p), .int vl, .int fo, .int pl, .int li, .int ht, .int lt, .int ct], bA G kby 160 tb]) [1, 0] (by decide) rfl
                refine W.zret (v := nI 1) (ty := .boolean) hx hb hr (by decide) (fun t ht hW => ⟨⟨nI 1, (p2, 1, p, vl, fo, pl), rfl, ?_, by rw [ht]; exact hP, hD⟩, hS.F ht⟩) hS.2.2 dX1_takeToken_155
                try dsimp only
                rw [hq]; obtain ⟨k1, k2, k3⟩ := lx1 (t := tb) (rl := rl) (q := p) (by omega) b75 (decide_eq_true b107); rw [hle] at k2; exact ⟨(xb_t k3).symm, k2.symm, k1.symm, rfl, (if_neg (by rw [k1]; decide)).symm, (if_pos k3).symm, (if_pos k3).symm⟩
              · skip
                refine lv_aload_n hx hb dX1_takeToken_136 rfl (lv_at hl 0 rfl) ?_
                refine lv_dup hx hb dX1_takeToken_137 rfl ?_
                refine va_get (D := G.1) (ci := 1) (v := .int (nI p2)) (C := RX1) (T := TX1) (N := 13) hx hb hts hin1 hown hK.1 hP 1 rfl rfl 3 (by decide) (hts (.fieldLink RX1 26 "BackLenses$Reader" "next" "I") (List.mem_of_getElem? (i := 1) rfl)) (fun _ h9 => h9) rfl dX1_takeToken_138 ?_
                refine lv_iconst (v := nI 1) hx hb dX1_takeToken_141 (by decide) ?_
                refine xn_iadd hx hb dX1_takeToken_142 ?_
                refine va_put (D := G.1) (ci := 1) (v := .int (nI (p2 + 1))) (ty := .int) (C := RX1) (T := TX1) (N := 13) hx hb hts hin1 tyX1 tyX1_ok nmX1 hown hK.1 hP hD hS 1 rfl rfl 3 (by decide) (hts (.fieldLink RX1 26 "BackLenses$Reader" "next" "I") (List.mem_of_getElem? (i := 1) rfl)) (fun _ h9 => h9) rfl (by decide +kernel) rfl rfl (Nat.le_of_ble_eq_true rfl) dX1_takeToken_143 (fun H locs hP hD hS => ?_)
                replace hP : xP G [bA G kby 160 tb, oC kre 1 [.ref kbt, .ref kby, .int (nI rl), .int (nI (p2 + 1)), .int (nI kd), .int (nI p), .int vl, .int fo, .int pl, .int li, .int ht, .int lt, .int ct]] H := hP
                replace hD : va_D (va_A (w_X1_takeToken G kre kbt kby rl nx kd sr vl fo pl li ht lt ct tb) ss.heap.size) [bA G kby 160 tb, oC kre 1 [.ref kbt, .ref kby, .int (nI rl), .int (nI (p2 + 1)), .int (nI kd), .int (nI p), .int vl, .int fo, .int pl, .int li, .int ht, .int lt, .int ct]] := hD
                refine lv_goto (tgt := 110) hx hb dX1_takeToken_146 rfl ?_
                have hl := lv_sub hl (l' := [(0, .ref kre)]) [0] rfl
                exact ih110 (rl - (p2 + 1)) (by omega) (p2 + 1) ls H locs rfl (by omega) (by omega) (by exact hlr.trans (ruF_go (by omega) (decide_eq_true b133))) hl hP hD hS
          have hl := lv_sub hl (l' := [(0, .ref kre)]) [0] rfl
          exact hL110 (rl - p) p ls H locs rfl (by omega) (by omega) (by rfl) hl hP hD hS
      · skip
        refine lv_aload_n hx hb dX1_takeToken_78 rfl (lv_at hl 0 rfl) ?_
        refine lv_dup hx hb dX1_takeToken_79 rfl ?_
        refine va_get (D := G.1) (ci := 1) (v := .int (nI p)) (C := RX1) (T := TX1) (N := 13) hx hb hts hin1 hown hK.1 hP 1 rfl rfl 3 (by decide) (hts (.fieldLink RX1 26 "BackLenses$Reader" "next" "I") (List.mem_of_getElem? (i := 1) rfl)) (fun _ h9 => h9) rfl dX1_takeToken_80 ?_
        refine lv_iconst (v := nI 1) hx hb dX1_takeToken_83 (by decide) ?_
        refine xn_iadd hx hb dX1_takeToken_84 ?_
        refine va_put (D := G.1) (ci := 1) (v := .int (nI (p + 1))) (ty := .int) (C := RX1) (T := TX1) (N := 13) hx hb hts hin1 tyX1 tyX1_ok nmX1 hown hK.1 hP hD hS 1 rfl rfl 3 (by decide) (hts (.fieldLink RX1 26 "BackLenses$Reader" "next" "I") (List.mem_of_getElem? (i := 1) rfl)) (fun _ h9 => h9) rfl (by decide +kernel) rfl rfl (Nat.le_of_ble_eq_true rfl) dX1_takeToken_85 (fun H locs hP hD hS => ?_)
        replace hP : xP G [bA G kby 160 tb, oC kre 1 [.ref kbt, .ref kby, .int (nI rl), .int (nI (p + 1)), .int (nI kd), .int (nI p), .int vl, .int fo, .int pl, .int li, .int ht, .int lt, .int ct]] H := hP
        replace hD : va_D (va_A (w_X1_takeToken G kre kbt kby rl nx kd sr vl fo pl li ht lt ct tb) ss.heap.size) [bA G kby 160 tb, oC kre 1 [.ref kbt, .ref kby, .int (nI rl), .int (nI (p + 1)), .int (nI kd), .int (nI p), .int vl, .int fo, .int pl, .int li, .int ht, .int lt, .int ct]] := hD
        refine lv_aload_n hx hb dX1_takeToken_88 rfl (lv_at hl 0 rfl) ?_
        refine lv_iconst (v := nI 3) hx hb dX1_takeToken_89 (by decide) ?_
        refine va_put (D := G.1) (ci := 1) (v := .int (nI 3)) (ty := .int) (C := RX1) (T := TX1) (N := 13) hx hb hts hin1 tyX1 tyX1_ok nmX1 hown hK.1 hP hD hS 1 rfl rfl 4 (by decide) (hts (.fieldLink RX1 55 "BackLenses$Reader" "kind" "I") (List.mem_of_getElem? (i := 5) rfl)) (fun _ h9 => h9) rfl (by decide +kernel) rfl rfl (Nat.le_of_ble_eq_true rfl) dX1_takeToken_90 (fun H locs hP hD hS => ?_)
        replace hP : xP G [bA G kby 160 tb, oC kre 1 [.ref kbt, .ref kby, .int (nI rl), .int (nI (p + 1)), .int (nI 3), .int (nI p), .int vl, .int fo, .int pl, .int li, .int ht, .int lt, .int ct]] H := hP
        replace hD : va_D (va_A (w_X1_takeToken G kre kbt kby rl nx kd sr vl fo pl li ht lt ct tb) ss.heap.size) [bA G kby 160 tb, oC kre 1 [.ref kbt, .ref kby, .int (nI rl), .int (nI (p + 1)), .int (nI 3), .int (nI p), .int vl, .int fo, .int pl, .int li, .int ht, .int lt, .int ct]] := hD
        refine lv_iconst (v := nI 1) hx hb dX1_takeToken_93 (by decide) ?_
        have hP := hP.sub (ws' := [oC kre 1 [.ref kbt, .ref kby, .int (nI rl), .int (nI (p + 1)), .int (nI 3), .int (nI p), .int vl, .int fo, .int pl, .int li, .int ht, .int lt, .int ct], bA G kby 160 tb]) [1, 0] rfl
        have hD := hD.sub (ws' := [oC kre 1 [.ref kbt, .ref kby, .int (nI rl), .int (nI (p + 1)), .int (nI 3), .int (nI p), .int vl, .int fo, .int pl, .int li, .int ht, .int lt, .int ct], bA G kby 160 tb]) [1, 0] (by decide) rfl
        refine W.zret (v := nI 1) (ty := .boolean) hx hb hr (by decide) (fun t ht hW => ⟨⟨nI 1, (p + 1, 3, p, vl, fo, pl), rfl, ?_, by rw [ht]; exact hP, hD⟩, hS.F ht⟩) hS.2.2 dX1_takeToken_94
        try dsimp only
        rw [hq]; obtain ⟨k1, k2, k3⟩ := lx3 (t := tb) (rl := rl) (q := p) (by omega) b75; exact ⟨(xb_t k3).symm, k2.symm, k1.symm, rfl, (if_neg (by rw [k1]; decide)).symm, (if_pos k3).symm, (if_pos k3).symm⟩
    · skip
      refine lv_aload_n hx hb dX1_takeToken_57 rfl (lv_at hl 0 rfl) ?_
      refine lv_iconst (v := nI 0) hx hb dX1_takeToken_58 (by decide) ?_
      refine va_put (D := G.1) (ci := 1) (v := .int (nI 0)) (ty := .int) (C := RX1) (T := TX1) (N := 13) hx hb hts hin1 tyX1 tyX1_ok nmX1 hown hK.1 hP hD hS 1 rfl rfl 4 (by decide) (hts (.fieldLink RX1 55 "BackLenses$Reader" "kind" "I") (List.mem_of_getElem? (i := 5) rfl)) (fun _ h9 => h9) rfl (by decide +kernel) rfl rfl (Nat.le_of_ble_eq_true rfl) dX1_takeToken_59 (fun H locs hP hD hS => ?_)
      replace hP : xP G [bA G kby 160 tb, oC kre 1 [.ref kbt, .ref kby, .int (nI rl), .int (nI p), .int (nI 0), .int (nI p), .int vl, .int fo, .int pl, .int li, .int ht, .int lt, .int ct]] H := hP
      replace hD : va_D (va_A (w_X1_takeToken G kre kbt kby rl nx kd sr vl fo pl li ht lt ct tb) ss.heap.size) [bA G kby 160 tb, oC kre 1 [.ref kbt, .ref kby, .int (nI rl), .int (nI p), .int (nI 0), .int (nI p), .int vl, .int fo, .int pl, .int li, .int ht, .int lt, .int ct]] := hD
      refine lv_iconst (v := nI 1) hx hb dX1_takeToken_62 (by decide) ?_
      have hP := hP.sub (ws' := [oC kre 1 [.ref kbt, .ref kby, .int (nI rl), .int (nI p), .int (nI 0), .int (nI p), .int vl, .int fo, .int pl, .int li, .int ht, .int lt, .int ct], bA G kby 160 tb]) [1, 0] rfl
      have hD := hD.sub (ws' := [oC kre 1 [.ref kbt, .ref kby, .int (nI rl), .int (nI p), .int (nI 0), .int (nI p), .int vl, .int fo, .int pl, .int li, .int ht, .int lt, .int ct], bA G kby 160 tb]) [1, 0] (by decide) rfl
      refine W.zret (v := nI 1) (ty := .boolean) hx hb hr (by decide) (fun t ht hW => ⟨⟨nI 1, (p, 0, p, vl, fo, pl), rfl, ?_, by rw [ht]; exact hP, hD⟩, hS.F ht⟩) hS.2.2 dX1_takeToken_63
      try dsimp only
      rw [hq]; obtain ⟨k1, k2, k3⟩ := lx0 (t := tb) (rl := rl) (q := p) (by omega); exact ⟨(xb_t k3).symm, k2.symm, k1.symm, rfl, (if_neg (by rw [k1]; decide)).symm, (if_pos k3).symm, (if_pos k3).symm⟩
  have hL0 : ∀ k : Nat, ∀ (p : Nat) (ls : Array Slot) (H : Heap) (locs : List Loc), rl - p = k → (nx ≤ p) → (p ≤ rl) → ((ruE isSp tb rl nx) = ruE isSp tb rl p) → lv_has ls 1 [(0, .ref kre)] → xP G [bA G kby 160 tb, oC kre 1 [.ref kbt, .ref kby, .int (nI rl), .int (nI p), .int (nI kd), .int (nI sr), .int vl, .int fo, .int pl, .int li, .int ht, .int lt, .int ct]] H → va_D (va_A (w_X1_takeToken G kre kbt kby rl nx kd sr vl fo pl li ht lt ct tb) ss.heap.size) [bA G kby 160 tb, oC kre 1 [.ref kbt, .ref kby, .int (nI rl), .int (nI p), .int (nI kd), .int (nI sr), .int vl, .int fo, .int pl, .int li, .int ht, .int lt, .int ct]] → va_S (va_A (w_X1_takeToken G kre kbt kby rl nx kd sr vl fo pl li ht lt ct tb) ss.heap.size) ss.heap H locs → W pp l ee ({ frames := 1, cells := 0, slots := 0, locals := 22 } : Room) ss mm ([.ref kre] : List Value).toArray below mt cd H locs 0 0 (MQ below (Q_X1_takeToken G ss.heap.size kre kbt kby rl nx kd sr vl fo pl li ht lt ct tb) ([.ref kre] : List Value).toArray ss 0 0 (va_A (w_X1_takeToken G kre kbt kby rl nx kd sr vl fo pl li ht lt ct tb) ss.heap.size)) (F0 mm 0 ls []) := by
    intro k
    induction k using Nat.strongRecOn with
    | _ k ih0 =>
    intro p ls H locs hm0 hnp hpr hsp hl hP hD hS
    refine lv_aload_n hx hb dX1_takeToken_0 rfl (lv_at hl 0 rfl) ?_
    refine va_get (D := G.1) (ci := 1) (v := .int (nI p)) (C := RX1) (T := TX1) (N := 13) hx hb hts hin1 hown hK.1 hP 1 rfl rfl 3 (by decide) (hts (.fieldLink RX1 26 "BackLenses$Reader" "next" "I") (List.mem_of_getElem? (i := 1) rfl)) (fun _ h9 => h9) rfl dX1_takeToken_1 ?_
    refine lv_aload_n hx hb dX1_takeToken_4 rfl (lv_at hl 0 rfl) ?_
    refine va_get (D := G.1) (ci := 1) (v := .int (nI rl)) (C := RX1) (T := TX1) (N := 13) hx hb hts hin1 hown hK.1 hP 1 rfl rfl 2 (by decide) (hts (.fieldLink RX1 22 "BackLenses$Reader" "length" "I") (List.mem_of_getElem? (i := 2) rfl)) (fun _ h9 => h9) rfl dX1_takeToken_5 ?_
    refine xn_icmp_ge (tgt := 38) hx hb (by omega) (by omega) dX1_takeToken_8 rfl (fun b8 => ?_) (fun b8 => ?_)
    · skip
      have hl := lv_sub hl (l' := [(0, .ref kre)]) [0] rfl
      exact hL38 p ls H locs (by omega) (by omega) (by first | exact hsp.trans (ruF_end (fun q => absurd q.1 (by omega))) | exact hsp.trans (ruF_end (fun q => b22 (of_decide_eq_true q.2)))) hl hP hD hS
    · skip
      refine lv_aload_n hx hb dX1_takeToken_11 rfl (lv_at hl 0 rfl) ?_
      refine va_get (D := G.1) (ci := 1) (v := .ref kby) (C := RX1) (T := TX1) (N := 13) hx hb hts hin1 hown hK.1 hP 1 rfl rfl 1 (by decide) (hts (.fieldLink RX1 18 "BackLenses$Reader" "bytes" "[B") (List.mem_of_getElem? (i := 3) rfl)) (fun _ h9 => h9) rfl dX1_takeToken_12 ?_
      refine lv_aload_n hx hb dX1_takeToken_15 rfl (lv_at hl 0 rfl) ?_
      refine va_get (D := G.1) (ci := 1) (v := .int (nI p)) (C := RX1) (T := TX1) (N := 13) hx hb hts hin1 hown hK.1 hP 1 rfl rfl 3 (by decide) (hts (.fieldLink RX1 26 "BackLenses$Reader" "next" "I") (List.mem_of_getElem? (i := 1) rfl)) (fun _ h9 => h9) rfl dX1_takeToken_16 ?_
      refine xn_bald hx hb hK hP 0 rfl (by omega) (by omega) dX1_takeToken_19 ?_
      refine lv_bipush (v := nI 32) hx hb dX1_takeToken_20 (by decide) ?_
      refine lv_icmp_ne (tgt := 38) hx hb dX1_takeToken_22 rfl (fun b22 => ?_) (fun b22 => ?_)
      · skip
        have hl := lv_sub hl (l' := [(0, .ref kre)]) [0] rfl
        exact hL38 p ls H locs (by omega) (by omega) (by first | exact hsp.trans (ruF_end (fun q => absurd q.1 (by omega))) | exact hsp.trans (ruF_end (fun q => b22 (of_decide_eq_true q.2)))) hl hP hD hS
      · skip
        refine lv_aload_n hx hb dX1_takeToken_25 rfl (lv_at hl 0 rfl) ?_
        refine lv_dup hx hb dX1_takeToken_26 rfl ?_
        refine va_get (D := G.1) (ci := 1) (v := .int (nI p)) (C := RX1) (T := TX1) (N := 13) hx hb hts hin1 hown hK.1 hP 1 rfl rfl 3 (by decide) (hts (.fieldLink RX1 26 "BackLenses$Reader" "next" "I") (List.mem_of_getElem? (i := 1) rfl)) (fun _ h9 => h9) rfl dX1_takeToken_27 ?_
        refine lv_iconst (v := nI 1) hx hb dX1_takeToken_30 (by decide) ?_
        refine xn_iadd hx hb dX1_takeToken_31 ?_
        refine va_put (D := G.1) (ci := 1) (v := .int (nI (p + 1))) (ty := .int) (C := RX1) (T := TX1) (N := 13) hx hb hts hin1 tyX1 tyX1_ok nmX1 hown hK.1 hP hD hS 1 rfl rfl 3 (by decide) (hts (.fieldLink RX1 26 "BackLenses$Reader" "next" "I") (List.mem_of_getElem? (i := 1) rfl)) (fun _ h9 => h9) rfl (by decide +kernel) rfl rfl (Nat.le_of_ble_eq_true rfl) dX1_takeToken_32 (fun H locs hP hD hS => ?_)
        replace hP : xP G [bA G kby 160 tb, oC kre 1 [.ref kbt, .ref kby, .int (nI rl), .int (nI (p + 1)), .int (nI kd), .int (nI sr), .int vl, .int fo, .int pl, .int li, .int ht, .int lt, .int ct]] H := hP
        replace hD : va_D (va_A (w_X1_takeToken G kre kbt kby rl nx kd sr vl fo pl li ht lt ct tb) ss.heap.size) [bA G kby 160 tb, oC kre 1 [.ref kbt, .ref kby, .int (nI rl), .int (nI (p + 1)), .int (nI kd), .int (nI sr), .int vl, .int fo, .int pl, .int li, .int ht, .int lt, .int ct]] := hD
        refine lv_goto (tgt := 0) hx hb dX1_takeToken_35 rfl ?_
        have hl := lv_sub hl (l' := [(0, .ref kre)]) [0] rfl
        exact ih0 (rl - (p + 1)) (by omega) (p + 1) ls H locs rfl (by omega) (by omega) (by exact hsp.trans (ruF_go (by omega) (decide_eq_true b22))) hl hP hD hS
  have hl := lv_sub hl (l' := [(0, .ref kre)]) [0] rfl
  have hP := hP.sub (ws' := [bA G kby 160 tb, oC kre 1 [.ref kbt, .ref kby, .int (nI rl), .int (nI nx), .int (nI kd), .int (nI sr), .int vl, .int fo, .int pl, .int li, .int ht, .int lt, .int ct]]) [1, 0] rfl
  have hD := hD.sub (ws' := [bA G kby 160 tb, oC kre 1 [.ref kbt, .ref kby, .int (nI rl), .int (nI nx), .int (nI kd), .int (nI sr), .int vl, .int fo, .int pl, .int li, .int ht, .int lt, .int ct]]) [1, 0] (by decide) rfl
  exact hL0 (rl - nx) nx ls ss.heap [] rfl (by omega) (by omega) (by rfl) hl hP hD hS
end
section
/-! the reader's own state: next, kind, start, value, fault, place -/
abbrev TS : Type := Nat × Nat × Nat × Int32 × Int32 × Int32
def fTok (t : Nat → Int32) (rl : Nat) (s : TS) : Bool × TS :=
  (okT t rl (ruE isSp t rl s.1), nxT t rl (ruE isSp t rl s.1), kdT t rl (ruE isSp t rl s.1), ruE isSp t rl s.1,
    (if kdT t rl (ruE isSp t rl s.1) = 2 then dvF t (nxT t rl (ruE isSp t rl s.1) - ruE isSp t rl s.1) (ruE isSp t rl s.1) (nI 0) else s.2.2.2.1),
    (if okT t rl (ruE isSp t rl s.1) = true then s.2.2.2.2.1 else nI 1), (if okT t rl (ruE isSp t rl s.1) = true then s.2.2.2.2.2 else nI (ruE isSp t rl s.1)))
def fRef (a : Int32) (s : TS) : TS := (s.1, s.2.1, s.2.2.1, s.2.2.2.1, a, nI s.2.2.1)
def fWit (lo hi : Nat) (s : TS) : Bool × TS :=
  if s.2.1 = 2 then (if (lo : Int) ≤ s.2.2.2.1.toInt ∧ s.2.2.2.1.toInt ≤ (hi : Int) then (true, s) else (false, fRef (nI 3) s)) else (false, fRef (nI 2) s)
def fNum (t : Nat → Int32) (rl lo hi : Nat) (s : TS) : Bool × TS := if (fTok t rl s).1 = true then fWit lo hi (fTok t rl s).2 else (false, (fTok t rl s).2)
def fSem (t : Nat → Int32) (rl : Nat) (s : TS) : Bool × TS := if (fTok t rl s).1 = true then (if (fTok t rl s).2.2.1 = 3 then (true, (fTok t rl s).2) else (false, fRef (nI 2) (fTok t rl s).2)) else (false, (fTok t rl s).2)
theorem fTok_bd {t : Nat → Int32} {rl : Nat} {s : TS} (h : s.1 ≤ rl) : (fTok t rl s).2.1 ≤ rl ∧ s.1 ≤ (fTok t rl s).2.1 ∧ (fTok t rl s).2.2.2.1 ≤ rl := by
  have h1 : ruE isSp t rl s.1 ≤ rl := ruF_le _ _ h
  have h2 : s.1 ≤ ruE isSp t rl s.1 := ruF_ge _ _
  have h3 := nxT_le (t := t) h1
  have h4 := nxT_ge (t := t) (rl := rl) (q := ruE isSp t rl s.1)
  exact ⟨h3, Nat.le_trans h2 h4, h1⟩
theorem fWit_bd {lo hi : Nat} {s : TS} : (fWit lo hi s).2.1 = s.1 ∧ (fWit lo hi s).2.2.2.1 = s.2.2.1 := by
  unfold fWit fRef
  split
  · split <;> exact ⟨rfl, rfl⟩
  · exact ⟨rfl, rfl⟩
theorem fNum_bd {t : Nat → Int32} {rl lo hi : Nat} {s : TS} (h : s.1 ≤ rl) : (fNum t rl lo hi s).2.1 ≤ rl ∧ s.1 ≤ (fNum t rl lo hi s).2.1 ∧ (fNum t rl lo hi s).2.2.2.1 ≤ rl := by
  have h1 := fTok_bd (t := t) h
  unfold fNum
  split
  · have h2 := fWit_bd (lo := lo) (hi := hi) (s := (fTok t rl s).2)
    rw [h2.1, h2.2]; exact h1
  · exact h1
theorem fSem_bd {t : Nat → Int32} {rl : Nat} {s : TS} (h : s.1 ≤ rl) : (fSem t rl s).2.1 ≤ rl ∧ s.1 ≤ (fSem t rl s).2.1 ∧ (fSem t rl s).2.2.2.1 ≤ rl := by
  have h1 := fTok_bd (t := t) h
  unfold fSem
  split
  · split
    · exact h1
    · exact h1
  · exact h1
theorem fWit_val {lo hi : Nat} {s : TS} (hh : hi < 1000) (h : (fWit lo hi s).1 = true) : ∃ k, lo ≤ k ∧ k ≤ hi ∧ (fWit lo hi s).2.2.2.2.1 = nI k := by
  unfold fWit at h ⊢
  split at h
  · rename_i h1
    rw [if_pos h1]
    split at h
    · rename_i h2
      rw [if_pos h2]
      obtain ⟨k, hk, he⟩ := inR_nat (x := s.2.2.2.1) (n := hi + 1) (by unfold inR; omega)
      have h4 := nI_toInt (n := k) (by omega)
      rw [← he] at h4
      exact ⟨k, by omega, by omega, he⟩
    · cases h
  · cases h
theorem fNum_val {t : Nat → Int32} {rl lo hi : Nat} {s : TS} (hh : hi < 1000) (h : (fNum t rl lo hi s).1 = true) : ∃ k, lo ≤ k ∧ k ≤ hi ∧ (fNum t rl lo hi s).2.2.2.2.1 = nI k := by
  unfold fNum at h ⊢
  split at h
  · rename_i h1
    rw [if_pos h1]
    exact fWit_val hh h
  · cases h
theorem fTok_kd {t : Nat → Int32} {rl : Nat} {s : TS} : (fTok t rl s).2.2.1 ≤ 3 := by
  show kdT t rl (ruE isSp t rl s.1) ≤ 3
  unfold kdT
  split
  · omega
  · split
    · omega
    · split <;> omega

theorem fTok_eq {t : Nat → Int32} {rl nx kd sr p : Nat} {vl fo pl : Int32} (h : ruE isSp t rl nx = p) : fTok t rl (nx, kd, sr, vl, fo, pl) =
    (okT t rl p, nxT t rl p, kdT t rl p, p, (if kdT t rl p = 2 then dvF t (nxT t rl p - p) p (nI 0) else vl),
    (if okT t rl p = true then fo else nI 1), (if okT t rl p = true then pl else nI p)) := by
  subst h; rfl
theorem fWit_0 {lo hi nx kd sr : Nat} {vl fo pl : Int32} (h : ¬ kd = 2) : fWit lo hi (nx, kd, sr, vl, fo, pl) = (false, (nx, kd, sr, vl, nI 2, nI sr)) := if_neg h
theorem fWit_1 {lo hi nx kd sr : Nat} {vl fo pl : Int32} (h : kd = 2) (h1 : ¬ ((lo : Int) ≤ vl.toInt ∧ vl.toInt ≤ (hi : Int))) : fWit lo hi (nx, kd, sr, vl, fo, pl) = (false, (nx, kd, sr, vl, nI 3, nI sr)) := (if_pos h).trans (if_neg h1)
theorem fWit_2 {lo hi nx kd sr : Nat} {vl fo pl : Int32} (h : kd = 2) (h1 : (lo : Int) ≤ vl.toInt ∧ vl.toInt ≤ (hi : Int)) : fWit lo hi (nx, kd, sr, vl, fo, pl) = (true, (nx, kd, sr, vl, fo, pl)) := (if_pos h).trans (if_pos h1)
theorem fNum_0 {t : Nat → Int32} {rl lo hi : Nat} {s : TS} (h : ¬ (fTok t rl s).1 = true) : fNum t rl lo hi s = (false, (fTok t rl s).2) := if_neg h
theorem fNum_1 {t : Nat → Int32} {rl lo hi : Nat} {s : TS} (h : (fTok t rl s).1 = true) : fNum t rl lo hi s = fWit lo hi (fTok t rl s).2 := if_pos h
theorem fSem_0 {t : Nat → Int32} {rl : Nat} {s : TS} (h : ¬ (fTok t rl s).1 = true) : fSem t rl s = (false, (fTok t rl s).2) := if_neg h
theorem fSem_1 {t : Nat → Int32} {rl : Nat} {s : TS} {nx kd sr : Nat} {vl fo pl : Int32} (h : (fTok t rl s).1 = true) (he : (nx, kd, sr, vl, fo, pl) = (fTok t rl s).2) (h2 : kd = 3) : fSem t rl s = (true, (nx, kd, sr, vl, fo, pl)) := by
  unfold fSem; rw [if_pos h, ← he]; exact if_pos h2
theorem fSem_2 {t : Nat → Int32} {rl : Nat} {s : TS} {nx kd sr : Nat} {vl fo pl : Int32} (h : (fTok t rl s).1 = true) (he : (nx, kd, sr, vl, fo, pl) = (fTok t rl s).2) (h2 : ¬ kd = 3) : fSem t rl s = (false, (nx, kd, sr, vl, nI 2, nI sr)) := by
  unfold fSem; rw [if_pos h, ← he]; exact if_neg h2
end
section
abbrev w_X1_takeToken_f (G : XG) (kre kbt kby : Nat) (rl nx kd sr : Nat) (vl fo pl li ht lt ct : Int32) (tb : Nat → Int32) : va_W := [oC kre 1 [.ref kbt, .ref kby, .int (nI rl), .int (nI nx), .int (nI kd), .int (nI sr), .int vl, .int fo, .int pl, .int li, .int ht, .int lt, .int ct], bA G kby 160 tb]
abbrev Q_X1_takeToken_f (G : XG) (sz : Nat) (kre kbt kby : Nat) (rl nx kd sr : Nat) (vl fo pl li ht lt ct : Int32) (tb : Nat → Int32) : Array Value → State → Outcome → State → Prop := (va_Qi (fun (r : Int32) (u : Nat × Nat × Nat × Int32 × Int32 × Int32) => r = xb ((fTok tb rl (nx, kd, sr, vl, fo, pl)).1 = true) ∧ (u.1, u.2.1, u.2.2.1, u.2.2.2.1, u.2.2.2.2.1, u.2.2.2.2.2) = (fTok tb rl (nx, kd, sr, vl, fo, pl)).2) (xWb G sz (w_X1_takeToken_f G kre kbt kby rl nx kd sr vl fo pl li ht lt ct tb) (fun u : Nat × Nat × Nat × Int32 × Int32 × Int32 => [oC kre 1 [.ref kbt, .ref kby, .int (nI rl), .int (nI u.1), .int (nI u.2.1), .int (nI u.2.2.1), .int u.2.2.2.1, .int u.2.2.2.2.1, .int u.2.2.2.2.2, .int li, .int ht, .int lt, .int ct], bA G kby 160 tb])) (va_A (w_X1_takeToken_f G kre kbt kby rl nx kd sr vl fo pl li ht lt ct tb) sz))
set_option maxHeartbeats 4000000 in
set_option maxRecDepth 100000 in
theorem c_X1_takeToken_f (l : Launch) (G : XG) (sz : Nat) (kre kbt kby : Nat) (rl nx kd sr : Nat) (vl fo pl li ht lt ct : Int32) (tb : Nat → Int32) (hrl : rl ≤ 160) (hnx : nx ≤ rl) : Met l yX1_takeToken wsX1_takeToken ({ frames := 1, cells := 0, slots := 0, locals := 22 } : Room) (va_Pc [.ref kre] (xWp G sz (w_X1_takeToken_f G kre kbt kby rl nx kd sr vl fo pl li ht lt ct tb))) (Q_X1_takeToken_f G sz kre kbt kby rl nx kd sr vl fo pl li ht lt ct tb) 0 0 (va_A (w_X1_takeToken_f G kre kbt kby rl nx kd sr vl fo pl li ht lt ct tb) sz) := by
  refine Met.ofW (cc := cX1_takeToken) (maxL := 1) (ret := (some .boolean)) (by decide) rfl ?_
  intro pp ee ss mm aa below mt cd s₁ BB hml hv
  obtain ⟨rfl, hsz, hP, hK, hD0⟩ := hv
  have hx := BB.exec
  have hb := BB.bytes
  have hr := BB.returns
  have hts := atoms_spec (ws := wsX1_takeToken) BB.pre
  have hown : ss.vm.findClass RX1 = some mm.cls := findClass_of_methodNamed BB.named
  have hlocks := BB.notSynchronized
  subst hsz
  have hD := hD0.self (sz := ss.heap.size)
  have hA : ∀ q : Nat, ss.heap.size ≤ q → va_A (w_X1_takeToken_f G kre kbt kby rl nx kd sr vl fo pl li ht lt ct tb) ss.heap.size q := fun q h => Or.inr h
  have hS : va_S (va_A (w_X1_takeToken_f G kre kbt kby rl nx kd sr vl fo pl li ht lt ct tb) ss.heap.size) ss.heap ss.heap [] := va_S.rf
  replace hD : va_D (va_A (w_X1_takeToken_f G kre kbt kby rl nx kd sr vl fo pl li ht lt ct tb) ss.heap.size) [oC kre 1 [.ref kbt, .ref kby, .int (nI rl), .int (nI nx), .int (nI kd), .int (nI sr), .int vl, .int fo, .int pl, .int li, .int ht, .int lt, .int ct], bA G kby 160 tb] := hD
  replace hP : xP G [oC kre 1 [.ref kbt, .ref kby, .int (nI rl), .int (nI nx), .int (nI kd), .int (nI sr), .int vl, .int fo, .int pl, .int li, .int ht, .int lt, .int ct], bA G kby 160 tb] ss.heap := hP
  have hin1 : ∀ w ∈ u_ws RX1 TX1 13, w ∈ wsX1_takeToken := fun w h => List.mem_cons_of_mem _ (List.mem_append_right _ h)
  have hl := lv_entry ([.ref kre]) (n := 1) (Nat.le_of_ble_eq_true rfl)
  rw [lg_entry_eq]
  generalize (lg_sl ([.ref kre]) ++ List.replicate (1 - (lg_sl ([.ref kre])).length) Slot.unset).toArray = ls at hl ⊢
  replace hl : lv_has ls 1 [(0, .ref kre)] := hl
  have hL38 : ∀ (p : Nat) (ls : Array Slot) (H : Heap) (locs : List Loc), (nx ≤ p) → (p ≤ rl) → ((ruE isSp tb rl nx) = p) → lv_has ls 1 [(0, .ref kre)] → xP G [bA G kby 160 tb, oC kre 1 [.ref kbt, .ref kby, .int (nI rl), .int (nI p), .int (nI kd), .int (nI sr), .int vl, .int fo, .int pl, .int li, .int ht, .int lt, .int ct]] H → va_D (va_A (w_X1_takeToken_f G kre kbt kby rl nx kd sr vl fo pl li ht lt ct tb) ss.heap.size) [bA G kby 160 tb, oC kre 1 [.ref kbt, .ref kby, .int (nI rl), .int (nI p), .int (nI kd), .int (nI sr), .int vl, .int fo, .int pl, .int li, .int ht, .int lt, .int ct]] → va_S (va_A (w_X1_takeToken_f G kre kbt kby rl nx kd sr vl fo pl li ht lt ct tb) ss.heap.size) ss.heap H locs → W pp l ee ({ frames := 1, cells := 0, slots := 0, locals := 22 } : Room) ss mm ([.ref kre] : List Value).toArray below mt cd H locs 0 0 (MQ below (Q_X1_takeToken_f G ss.heap.size kre kbt kby rl nx kd sr vl fo pl li ht lt ct tb) ([.ref kre] : List Value).toArray ss 0 0 (va_A (w_X1_takeToken_f G kre kbt kby rl nx kd sr vl fo pl li ht lt ct tb) ss.heap.size)) (F0 mm 38 ls []) := by
    intro p ls H locs hnp hpr hq hl hP hD hS
    refine lv_aload_n hx hb dX1_takeToken_38 rfl (lv_at hl 0 rfl) ?_
    refine lv_aload_n hx hb dX1_takeToken_39 rfl (lv_at hl 0 rfl) ?_
    refine va_get (D := G.1) (ci := 1) (v := .int (nI p)) (C := RX1) (T := TX1) (N := 13) hx hb hts hin1 hown hK.1 hP 1 rfl rfl 3 (by decide) (hts (.fieldLink RX1 26 "BackLenses$Reader" "next" "I") (List.mem_of_getElem? (i := 1) rfl)) (fun _ h9 => h9) rfl dX1_takeToken_40 ?_
    refine va_put (D := G.1) (ci := 1) (v := .int (nI p)) (ty := .int) (C := RX1) (T := TX1) (N := 13) hx hb hts hin1 tyX1 tyX1_ok nmX1 hown hK.1 hP hD hS 1 rfl rfl 5 (by decide) (hts (.fieldLink RX1 95 "BackLenses$Reader" "start" "I") (List.mem_of_getElem? (i := 4) rfl)) (fun _ h9 => h9) rfl (by decide +kernel) rfl rfl (Nat.le_of_ble_eq_true rfl) dX1_takeToken_43 (fun H locs hP hD hS => ?_)
    replace hP : xP G [bA G kby 160 tb, oC kre 1 [.ref kbt, .ref kby, .int (nI rl), .int (nI p), .int (nI kd), .int (nI p), .int vl, .int fo, .int pl, .int li, .int ht, .int lt, .int ct]] H := hP
    replace hD : va_D (va_A (w_X1_takeToken_f G kre kbt kby rl nx kd sr vl fo pl li ht lt ct tb) ss.heap.size) [bA G kby 160 tb, oC kre 1 [.ref kbt, .ref kby, .int (nI rl), .int (nI p), .int (nI kd), .int (nI p), .int vl, .int fo, .int pl, .int li, .int ht, .int lt, .int ct]] := hD
    refine lv_aload_n hx hb dX1_takeToken_46 rfl (lv_at hl 0 rfl) ?_
    refine va_get (D := G.1) (ci := 1) (v := .int (nI p)) (C := RX1) (T := TX1) (N := 13) hx hb hts hin1 hown hK.1 hP 1 rfl rfl 3 (by decide) (hts (.fieldLink RX1 26 "BackLenses$Reader" "next" "I") (List.mem_of_getElem? (i := 1) rfl)) (fun _ h9 => h9) rfl dX1_takeToken_47 ?_
    refine lv_aload_n hx hb dX1_takeToken_50 rfl (lv_at hl 0 rfl) ?_
    refine va_get (D := G.1) (ci := 1) (v := .int (nI rl)) (C := RX1) (T := TX1) (N := 13) hx hb hts hin1 hown hK.1 hP 1 rfl rfl 2 (by decide) (hts (.fieldLink RX1 22 "BackLenses$Reader" "length" "I") (List.mem_of_getElem? (i := 2) rfl)) (fun _ h9 => h9) rfl dX1_takeToken_51 ?_
    refine xn_icmp_lt (tgt := 64) hx hb (by omega) (by omega) dX1_takeToken_54 rfl (fun b54 => ?_) (fun b54 => ?_)
    · skip
      refine lv_aload_n hx hb dX1_takeToken_64 rfl (lv_at hl 0 rfl) ?_
      refine va_get (D := G.1) (ci := 1) (v := .ref kby) (C := RX1) (T := TX1) (N := 13) hx hb hts hin1 hown hK.1 hP 1 rfl rfl 1 (by decide) (hts (.fieldLink RX1 18 "BackLenses$Reader" "bytes" "[B") (List.mem_of_getElem? (i := 3) rfl)) (fun _ h9 => h9) rfl dX1_takeToken_65 ?_
      refine lv_aload_n hx hb dX1_takeToken_68 rfl (lv_at hl 0 rfl) ?_
      refine va_get (D := G.1) (ci := 1) (v := .int (nI p)) (C := RX1) (T := TX1) (N := 13) hx hb hts hin1 hown hK.1 hP 1 rfl rfl 3 (by decide) (hts (.fieldLink RX1 26 "BackLenses$Reader" "next" "I") (List.mem_of_getElem? (i := 1) rfl)) (fun _ h9 => h9) rfl dX1_takeToken_69 ?_
      refine xn_bald hx hb hK hP 0 rfl (by omega) (by omega) dX1_takeToken_72 ?_
      refine lv_bipush (v := nI 59) hx hb dX1_takeToken_73 (by decide) ?_
      refine lv_icmp_ne (tgt := 95) hx hb dX1_takeToken_75 rfl (fun b75 => ?_) (fun b75 => ?_)
      · skip
        refine lv_aload_n hx hb dX1_takeToken_95 rfl (lv_at hl 0 rfl) ?_
        refine va_get (D := G.1) (ci := 1) (v := .ref kby) (C := RX1) (T := TX1) (N := 13) hx hb hts hin1 hown hK.1 hP 1 rfl rfl 1 (by decide) (hts (.fieldLink RX1 18 "BackLenses$Reader" "bytes" "[B") (List.mem_of_getElem? (i := 3) rfl)) (fun _ h9 => h9) rfl dX1_takeToken_96 ?_
        refine lv_aload_n hx hb dX1_takeToken_99 rfl (lv_at hl 0 rfl) ?_
        refine va_get (D := G.1) (ci := 1) (v := .int (nI p)) (C := RX1) (T := TX1) (N := 13) hx hb hts hin1 hown hK.1 hP 1 rfl rfl 3 (by decide) (hts (.fieldLink RX1 26 "BackLenses$Reader" "next" "I") (List.mem_of_getElem? (i := 1) rfl)) (fun _ h9 => h9) rfl dX1_takeToken_100 ?_
        refine xn_bald hx hb hK hP 0 rfl (by omega) (by omega) dX1_takeToken_103 ?_
        refine xs_i (As := [.int (tb p)]) (rest := []) ⟨hx, hb, hml, hown, hts⟩ (c_X1_isLetter l G (tb p) ) (va_cwS 1 hts gX1_takeToken_X1_isLetter rfl rfl rfl (by decide +kernel) ⟨Nat.le_of_ble_eq_true rfl, Nat.le_of_ble_eq_true rfl⟩) hP hS rfl hl.1 rfl (Nat.le_of_ble_eq_true rfl) dX1_takeToken_104 ⟨Nat.zero_le _, Nat.zero_le _⟩ (fun r104 H locs hp104 hP hS => ?_)
        rw [show r104 = _ from hp104]
        refine xb_if_eq (tgt := 156) hx hb dX1_takeToken_107 rfl (fun b107 => ?_) (fun b107 => ?_)
        · skip
          refine lv_aload_n hx hb dX1_takeToken_156 rfl (lv_at hl 0 rfl) ?_
          refine lv_iconst (v := nI 0) hx hb dX1_takeToken_157 (by decide) ?_
          refine va_put (D := G.1) (ci := 1) (v := .int (nI 0)) (ty := .int) (C := RX1) (T := TX1) (N := 13) hx hb hts hin1 tyX1 tyX1_ok nmX1 hown hK.1 hP hD hS 1 rfl rfl 6 (by decide) (hts (.fieldLink RX1 130 "BackLenses$Reader" "value" "I") (List.mem_of_getElem? (i := 6) rfl)) (fun _ h9 => h9) rfl (by decide +kernel) rfl rfl (Nat.le_of_ble_eq_true rfl) dX1_takeToken_158 (fun H locs hP hD hS => ?_)
          replace hP : xP G [bA G kby 160 tb, oC kre 1 [.ref kbt, .ref kby, .int (nI rl), .int (nI p), .int (nI kd), .int (nI p), .int (nI 0), .int fo, .int pl, .int li, .int ht, .int lt, .int ct]] H := hP
          replace hD : va_D (va_A (w_X1_takeToken_f G kre kbt kby rl nx kd sr vl fo pl li ht lt ct tb) ss.heap.size) [bA G kby 160 tb, oC kre 1 [.ref kbt, .ref kby, .int (nI rl), .int (nI p), .int (nI kd), .int (nI p), .int (nI 0), .int fo, .int pl, .int li, .int ht, .int lt, .int ct]] := hD
          have hL161 : ∀ k : Nat, ∀ (p2 : Nat) (v2 : Int32) (ls : Array Slot) (H : Heap) (locs : List Loc), rl - p2 = k → (p ≤ p2) → (p2 ≤ rl) → (ruE isD tb rl p = ruE isD tb rl p2) → (v2 = dvF tb (p2 - p) p (nI 0)) → lv_has ls 1 [(0, .ref kre)] → xP G [bA G kby 160 tb, oC kre 1 [.ref kbt, .ref kby, .int (nI rl), .int (nI p2), .int (nI kd), .int (nI p), .int v2, .int fo, .int pl, .int li, .int ht, .int lt, .int ct]] H → va_D (va_A (w_X1_takeToken_f G kre kbt kby rl nx kd sr vl fo pl li ht lt ct tb) ss.heap.size) [bA G kby 160 tb, oC kre 1 [.ref kbt, .ref kby, .int (nI rl), .int (nI p2), .int (nI kd), .int (nI p), .int v2, .int fo, .int pl, .int li, .int ht, .int lt, .int ct]] → va_S (va_A (w_X1_takeToken_f G kre kbt kby rl nx kd sr vl fo pl li ht lt ct tb) ss.heap.size) ss.heap H locs → W pp l ee ({ frames := 1, cells := 0, slots := 0, locals := 22 } : Room) ss mm ([.ref kre] : List Value).toArray below mt cd H locs 0 0 (MQ below (Q_X1_takeToken_f G ss.heap.size kre kbt kby rl nx kd sr vl fo pl li ht lt ct tb) ([.ref kre] : List Value).toArray ss 0 0 (va_A (w_X1_takeToken_f G kre kbt kby rl nx kd sr vl fo pl li ht lt ct tb) ss.heap.size)) (F0 mm 161 ls []) := by
            intro k
            induction k using Nat.strongRecOn with
            | _ k ih161 =>
            intro p2 v2 ls H locs hm161 hp2 hp3 hdr hdv hl hP hD hS
            refine lv_aload_n hx hb dX1_takeToken_161 rfl (lv_at hl 0 rfl) ?_
            refine va_get (D := G.1) (ci := 1) (v := .int (nI p2)) (C := RX1) (T := TX1) (N := 13) hx hb hts hin1 hown hK.1 hP 1 rfl rfl 3 (by decide) (hts (.fieldLink RX1 26 "BackLenses$Reader" "next" "I") (List.mem_of_getElem? (i := 1) rfl)) (fun _ h9 => h9) rfl dX1_takeToken_162 ?_
            refine lv_aload_n hx hb dX1_takeToken_165 rfl (lv_at hl 0 rfl) ?_
            refine va_get (D := G.1) (ci := 1) (v := .int (nI rl)) (C := RX1) (T := TX1) (N := 13) hx hb hts hin1 hown hK.1 hP 1 rfl rfl 2 (by decide) (hts (.fieldLink RX1 22 "BackLenses$Reader" "length" "I") (List.mem_of_getElem? (i := 2) rfl)) (fun _ h9 => h9) rfl dX1_takeToken_166 ?_
            refine xn_icmp_ge (tgt := 224) hx hb (by omega) (by omega) dX1_takeToken_169 rfl (fun b169 => ?_) (fun b169 => ?_)
            · skip
              have hle := hdr.trans (ruF_end (fun q => absurd q.1 (by omega)))
              refine lv_aload_n hx hb dX1_takeToken_224 rfl (lv_at hl 0 rfl) ?_
              refine lv_iconst (v := nI 2) hx hb dX1_takeToken_225 (by decide) ?_
              refine va_put (D := G.1) (ci := 1) (v := .int (nI 2)) (ty := .int) (C := RX1) (T := TX1) (N := 13) hx hb hts hin1 tyX1 tyX1_ok nmX1 hown hK.1 hP hD hS 1 rfl rfl 4 (by decide) (hts (.fieldLink RX1 55 "BackLenses$Reader" "kind" "I") (List.mem_of_getElem? (i := 5) rfl)) (fun _ h9 => h9) rfl (by decide +kernel) rfl rfl (Nat.le_of_ble_eq_true rfl) dX1_takeToken_226 (fun H locs hP hD hS => ?_)
              replace hP : xP G [bA G kby 160 tb, oC kre 1 [.ref kbt, .ref kby, .int (nI rl), .int (nI p2), .int (nI 2), .int (nI p), .int v2, .int fo, .int pl, .int li, .int ht, .int lt, .int ct]] H := hP
              replace hD : va_D (va_A (w_X1_takeToken_f G kre kbt kby rl nx kd sr vl fo pl li ht lt ct tb) ss.heap.size) [bA G kby 160 tb, oC kre 1 [.ref kbt, .ref kby, .int (nI rl), .int (nI p2), .int (nI 2), .int (nI p), .int v2, .int fo, .int pl, .int li, .int ht, .int lt, .int ct]] := hD
              refine lv_aload_n hx hb dX1_takeToken_229 rfl (lv_at hl 0 rfl) ?_
              refine va_get (D := G.1) (ci := 1) (v := .int (nI p2)) (C := RX1) (T := TX1) (N := 13) hx hb hts hin1 hown hK.1 hP 1 rfl rfl 3 (by decide) (hts (.fieldLink RX1 26 "BackLenses$Reader" "next" "I") (List.mem_of_getElem? (i := 1) rfl)) (fun _ h9 => h9) rfl dX1_takeToken_230 ?_
              refine lv_aload_n hx hb dX1_takeToken_233 rfl (lv_at hl 0 rfl) ?_
              refine va_get (D := G.1) (ci := 1) (v := .int (nI p)) (C := RX1) (T := TX1) (N := 13) hx hb hts hin1 hown hK.1 hP 1 rfl rfl 5 (by decide) (hts (.fieldLink RX1 95 "BackLenses$Reader" "start" "I") (List.mem_of_getElem? (i := 4) rfl)) (fun _ h9 => h9) rfl dX1_takeToken_234 ?_
              refine xn_isub hx hb (by omega) dX1_takeToken_237 ?_
              refine lv_iconst (v := nI 1) hx hb dX1_takeToken_238 (by decide) ?_
              refine xn_icmp_eq (tgt := 267) hx hb (by omega) (by omega) dX1_takeToken_239 rfl (fun b239 => ?_) (fun b239 => ?_)
              · skip
                refine lv_iconst (v := nI 1) hx hb dX1_takeToken_267 (by decide) ?_
                refine lv_goto (tgt := 272) hx hb dX1_takeToken_268 rfl ?_
                have hP := hP.sub (ws' := [oC kre 1 [.ref kbt, .ref kby, .int (nI rl), .int (nI p2), .int (nI 2), .int (nI p), .int v2, .int fo, .int pl, .int li, .int ht, .int lt, .int ct], bA G kby 160 tb]) [1, 0] rfl
                have hD := hD.sub (ws' := [oC kre 1 [.ref kbt, .ref kby, .int (nI rl), .int (nI p2), .int (nI 2), .int (nI p), .int v2, .int fo, .int pl, .int li, .int ht, .int lt, .int ct], bA G kby 160 tb]) [1, 0] (by decide) rfl
                refine W.zret (v := nI 1) (ty := .boolean) hx hb hr (by decide) (fun t ht hW => ⟨⟨nI 1, (p2, 2, p, v2, fo, pl), rfl, ?_, by rw [ht]; exact hP, hD⟩, hS.F ht⟩) hS.2.2 dX1_takeToken_272
                try dsimp only
                rw [fTok_eq hq]; obtain ⟨k1, k2, k3⟩ := lx2 (t := tb) (rl := rl) (q := p) (by omega) b75 (fun z => b107 (of_decide_eq_true z)); rw [hle] at k2 k3; rw [k1, k2, if_pos rfl, ← hdv]; first | (have k4 : okT tb rl p = true := k3.mpr (by omega); rw [if_pos k4, if_pos k4]; exact ⟨(xb_t k4).symm, rfl⟩) | (have k4 : ¬ okT tb rl p = true := (fun z => absurd (k3.mp z) (by omega)); rw [if_neg k4, if_neg k4]; exact ⟨(xb_f k4).symm, rfl⟩)
              · skip
                refine lv_aload_n hx hb dX1_takeToken_242 rfl (lv_at hl 0 rfl) ?_
                refine va_get (D := G.1) (ci := 1) (v := .int (nI p2)) (C := RX1) (T := TX1) (N := 13) hx hb hts hin1 hown hK.1 hP 1 rfl rfl 3 (by decide) (hts (.fieldLink RX1 26 "BackLenses$Reader" "next" "I") (List.mem_of_getElem? (i := 1) rfl)) (fun _ h9 => h9) rfl dX1_takeToken_243 ?_
                refine lv_aload_n hx hb dX1_takeToken_246 rfl (lv_at hl 0 rfl) ?_
                refine va_get (D := G.1) (ci := 1) (v := .int (nI p)) (C := RX1) (T := TX1) (N := 13) hx hb hts hin1 hown hK.1 hP 1 rfl rfl 5 (by decide) (hts (.fieldLink RX1 95 "BackLenses$Reader" "start" "I") (List.mem_of_getElem? (i := 4) rfl)) (fun _ h9 => h9) rfl dX1_takeToken_247 ?_
                refine xn_isub hx hb (by omega) dX1_takeToken_250 ?_
                refine lv_iconst (v := nI 2) hx hb dX1_takeToken_251 (by decide) ?_
                refine xn_icmp_eq (tgt := 267) hx hb (by omega) (by omega) dX1_takeToken_252 rfl (fun b252 => ?_) (fun b252 => ?_)
                · skip
                  refine lv_iconst (v := nI 1) hx hb dX1_takeToken_267 (by decide) ?_
                  refine lv_goto (tgt := 272) hx hb dX1_takeToken_268 rfl ?_
                  have hP := hP.sub (ws' := [oC kre 1 [.ref kbt, .ref kby, .int (nI rl), .int (nI p2), .int (nI 2), .int (nI p), .int v2, .int fo, .int pl, .int li, .int ht, .int lt, .int ct], bA G kby 160 tb]) [1, 0] rfl
                  have hD := hD.sub (ws' := [oC kre 1 [.ref kbt, .ref kby, .int (nI rl), .int (nI p2), .int (nI 2), .int (nI p), .int v2, .int fo, .int pl, .int li, .int ht, .int lt, .int ct], bA G kby 160 tb]) [1, 0] (by decide) rfl
                  refine W.zret (v := nI 1) (ty := .boolean) hx hb hr (by decide) (fun t ht hW => ⟨⟨nI 1, (p2, 2, p, v2, fo, pl), rfl, ?_, by rw [ht]; exact hP, hD⟩, hS.F ht⟩) hS.2.2 dX1_takeToken_272
                  try dsimp only
                  rw [fTok_eq hq]; obtain ⟨k1, k2, k3⟩ := lx2 (t := tb) (rl := rl) (q := p) (by omega) b75 (fun z => b107 (of_decide_eq_true z)); rw [hle] at k2 k3; rw [k1, k2, if_pos rfl, ← hdv]; first | (have k4 : okT tb rl p = true := k3.mpr (by omega); rw [if_pos k4, if_pos k4]; exact ⟨(xb_t k4).symm, rfl⟩) | (have k4 : ¬ okT tb rl p = true := (fun z => absurd (k3.mp z) (by omega)); rw [if_neg k4, if_neg k4]; exact ⟨(xb_f k4).symm, rfl⟩)
                · skip
                  refine lv_aload_n hx hb dX1_takeToken_255 rfl (lv_at hl 0 rfl) ?_
                  refine lv_iconst (v := nI 1) hx hb dX1_takeToken_256 (by decide) ?_
                  refine lv_aload_n hx hb dX1_takeToken_257 rfl (lv_at hl 0 rfl) ?_
                  refine va_get (D := G.1) (ci := 1) (v := .int (nI p)) (C := RX1) (T := TX1) (N := 13) hx hb hts hin1 hown hK.1 hP 1 rfl rfl 5 (by decide) (hts (.fieldLink RX1 95 "BackLenses$Reader" "start" "I") (List.mem_of_getElem? (i := 4) rfl)) (fun _ h9 => h9) rfl dX1_takeToken_258 ?_
                  refine xw_i (As := [.int (nI 1), .int (nI p)]) (rest := []) (wr := [bA G kby 160 tb]) ⟨hx, hb, hml, hown, hts⟩ (c_X1_refuse l G H.size kre kbt kby rl p2 2 p v2 fo pl li ht lt ct (nI 1) (nI p) ) (cwV 2 hts gX1_takeToken_X1_refuse rfl rfl rfl (by decide +kernel) ⟨Nat.le_of_ble_eq_true rfl, Nat.le_of_ble_eq_true rfl⟩) hK hP hD hS hA [1] [0] rfl rfl (by decide) (by decide) (by decide) rfl rfl rfl hl.1 rfl (Nat.le_of_ble_eq_true rfl) dX1_takeToken_261 ⟨Nat.le_of_ble_eq_true rfl, Nat.le_of_ble_eq_true rfl⟩ (fun r261 u H locs hp261 hP hD hS => ?_)
                  obtain rfl := hp261
                  replace hP : xP G [bA G kby 160 tb, oC kre 1 [.ref kbt, .ref kby, .int (nI rl), .int (nI p2), .int (nI 2), .int (nI p), .int v2, .int (nI 1), .int (nI p), .int li, .int ht, .int lt, .int ct]] H := hP
                  replace hD : va_D (va_A (w_X1_takeToken_f G kre kbt kby rl nx kd sr vl fo pl li ht lt ct tb) ss.heap.size) [bA G kby 160 tb, oC kre 1 [.ref kbt, .ref kby, .int (nI rl), .int (nI p2), .int (nI 2), .int (nI p), .int v2, .int (nI 1), .int (nI p), .int li, .int ht, .int lt, .int ct]] := hD
                  refine xn_if_eq (tgt := 271) hx hb (by omega) dX1_takeToken_264 rfl (fun _ => ?_) (fun b264 => absurd b264 (by omega))
                  refine lv_iconst (v := nI 0) hx hb dX1_takeToken_271 (by decide) ?_
                  have hP := hP.sub (ws' := [oC kre 1 [.ref kbt, .ref kby, .int (nI rl), .int (nI p2), .int (nI 2), .int (nI p), .int v2, .int (nI 1), .int (nI p), .int li, .int ht, .int lt, .int ct], bA G kby 160 tb]) [1, 0] rfl
                  have hD := hD.sub (ws' := [oC kre 1 [.ref kbt, .ref kby, .int (nI rl), .int (nI p2), .int (nI 2), .int (nI p), .int v2, .int (nI 1), .int (nI p), .int li, .int ht, .int lt, .int ct], bA G kby 160 tb]) [1, 0] (by decide) rfl
                  refine W.zret (v := nI 0) (ty := .boolean) hx hb hr (by decide) (fun t ht hW => ⟨⟨nI 0, (p2, 2, p, v2, (nI 1), (nI p)), rfl, ?_, by rw [ht]; exact hP, hD⟩, hS.F ht⟩) hS.2.2 dX1_takeToken_272
                  try dsimp only
                  rw [fTok_eq hq]; obtain ⟨k1, k2, k3⟩ := lx2 (t := tb) (rl := rl) (q := p) (by omega) b75 (fun z => b107 (of_decide_eq_true z)); rw [hle] at k2 k3; rw [k1, k2, if_pos rfl, ← hdv]; first | (have k4 : okT tb rl p = true := k3.mpr (by omega); rw [if_pos k4, if_pos k4]; exact ⟨(xb_t k4).symm, rfl⟩) | (have k4 : ¬ okT tb rl p = true := (fun z => absurd (k3.mp z) (by omega)); rw [if_neg k4, if_neg k4]; exact ⟨(xb_f k4).symm, rfl⟩)
            · skip
              refine lv_aload_n hx hb dX1_takeToken_172 rfl (lv_at hl 0 rfl) ?_
              refine va_get (D := G.1) (ci := 1) (v := .ref kby) (C := RX1) (T := TX1) (N := 13) hx hb hts hin1 hown hK.1 hP 1 rfl rfl 1 (by decide) (hts (.fieldLink RX1 18 "BackLenses$Reader" "bytes" "[B") (List.mem_of_getElem? (i := 3) rfl)) (fun _ h9 => h9) rfl dX1_takeToken_173 ?_
              refine lv_aload_n hx hb dX1_takeToken_176 rfl (lv_at hl 0 rfl) ?_
              refine va_get (D := G.1) (ci := 1) (v := .int (nI p2)) (C := RX1) (T := TX1) (N := 13) hx hb hts hin1 hown hK.1 hP 1 rfl rfl 3 (by decide) (hts (.fieldLink RX1 26 "BackLenses$Reader" "next" "I") (List.mem_of_getElem? (i := 1) rfl)) (fun _ h9 => h9) rfl dX1_takeToken_177 ?_
              refine xn_bald hx hb hK hP 0 rfl (by omega) (by omega) dX1_takeToken_180 ?_
              refine xs_i (As := [.int (tb p2)]) (rest := []) ⟨hx, hb, hml, hown, hts⟩ (c_X1_isFigure l G (tb p2) ) (va_cwS 1 hts gX1_takeToken_X1_isFigure rfl rfl rfl (by decide +kernel) ⟨Nat.le_of_ble_eq_true rfl, Nat.le_of_ble_eq_true rfl⟩) hP hS rfl hl.1 rfl (Nat.le_of_ble_eq_true rfl) dX1_takeToken_181 ⟨Nat.zero_le _, Nat.zero_le _⟩ (fun r181 H locs hp181 hP hS => ?_)
              rw [show r181 = _ from hp181]
              refine xb_if_eq (tgt := 224) hx hb dX1_takeToken_184 rfl (fun b184 => ?_) (fun b184 => ?_)
              · skip
                have hle := hdr.trans (ruF_end (fun q => b184 (of_decide_eq_true q.2)))
                refine lv_aload_n hx hb dX1_takeToken_224 rfl (lv_at hl 0 rfl) ?_
                refine lv_iconst (v := nI 2) hx hb dX1_takeToken_225 (by decide) ?_
                refine va_put (D := G.1) (ci := 1) (v := .int (nI 2)) (ty := .int) (C := RX1) (T := TX1) (N := 13) hx hb hts hin1 tyX1 tyX1_ok nmX1 hown hK.1 hP hD hS 1 rfl rfl 4 (by decide) (hts (.fieldLink RX1 55 "BackLenses$Reader" "kind" "I") (List.mem_of_getElem? (i := 5) rfl)) (fun _ h9 => h9) rfl (by decide +kernel) rfl rfl (Nat.le_of_ble_eq_true rfl) dX1_takeToken_226 (fun H locs hP hD hS => ?_)
                replace hP : xP G [bA G kby 160 tb, oC kre 1 [.ref kbt, .ref kby, .int (nI rl), .int (nI p2), .int (nI 2), .int (nI p), .int v2, .int fo, .int pl, .int li, .int ht, .int lt, .int ct]] H := hP
                replace hD : va_D (va_A (w_X1_takeToken_f G kre kbt kby rl nx kd sr vl fo pl li ht lt ct tb) ss.heap.size) [bA G kby 160 tb, oC kre 1 [.ref kbt, .ref kby, .int (nI rl), .int (nI p2), .int (nI 2), .int (nI p), .int v2, .int fo, .int pl, .int li, .int ht, .int lt, .int ct]] := hD
                refine lv_aload_n hx hb dX1_takeToken_229 rfl (lv_at hl 0 rfl) ?_
                refine va_get (D := G.1) (ci := 1) (v := .int (nI p2)) (C := RX1) (T := TX1) (N := 13) hx hb hts hin1 hown hK.1 hP 1 rfl rfl 3 (by decide) (hts (.fieldLink RX1 26 "BackLenses$Reader" "next" "I") (List.mem_of_getElem? (i := 1) rfl)) (fun _ h9 => h9) rfl dX1_takeToken_230 ?_
                refine lv_aload_n hx hb dX1_takeToken_233 rfl (lv_at hl 0 rfl) ?_
                refine va_get (D := G.1) (ci := 1) (v := .int (nI p)) (C := RX1) (T := TX1) (N := 13) hx hb hts hin1 hown hK.1 hP 1 rfl rfl 5 (by decide) (hts (.fieldLink RX1 95 "BackLenses$Reader" "start" "I") (List.mem_of_getElem? (i := 4) rfl)) (fun _ h9 => h9) rfl dX1_takeToken_234 ?_
                refine xn_isub hx hb (by omega) dX1_takeToken_237 ?_
                refine lv_iconst (v := nI 1) hx hb dX1_takeToken_238 (by decide) ?_
                refine xn_icmp_eq (tgt := 267) hx hb (by omega) (by omega) dX1_takeToken_239 rfl (fun b239 => ?_) (fun b239 => ?_)
                · skip
                  refine lv_iconst (v := nI 1) hx hb dX1_takeToken_267 (by decide) ?_
                  refine lv_goto (tgt := 272) hx hb dX1_takeToken_268 rfl ?_
                  have hP := hP.sub (ws' := [oC kre 1 [.ref kbt, .ref kby, .int (nI rl), .int (nI p2), .int (nI 2), .int (nI p), .int v2, .int fo, .int pl, .int li, .int ht, .int lt, .int ct], bA G kby 160 tb]) [1, 0] rfl
                  have hD := hD.sub (ws' := [oC kre 1 [.ref kbt, .ref kby, .int (nI rl), .int (nI p2), .int (nI 2), .int (nI p), .int v2, .int fo, .int pl, .int li, .int ht, .int lt, .int ct], bA G kby 160 tb]) [1, 0] (by decide) rfl
                  refine W.zret (v := nI 1) (ty := .boolean) hx hb hr (by decide) (fun t ht hW => ⟨⟨nI 1, (p2, 2, p, v2, fo, pl), rfl, ?_, by rw [ht]; exact hP, hD⟩, hS.F ht⟩) hS.2.2 dX1_takeToken_272
                  try dsimp only
                  rw [fTok_eq hq]; obtain ⟨k1, k2, k3⟩ := lx2 (t := tb) (rl := rl) (q := p) (by omega) b75 (fun z => b107 (of_decide_eq_true z)); rw [hle] at k2 k3; rw [k1, k2, if_pos rfl, ← hdv]; first | (have k4 : okT tb rl p = true := k3.mpr (by omega); rw [if_pos k4, if_pos k4]; exact ⟨(xb_t k4).symm, rfl⟩) | (have k4 : ¬ okT tb rl p = true := (fun z => absurd (k3.mp z) (by omega)); rw [if_neg k4, if_neg k4]; exact ⟨(xb_f k4).symm, rfl⟩)
                · skip
                  refine lv_aload_n hx hb dX1_takeToken_242 rfl (lv_at hl 0 rfl) ?_
                  refine va_get (D := G.1) (ci := 1) (v := .int (nI p2)) (C := RX1) (T := TX1) (N := 13) hx hb hts hin1 hown hK.1 hP 1 rfl rfl 3 (by decide) (hts (.fieldLink RX1 26 "BackLenses$Reader" "next" "I") (List.mem_of_getElem? (i := 1) rfl)) (fun _ h9 => h9) rfl dX1_takeToken_243 ?_
                  refine lv_aload_n hx hb dX1_takeToken_246 rfl (lv_at hl 0 rfl) ?_
                  refine va_get (D := G.1) (ci := 1) (v := .int (nI p)) (C := RX1) (T := TX1) (N := 13) hx hb hts hin1 hown hK.1 hP 1 rfl rfl 5 (by decide) (hts (.fieldLink RX1 95 "BackLenses$Reader" "start" "I") (List.mem_of_getElem? (i := 4) rfl)) (fun _ h9 => h9) rfl dX1_takeToken_247 ?_
                  refine xn_isub hx hb (by omega) dX1_takeToken_250 ?_
                  refine lv_iconst (v := nI 2) hx hb dX1_takeToken_251 (by decide) ?_
                  refine xn_icmp_eq (tgt := 267) hx hb (by omega) (by omega) dX1_takeToken_252 rfl (fun b252 => ?_) (fun b252 => ?_)
                  · skip
                    refine lv_iconst (v := nI 1) hx hb dX1_takeToken_267 (by decide) ?_
                    refine lv_goto (tgt := 272) hx hb dX1_takeToken_268 rfl ?_
                    have hP := hP.sub (ws' := [oC kre 1 [.ref kbt, .ref kby, .int (nI rl), .int (nI p2), .int (nI 2), .int (nI p), .int v2, .int fo, .int pl, .int li, .int ht, .int lt, .int ct], bA G kby 160 tb]) [1, 0] rfl
                    have hD := hD.sub (ws' := [oC kre 1 [.ref kbt, .ref kby, .int (nI rl), .int (nI p2), .int (nI 2), .int (nI p), .int v2, .int fo, .int pl, .int li, .int ht, .int lt, .int ct], bA G kby 160 tb]) [1, 0] (by decide) rfl
                    refine W.zret (v := nI 1) (ty := .boolean) hx hb hr (by decide) (fun t ht hW => ⟨⟨nI 1, (p2, 2, p, v2, fo, pl), rfl, ?_, by rw [ht]; exact hP, hD⟩, hS.F ht⟩) hS.2.2 dX1_takeToken_272
                    try dsimp only
                    rw [fTok_eq hq]; obtain ⟨k1, k2, k3⟩ := lx2 (t := tb) (rl := rl) (q := p) (by omega) b75 (fun z => b107 (of_decide_eq_true z)); rw [hle] at k2 k3; rw [k1, k2, if_pos rfl, ← hdv]; first | (have k4 : okT tb rl p = true := k3.mpr (by omega); rw [if_pos k4, if_pos k4]; exact ⟨(xb_t k4).symm, rfl⟩) | (have k4 : ¬ okT tb rl p = true := (fun z => absurd (k3.mp z) (by omega)); rw [if_neg k4, if_neg k4]; exact ⟨(xb_f k4).symm, rfl⟩)
                  · skip
                    refine lv_aload_n hx hb dX1_takeToken_255 rfl (lv_at hl 0 rfl) ?_
                    refine lv_iconst (v := nI 1) hx hb dX1_takeToken_256 (by decide) ?_
                    refine lv_aload_n hx hb dX1_takeToken_257 rfl (lv_at hl 0 rfl) ?_
                    refine va_get (D := G.1) (ci := 1) (v := .int (nI p)) (C := RX1) (T := TX1) (N := 13) hx hb hts hin1 hown hK.1 hP 1 rfl rfl 5 (by decide) (hts (.fieldLink RX1 95 "BackLenses$Reader" "start" "I") (List.mem_of_getElem? (i := 4) rfl)) (fun _ h9 => h9) rfl dX1_takeToken_258 ?_
                    refine xw_i (As := [.int (nI 1), .int (nI p)]) (rest := []) (wr := [bA G kby 160 tb]) ⟨hx, hb, hml, hown, hts⟩ (c_X1_refuse l G H.size kre kbt kby rl p2 2 p v2 fo pl li ht lt ct (nI 1) (nI p) ) (cwV 2 hts gX1_takeToken_X1_refuse rfl rfl rfl (by decide +kernel) ⟨Nat.le_of_ble_eq_true rfl, Nat.le_of_ble_eq_true rfl⟩) hK hP hD hS hA [1] [0] rfl rfl (by decide) (by decide) (by decide) rfl rfl rfl hl.1 rfl (Nat.le_of_ble_eq_true rfl) dX1_takeToken_261 ⟨Nat.le_of_ble_eq_true rfl, Nat.le_of_ble_eq_true rfl⟩ (fun r261 u H locs hp261 hP hD hS => ?_)
                    obtain rfl := hp261
                    replace hP : xP G [bA G kby 160 tb, oC kre 1 [.ref kbt, .ref kby, .int (nI rl), .int (nI p2), .int (nI 2), .int (nI p), .int v2, .int (nI 1), .int (nI p), .int li, .int ht, .int lt, .int ct]] H := hP
                    replace hD : va_D (va_A (w_X1_takeToken_f G kre kbt kby rl nx kd sr vl fo pl li ht lt ct tb) ss.heap.size) [bA G kby 160 tb, oC kre 1 [.ref kbt, .ref kby, .int (nI rl), .int (nI p2), .int (nI 2), .int (nI p), .int v2, .int (nI 1), .int (nI p), .int li, .int ht, .int lt, .int ct]] := hD
                    refine xn_if_eq (tgt := 271) hx hb (by omega) dX1_takeToken_264 rfl (fun _ => ?_) (fun b264 => absurd b264 (by omega))
                    refine lv_iconst (v := nI 0) hx hb dX1_takeToken_271 (by decide) ?_
                    have hP := hP.sub (ws' := [oC kre 1 [.ref kbt, .ref kby, .int (nI rl), .int (nI p2), .int (nI 2), .int (nI p), .int v2, .int (nI 1), .int (nI p), .int li, .int ht, .int lt, .int ct], bA G kby 160 tb]) [1, 0] rfl
                    have hD := hD.sub (ws' := [oC kre 1 [.ref kbt, .ref kby, .int (nI rl), .int (nI p2), .int (nI 2), .int (nI p), .int v2, .int (nI 1), .int (nI p), .int li, .int ht, .int lt, .int ct], bA G kby 160 tb]) [1, 0] (by decide) rfl
                    refine W.zret (v := nI 0) (ty := .boolean) hx hb hr (by decide) (fun t ht hW => ⟨⟨nI 0, (p2, 2, p, v2, (nI 1), (nI p)), rfl, ?_, by rw [ht]; exact hP, hD⟩, hS.F ht⟩) hS.2.2 dX1_takeToken_272
                    try dsimp only
                    rw [fTok_eq hq]; obtain ⟨k1, k2, k3⟩ := lx2 (t := tb) (rl := rl) (q := p) (by omega) b75 (fun z => b107 (of_decide_eq_true z)); rw [hle] at k2 k3; rw [k1, k2, if_pos rfl, ← hdv]; first | (have k4 : okT tb rl p = true := k3.mpr (by omega); rw [if_pos k4, if_pos k4]; exact ⟨(xb_t k4).symm, rfl⟩) | (have k4 : ¬ okT tb rl p = true := (fun z => absurd (k3.mp z) (by omega)); rw [if_neg k4, if_neg k4]; exact ⟨(xb_f k4).symm, rfl⟩)
              · skip
                refine lv_aload_n hx hb dX1_takeToken_187 rfl (lv_at hl 0 rfl) ?_
                refine lv_bipush (v := nI 10) hx hb dX1_takeToken_188 (by decide) ?_
                refine lv_aload_n hx hb dX1_takeToken_190 rfl (lv_at hl 0 rfl) ?_
                refine va_get (D := G.1) (ci := 1) (v := .int v2) (C := RX1) (T := TX1) (N := 13) hx hb hts hin1 hown hK.1 hP 1 rfl rfl 6 (by decide) (hts (.fieldLink RX1 130 "BackLenses$Reader" "value" "I") (List.mem_of_getElem? (i := 6) rfl)) (fun _ h9 => h9) rfl dX1_takeToken_191 ?_
                refine lv_imul hx hb dX1_takeToken_194 ?_
                refine lv_aload_n hx hb dX1_takeToken_195 rfl (lv_at hl 0 rfl) ?_
                refine va_get (D := G.1) (ci := 1) (v := .ref kby) (C := RX1) (T := TX1) (N := 13) hx hb hts hin1 hown hK.1 hP 1 rfl rfl 1 (by decide) (hts (.fieldLink RX1 18 "BackLenses$Reader" "bytes" "[B") (List.mem_of_getElem? (i := 3) rfl)) (fun _ h9 => h9) rfl dX1_takeToken_196 ?_
                refine lv_aload_n hx hb dX1_takeToken_199 rfl (lv_at hl 0 rfl) ?_
                refine va_get (D := G.1) (ci := 1) (v := .int (nI p2)) (C := RX1) (T := TX1) (N := 13) hx hb hts hin1 hown hK.1 hP 1 rfl rfl 3 (by decide) (hts (.fieldLink RX1 26 "BackLenses$Reader" "next" "I") (List.mem_of_getElem? (i := 1) rfl)) (fun _ h9 => h9) rfl dX1_takeToken_200 ?_
                refine xn_bald hx hb hK hP 0 rfl (by omega) (by omega) dX1_takeToken_203 ?_
                refine lv_iadd hx hb dX1_takeToken_204 ?_
                refine lv_bipush (v := nI 48) hx hb dX1_takeToken_205 (by decide) ?_
                refine lv_isub hx hb dX1_takeToken_207 ?_
                refine va_put (D := G.1) (ci := 1) (v := .int ((((nI 10) * v2) + (tb p2)) - (nI 48))) (ty := .int) (C := RX1) (T := TX1) (N := 13) hx hb hts hin1 tyX1 tyX1_ok nmX1 hown hK.1 hP hD hS 1 rfl rfl 6 (by decide) (hts (.fieldLink RX1 130 "BackLenses$Reader" "value" "I") (List.mem_of_getElem? (i := 6) rfl)) (fun _ h9 => h9) rfl (by decide +kernel) rfl rfl (Nat.le_of_ble_eq_true rfl) dX1_takeToken_208 (fun H locs hP hD hS => ?_)
                replace hP : xP G [bA G kby 160 tb, oC kre 1 [.ref kbt, .ref kby, .int (nI rl), .int (nI p2), .int (nI kd), .int (nI p), .int ((((nI 10) * v2) + (tb p2)) - (nI 48)), .int fo, .int pl, .int li, .int ht, .int lt, .int ct]] H := hP
                replace hD : va_D (va_A (w_X1_takeToken_f G kre kbt kby rl nx kd sr vl fo pl li ht lt ct tb) ss.heap.size) [bA G kby 160 tb, oC kre 1 [.ref kbt, .ref kby, .int (nI rl), .int (nI p2), .int (nI kd), .int (nI p), .int ((((nI 10) * v2) + (tb p2)) - (nI 48)), .int fo, .int pl, .int li, .int ht, .int lt, .int ct]] := hD
                refine lv_aload_n hx hb dX1_takeToken_211 rfl (lv_at hl 0 rfl) ?_
                refine lv_dup hx hb dX1_takeToken_212 rfl ?_
                refine va_get (D := G.1) (ci := 1) (v := .int (nI p2)) (C := RX1) (T := TX1) (N := 13) hx hb hts hin1 hown hK.1 hP 1 rfl rfl 3 (by decide) (hts (.fieldLink RX1 26 "BackLenses$Reader" "next" "I") (List.mem_of_getElem? (i := 1) rfl)) (fun _ h9 => h9) rfl dX1_takeToken_213 ?_
                refine lv_iconst (v := nI 1) hx hb dX1_takeToken_216 (by decide) ?_
                refine xn_iadd hx hb dX1_takeToken_217 ?_
                refine va_put (D := G.1) (ci := 1) (v := .int (nI (p2 + 1))) (ty := .int) (C := RX1) (T := TX1) (N := 13) hx hb hts hin1 tyX1 tyX1_ok nmX1 hown hK.1 hP hD hS 1 rfl rfl 3 (by decide) (hts (.fieldLink RX1 26 "BackLenses$Reader" "next" "I") (List.mem_of_getElem? (i := 1) rfl)) (fun _ h9 => h9) rfl (by decide +kernel) rfl rfl (Nat.le_of_ble_eq_true rfl) dX1_takeToken_218 (fun H locs hP hD hS => ?_)
                replace hP : xP G [bA G kby 160 tb, oC kre 1 [.ref kbt, .ref kby, .int (nI rl), .int (nI (p2 + 1)), .int (nI kd), .int (nI p), .int ((((nI 10) * v2) + (tb p2)) - (nI 48)), .int fo, .int pl, .int li, .int ht, .int lt, .int ct]] H := hP
                replace hD : va_D (va_A (w_X1_takeToken_f G kre kbt kby rl nx kd sr vl fo pl li ht lt ct tb) ss.heap.size) [bA G kby 160 tb, oC kre 1 [.ref kbt, .ref kby, .int (nI rl), .int (nI (p2 + 1)), .int (nI kd), .int (nI p), .int ((((nI 10) * v2) + (tb p2)) - (nI 48)), .int fo, .int pl, .int li, .int ht, .int lt, .int ct]] := hD
                refine lv_goto (tgt := 161) hx hb dX1_takeToken_221 rfl ?_
                have hl := lv_sub hl (l' := [(0, .ref kre)]) [0] rfl
                exact ih161 (rl - (p2 + 1)) (by omega) (p2 + 1) ((((nI 10) * v2) + (tb p2)) - (nI 48)) ls H locs rfl (by omega) (by omega) (by exact hdr.trans (ruF_go (by omega) (decide_eq_true b184))) (by rw [show p2 + 1 - p = (p2 - p) + 1 by omega, dvF_snoc, ← hdv, show p + (p2 - p) = p2 by omega]) hl hP hD hS
          have hl := lv_sub hl (l' := [(0, .ref kre)]) [0] rfl
          exact hL161 (rl - p) p (nI 0) ls H locs rfl (by omega) (by omega) (by rfl) (by rw [Nat.sub_self, dvF]) hl hP hD hS
        · skip
          have hL110 : ∀ k : Nat, ∀ (p2 : Nat) (ls : Array Slot) (H : Heap) (locs : List Loc), rl - p2 = k → (p ≤ p2) → (p2 ≤ rl) → (ruE isL tb rl p = ruE isL tb rl p2) → lv_has ls 1 [(0, .ref kre)] → xP G [bA G kby 160 tb, oC kre 1 [.ref kbt, .ref kby, .int (nI rl), .int (nI p2), .int (nI kd), .int (nI p), .int vl, .int fo, .int pl, .int li, .int ht, .int lt, .int ct]] H → va_D (va_A (w_X1_takeToken_f G kre kbt kby rl nx kd sr vl fo pl li ht lt ct tb) ss.heap.size) [bA G kby 160 tb, oC kre 1 [.ref kbt, .ref kby, .int (nI rl), .int (nI p2), .int (nI kd), .int (nI p), .int vl, .int fo, .int pl, .int li, .int ht, .int lt, .int ct]] → va_S (va_A (w_X1_takeToken_f G kre kbt kby rl nx kd sr vl fo pl li ht lt ct tb) ss.heap.size) ss.heap H locs → W pp l ee ({ frames := 1, cells := 0, slots := 0, locals := 22 } : Room) ss mm ([.ref kre] : List Value).toArray below mt cd H locs 0 0 (MQ below (Q_X1_takeToken_f G ss.heap.size kre kbt kby rl nx kd sr vl fo pl li ht lt ct tb) ([.ref kre] : List Value).toArray ss 0 0 (va_A (w_X1_takeToken_f G kre kbt kby rl nx kd sr vl fo pl li ht lt ct tb) ss.heap.size)) (F0 mm 110 ls []) := by
            intro k
            induction k using Nat.strongRecOn with
            | _ k ih110 =>
            intro p2 ls H locs hm110 hp2 hp3 hlr hl hP hD hS
            refine lv_aload_n hx hb dX1_takeToken_110 rfl (lv_at hl 0 rfl) ?_
            refine va_get (D := G.1) (ci := 1) (v := .int (nI p2)) (C := RX1) (T := TX1) (N := 13) hx hb hts hin1 hown hK.1 hP 1 rfl rfl 3 (by decide) (hts (.fieldLink RX1 26 "BackLenses$Reader" "next" "I") (List.mem_of_getElem? (i := 1) rfl)) (fun _ h9 => h9) rfl dX1_takeToken_111 ?_
            refine lv_aload_n hx hb dX1_takeToken_114 rfl (lv_at hl 0 rfl) ?_
            refine va_get (D := G.1) (ci := 1) (v := .int (nI rl)) (C := RX1) (T := TX1) (N := 13) hx hb hts hin1 hown hK.1 hP 1 rfl rfl 2 (by decide) (hts (.fieldLink RX1 22 "BackLenses$Reader" "length" "I") (List.mem_of_getElem? (i := 2) rfl)) (fun _ h9 => h9) rfl dX1_takeToken_115 ?_
            refine xn_icmp_ge (tgt := 149) hx hb (by omega) (by omega) dX1_takeToken_118 rfl (fun b118 => ?_) (fun b118 => ?_)
            · skip
              have hle := hlr.trans (ruF_end (fun q => absurd q.1 (by omega)))
              refine lv_aload_n hx hb dX1_takeToken_149 rfl (lv_at hl 0 rfl) ?_
              refine lv_iconst (v := nI 1) hx hb dX1_takeToken_150 (by decide) ?_
              refine va_put (D := G.1) (ci := 1) (v := .int (nI 1)) (ty := .int) (C := RX1) (T := TX1) (N := 13) hx hb hts hin1 tyX1 tyX1_ok nmX1 hown hK.1 hP hD hS 1 rfl rfl 4 (by decide) (hts (.fieldLink RX1 55 "BackLenses$Reader" "kind" "I") (List.mem_of_getElem? (i := 5) rfl)) (fun _ h9 => h9) rfl (by decide +kernel) rfl rfl (Nat.le_of_ble_eq_true rfl) dX1_takeToken_151 (fun H locs hP hD hS => ?_)
              replace hP : xP G [bA G kby 160 tb, oC kre 1 [.ref kbt, .ref kby, .int (nI rl), .int (nI p2), .int (nI 1), .int (nI p), .int vl, .int fo, .int pl, .int li, .int ht, .int lt, .int ct]] H := hP
              replace hD : va_D (va_A (w_X1_takeToken_f G kre kbt kby rl nx kd sr vl fo pl li ht lt ct tb) ss.heap.size) [bA G kby 160 tb, oC kre 1 [.ref kbt, .ref kby, .int (nI rl), .int (nI p2), .int (nI 1), .int (nI p), .int vl, .int fo, .int pl, .int li, .int ht, .int lt, .int ct]] := hD
              refine lv_iconst (v := nI 1) hx hb dX1_takeToken_154 (by decide) ?_
              have hP := hP.sub (ws' := [oC kre 1 [.ref kbt, .ref kby, .int (nI rl), .int (nI p2), .int (nI 1), .int (nI p), .int vl, .int fo, .int pl, .int li, .int ht, .int lt, .int ct], bA G kby 160 tb]) [1, 0] rfl
              have hD := hD.sub (ws' := [oC kre 1 [.ref kbt, .ref kby, .int (nI rl), .int (nI p2), .int (nI 1), .int (nI p), .int vl, .int fo, .int pl, .int li, .int ht, .int lt, .int ct], bA G kby 160 tb]) [1, 0] (by decide) rfl
              refine W.zret (v := nI 1) (ty := .boolean) hx hb hr (by decide) (fun t ht hW => ⟨⟨nI 1, (p2, 1, p, vl, fo, pl), rfl, ?_, by rw [ht]; exact hP, hD⟩, hS.F ht⟩) hS.2.2 dX1_takeToken_155
              try dsimp only
              rw [fTok_eq hq]; obtain ⟨k1, k2, k3⟩ := lx1 (t := tb) (rl := rl) (q := p) (by omega) b75 (decide_eq_true b107); rw [hle] at k2; rw [k1, k2, if_neg (by decide), if_pos k3, if_pos k3]; exact ⟨(xb_t k3).symm, rfl⟩
            · skip
              refine lv_aload_n hx hb dX1_takeToken_121 rfl (lv_at hl 0 rfl) ?_
              refine va_get (D := G.1) (ci := 1) (v := .ref kby) (C := RX1) (T := TX1) (N := 13) hx hb hts hin1 hown hK.1 hP 1 rfl rfl 1 (by decide) (hts (.fieldLink RX1 18 "BackLenses$Reader" "bytes" "[B") (List.mem_of_getElem? (i := 3) rfl)) (fun _ h9 => h9) rfl dX1_takeToken_122 ?_
              refine lv_aload_n hx hb dX1_takeToken_125 rfl (lv_at hl 0 rfl) ?_
              refine va_get (D := G.1) (ci := 1) (v := .int (nI p2)) (C := RX1) (T := TX1) (N := 13) hx hb hts hin1 hown hK.1 hP 1 rfl rfl 3 (by decide) (hts (.fieldLink RX1 26 "BackLenses$Reader" "next" "I") (List.mem_of_getElem? (i := 1) rfl)) (fun _ h9 => h9) rfl dX1_takeToken_126 ?_
              refine xn_bald hx hb hK hP 0 rfl (by omega) (by omega) dX1_takeToken_129 ?_
              refine xs_i (As := [.int (tb p2)]) (rest := []) ⟨hx, hb, hml, hown, hts⟩ (c_X1_isLetter l G (tb p2) ) (va_cwS 1 hts gX1_takeToken_X1_isLetter rfl rfl rfl (by decide +kernel) ⟨Nat.le_of_ble_eq_true rfl, Nat.le_of_ble_eq_true rfl⟩) hP hS rfl hl.1 rfl (Nat.le_of_ble_eq_true rfl) dX1_takeToken_130 ⟨Nat.zero_le _, Nat.zero_le _⟩ (fun r130 H locs hp130 hP hS => ?_)
              rw [show r130 = _ from hp130]
              refine xb_if_eq (tgt := 149) hx hb dX1_takeToken_133 rfl (fun b133 => ?_) (fun b133 => ?_)
              · skip
                have hle := hlr.trans (ruF_end (fun q => b133 (of_decide_eq_true q.2)))
                refine lv_aload_n hx hb dX1_takeToken_149 rfl (lv_at hl 0 rfl) ?_
                refine lv_iconst (v := nI 1) hx hb dX1_takeToken_150 (by decide) ?_
                refine va_put (D := G.1) (ci := 1) (v := .int (nI 1)) (ty := .int) (C := RX1) (T := TX1) (N := 13) hx hb hts hin1 tyX1 tyX1_ok nmX1 hown hK.1 hP hD hS 1 rfl rfl 4 (by decide) (hts (.fieldLink RX1 55 "BackLenses$Reader" "kind" "I") (List.mem_of_getElem? (i := 5) rfl)) (fun _ h9 => h9) rfl (by decide +kernel) rfl rfl (Nat.le_of_ble_eq_true rfl) dX1_takeToken_151 (fun H locs hP hD hS => ?_)
                replace hP : xP G [bA G kby 160 tb, oC kre 1 [.ref kbt, .ref kby, .int (nI rl), .int (nI p2), .int (nI 1), .int (nI p), .int vl, .int fo, .int pl, .int li, .int ht, .int lt, .int ct]] H := hP
                replace hD : va_D (va_A (w_X1_takeToken_f G kre kbt kby rl nx kd sr vl fo pl li ht lt ct tb) ss.heap.size) [bA G kby 160 tb, oC kre 1 [.ref kbt, .ref kby, .int (nI rl), .int (nI p2), .int (nI 1), .int (nI p), .int vl, .int fo, .int pl, .int li, .int ht, .int lt, .int ct]] := hD
                refine lv_iconst (v := nI 1) hx hb dX1_takeToken_154 (by decide) ?_
                have hP := hP.sub (ws' := [oC kre 1 [.ref kbt, .ref kby, .int (nI rl), .int (nI p2), .int (nI 1), .int (nI p), .int vl, .int fo, .int pl, .int li, .int ht, .int lt, .int ct], bA G kby 160 tb]) [1, 0] rfl
                have hD := hD.sub (ws' := [oC kre 1 [.ref kbt, .ref kby, .int (nI rl), .int (nI p2), .int (nI 1), .int (nI p), .int vl, .int fo, .int pl, .int li, .int ht, .int lt, .int ct], bA G kby 160 tb]) [1, 0] (by decide) rfl
                refine W.zret (v := nI 1) (ty := .boolean) hx hb hr (by decide) (fun t ht hW => ⟨⟨nI 1, (p2, 1, p, vl, fo, pl), rfl, ?_, by rw [ht]; exact hP, hD⟩, hS.F ht⟩) hS.2.2 dX1_takeToken_155
                try dsimp only
                rw [fTok_eq hq]; obtain ⟨k1, k2, k3⟩ := lx1 (t := tb) (rl := rl) (q := p) (by omega) b75 (decide_eq_true b107); rw [hle] at k2; rw [k1, k2, if_neg (by decide), if_pos k3, if_pos k3]; exact ⟨(xb_t k3).symm, rfl⟩
              · skip
                refine lv_aload_n hx hb dX1_takeToken_136 rfl (lv_at hl 0 rfl) ?_
                refine lv_dup hx hb dX1_takeToken_137 rfl ?_
                refine va_get (D := G.1) (ci := 1) (v := .int (nI p2)) (C := RX1) (T := TX1) (N := 13) hx hb hts hin1 hown hK.1 hP 1 rfl rfl 3 (by decide) (hts (.fieldLink RX1 26 "BackLenses$Reader" "next" "I") (List.mem_of_getElem? (i := 1) rfl)) (fun _ h9 => h9) rfl dX1_takeToken_138 ?_
                refine lv_iconst (v := nI 1) hx hb dX1_takeToken_141 (by decide) ?_
                refine xn_iadd hx hb dX1_takeToken_142 ?_
                refine va_put (D := G.1) (ci := 1) (v := .int (nI (p2 + 1))) (ty := .int) (C := RX1) (T := TX1) (N := 13) hx hb hts hin1 tyX1 tyX1_ok nmX1 hown hK.1 hP hD hS 1 rfl rfl 3 (by decide) (hts (.fieldLink RX1 26 "BackLenses$Reader" "next" "I") (List.mem_of_getElem? (i := 1) rfl)) (fun _ h9 => h9) rfl (by decide +kernel) rfl rfl (Nat.le_of_ble_eq_true rfl) dX1_takeToken_143 (fun H locs hP hD hS => ?_)
                replace hP : xP G [bA G kby 160 tb, oC kre 1 [.ref kbt, .ref kby, .int (nI rl), .int (nI (p2 + 1)), .int (nI kd), .int (nI p), .int vl, .int fo, .int pl, .int li, .int ht, .int lt, .int ct]] H := hP
                replace hD : va_D (va_A (w_X1_takeToken_f G kre kbt kby rl nx kd sr vl fo pl li ht lt ct tb) ss.heap.size) [bA G kby 160 tb, oC kre 1 [.ref kbt, .ref kby, .int (nI rl), .int (nI (p2 + 1)), .int (nI kd), .int (nI p), .int vl, .int fo, .int pl, .int li, .int ht, .int lt, .int ct]] := hD
                refine lv_goto (tgt := 110) hx hb dX1_takeToken_146 rfl ?_
                have hl := lv_sub hl (l' := [(0, .ref kre)]) [0] rfl
                exact ih110 (rl - (p2 + 1)) (by omega) (p2 + 1) ls H locs rfl (by omega) (by omega) (by exact hlr.trans (ruF_go (by omega) (decide_eq_true b133))) hl hP hD hS
          have hl := lv_sub hl (l' := [(0, .ref kre)]) [0] rfl
          exact hL110 (rl - p) p ls H locs rfl (by omega) (by omega) (by rfl) hl hP hD hS
      · skip
        refine lv_aload_n hx hb dX1_takeToken_78 rfl (lv_at hl 0 rfl) ?_
        refine lv_dup hx hb dX1_takeToken_79 rfl ?_
        refine va_get (D := G.1) (ci := 1) (v := .int (nI p)) (C := RX1) (T := TX1) (N := 13) hx hb hts hin1 hown hK.1 hP 1 rfl rfl 3 (by decide) (hts (.fieldLink RX1 26 "BackLenses$Reader" "next" "I") (List.mem_of_getElem? (i := 1) rfl)) (fun _ h9 => h9) rfl dX1_takeToken_80 ?_
        refine lv_iconst (v := nI 1) hx hb dX1_takeToken_83 (by decide) ?_
        refine xn_iadd hx hb dX1_takeToken_84 ?_
        refine va_put (D := G.1) (ci := 1) (v := .int (nI (p + 1))) (ty := .int) (C := RX1) (T := TX1) (N := 13) hx hb hts hin1 tyX1 tyX1_ok nmX1 hown hK.1 hP hD hS 1 rfl rfl 3 (by decide) (hts (.fieldLink RX1 26 "BackLenses$Reader" "next" "I") (List.mem_of_getElem? (i := 1) rfl)) (fun _ h9 => h9) rfl (by decide +kernel) rfl rfl (Nat.le_of_ble_eq_true rfl) dX1_takeToken_85 (fun H locs hP hD hS => ?_)
        replace hP : xP G [bA G kby 160 tb, oC kre 1 [.ref kbt, .ref kby, .int (nI rl), .int (nI (p + 1)), .int (nI kd), .int (nI p), .int vl, .int fo, .int pl, .int li, .int ht, .int lt, .int ct]] H := hP
        replace hD : va_D (va_A (w_X1_takeToken_f G kre kbt kby rl nx kd sr vl fo pl li ht lt ct tb) ss.heap.size) [bA G kby 160 tb, oC kre 1 [.ref kbt, .ref kby, .int (nI rl), .int (nI (p + 1)), .int (nI kd), .int (nI p), .int vl, .int fo, .int pl, .int li, .int ht, .int lt, .int ct]] := hD
        refine lv_aload_n hx hb dX1_takeToken_88 rfl (lv_at hl 0 rfl) ?_
        refine lv_iconst (v := nI 3) hx hb dX1_takeToken_89 (by decide) ?_
        refine va_put (D := G.1) (ci := 1) (v := .int (nI 3)) (ty := .int) (C := RX1) (T := TX1) (N := 13) hx hb hts hin1 tyX1 tyX1_ok nmX1 hown hK.1 hP hD hS 1 rfl rfl 4 (by decide) (hts (.fieldLink RX1 55 "BackLenses$Reader" "kind" "I") (List.mem_of_getElem? (i := 5) rfl)) (fun _ h9 => h9) rfl (by decide +kernel) rfl rfl (Nat.le_of_ble_eq_true rfl) dX1_takeToken_90 (fun H locs hP hD hS => ?_)
        replace hP : xP G [bA G kby 160 tb, oC kre 1 [.ref kbt, .ref kby, .int (nI rl), .int (nI (p + 1)), .int (nI 3), .int (nI p), .int vl, .int fo, .int pl, .int li, .int ht, .int lt, .int ct]] H := hP
        replace hD : va_D (va_A (w_X1_takeToken_f G kre kbt kby rl nx kd sr vl fo pl li ht lt ct tb) ss.heap.size) [bA G kby 160 tb, oC kre 1 [.ref kbt, .ref kby, .int (nI rl), .int (nI (p + 1)), .int (nI 3), .int (nI p), .int vl, .int fo, .int pl, .int li, .int ht, .int lt, .int ct]] := hD
        refine lv_iconst (v := nI 1) hx hb dX1_takeToken_93 (by decide) ?_
        have hP := hP.sub (ws' := [oC kre 1 [.ref kbt, .ref kby, .int (nI rl), .int (nI (p + 1)), .int (nI 3), .int (nI p), .int vl, .int fo, .int pl, .int li, .int ht, .int lt, .int ct], bA G kby 160 tb]) [1, 0] rfl
        have hD := hD.sub (ws' := [oC kre 1 [.ref kbt, .ref kby, .int (nI rl), .int (nI (p + 1)), .int (nI 3), .int (nI p), .int vl, .int fo, .int pl, .int li, .int ht, .int lt, .int ct], bA G kby 160 tb]) [1, 0] (by decide) rfl
        refine W.zret (v := nI 1) (ty := .boolean) hx hb hr (by decide) (fun t ht hW => ⟨⟨nI 1, (p + 1, 3, p, vl, fo, pl), rfl, ?_, by rw [ht]; exact hP, hD⟩, hS.F ht⟩) hS.2.2 dX1_takeToken_94
        try dsimp only
        rw [fTok_eq hq]; obtain ⟨k1, k2, k3⟩ := lx3 (t := tb) (rl := rl) (q := p) (by omega) b75; rw [k1, k2, if_neg (by decide), if_pos k3, if_pos k3]; exact ⟨(xb_t k3).symm, rfl⟩
    · skip
      refine lv_aload_n hx hb dX1_takeToken_57 rfl (lv_at hl 0 rfl) ?_
      refine lv_iconst (v := nI 0) hx hb dX1_takeToken_58 (by decide) ?_
      refine va_put (D := G.1) (ci := 1) (v := .int (nI 0)) (ty := .int) (C := RX1) (T := TX1) (N := 13) hx hb hts hin1 tyX1 tyX1_ok nmX1 hown hK.1 hP hD hS 1 rfl rfl 4 (by decide) (hts (.fieldLink RX1 55 "BackLenses$Reader" "kind" "I") (List.mem_of_getElem? (i := 5) rfl)) (fun _ h9 => h9) rfl (by decide +kernel) rfl rfl (Nat.le_of_ble_eq_true rfl) dX1_takeToken_59 (fun H locs hP hD hS => ?_)
      replace hP : xP G [bA G kby 160 tb, oC kre 1 [.ref kbt, .ref kby, .int (nI rl), .int (nI p), .int (nI 0), .int (nI p), .int vl, .int fo, .int pl, .int li, .int ht, .int lt, .int ct]] H := hP
      replace hD : va_D (va_A (w_X1_takeToken_f G kre kbt kby rl nx kd sr vl fo pl li ht lt ct tb) ss.heap.size) [bA G kby 160 tb, oC kre 1 [.ref kbt, .ref kby, .int (nI rl), .int (nI p), .int (nI 0), .int (nI p), .int vl, .int fo, .int pl, .int li, .int ht, .int lt, .int ct]] := hD
      refine lv_iconst (v := nI 1) hx hb dX1_takeToken_62 (by decide) ?_
      have hP := hP.sub (ws' := [oC kre 1 [.ref kbt, .ref kby, .int (nI rl), .int (nI p), .int (nI 0), .int (nI p), .int vl, .int fo, .int pl, .int li, .int ht, .int lt, .int ct], bA G kby 160 tb]) [1, 0] rfl
      have hD := hD.sub (ws' := [oC kre 1 [.ref kbt, .ref kby, .int (nI rl), .int (nI p), .int (nI 0), .int (nI p), .int vl, .int fo, .int pl, .int li, .int ht, .int lt, .int ct], bA G kby 160 tb]) [1, 0] (by decide) rfl
      refine W.zret (v := nI 1) (ty := .boolean) hx hb hr (by decide) (fun t ht hW => ⟨⟨nI 1, (p, 0, p, vl, fo, pl), rfl, ?_, by rw [ht]; exact hP, hD⟩, hS.F ht⟩) hS.2.2 dX1_takeToken_63
      try dsimp only
      rw [fTok_eq hq]; obtain ⟨k1, k2, k3⟩ := lx0 (t := tb) (rl := rl) (q := p) (by omega); rw [k1, k2, if_neg (by decide), if_pos k3, if_pos k3]; exact ⟨(xb_t k3).symm, rfl⟩
  have hL0 : ∀ k : Nat, ∀ (p : Nat) (ls : Array Slot) (H : Heap) (locs : List Loc), rl - p = k → (nx ≤ p) → (p ≤ rl) → ((ruE isSp tb rl nx) = ruE isSp tb rl p) → lv_has ls 1 [(0, .ref kre)] → xP G [bA G kby 160 tb, oC kre 1 [.ref kbt, .ref kby, .int (nI rl), .int (nI p), .int (nI kd), .int (nI sr), .int vl, .int fo, .int pl, .int li, .int ht, .int lt, .int ct]] H → va_D (va_A (w_X1_takeToken_f G kre kbt kby rl nx kd sr vl fo pl li ht lt ct tb) ss.heap.size) [bA G kby 160 tb, oC kre 1 [.ref kbt, .ref kby, .int (nI rl), .int (nI p), .int (nI kd), .int (nI sr), .int vl, .int fo, .int pl, .int li, .int ht, .int lt, .int ct]] → va_S (va_A (w_X1_takeToken_f G kre kbt kby rl nx kd sr vl fo pl li ht lt ct tb) ss.heap.size) ss.heap H locs → W pp l ee ({ frames := 1, cells := 0, slots := 0, locals := 22 } : Room) ss mm ([.ref kre] : List Value).toArray below mt cd H locs 0 0 (MQ below (Q_X1_takeToken_f G ss.heap.size kre kbt kby rl nx kd sr vl fo pl li ht lt ct tb) ([.ref kre] : List Value).toArray ss 0 0 (va_A (w_X1_takeToken_f G kre kbt kby rl nx kd sr vl fo pl li ht lt ct tb) ss.heap.size)) (F0 mm 0 ls []) := by
    intro k
    induction k using Nat.strongRecOn with
    | _ k ih0 =>
    intro p ls H locs hm0 hnp hpr hsp hl hP hD hS
    refine lv_aload_n hx hb dX1_takeToken_0 rfl (lv_at hl 0 rfl) ?_
    refine va_get (D := G.1) (ci := 1) (v := .int (nI p)) (C := RX1) (T := TX1) (N := 13) hx hb hts hin1 hown hK.1 hP 1 rfl rfl 3 (by decide) (hts (.fieldLink RX1 26 "BackLenses$Reader" "next" "I") (List.mem_of_getElem? (i := 1) rfl)) (fun _ h9 => h9) rfl dX1_takeToken_1 ?_
    refine lv_aload_n hx hb dX1_takeToken_4 rfl (lv_at hl 0 rfl) ?_
    refine va_get (D := G.1) (ci := 1) (v := .int (nI rl)) (C := RX1) (T := TX1) (N := 13) hx hb hts hin1 hown hK.1 hP 1 rfl rfl 2 (by decide) (hts (.fieldLink RX1 22 "BackLenses$Reader" "length" "I") (List.mem_of_getElem? (i := 2) rfl)) (fun _ h9 => h9) rfl dX1_takeToken_5 ?_
    refine xn_icmp_ge (tgt := 38) hx hb (by omega) (by omega) dX1_takeToken_8 rfl (fun b8 => ?_) (fun b8 => ?_)
    · skip
      have hl := lv_sub hl (l' := [(0, .ref kre)]) [0] rfl
      exact hL38 p ls H locs (by omega) (by omega) (by first | exact hsp.trans (ruF_end (fun q => absurd q.1 (by omega))) | exact hsp.trans (ruF_end (fun q => b22 (of_decide_eq_true q.2)))) hl hP hD hS
    · skip
      refine lv_aload_n hx hb dX1_takeToken_11 rfl (lv_at hl 0 rfl) ?_
      refine va_get (D := G.1) (ci := 1) (v := .ref kby) (C := RX1) (T := TX1) (N := 13) hx hb hts hin1 hown hK.1 hP 1 rfl rfl 1 (by decide) (hts (.fieldLink RX1 18 "BackLenses$Reader" "bytes" "[B") (List.mem_of_getElem? (i := 3) rfl)) (fun _ h9 => h9) rfl dX1_takeToken_12 ?_
      refine lv_aload_n hx hb dX1_takeToken_15 rfl (lv_at hl 0 rfl) ?_
      refine va_get (D := G.1) (ci := 1) (v := .int (nI p)) (C := RX1) (T := TX1) (N := 13) hx hb hts hin1 hown hK.1 hP 1 rfl rfl 3 (by decide) (hts (.fieldLink RX1 26 "BackLenses$Reader" "next" "I") (List.mem_of_getElem? (i := 1) rfl)) (fun _ h9 => h9) rfl dX1_takeToken_16 ?_
      refine xn_bald hx hb hK hP 0 rfl (by omega) (by omega) dX1_takeToken_19 ?_
      refine lv_bipush (v := nI 32) hx hb dX1_takeToken_20 (by decide) ?_
      refine lv_icmp_ne (tgt := 38) hx hb dX1_takeToken_22 rfl (fun b22 => ?_) (fun b22 => ?_)
      · skip
        have hl := lv_sub hl (l' := [(0, .ref kre)]) [0] rfl
        exact hL38 p ls H locs (by omega) (by omega) (by first | exact hsp.trans (ruF_end (fun q => absurd q.1 (by omega))) | exact hsp.trans (ruF_end (fun q => b22 (of_decide_eq_true q.2)))) hl hP hD hS
      · skip
        refine lv_aload_n hx hb dX1_takeToken_25 rfl (lv_at hl 0 rfl) ?_
        refine lv_dup hx hb dX1_takeToken_26 rfl ?_
        refine va_get (D := G.1) (ci := 1) (v := .int (nI p)) (C := RX1) (T := TX1) (N := 13) hx hb hts hin1 hown hK.1 hP 1 rfl rfl 3 (by decide) (hts (.fieldLink RX1 26 "BackLenses$Reader" "next" "I") (List.mem_of_getElem? (i := 1) rfl)) (fun _ h9 => h9) rfl dX1_takeToken_27 ?_
        refine lv_iconst (v := nI 1) hx hb dX1_takeToken_30 (by decide) ?_
        refine xn_iadd hx hb dX1_takeToken_31 ?_
        refine va_put (D := G.1) (ci := 1) (v := .int (nI (p + 1))) (ty := .int) (C := RX1) (T := TX1) (N := 13) hx hb hts hin1 tyX1 tyX1_ok nmX1 hown hK.1 hP hD hS 1 rfl rfl 3 (by decide) (hts (.fieldLink RX1 26 "BackLenses$Reader" "next" "I") (List.mem_of_getElem? (i := 1) rfl)) (fun _ h9 => h9) rfl (by decide +kernel) rfl rfl (Nat.le_of_ble_eq_true rfl) dX1_takeToken_32 (fun H locs hP hD hS => ?_)
        replace hP : xP G [bA G kby 160 tb, oC kre 1 [.ref kbt, .ref kby, .int (nI rl), .int (nI (p + 1)), .int (nI kd), .int (nI sr), .int vl, .int fo, .int pl, .int li, .int ht, .int lt, .int ct]] H := hP
        replace hD : va_D (va_A (w_X1_takeToken_f G kre kbt kby rl nx kd sr vl fo pl li ht lt ct tb) ss.heap.size) [bA G kby 160 tb, oC kre 1 [.ref kbt, .ref kby, .int (nI rl), .int (nI (p + 1)), .int (nI kd), .int (nI sr), .int vl, .int fo, .int pl, .int li, .int ht, .int lt, .int ct]] := hD
        refine lv_goto (tgt := 0) hx hb dX1_takeToken_35 rfl ?_
        have hl := lv_sub hl (l' := [(0, .ref kre)]) [0] rfl
        exact ih0 (rl - (p + 1)) (by omega) (p + 1) ls H locs rfl (by omega) (by omega) (by exact hsp.trans (ruF_go (by omega) (decide_eq_true b22))) hl hP hD hS
  have hl := lv_sub hl (l' := [(0, .ref kre)]) [0] rfl
  have hP := hP.sub (ws' := [bA G kby 160 tb, oC kre 1 [.ref kbt, .ref kby, .int (nI rl), .int (nI nx), .int (nI kd), .int (nI sr), .int vl, .int fo, .int pl, .int li, .int ht, .int lt, .int ct]]) [1, 0] rfl
  have hD := hD.sub (ws' := [bA G kby 160 tb, oC kre 1 [.ref kbt, .ref kby, .int (nI rl), .int (nI nx), .int (nI kd), .int (nI sr), .int vl, .int fo, .int pl, .int li, .int ht, .int lt, .int ct]]) [1, 0] (by decide) rfl
  exact hL0 (rl - nx) nx ls ss.heap [] rfl (by omega) (by omega) (by rfl) hl hP hD hS

abbrev w_X1_isNumberWithin (G : XG) (kre kbt kby : Nat) (rl nx kd sr : Nat) (vl fo pl li ht lt ct : Int32) : va_W := [oC kre 1 [.ref kbt, .ref kby, .int (nI rl), .int (nI nx), .int (nI kd), .int (nI sr), .int vl, .int fo, .int pl, .int li, .int ht, .int lt, .int ct]]
abbrev Q_X1_isNumberWithin (G : XG) (sz : Nat) (kre kbt kby : Nat) (rl nx kd sr : Nat) (vl fo pl li ht lt ct : Int32) (lo hi : Nat) : Array Value → State → Outcome → State → Prop := (va_Qi (fun (r : Int32) (u : Nat × Nat × Nat × Int32 × Int32 × Int32) => r = xb ((fWit lo hi (nx, kd, sr, vl, fo, pl)).1 = true) ∧ (u.1, u.2.1, u.2.2.1, u.2.2.2.1, u.2.2.2.2.1, u.2.2.2.2.2) = (fWit lo hi (nx, kd, sr, vl, fo, pl)).2) (xWb G sz (w_X1_isNumberWithin G kre kbt kby rl nx kd sr vl fo pl li ht lt ct) (fun u : Nat × Nat × Nat × Int32 × Int32 × Int32 => [oC kre 1 [.ref kbt, .ref kby, .int (nI rl), .int (nI u.1), .int (nI u.2.1), .int (nI u.2.2.1), .int u.2.2.2.1, .int u.2.2.2.2.1, .int u.2.2.2.2.2, .int li, .int ht, .int lt, .int ct]])) (va_A (w_X1_isNumberWithin G kre kbt kby rl nx kd sr vl fo pl li ht lt ct) sz))
set_option maxHeartbeats 4000000 in
set_option maxRecDepth 100000 in
theorem c_X1_isNumberWithin (l : Launch) (G : XG) (sz : Nat) (kre kbt kby : Nat) (rl nx kd sr : Nat) (vl fo pl li ht lt ct : Int32) (lo hi : Nat) (hhi : hi < 1000) (hlo : lo < 1000) (hkd : kd < 1000) : Met l yX1_isNumberWithin wsX1_isNumberWithin ({ frames := 1, cells := 0, slots := 0, locals := 22 } : Room) (va_Pc [.ref kre, .int (nI lo), .int (nI hi)] (xWp G sz (w_X1_isNumberWithin G kre kbt kby rl nx kd sr vl fo pl li ht lt ct))) (Q_X1_isNumberWithin G sz kre kbt kby rl nx kd sr vl fo pl li ht lt ct lo hi) 0 0 (va_A (w_X1_isNumberWithin G kre kbt kby rl nx kd sr vl fo pl li ht lt ct) sz) := by
  refine Met.ofW (cc := cX1_isNumberWithin) (maxL := 3) (ret := (some .boolean)) (by decide) rfl ?_
  intro pp ee ss mm aa below mt cd s₁ BB hml hv
  obtain ⟨rfl, hsz, hP, hK, hD0⟩ := hv
  have hx := BB.exec
  have hb := BB.bytes
  have hr := BB.returns
  have hts := atoms_spec (ws := wsX1_isNumberWithin) BB.pre
  have hown : ss.vm.findClass RX1 = some mm.cls := findClass_of_methodNamed BB.named
  have hlocks := BB.notSynchronized
  subst hsz
  have hD := hD0.self (sz := ss.heap.size)
  have hA : ∀ q : Nat, ss.heap.size ≤ q → va_A (w_X1_isNumberWithin G kre kbt kby rl nx kd sr vl fo pl li ht lt ct) ss.heap.size q := fun q h => Or.inr h
  have hS : va_S (va_A (w_X1_isNumberWithin G kre kbt kby rl nx kd sr vl fo pl li ht lt ct) ss.heap.size) ss.heap ss.heap [] := va_S.rf
  replace hD : va_D (va_A (w_X1_isNumberWithin G kre kbt kby rl nx kd sr vl fo pl li ht lt ct) ss.heap.size) [oC kre 1 [.ref kbt, .ref kby, .int (nI rl), .int (nI nx), .int (nI kd), .int (nI sr), .int vl, .int fo, .int pl, .int li, .int ht, .int lt, .int ct]] := hD
  replace hP : xP G [oC kre 1 [.ref kbt, .ref kby, .int (nI rl), .int (nI nx), .int (nI kd), .int (nI sr), .int vl, .int fo, .int pl, .int li, .int ht, .int lt, .int ct]] ss.heap := hP
  have hin1 : ∀ w ∈ u_ws RX1 TX1 13, w ∈ wsX1_isNumberWithin := fun w h => List.mem_cons_of_mem _ (List.mem_append_right _ h)
  have hl := lv_entry ([.ref kre, .int (nI lo), .int (nI hi)]) (n := 3) (Nat.le_of_ble_eq_true rfl)
  rw [lg_entry_eq]
  generalize (lg_sl ([.ref kre, .int (nI lo), .int (nI hi)]) ++ List.replicate (3 - (lg_sl ([.ref kre, .int (nI lo), .int (nI hi)])).length) Slot.unset).toArray = ls at hl ⊢
  replace hl : lv_has ls 3 [(0, .ref kre), (1, .int (nI lo)), (2, .int (nI hi))] := hl
  refine lv_aload_n hx hb dX1_isNumberWithin_0 rfl (lv_at hl 0 rfl) ?_
  refine va_get (D := G.1) (ci := 1) (v := .int (nI kd)) (C := RX1) (T := TX1) (N := 13) hx hb hts hin1 hown hK.1 hP 0 rfl rfl 4 (by decide) (hts (.fieldLink RX1 55 "BackLenses$Reader" "kind" "I") (List.mem_of_getElem? (i := 1) rfl)) (fun _ h9 => h9) rfl dX1_isNumberWithin_1 ?_
  refine lv_iconst (v := nI 2) hx hb dX1_isNumberWithin_4 (by decide) ?_
  refine xn_icmp_eq (tgt := 18) hx hb (by omega) (by omega) dX1_isNumberWithin_5 rfl (fun b5 => ?_) (fun b5 => ?_)
  · skip
    refine lv_aload_n hx hb dX1_isNumberWithin_18 rfl (lv_at hl 0 rfl) ?_
    refine va_get (D := G.1) (ci := 1) (v := .int vl) (C := RX1) (T := TX1) (N := 13) hx hb hts hin1 hown hK.1 hP 0 rfl rfl 6 (by decide) (hts (.fieldLink RX1 130 "BackLenses$Reader" "value" "I") (List.mem_of_getElem? (i := 3) rfl)) (fun _ h9 => h9) rfl dX1_isNumberWithin_19 ?_
    refine lv_iload_n hx hb dX1_isNumberWithin_22 rfl (lv_at hl 1 rfl) ?_
    refine xm_icmp_lt (tgt := 34) hx hb (by omega) dX1_isNumberWithin_23 rfl (fun b23 => ?_) (fun b23 => ?_)
    · skip
      refine lv_aload_n hx hb dX1_isNumberWithin_34 rfl (lv_at hl 0 rfl) ?_
      refine lv_iconst (v := nI 3) hx hb dX1_isNumberWithin_35 (by decide) ?_
      refine lv_aload_n hx hb dX1_isNumberWithin_36 rfl (lv_at hl 0 rfl) ?_
      refine va_get (D := G.1) (ci := 1) (v := .int (nI sr)) (C := RX1) (T := TX1) (N := 13) hx hb hts hin1 hown hK.1 hP 0 rfl rfl 5 (by decide) (hts (.fieldLink RX1 95 "BackLenses$Reader" "start" "I") (List.mem_of_getElem? (i := 2) rfl)) (fun _ h9 => h9) rfl dX1_isNumberWithin_37 ?_
      refine xw_i (As := [.int (nI 3), .int (nI sr)]) (rest := []) (wr := []) ⟨hx, hb, hml, hown, hts⟩ (c_X1_refuse l G ss.heap.size kre kbt kby rl nx kd sr vl fo pl li ht lt ct (nI 3) (nI sr) ) (cwV 2 hts gX1_isNumberWithin_X1_refuse rfl rfl rfl (by decide +kernel) ⟨Nat.le_of_ble_eq_true rfl, Nat.le_of_ble_eq_true rfl⟩) hK hP hD hS hA [0] [] rfl rfl (by decide) (by decide) (by decide) rfl rfl rfl hl.1 rfl (Nat.le_of_ble_eq_true rfl) dX1_isNumberWithin_40 ⟨Nat.le_of_ble_eq_true rfl, Nat.le_of_ble_eq_true rfl⟩ (fun r40 u H locs hp40 hP hD hS => ?_)
      obtain rfl := hp40
      replace hP : xP G [oC kre 1 [.ref kbt, .ref kby, .int (nI rl), .int (nI nx), .int (nI kd), .int (nI sr), .int vl, .int (nI 3), .int (nI sr), .int li, .int ht, .int lt, .int ct]] H := hP
      replace hD : va_D (va_A (w_X1_isNumberWithin G kre kbt kby rl nx kd sr vl fo pl li ht lt ct) ss.heap.size) [oC kre 1 [.ref kbt, .ref kby, .int (nI rl), .int (nI nx), .int (nI kd), .int (nI sr), .int vl, .int (nI 3), .int (nI sr), .int li, .int ht, .int lt, .int ct]] := hD
      refine xn_if_eq (tgt := 50) hx hb (by omega) dX1_isNumberWithin_43 rfl (fun _ => ?_) (fun b43 => absurd b43 (by omega))
      refine lv_iconst (v := nI 0) hx hb dX1_isNumberWithin_50 (by decide) ?_
      have hP := hP.sub (ws' := [oC kre 1 [.ref kbt, .ref kby, .int (nI rl), .int (nI nx), .int (nI kd), .int (nI sr), .int vl, .int (nI 3), .int (nI sr), .int li, .int ht, .int lt, .int ct]]) [0] rfl
      have hD := hD.sub (ws' := [oC kre 1 [.ref kbt, .ref kby, .int (nI rl), .int (nI nx), .int (nI kd), .int (nI sr), .int vl, .int (nI 3), .int (nI sr), .int li, .int ht, .int lt, .int ct]]) [0] (by decide) rfl
      refine W.zret (v := nI 0) (ty := .boolean) hx hb hr (by decide) (fun t ht hW => ⟨⟨nI 0, (nx, kd, sr, vl, (nI 3), (nI sr)), rfl, ?_, by rw [ht]; exact hP, hD⟩, hS.F ht⟩) hS.2.2 dX1_isNumberWithin_51
      try dsimp only
      first | (rw [fWit_0 b5]; exact ⟨(xb_f Bool.false_ne_true).symm, rfl⟩) | (rw [fWit_1 b5 (by omega)]; exact ⟨(xb_f Bool.false_ne_true).symm, rfl⟩) | (rw [fWit_2 b5 (by omega)]; exact ⟨(xb_t rfl).symm, rfl⟩)
    · skip
      refine lv_aload_n hx hb dX1_isNumberWithin_26 rfl (lv_at hl 0 rfl) ?_
      refine va_get (D := G.1) (ci := 1) (v := .int vl) (C := RX1) (T := TX1) (N := 13) hx hb hts hin1 hown hK.1 hP 0 rfl rfl 6 (by decide) (hts (.fieldLink RX1 130 "BackLenses$Reader" "value" "I") (List.mem_of_getElem? (i := 3) rfl)) (fun _ h9 => h9) rfl dX1_isNumberWithin_27 ?_
      refine lv_iload_n hx hb dX1_isNumberWithin_30 rfl (lv_at hl 2 rfl) ?_
      refine xm_icmp_le (tgt := 46) hx hb (by omega) dX1_isNumberWithin_31 rfl (fun b31 => ?_) (fun b31 => ?_)
      · skip
        refine lv_iconst (v := nI 1) hx hb dX1_isNumberWithin_46 (by decide) ?_
        refine lv_goto (tgt := 51) hx hb dX1_isNumberWithin_47 rfl ?_
        have hP := hP.sub (ws' := [oC kre 1 [.ref kbt, .ref kby, .int (nI rl), .int (nI nx), .int (nI kd), .int (nI sr), .int vl, .int fo, .int pl, .int li, .int ht, .int lt, .int ct]]) [0] rfl
        have hD := hD.sub (ws' := [oC kre 1 [.ref kbt, .ref kby, .int (nI rl), .int (nI nx), .int (nI kd), .int (nI sr), .int vl, .int fo, .int pl, .int li, .int ht, .int lt, .int ct]]) [0] (by decide) rfl
        refine W.zret (v := nI 1) (ty := .boolean) hx hb hr (by decide) (fun t ht hW => ⟨⟨nI 1, (nx, kd, sr, vl, fo, pl), rfl, ?_, by rw [ht]; exact hP, hD⟩, hS.F ht⟩) hS.2.2 dX1_isNumberWithin_51
        try dsimp only
        first | (rw [fWit_0 b5]; exact ⟨(xb_f Bool.false_ne_true).symm, rfl⟩) | (rw [fWit_1 b5 (by omega)]; exact ⟨(xb_f Bool.false_ne_true).symm, rfl⟩) | (rw [fWit_2 b5 (by omega)]; exact ⟨(xb_t rfl).symm, rfl⟩)
      · skip
        refine lv_aload_n hx hb dX1_isNumberWithin_34 rfl (lv_at hl 0 rfl) ?_
        refine lv_iconst (v := nI 3) hx hb dX1_isNumberWithin_35 (by decide) ?_
        refine lv_aload_n hx hb dX1_isNumberWithin_36 rfl (lv_at hl 0 rfl) ?_
        refine va_get (D := G.1) (ci := 1) (v := .int (nI sr)) (C := RX1) (T := TX1) (N := 13) hx hb hts hin1 hown hK.1 hP 0 rfl rfl 5 (by decide) (hts (.fieldLink RX1 95 "BackLenses$Reader" "start" "I") (List.mem_of_getElem? (i := 2) rfl)) (fun _ h9 => h9) rfl dX1_isNumberWithin_37 ?_
        refine xw_i (As := [.int (nI 3), .int (nI sr)]) (rest := []) (wr := []) ⟨hx, hb, hml, hown, hts⟩ (c_X1_refuse l G ss.heap.size kre kbt kby rl nx kd sr vl fo pl li ht lt ct (nI 3) (nI sr) ) (cwV 2 hts gX1_isNumberWithin_X1_refuse rfl rfl rfl (by decide +kernel) ⟨Nat.le_of_ble_eq_true rfl, Nat.le_of_ble_eq_true rfl⟩) hK hP hD hS hA [0] [] rfl rfl (by decide) (by decide) (by decide) rfl rfl rfl hl.1 rfl (Nat.le_of_ble_eq_true rfl) dX1_isNumberWithin_40 ⟨Nat.le_of_ble_eq_true rfl, Nat.le_of_ble_eq_true rfl⟩ (fun r40 u H locs hp40 hP hD hS => ?_)
        obtain rfl := hp40
        replace hP : xP G [oC kre 1 [.ref kbt, .ref kby, .int (nI rl), .int (nI nx), .int (nI kd), .int (nI sr), .int vl, .int (nI 3), .int (nI sr), .int li, .int ht, .int lt, .int ct]] H := hP
        replace hD : va_D (va_A (w_X1_isNumberWithin G kre kbt kby rl nx kd sr vl fo pl li ht lt ct) ss.heap.size) [oC kre 1 [.ref kbt, .ref kby, .int (nI rl), .int (nI nx), .int (nI kd), .int (nI sr), .int vl, .int (nI 3), .int (nI sr), .int li, .int ht, .int lt, .int ct]] := hD
        refine xn_if_eq (tgt := 50) hx hb (by omega) dX1_isNumberWithin_43 rfl (fun _ => ?_) (fun b43 => absurd b43 (by omega))
        refine lv_iconst (v := nI 0) hx hb dX1_isNumberWithin_50 (by decide) ?_
        have hP := hP.sub (ws' := [oC kre 1 [.ref kbt, .ref kby, .int (nI rl), .int (nI nx), .int (nI kd), .int (nI sr), .int vl, .int (nI 3), .int (nI sr), .int li, .int ht, .int lt, .int ct]]) [0] rfl
        have hD := hD.sub (ws' := [oC kre 1 [.ref kbt, .ref kby, .int (nI rl), .int (nI nx), .int (nI kd), .int (nI sr), .int vl, .int (nI 3), .int (nI sr), .int li, .int ht, .int lt, .int ct]]) [0] (by decide) rfl
        refine W.zret (v := nI 0) (ty := .boolean) hx hb hr (by decide) (fun t ht hW => ⟨⟨nI 0, (nx, kd, sr, vl, (nI 3), (nI sr)), rfl, ?_, by rw [ht]; exact hP, hD⟩, hS.F ht⟩) hS.2.2 dX1_isNumberWithin_51
        try dsimp only
        first | (rw [fWit_0 b5]; exact ⟨(xb_f Bool.false_ne_true).symm, rfl⟩) | (rw [fWit_1 b5 (by omega)]; exact ⟨(xb_f Bool.false_ne_true).symm, rfl⟩) | (rw [fWit_2 b5 (by omega)]; exact ⟨(xb_t rfl).symm, rfl⟩)
  · skip
    refine lv_aload_n hx hb dX1_isNumberWithin_8 rfl (lv_at hl 0 rfl) ?_
    refine lv_iconst (v := nI 2) hx hb dX1_isNumberWithin_9 (by decide) ?_
    refine lv_aload_n hx hb dX1_isNumberWithin_10 rfl (lv_at hl 0 rfl) ?_
    refine va_get (D := G.1) (ci := 1) (v := .int (nI sr)) (C := RX1) (T := TX1) (N := 13) hx hb hts hin1 hown hK.1 hP 0 rfl rfl 5 (by decide) (hts (.fieldLink RX1 95 "BackLenses$Reader" "start" "I") (List.mem_of_getElem? (i := 2) rfl)) (fun _ h9 => h9) rfl dX1_isNumberWithin_11 ?_
    refine xw_i (As := [.int (nI 2), .int (nI sr)]) (rest := []) (wr := []) ⟨hx, hb, hml, hown, hts⟩ (c_X1_refuse l G ss.heap.size kre kbt kby rl nx kd sr vl fo pl li ht lt ct (nI 2) (nI sr) ) (cwV 2 hts gX1_isNumberWithin_X1_refuse rfl rfl rfl (by decide +kernel) ⟨Nat.le_of_ble_eq_true rfl, Nat.le_of_ble_eq_true rfl⟩) hK hP hD hS hA [0] [] rfl rfl (by decide) (by decide) (by decide) rfl rfl rfl hl.1 rfl (Nat.le_of_ble_eq_true rfl) dX1_isNumberWithin_14 ⟨Nat.le_of_ble_eq_true rfl, Nat.le_of_ble_eq_true rfl⟩ (fun r14 u H locs hp14 hP hD hS => ?_)
    obtain rfl := hp14
    replace hP : xP G [oC kre 1 [.ref kbt, .ref kby, .int (nI rl), .int (nI nx), .int (nI kd), .int (nI sr), .int vl, .int (nI 2), .int (nI sr), .int li, .int ht, .int lt, .int ct]] H := hP
    replace hD : va_D (va_A (w_X1_isNumberWithin G kre kbt kby rl nx kd sr vl fo pl li ht lt ct) ss.heap.size) [oC kre 1 [.ref kbt, .ref kby, .int (nI rl), .int (nI nx), .int (nI kd), .int (nI sr), .int vl, .int (nI 2), .int (nI sr), .int li, .int ht, .int lt, .int ct]] := hD
    have hP := hP.sub (ws' := [oC kre 1 [.ref kbt, .ref kby, .int (nI rl), .int (nI nx), .int (nI kd), .int (nI sr), .int vl, .int (nI 2), .int (nI sr), .int li, .int ht, .int lt, .int ct]]) [0] rfl
    have hD := hD.sub (ws' := [oC kre 1 [.ref kbt, .ref kby, .int (nI rl), .int (nI nx), .int (nI kd), .int (nI sr), .int vl, .int (nI 2), .int (nI sr), .int li, .int ht, .int lt, .int ct]]) [0] (by decide) rfl
    refine W.zret (v := nI 0) (ty := .boolean) hx hb hr (by decide) (fun t ht hW => ⟨⟨nI 0, (nx, kd, sr, vl, (nI 2), (nI sr)), rfl, ?_, by rw [ht]; exact hP, hD⟩, hS.F ht⟩) hS.2.2 dX1_isNumberWithin_17
    try dsimp only
    first | (rw [fWit_0 b5]; exact ⟨(xb_f Bool.false_ne_true).symm, rfl⟩) | (rw [fWit_1 b5 (by omega)]; exact ⟨(xb_f Bool.false_ne_true).symm, rfl⟩) | (rw [fWit_2 b5 (by omega)]; exact ⟨(xb_t rfl).symm, rfl⟩)

abbrev w_X1_takeNumber (G : XG) (kre kbt kby : Nat) (rl nx kd sr : Nat) (vl fo pl li ht lt ct : Int32) (tb : Nat → Int32) : va_W := [oC kre 1 [.ref kbt, .ref kby, .int (nI rl), .int (nI nx), .int (nI kd), .int (nI sr), .int vl, .int fo, .int pl, .int li, .int ht, .int lt, .int ct], bA G kby 160 tb]
abbrev Q_X1_takeNumber (G : XG) (sz : Nat) (kre kbt kby : Nat) (rl nx kd sr : Nat) (vl fo pl li ht lt ct : Int32) (tb : Nat → Int32) (lo hi : Nat) : Array Value → State → Outcome → State → Prop := (va_Qi (fun (r : Int32) (u : Nat × Nat × Nat × Int32 × Int32 × Int32) => r = xb ((fNum tb rl lo hi (nx, kd, sr, vl, fo, pl)).1 = true) ∧ (u.1, u.2.1, u.2.2.1, u.2.2.2.1, u.2.2.2.2.1, u.2.2.2.2.2) = (fNum tb rl lo hi (nx, kd, sr, vl, fo, pl)).2) (xWb G sz (w_X1_takeNumber G kre kbt kby rl nx kd sr vl fo pl li ht lt ct tb) (fun u : Nat × Nat × Nat × Int32 × Int32 × Int32 => [oC kre 1 [.ref kbt, .ref kby, .int (nI rl), .int (nI u.1), .int (nI u.2.1), .int (nI u.2.2.1), .int u.2.2.2.1, .int u.2.2.2.2.1, .int u.2.2.2.2.2, .int li, .int ht, .int lt, .int ct], bA G kby 160 tb])) (va_A (w_X1_takeNumber G kre kbt kby rl nx kd sr vl fo pl li ht lt ct tb) sz))
set_option maxHeartbeats 4000000 in
set_option maxRecDepth 100000 in
theorem c_X1_takeNumber (l : Launch) (G : XG) (sz : Nat) (kre kbt kby : Nat) (rl nx kd sr : Nat) (vl fo pl li ht lt ct : Int32) (tb : Nat → Int32) (lo hi : Nat) (hrl : rl ≤ 160) (hnx : nx ≤ rl) (hhi : hi < 1000) (hlo : lo < 1000) : Met l yX1_takeNumber wsX1_takeNumber ({ frames := 2, cells := 0, slots := 0, locals := 44 } : Room) (va_Pc [.ref kre, .int (nI lo), .int (nI hi)] (xWp G sz (w_X1_takeNumber G kre kbt kby rl nx kd sr vl fo pl li ht lt ct tb))) (Q_X1_takeNumber G sz kre kbt kby rl nx kd sr vl fo pl li ht lt ct tb lo hi) 0 0 (va_A (w_X1_takeNumber G kre kbt kby rl nx kd sr vl fo pl li ht lt ct tb) sz) := by
  refine Met.ofW (cc := cX1_takeNumber) (maxL := 3) (ret := (some .boolean)) (by decide) rfl ?_
  intro pp ee ss mm aa below mt cd s₁ BB hml hv
  obtain ⟨rfl, hsz, hP, hK, hD0⟩ := hv
  have hx := BB.exec
  have hb := BB.bytes
  have hr := BB.returns
  have hts := atoms_spec (ws := wsX1_takeNumber) BB.pre
  have hown : ss.vm.findClass RX1 = some mm.cls := findClass_of_methodNamed BB.named
  have hlocks := BB.notSynchronized
  subst hsz
  have hD := hD0.self (sz := ss.heap.size)
  have hA : ∀ q : Nat, ss.heap.size ≤ q → va_A (w_X1_takeNumber G kre kbt kby rl nx kd sr vl fo pl li ht lt ct tb) ss.heap.size q := fun q h => Or.inr h
  have hS : va_S (va_A (w_X1_takeNumber G kre kbt kby rl nx kd sr vl fo pl li ht lt ct tb) ss.heap.size) ss.heap ss.heap [] := va_S.rf
  replace hD : va_D (va_A (w_X1_takeNumber G kre kbt kby rl nx kd sr vl fo pl li ht lt ct tb) ss.heap.size) [oC kre 1 [.ref kbt, .ref kby, .int (nI rl), .int (nI nx), .int (nI kd), .int (nI sr), .int vl, .int fo, .int pl, .int li, .int ht, .int lt, .int ct], bA G kby 160 tb] := hD
  replace hP : xP G [oC kre 1 [.ref kbt, .ref kby, .int (nI rl), .int (nI nx), .int (nI kd), .int (nI sr), .int vl, .int fo, .int pl, .int li, .int ht, .int lt, .int ct], bA G kby 160 tb] ss.heap := hP
  have hin1 : ∀ w ∈ u_ws RX1 TX1 13, w ∈ wsX1_takeNumber := fun w h => List.mem_cons_of_mem _ (List.mem_append_right _ h)
  have hl := lv_entry ([.ref kre, .int (nI lo), .int (nI hi)]) (n := 3) (Nat.le_of_ble_eq_true rfl)
  rw [lg_entry_eq]
  generalize (lg_sl ([.ref kre, .int (nI lo), .int (nI hi)]) ++ List.replicate (3 - (lg_sl ([.ref kre, .int (nI lo), .int (nI hi)])).length) Slot.unset).toArray = ls at hl ⊢
  replace hl : lv_has ls 3 [(0, .ref kre), (1, .int (nI lo)), (2, .int (nI hi))] := hl
  refine lv_aload_n hx hb dX1_takeNumber_0 rfl (lv_at hl 0 rfl) ?_
  refine xw_i (As := []) (rest := []) (wr := []) ⟨hx, hb, hml, hown, hts⟩ (c_X1_takeToken_f l G ss.heap.size kre kbt kby rl nx kd sr vl fo pl li ht lt ct tb (by first | assumption | omega) (by first | assumption | omega)) (cwV 0 hts gX1_takeNumber_X1_takeToken rfl rfl rfl (by decide +kernel) ⟨Nat.le_of_ble_eq_true rfl, Nat.le_of_ble_eq_true rfl⟩) hK hP hD hS hA [0, 1] [] rfl rfl (by decide) (by decide) (by decide) rfl rfl rfl hl.1 rfl (Nat.le_of_ble_eq_true rfl) dX1_takeNumber_1 ⟨Nat.le_of_ble_eq_true rfl, Nat.le_of_ble_eq_true rfl⟩ (fun r1 u H locs hp1 hP hD hS => ?_)
  obtain ⟨nx2_1, kd2_1, sr2_1, vl2_1, fo2_1, pl2_1⟩ := u
  try dsimp only at hp1 hP hD
  obtain ⟨rfl, he1⟩ := hp1
  replace hP : xP G [oC kre 1 [.ref kbt, .ref kby, .int (nI rl), .int (nI nx2_1), .int (nI kd2_1), .int (nI sr2_1), .int vl2_1, .int fo2_1, .int pl2_1, .int li, .int ht, .int lt, .int ct], bA G kby 160 tb] H := hP
  replace hD : va_D (va_A (w_X1_takeNumber G kre kbt kby rl nx kd sr vl fo pl li ht lt ct tb) ss.heap.size) [oC kre 1 [.ref kbt, .ref kby, .int (nI rl), .int (nI nx2_1), .int (nI kd2_1), .int (nI sr2_1), .int vl2_1, .int fo2_1, .int pl2_1, .int li, .int ht, .int lt, .int ct], bA G kby 160 tb] := hD
  refine xb_if_eq (tgt := 20) hx hb dX1_takeNumber_4 rfl (fun b4 => ?_) (fun b4 => ?_)
  · skip
    refine lv_iconst (v := nI 0) hx hb dX1_takeNumber_20 (by decide) ?_
    have hP := hP.sub (ws' := [oC kre 1 [.ref kbt, .ref kby, .int (nI rl), .int (nI nx2_1), .int (nI kd2_1), .int (nI sr2_1), .int vl2_1, .int fo2_1, .int pl2_1, .int li, .int ht, .int lt, .int ct], bA G kby 160 tb]) [0, 1] rfl
    have hD := hD.sub (ws' := [oC kre 1 [.ref kbt, .ref kby, .int (nI rl), .int (nI nx2_1), .int (nI kd2_1), .int (nI sr2_1), .int vl2_1, .int fo2_1, .int pl2_1, .int li, .int ht, .int lt, .int ct], bA G kby 160 tb]) [0, 1] (by decide) rfl
    refine W.zret (v := nI 0) (ty := .boolean) hx hb hr (by decide) (fun t ht hW => ⟨⟨nI 0, (nx2_1, kd2_1, sr2_1, vl2_1, fo2_1, pl2_1), rfl, ?_, by rw [ht]; exact hP, hD⟩, hS.F ht⟩) hS.2.2 dX1_takeNumber_21
    try dsimp only
    first | (rw [fNum_0 b4]; exact ⟨(xb_f Bool.false_ne_true).symm, he1⟩) | (rw [fNum_1 b4, ← he1]; first | exact ⟨(xb_t b13).symm, he10⟩ | exact ⟨(xb_f b13).symm, he10⟩)
  · skip
    refine lv_aload_n hx hb dX1_takeNumber_7 rfl (lv_at hl 0 rfl) ?_
    refine lv_iload_n hx hb dX1_takeNumber_8 rfl (lv_at hl 1 rfl) ?_
    refine lv_iload_n hx hb dX1_takeNumber_9 rfl (lv_at hl 2 rfl) ?_
    refine xw_i (As := [.int (nI lo), .int (nI hi)]) (rest := []) (wr := [bA G kby 160 tb]) ⟨hx, hb, hml, hown, hts⟩ (c_X1_isNumberWithin l G H.size kre kbt kby rl nx2_1 kd2_1 sr2_1 vl2_1 fo2_1 pl2_1 li ht lt ct lo hi (by first | assumption | omega) (by first | assumption | omega) (by have hk := fTok_kd (t := tb) (rl := rl) (s := (nx, kd, sr, vl, fo, pl)); rw [← he1] at hk; dsimp only at hk; omega)) (cwV 2 hts gX1_takeNumber_X1_isNumberWithin rfl rfl rfl (by decide +kernel) ⟨Nat.le_of_ble_eq_true rfl, Nat.le_of_ble_eq_true rfl⟩) hK hP hD hS hA [0] [1] rfl rfl (by decide) (by decide) (by decide) rfl rfl rfl hl.1 rfl (Nat.le_of_ble_eq_true rfl) dX1_takeNumber_10 ⟨Nat.le_of_ble_eq_true rfl, Nat.le_of_ble_eq_true rfl⟩ (fun r10 u H locs hp10 hP hD hS => ?_)
    obtain ⟨nx2_10, kd2_10, sr2_10, vl2_10, fo2_10, pl2_10⟩ := u
    try dsimp only at hp10 hP hD
    obtain ⟨rfl, he10⟩ := hp10
    replace hP : xP G [bA G kby 160 tb, oC kre 1 [.ref kbt, .ref kby, .int (nI rl), .int (nI nx2_10), .int (nI kd2_10), .int (nI sr2_10), .int vl2_10, .int fo2_10, .int pl2_10, .int li, .int ht, .int lt, .int ct]] H := hP
    replace hD : va_D (va_A (w_X1_takeNumber G kre kbt kby rl nx kd sr vl fo pl li ht lt ct tb) ss.heap.size) [bA G kby 160 tb, oC kre 1 [.ref kbt, .ref kby, .int (nI rl), .int (nI nx2_10), .int (nI kd2_10), .int (nI sr2_10), .int vl2_10, .int fo2_10, .int pl2_10, .int li, .int ht, .int lt, .int ct]] := hD
    refine xb_if_eq (tgt := 20) hx hb dX1_takeNumber_13 rfl (fun b13 => ?_) (fun b13 => ?_)
    · skip
      refine lv_iconst (v := nI 0) hx hb dX1_takeNumber_20 (by decide) ?_
      have hP := hP.sub (ws' := [oC kre 1 [.ref kbt, .ref kby, .int (nI rl), .int (nI nx2_10), .int (nI kd2_10), .int (nI sr2_10), .int vl2_10, .int fo2_10, .int pl2_10, .int li, .int ht, .int lt, .int ct], bA G kby 160 tb]) [1, 0] rfl
      have hD := hD.sub (ws' := [oC kre 1 [.ref kbt, .ref kby, .int (nI rl), .int (nI nx2_10), .int (nI kd2_10), .int (nI sr2_10), .int vl2_10, .int fo2_10, .int pl2_10, .int li, .int ht, .int lt, .int ct], bA G kby 160 tb]) [1, 0] (by decide) rfl
      refine W.zret (v := nI 0) (ty := .boolean) hx hb hr (by decide) (fun t ht hW => ⟨⟨nI 0, (nx2_10, kd2_10, sr2_10, vl2_10, fo2_10, pl2_10), rfl, ?_, by rw [ht]; exact hP, hD⟩, hS.F ht⟩) hS.2.2 dX1_takeNumber_21
      try dsimp only
      first | (rw [fNum_0 b4]; exact ⟨(xb_f Bool.false_ne_true).symm, he1⟩) | (rw [fNum_1 b4, ← he1]; first | exact ⟨(xb_t b13).symm, he10⟩ | exact ⟨(xb_f b13).symm, he10⟩)
    · skip
      refine lv_iconst (v := nI 1) hx hb dX1_takeNumber_16 (by decide) ?_
      refine lv_goto (tgt := 21) hx hb dX1_takeNumber_17 rfl ?_
      have hP := hP.sub (ws' := [oC kre 1 [.ref kbt, .ref kby, .int (nI rl), .int (nI nx2_10), .int (nI kd2_10), .int (nI sr2_10), .int vl2_10, .int fo2_10, .int pl2_10, .int li, .int ht, .int lt, .int ct], bA G kby 160 tb]) [1, 0] rfl
      have hD := hD.sub (ws' := [oC kre 1 [.ref kbt, .ref kby, .int (nI rl), .int (nI nx2_10), .int (nI kd2_10), .int (nI sr2_10), .int vl2_10, .int fo2_10, .int pl2_10, .int li, .int ht, .int lt, .int ct], bA G kby 160 tb]) [1, 0] (by decide) rfl
      refine W.zret (v := nI 1) (ty := .boolean) hx hb hr (by decide) (fun t ht hW => ⟨⟨nI 1, (nx2_10, kd2_10, sr2_10, vl2_10, fo2_10, pl2_10), rfl, ?_, by rw [ht]; exact hP, hD⟩, hS.F ht⟩) hS.2.2 dX1_takeNumber_21
      try dsimp only
      first | (rw [fNum_0 b4]; exact ⟨(xb_f Bool.false_ne_true).symm, he1⟩) | (rw [fNum_1 b4, ← he1]; first | exact ⟨(xb_t b13).symm, he10⟩ | exact ⟨(xb_f b13).symm, he10⟩)

abbrev w_X1_takeSemicolon (G : XG) (kre kbt kby : Nat) (rl nx kd sr : Nat) (vl fo pl li ht lt ct : Int32) (tb : Nat → Int32) : va_W := [oC kre 1 [.ref kbt, .ref kby, .int (nI rl), .int (nI nx), .int (nI kd), .int (nI sr), .int vl, .int fo, .int pl, .int li, .int ht, .int lt, .int ct], bA G kby 160 tb]
abbrev Q_X1_takeSemicolon (G : XG) (sz : Nat) (kre kbt kby : Nat) (rl nx kd sr : Nat) (vl fo pl li ht lt ct : Int32) (tb : Nat → Int32) : Array Value → State → Outcome → State → Prop := (va_Qi (fun (r : Int32) (u : Nat × Nat × Nat × Int32 × Int32 × Int32) => r = xb ((fSem tb rl (nx, kd, sr, vl, fo, pl)).1 = true) ∧ (u.1, u.2.1, u.2.2.1, u.2.2.2.1, u.2.2.2.2.1, u.2.2.2.2.2) = (fSem tb rl (nx, kd, sr, vl, fo, pl)).2) (xWb G sz (w_X1_takeSemicolon G kre kbt kby rl nx kd sr vl fo pl li ht lt ct tb) (fun u : Nat × Nat × Nat × Int32 × Int32 × Int32 => [oC kre 1 [.ref kbt, .ref kby, .int (nI rl), .int (nI u.1), .int (nI u.2.1), .int (nI u.2.2.1), .int u.2.2.2.1, .int u.2.2.2.2.1, .int u.2.2.2.2.2, .int li, .int ht, .int lt, .int ct], bA G kby 160 tb])) (va_A (w_X1_takeSemicolon G kre kbt kby rl nx kd sr vl fo pl li ht lt ct tb) sz))
set_option maxHeartbeats 4000000 in
set_option maxRecDepth 100000 in
theorem c_X1_takeSemicolon (l : Launch) (G : XG) (sz : Nat) (kre kbt kby : Nat) (rl nx kd sr : Nat) (vl fo pl li ht lt ct : Int32) (tb : Nat → Int32) (hrl : rl ≤ 160) (hnx : nx ≤ rl) : Met l yX1_takeSemicolon wsX1_takeSemicolon ({ frames := 2, cells := 0, slots := 0, locals := 42 } : Room) (va_Pc [.ref kre] (xWp G sz (w_X1_takeSemicolon G kre kbt kby rl nx kd sr vl fo pl li ht lt ct tb))) (Q_X1_takeSemicolon G sz kre kbt kby rl nx kd sr vl fo pl li ht lt ct tb) 0 0 (va_A (w_X1_takeSemicolon G kre kbt kby rl nx kd sr vl fo pl li ht lt ct tb) sz) := by
  refine Met.ofW (cc := cX1_takeSemicolon) (maxL := 1) (ret := (some .boolean)) (by decide) rfl ?_
  intro pp ee ss mm aa below mt cd s₁ BB hml hv
  obtain ⟨rfl, hsz, hP, hK, hD0⟩ := hv
  have hx := BB.exec
  have hb := BB.bytes
  have hr := BB.returns
  have hts := atoms_spec (ws := wsX1_takeSemicolon) BB.pre
  have hown : ss.vm.findClass RX1 = some mm.cls := findClass_of_methodNamed BB.named
  have hlocks := BB.notSynchronized
  subst hsz
  have hD := hD0.self (sz := ss.heap.size)
  have hA : ∀ q : Nat, ss.heap.size ≤ q → va_A (w_X1_takeSemicolon G kre kbt kby rl nx kd sr vl fo pl li ht lt ct tb) ss.heap.size q := fun q h => Or.inr h
  have hS : va_S (va_A (w_X1_takeSemicolon G kre kbt kby rl nx kd sr vl fo pl li ht lt ct tb) ss.heap.size) ss.heap ss.heap [] := va_S.rf
  replace hD : va_D (va_A (w_X1_takeSemicolon G kre kbt kby rl nx kd sr vl fo pl li ht lt ct tb) ss.heap.size) [oC kre 1 [.ref kbt, .ref kby, .int (nI rl), .int (nI nx), .int (nI kd), .int (nI sr), .int vl, .int fo, .int pl, .int li, .int ht, .int lt, .int ct], bA G kby 160 tb] := hD
  replace hP : xP G [oC kre 1 [.ref kbt, .ref kby, .int (nI rl), .int (nI nx), .int (nI kd), .int (nI sr), .int vl, .int fo, .int pl, .int li, .int ht, .int lt, .int ct], bA G kby 160 tb] ss.heap := hP
  have hin1 : ∀ w ∈ u_ws RX1 TX1 13, w ∈ wsX1_takeSemicolon := fun w h => List.mem_cons_of_mem _ (List.mem_append_right _ h)
  have hl := lv_entry ([.ref kre]) (n := 1) (Nat.le_of_ble_eq_true rfl)
  rw [lg_entry_eq]
  generalize (lg_sl ([.ref kre]) ++ List.replicate (1 - (lg_sl ([.ref kre])).length) Slot.unset).toArray = ls at hl ⊢
  replace hl : lv_has ls 1 [(0, .ref kre)] := hl
  refine lv_aload_n hx hb dX1_takeSemicolon_0 rfl (lv_at hl 0 rfl) ?_
  refine xw_i (As := []) (rest := []) (wr := []) ⟨hx, hb, hml, hown, hts⟩ (c_X1_takeToken_f l G ss.heap.size kre kbt kby rl nx kd sr vl fo pl li ht lt ct tb (by first | assumption | omega) (by first | assumption | omega)) (cwV 0 hts gX1_takeSemicolon_X1_takeToken rfl rfl rfl (by decide +kernel) ⟨Nat.le_of_ble_eq_true rfl, Nat.le_of_ble_eq_true rfl⟩) hK hP hD hS hA [0, 1] [] rfl rfl (by decide) (by decide) (by decide) rfl rfl rfl hl.1 rfl (Nat.le_of_ble_eq_true rfl) dX1_takeSemicolon_1 ⟨Nat.le_of_ble_eq_true rfl, Nat.le_of_ble_eq_true rfl⟩ (fun r1 u H locs hp1 hP hD hS => ?_)
  obtain ⟨nx2_1, kd2_1, sr2_1, vl2_1, fo2_1, pl2_1⟩ := u
  try dsimp only at hp1 hP hD
  obtain ⟨rfl, he1⟩ := hp1
  replace hP : xP G [oC kre 1 [.ref kbt, .ref kby, .int (nI rl), .int (nI nx2_1), .int (nI kd2_1), .int (nI sr2_1), .int vl2_1, .int fo2_1, .int pl2_1, .int li, .int ht, .int lt, .int ct], bA G kby 160 tb] H := hP
  replace hD : va_D (va_A (w_X1_takeSemicolon G kre kbt kby rl nx kd sr vl fo pl li ht lt ct tb) ss.heap.size) [oC kre 1 [.ref kbt, .ref kby, .int (nI rl), .int (nI nx2_1), .int (nI kd2_1), .int (nI sr2_1), .int vl2_1, .int fo2_1, .int pl2_1, .int li, .int ht, .int lt, .int ct], bA G kby 160 tb] := hD
  refine xb_if_eq (tgt := 31) hx hb dX1_takeSemicolon_4 rfl (fun b4 => ?_) (fun b4 => ?_)
  · skip
    refine lv_iconst (v := nI 0) hx hb dX1_takeSemicolon_31 (by decide) ?_
    have hP := hP.sub (ws' := [oC kre 1 [.ref kbt, .ref kby, .int (nI rl), .int (nI nx2_1), .int (nI kd2_1), .int (nI sr2_1), .int vl2_1, .int fo2_1, .int pl2_1, .int li, .int ht, .int lt, .int ct], bA G kby 160 tb]) [0, 1] rfl
    have hD := hD.sub (ws' := [oC kre 1 [.ref kbt, .ref kby, .int (nI rl), .int (nI nx2_1), .int (nI kd2_1), .int (nI sr2_1), .int vl2_1, .int fo2_1, .int pl2_1, .int li, .int ht, .int lt, .int ct], bA G kby 160 tb]) [0, 1] (by decide) rfl
    refine W.zret (v := nI 0) (ty := .boolean) hx hb hr (by decide) (fun t ht hW => ⟨⟨nI 0, (nx2_1, kd2_1, sr2_1, vl2_1, fo2_1, pl2_1), rfl, ?_, by rw [ht]; exact hP, hD⟩, hS.F ht⟩) hS.2.2 dX1_takeSemicolon_32
    try dsimp only
    first | (rw [fSem_0 b4]; exact ⟨(xb_f Bool.false_ne_true).symm, he1⟩) | (rw [fSem_1 b4 he1 b12]; exact ⟨(xb_t rfl).symm, rfl⟩) | (rw [fSem_2 b4 he1 b12]; exact ⟨(xb_f Bool.false_ne_true).symm, rfl⟩)
  · skip
    refine lv_aload_n hx hb dX1_takeSemicolon_7 rfl (lv_at hl 0 rfl) ?_
    have hk := fTok_kd (t := tb) (rl := rl) (s := (nx, kd, sr, vl, fo, pl))
    rw [← he1] at hk
    dsimp only at hk
    refine va_get (D := G.1) (ci := 1) (v := .int (nI kd2_1)) (C := RX1) (T := TX1) (N := 13) hx hb hts hin1 hown hK.1 hP 0 rfl rfl 4 (by decide) (hts (.fieldLink RX1 55 "BackLenses$Reader" "kind" "I") (List.mem_of_getElem? (i := 1) rfl)) (fun _ h9 => h9) rfl dX1_takeSemicolon_8 ?_
    refine lv_iconst (v := nI 3) hx hb dX1_takeSemicolon_11 (by decide) ?_
    refine xn_icmp_eq (tgt := 27) hx hb (by omega) (by omega) dX1_takeSemicolon_12 rfl (fun b12 => ?_) (fun b12 => ?_)
    · skip
      refine lv_iconst (v := nI 1) hx hb dX1_takeSemicolon_27 (by decide) ?_
      refine lv_goto (tgt := 32) hx hb dX1_takeSemicolon_28 rfl ?_
      have hP := hP.sub (ws' := [oC kre 1 [.ref kbt, .ref kby, .int (nI rl), .int (nI nx2_1), .int (nI kd2_1), .int (nI sr2_1), .int vl2_1, .int fo2_1, .int pl2_1, .int li, .int ht, .int lt, .int ct], bA G kby 160 tb]) [0, 1] rfl
      have hD := hD.sub (ws' := [oC kre 1 [.ref kbt, .ref kby, .int (nI rl), .int (nI nx2_1), .int (nI kd2_1), .int (nI sr2_1), .int vl2_1, .int fo2_1, .int pl2_1, .int li, .int ht, .int lt, .int ct], bA G kby 160 tb]) [0, 1] (by decide) rfl
      refine W.zret (v := nI 1) (ty := .boolean) hx hb hr (by decide) (fun t ht hW => ⟨⟨nI 1, (nx2_1, kd2_1, sr2_1, vl2_1, fo2_1, pl2_1), rfl, ?_, by rw [ht]; exact hP, hD⟩, hS.F ht⟩) hS.2.2 dX1_takeSemicolon_32
      try dsimp only
      first | (rw [fSem_0 b4]; exact ⟨(xb_f Bool.false_ne_true).symm, he1⟩) | (rw [fSem_1 b4 he1 b12]; exact ⟨(xb_t rfl).symm, rfl⟩) | (rw [fSem_2 b4 he1 b12]; exact ⟨(xb_f Bool.false_ne_true).symm, rfl⟩)
    · skip
      refine lv_aload_n hx hb dX1_takeSemicolon_15 rfl (lv_at hl 0 rfl) ?_
      refine lv_iconst (v := nI 2) hx hb dX1_takeSemicolon_16 (by decide) ?_
      refine lv_aload_n hx hb dX1_takeSemicolon_17 rfl (lv_at hl 0 rfl) ?_
      refine va_get (D := G.1) (ci := 1) (v := .int (nI sr2_1)) (C := RX1) (T := TX1) (N := 13) hx hb hts hin1 hown hK.1 hP 0 rfl rfl 5 (by decide) (hts (.fieldLink RX1 95 "BackLenses$Reader" "start" "I") (List.mem_of_getElem? (i := 2) rfl)) (fun _ h9 => h9) rfl dX1_takeSemicolon_18 ?_
      refine xw_i (As := [.int (nI 2), .int (nI sr2_1)]) (rest := []) (wr := [bA G kby 160 tb]) ⟨hx, hb, hml, hown, hts⟩ (c_X1_refuse l G H.size kre kbt kby rl nx2_1 kd2_1 sr2_1 vl2_1 fo2_1 pl2_1 li ht lt ct (nI 2) (nI sr2_1) ) (cwV 2 hts gX1_takeSemicolon_X1_refuse rfl rfl rfl (by decide +kernel) ⟨Nat.le_of_ble_eq_true rfl, Nat.le_of_ble_eq_true rfl⟩) hK hP hD hS hA [0] [1] rfl rfl (by decide) (by decide) (by decide) rfl rfl rfl hl.1 rfl (Nat.le_of_ble_eq_true rfl) dX1_takeSemicolon_21 ⟨Nat.le_of_ble_eq_true rfl, Nat.le_of_ble_eq_true rfl⟩ (fun r21 u H locs hp21 hP hD hS => ?_)
      obtain rfl := hp21
      replace hP : xP G [bA G kby 160 tb, oC kre 1 [.ref kbt, .ref kby, .int (nI rl), .int (nI nx2_1), .int (nI kd2_1), .int (nI sr2_1), .int vl2_1, .int (nI 2), .int (nI sr2_1), .int li, .int ht, .int lt, .int ct]] H := hP
      replace hD : va_D (va_A (w_X1_takeSemicolon G kre kbt kby rl nx kd sr vl fo pl li ht lt ct tb) ss.heap.size) [bA G kby 160 tb, oC kre 1 [.ref kbt, .ref kby, .int (nI rl), .int (nI nx2_1), .int (nI kd2_1), .int (nI sr2_1), .int vl2_1, .int (nI 2), .int (nI sr2_1), .int li, .int ht, .int lt, .int ct]] := hD
      refine xn_if_eq (tgt := 31) hx hb (by omega) dX1_takeSemicolon_24 rfl (fun _ => ?_) (fun b24 => absurd b24 (by omega))
      refine lv_iconst (v := nI 0) hx hb dX1_takeSemicolon_31 (by decide) ?_
      have hP := hP.sub (ws' := [oC kre 1 [.ref kbt, .ref kby, .int (nI rl), .int (nI nx2_1), .int (nI kd2_1), .int (nI sr2_1), .int vl2_1, .int (nI 2), .int (nI sr2_1), .int li, .int ht, .int lt, .int ct], bA G kby 160 tb]) [1, 0] rfl
      have hD := hD.sub (ws' := [oC kre 1 [.ref kbt, .ref kby, .int (nI rl), .int (nI nx2_1), .int (nI kd2_1), .int (nI sr2_1), .int vl2_1, .int (nI 2), .int (nI sr2_1), .int li, .int ht, .int lt, .int ct], bA G kby 160 tb]) [1, 0] (by decide) rfl
      refine W.zret (v := nI 0) (ty := .boolean) hx hb hr (by decide) (fun t ht hW => ⟨⟨nI 0, (nx2_1, kd2_1, sr2_1, vl2_1, (nI 2), (nI sr2_1)), rfl, ?_, by rw [ht]; exact hP, hD⟩, hS.F ht⟩) hS.2.2 dX1_takeSemicolon_32
      try dsimp only
      first | (rw [fSem_0 b4]; exact ⟨(xb_f Bool.false_ne_true).symm, he1⟩) | (rw [fSem_1 b4 he1 b12]; exact ⟨(xb_t rfl).symm, rfl⟩) | (rw [fSem_2 b4 he1 b12]; exact ⟨(xb_f Bool.false_ne_true).symm, rfl⟩)
end
section
/-! a line of the text: each of the five kinds, over what it changes -/
def bN {α : Type} (t : Nat → Int32) (rl lo hi : Nat) (s : TS) (no : TS → α) (go : Nat → TS → α) : α :=
  if (fNum t rl lo hi s).1 = true then go (fNum t rl lo hi s).2.2.2.2.1.toInt.toNat (fNum t rl lo hi s).2 else no (fNum t rl lo hi s).2
theorem bN_no {α : Type} {t : Nat → Int32} {rl lo hi : Nat} {s : TS} {no : TS → α} {go : Nat → TS → α} {a : TS} (h : ¬ (fNum t rl lo hi s).1 = true) (he : a = (fNum t rl lo hi s).2) : bN t rl lo hi s no go = no a := by
  unfold bN; rw [if_neg h, he]
theorem bN_ok {α : Type} {t : Nat → Int32} {rl lo hi : Nat} {s : TS} {no : TS → α} {go : Nat → TS → α} {nx kd sr k : Nat} {fo pl : Int32} (h : (fNum t rl lo hi s).1 = true) (he : (nx, kd, sr, nI k, fo, pl) = (fNum t rl lo hi s).2) (hk : k < 1000) : bN t rl lo hi s no go = go k (nx, kd, sr, nI k, fo, pl) := by
  unfold bN; rw [if_pos h, ← he]
  have h1 := nI_toInt (n := k) (by omega)
  show go (nI k).toInt.toNat _ = _
  rw [h1]; rfl
abbrev bS {α : Type} (t : Nat → Int32) (rl : Nat) (s : TS) (x : α) : Bool × TS × α := ((fSem t rl s).1, (fSem t rl s).2, x)
abbrev tdB (x : Int32) (c : Nat) : Int32 := (x >>> (nI c &&& 31)) &&& nI 1
abbrev orB (x : Int32) (c : Nat) : Int32 := x ||| (nI 1 <<< (nI c &&& 31))
def fHou (t : Nat → Int32) (rl : Nat) (ht : Int32) (w h : Nat) (s : TS) : Bool × TS × Int32 × Nat × Nat :=
  if ht = nI 0 then bN t rl 2 4 s (fun a => (false, a, nI 1, w, h)) (fun k a => bN t rl 2 4 a (fun b => (false, b, nI 1, k, h)) (fun k2 b => bS t rl b (nI 1, k, k2)))
  else (false, fRef (nI 4) s, ht, w, h)
def fLas (t : Nat → Int32) (rl : Nat) (lt : Int32) (la : Nat) (s : TS) : Bool × TS × Int32 × Nat :=
  if lt = nI 0 then bN t rl 0 9 s (fun a => (false, a, nI 1, la)) (fun k a => bS t rl a (nI 1, k))
  else (false, fRef (nI 4) s, lt, la)
def fCel (t : Nat → Int32) (rl : Nat) (ct : Int32) (af : Nat → Int32) (s : TS) : Bool × TS × Int32 × (Nat → Int32) :=
  bN t rl 0 15 s (fun a => (false, a, ct, af)) (fun k a => if tdB ct k = nI 0 then bN t rl 0 5 a (fun b => (false, b, orB ct k, af)) (fun k2 b => bS t rl b (orB ct k, upd af k (nI k2)))
    else (false, fRef (nI 4) a, ct, af))
def row3 (f : Nat → Int32) (n : Nat) (x y z : Int32) : Nat → Int32 := upd (upd (upd f (3 * n) x) (3 * n + 1) y) (3 * n + 2) z
def fTur (t : Nat → Int32) (rl : Nat) (nc : Nat) (fc : Nat → Int32) (s : TS) : Bool × TS × Nat × (Nat → Int32) :=
  if nc < 10 then bN t rl 0 9 s (fun a => (false, a, nc, fc)) (fun d a => bN t rl 0 15 a (fun b => (false, b, nc, fc)) (fun c b => bN t rl 0 5 b (fun z => (false, z, nc, fc)) (fun v z => bS t rl z (nc + 1, row3 fc nc (nI d) (nI c) (nI v)))))
  else (false, fRef (nI 5) s, nc, fc)
/-- the blind cells of a lens: at most k tokens more -/
def fBli (t : Nat → Int32) (rl : Nat) (nl : Nat) (fl : Nat → Int32) (d : Nat) : Nat → Int32 → TS → Bool × TS × Nat × (Nat → Int32)
  | 0, _, s => (false, fRef (nI 4) s, nl, fl)
  | k + 1, bl, s =>
    if (fTok t rl s).1 = true then
      if (fTok t rl s).2.2.1 = 3 then (true, (fTok t rl s).2, nl + 1, row3 fl nl (nI d) bl (nI 0))
      else if (fWit 0 15 (fTok t rl s).2).1 = true then
        (if tdB bl (fTok t rl s).2.2.2.2.1.toInt.toNat = nI 0 then fBli t rl nl fl d k (orB bl (fTok t rl s).2.2.2.2.1.toInt.toNat) (fTok t rl s).2 else (false, fRef (nI 4) (fTok t rl s).2, nl, fl))
      else (false, (fWit 0 15 (fTok t rl s).2).2, nl, fl)
    else (false, (fTok t rl s).2, nl, fl)
def fLen (t : Nat → Int32) (rl : Nat) (nl : Nat) (fl : Nat → Int32) (s : TS) : Bool × TS × Nat × (Nat → Int32) :=
  if nl < 6 then bN t rl 0 9 s (fun a => (false, a, nl, fl)) (fun d a => fBli t rl nl fl d 17 (nI 0) a) else (false, fRef (nI 5) s, nl, fl)
section Fb
variable {t : Nat → Int32} {rl nl : Nat} {fl : Nat → Int32} {d k : Nat} {bl : Int32} {s : TS} {nx kd sr : Nat} {vl fo pl : Int32}
theorem fBli_0 (h : ¬ (fTok t rl s).1 = true) : fBli t rl nl fl d (k + 1) bl s = (false, (fTok t rl s).2, nl, fl) := if_neg h
theorem fBli_1 (h : (fTok t rl s).1 = true) (he : (nx, kd, sr, vl, fo, pl) = (fTok t rl s).2) (h3 : kd = 3) : fBli t rl nl fl d (k + 1) bl s = (true, (nx, kd, sr, vl, fo, pl), nl + 1, row3 fl nl (nI d) bl (nI 0)) := by
  show (if _ then _ else _) = _
  rw [if_pos h, ← he]; exact if_pos h3
theorem fBli_2 (h : (fTok t rl s).1 = true) (he : (nx, kd, sr, vl, fo, pl) = (fTok t rl s).2) (h3 : ¬ kd = 3) (h4 : ¬ (fWit 0 15 (nx, kd, sr, vl, fo, pl)).1 = true) : fBli t rl nl fl d (k + 1) bl s = (false, (fWit 0 15 (nx, kd, sr, vl, fo, pl)).2, nl, fl) := by
  show (if _ then _ else _) = _
  rw [if_pos h, ← he]; exact (if_neg h3).trans (if_neg h4)
theorem fBli_3 {c : Nat} (h : (fTok t rl s).1 = true) (he : (nx, kd, sr, nI c, fo, pl) = (fTok t rl s).2) (h3 : ¬ kd = 3) (h4 : (fWit 0 15 (nx, kd, sr, nI c, fo, pl)).1 = true) (hc : c < 1000) (h5 : ¬ tdB bl c = nI 0) : fBli t rl nl fl d (k + 1) bl s = (false, (nx, kd, sr, nI c, nI 4, nI sr), nl, fl) := by
  have h1 := nI_toInt (n := c) (by omega)
  show (if _ then _ else _) = _
  rw [if_pos h, ← he]; refine (if_neg h3).trans ((if_pos h4).trans ?_)
  show (if tdB bl (nI c).toInt.toNat = nI 0 then _ else _) = _
  rw [h1]; exact if_neg h5
theorem fBli_4 {c : Nat} (h : (fTok t rl s).1 = true) (he : (nx, kd, sr, nI c, fo, pl) = (fTok t rl s).2) (h3 : ¬ kd = 3) (h4 : (fWit 0 15 (nx, kd, sr, nI c, fo, pl)).1 = true) (hc : c < 1000) (h5 : tdB bl c = nI 0) : fBli t rl nl fl d (k + 1) bl s = fBli t rl nl fl d k (orB bl c) (nx, kd, sr, nI c, fo, pl) := by
  have h1 := nI_toInt (n := c) (by omega)
  show (if _ then _ else _) = _
  rw [if_pos h, ← he]; refine (if_neg h3).trans ((if_pos h4).trans ?_)
  show (if tdB bl (nI c).toInt.toNat = nI 0 then fBli t rl nl fl d k (orB bl (nI c).toInt.toNat) _ else _) = _
  rw [h1]; exact if_pos h5
/-- a number found within is not other behind it -/
theorem fWit_same {lo hi : Nat} {s : TS} (h : (fWit lo hi s).1 = true) : (fWit lo hi s).2 = s := by
  unfold fWit at h ⊢
  split at h
  · rename_i h1
    rw [if_pos h1]
    split at h
    · rename_i h2; rw [if_pos h2]
    · cases h
  · cases h
end Fb
end
section
abbrev w_X1_takeHouse (G : XG) (kre kbt kby : Nat) (rl nx kd sr : Nat) (vl fo pl li hto lto ct : Int32) (ka kc kl kn : Nat) (w h la : Nat) (tb : Nat → Int32) : va_W := [oC kre 1 [.ref kbt, .ref kby, .int (nI rl), .int (nI nx), .int (nI kd), .int (nI sr), .int vl, .int fo, .int pl, .int li, .int hto, .int lto, .int ct], oC kbt 0 [.int (nI w), .int (nI h), .int (nI la), .ref ka, .ref kc, .ref kl, .ref kn], bA G kby 160 tb]
abbrev Q_X1_takeHouse (G : XG) (sz : Nat) (kre kbt kby : Nat) (rl nx kd sr : Nat) (vl fo pl li hto lto ct : Int32) (ka kc kl kn : Nat) (w h la : Nat) (tb : Nat → Int32) : Array Value → State → Outcome → State → Prop := (va_Qi (fun (r : Int32) (u : Nat × Nat × Nat × Int32 × Int32 × Int32 × Int32 × Nat × Nat) => r = xb ((fHou tb rl hto w h (nx, kd, sr, vl, fo, pl)).1 = true) ∧ ((u.1, u.2.1, u.2.2.1, u.2.2.2.1, u.2.2.2.2.1, u.2.2.2.2.2.1), u.2.2.2.2.2.2.1, u.2.2.2.2.2.2.2.1, u.2.2.2.2.2.2.2.2) = (fHou tb rl hto w h (nx, kd, sr, vl, fo, pl)).2) (xWb G sz (w_X1_takeHouse G kre kbt kby rl nx kd sr vl fo pl li hto lto ct ka kc kl kn w h la tb) (fun u : Nat × Nat × Nat × Int32 × Int32 × Int32 × Int32 × Nat × Nat => [oC kre 1 [.ref kbt, .ref kby, .int (nI rl), .int (nI u.1), .int (nI u.2.1), .int (nI u.2.2.1), .int u.2.2.2.1, .int u.2.2.2.2.1, .int u.2.2.2.2.2.1, .int li, .int u.2.2.2.2.2.2.1, .int lto, .int ct], oC kbt 0 [.int (nI u.2.2.2.2.2.2.2.1), .int (nI u.2.2.2.2.2.2.2.2), .int (nI la), .ref ka, .ref kc, .ref kl, .ref kn], bA G kby 160 tb])) (va_A (w_X1_takeHouse G kre kbt kby rl nx kd sr vl fo pl li hto lto ct ka kc kl kn w h la tb) sz))
set_option maxHeartbeats 4000000 in
set_option maxRecDepth 100000 in
theorem c_X1_takeHouse (l : Launch) (G : XG) (sz : Nat) (kre kbt kby : Nat) (rl nx kd sr : Nat) (vl fo pl li hto lto ct : Int32) (ka kc kl kn : Nat) (w h la : Nat) (tb : Nat → Int32) (hrl : rl ≤ 160) (hnx : nx ≤ rl) : Met l yX1_takeHouse wsX1_takeHouse ({ frames := 3, cells := 0, slots := 0, locals := 66 } : Room) (va_Pc [.ref kre] (xWp G sz (w_X1_takeHouse G kre kbt kby rl nx kd sr vl fo pl li hto lto ct ka kc kl kn w h la tb))) (Q_X1_takeHouse G sz kre kbt kby rl nx kd sr vl fo pl li hto lto ct ka kc kl kn w h la tb) 0 0 (va_A (w_X1_takeHouse G kre kbt kby rl nx kd sr vl fo pl li hto lto ct ka kc kl kn w h la tb) sz) := by
  refine Met.ofW (cc := cX1_takeHouse) (maxL := 1) (ret := (some .boolean)) (by decide) rfl ?_
  intro pp ee ss mm aa below mt cd s₁ BB hml hv
  obtain ⟨rfl, hsz, hP, hK, hD0⟩ := hv
  have hx := BB.exec
  have hb := BB.bytes
  have hr := BB.returns
  have hts := atoms_spec (ws := wsX1_takeHouse) BB.pre
  have hown : ss.vm.findClass RX1 = some mm.cls := findClass_of_methodNamed BB.named
  have hlocks := BB.notSynchronized
  subst hsz
  have hD := hD0.self (sz := ss.heap.size)
  have hA : ∀ q : Nat, ss.heap.size ≤ q → va_A (w_X1_takeHouse G kre kbt kby rl nx kd sr vl fo pl li hto lto ct ka kc kl kn w h la tb) ss.heap.size q := fun q h => Or.inr h
  have hS : va_S (va_A (w_X1_takeHouse G kre kbt kby rl nx kd sr vl fo pl li hto lto ct ka kc kl kn w h la tb) ss.heap.size) ss.heap ss.heap [] := va_S.rf
  replace hD : va_D (va_A (w_X1_takeHouse G kre kbt kby rl nx kd sr vl fo pl li hto lto ct ka kc kl kn w h la tb) ss.heap.size) [oC kre 1 [.ref kbt, .ref kby, .int (nI rl), .int (nI nx), .int (nI kd), .int (nI sr), .int vl, .int fo, .int pl, .int li, .int hto, .int lto, .int ct], oC kbt 0 [.int (nI w), .int (nI h), .int (nI la), .ref ka, .ref kc, .ref kl, .ref kn], bA G kby 160 tb] := hD
  replace hP : xP G [oC kre 1 [.ref kbt, .ref kby, .int (nI rl), .int (nI nx), .int (nI kd), .int (nI sr), .int vl, .int fo, .int pl, .int li, .int hto, .int lto, .int ct], oC kbt 0 [.int (nI w), .int (nI h), .int (nI la), .ref ka, .ref kc, .ref kl, .ref kn], bA G kby 160 tb] ss.heap := hP
  have hin0 : ∀ w ∈ u_ws RX0 TX0 7, w ∈ wsX1_takeHouse := fun w h => List.mem_cons_of_mem _ (List.mem_append_right _ h)
  have hin1 : ∀ w ∈ u_ws RX1 TX1 13, w ∈ wsX1_takeHouse := fun w h => List.mem_cons_of_mem _ (List.mem_append_left _ (List.mem_append_right _ h))
  have hl := lv_entry ([.ref kre]) (n := 1) (Nat.le_of_ble_eq_true rfl)
  rw [lg_entry_eq]
  generalize (lg_sl ([.ref kre]) ++ List.replicate (1 - (lg_sl ([.ref kre])).length) Slot.unset).toArray = ls at hl ⊢
  replace hl : lv_has ls 1 [(0, .ref kre)] := hl
  refine lv_aload_n hx hb dX1_takeHouse_0 rfl (lv_at hl 0 rfl) ?_
  refine va_get (D := G.1) (ci := 1) (v := .int hto) (C := RX1) (T := TX1) (N := 13) hx hb hts hin1 hown hK.1 hP 0 rfl rfl 10 (by decide) (hts (.fieldLink RX1 38 "BackLenses$Reader" "houseTold" "Z") (List.mem_of_getElem? (i := 1) rfl)) (fun _ h9 => h9) rfl dX1_takeHouse_1 ?_
  refine lv_if_eq (tgt := 17) hx hb dX1_takeHouse_4 rfl (fun b4 => ?_) (fun b4 => ?_)
  · skip
    refine lv_aload_n hx hb dX1_takeHouse_17 rfl (lv_at hl 0 rfl) ?_
    refine lv_iconst (v := nI 1) hx hb dX1_takeHouse_18 (by decide) ?_
    refine va_put (D := G.1) (ci := 1) (v := .int (nI 1)) (ty := .boolean) (C := RX1) (T := TX1) (N := 13) hx hb hts hin1 tyX1 tyX1_ok nmX1 hown hK.1 hP hD hS 0 rfl rfl 10 (by decide) (hts (.fieldLink RX1 38 "BackLenses$Reader" "houseTold" "Z") (List.mem_of_getElem? (i := 1) rfl)) (fun _ h9 => h9) rfl (by decide +kernel) (by decide) (by decide) (Nat.le_of_ble_eq_true rfl) dX1_takeHouse_19 (fun H locs hP hD hS => ?_)
    replace hP : xP G [oC kre 1 [.ref kbt, .ref kby, .int (nI rl), .int (nI nx), .int (nI kd), .int (nI sr), .int vl, .int fo, .int pl, .int li, .int (nI 1), .int lto, .int ct], oC kbt 0 [.int (nI w), .int (nI h), .int (nI la), .ref ka, .ref kc, .ref kl, .ref kn], bA G kby 160 tb] H := hP
    replace hD : va_D (va_A (w_X1_takeHouse G kre kbt kby rl nx kd sr vl fo pl li hto lto ct ka kc kl kn w h la tb) ss.heap.size) [oC kre 1 [.ref kbt, .ref kby, .int (nI rl), .int (nI nx), .int (nI kd), .int (nI sr), .int vl, .int fo, .int pl, .int li, .int (nI 1), .int lto, .int ct], oC kbt 0 [.int (nI w), .int (nI h), .int (nI la), .ref ka, .ref kc, .ref kl, .ref kn], bA G kby 160 tb] := hD
    refine lv_aload_n hx hb dX1_takeHouse_22 rfl (lv_at hl 0 rfl) ?_
    refine lv_iconst (v := nI 2) hx hb dX1_takeHouse_23 (by decide) ?_
    refine lv_iconst (v := nI 4) hx hb dX1_takeHouse_24 (by decide) ?_
    refine xw_i (As := [.int (nI 2), .int (nI 4)]) (rest := []) (wr := [oC kbt 0 [.int (nI w), .int (nI h), .int (nI la), .ref ka, .ref kc, .ref kl, .ref kn]]) ⟨hx, hb, hml, hown, hts⟩ (c_X1_takeNumber l G H.size kre kbt kby rl nx kd sr vl fo pl li (nI 1) lto ct tb 2 4 (by first | assumption | omega) (by first | assumption | omega) (by first | assumption | omega) (by first | assumption | omega)) (cwV 2 hts gX1_takeHouse_X1_takeNumber rfl rfl rfl (by decide +kernel) ⟨Nat.le_of_ble_eq_true rfl, Nat.le_of_ble_eq_true rfl⟩) hK hP hD hS hA [0, 2] [1] rfl rfl (by decide) (by decide) (by decide) rfl rfl rfl hl.1 rfl (Nat.le_of_ble_eq_true rfl) dX1_takeHouse_25 ⟨Nat.le_of_ble_eq_true rfl, Nat.le_of_ble_eq_true rfl⟩ (fun r25 u H locs hp25 hP hD hS => ?_)
    obtain ⟨nx2_25, kd2_25, sr2_25, vl2_25, fo2_25, pl2_25⟩ := u
    try dsimp only at hp25 hP hD
    obtain ⟨rfl, he25⟩ := hp25
    replace hP : xP G [oC kbt 0 [.int (nI w), .int (nI h), .int (nI la), .ref ka, .ref kc, .ref kl, .ref kn], oC kre 1 [.ref kbt, .ref kby, .int (nI rl), .int (nI nx2_25), .int (nI kd2_25), .int (nI sr2_25), .int vl2_25, .int fo2_25, .int pl2_25, .int li, .int (nI 1), .int lto, .int ct], bA G kby 160 tb] H := hP
    replace hD : va_D (va_A (w_X1_takeHouse G kre kbt kby rl nx kd sr vl fo pl li hto lto ct ka kc kl kn w h la tb) ss.heap.size) [oC kbt 0 [.int (nI w), .int (nI h), .int (nI la), .ref ka, .ref kc, .ref kl, .ref kn], oC kre 1 [.ref kbt, .ref kby, .int (nI rl), .int (nI nx2_25), .int (nI kd2_25), .int (nI sr2_25), .int vl2_25, .int fo2_25, .int pl2_25, .int li, .int (nI 1), .int lto, .int ct], bA G kby 160 tb] := hD
    have hn25 : nx2_25 ≤ rl := (by have hq := fNum_bd (t := tb) (rl := rl) (lo := 2) (hi := 4) (s := (nx, kd, sr, vl, fo, pl)) (by assumption); rw [← he25] at hq; exact hq.1)
    refine xb_if_ne (tgt := 33) hx hb dX1_takeHouse_28 rfl (fun b28 => ?_) (fun b28 => ?_)
    · skip
      obtain ⟨k1, hk25a, hk25b, hk25⟩ := fNum_val (by omega) b28
      rw [← he25] at hk25
      replace hk25 : vl2_25 = nI k1 := hk25
      subst hk25
      refine lv_aload_n hx hb dX1_takeHouse_33 rfl (lv_at hl 0 rfl) ?_
      refine va_get (D := G.1) (ci := 1) (v := .ref kbt) (C := RX1) (T := TX1) (N := 13) hx hb hts hin1 hown hK.1 hP 1 rfl rfl 0 (by decide) (hts (.fieldLink RX1 12 "BackLenses$Reader" "target" "LBackLenses$Book;") (List.mem_of_getElem? (i := 3) rfl)) (fun _ h9 => h9) rfl dX1_takeHouse_34 ?_
      refine lv_aload_n hx hb dX1_takeHouse_37 rfl (lv_at hl 0 rfl) ?_
      refine va_get (D := G.1) (ci := 1) (v := .int (nI k1)) (C := RX1) (T := TX1) (N := 13) hx hb hts hin1 hown hK.1 hP 1 rfl rfl 6 (by decide) (hts (.fieldLink RX1 130 "BackLenses$Reader" "value" "I") (List.mem_of_getElem? (i := 4) rfl)) (fun _ h9 => h9) rfl dX1_takeHouse_38 ?_
      refine va_putN (D := G.1) (ci := 0) (v := .int (nI k1)) (ty := .int) (C := RX0) (T := TX0) (N := 7) hx hb hts hin0 tyX0 tyX0_ok nmX0 hown hK.1 hP hD hS 0 rfl rfl 0 (by decide) (va_Nw.use rfl (hK.2 (Cond.fieldLinkNest "BackLenses$Reader" (133 : Nat) "BackLenses$Book" "wide" "I" "BackLenses") (List.mem_of_getElem? (i := 6) rfl))) (fun _ h9 => h9) rfl (by decide +kernel) rfl rfl (Nat.le_of_ble_eq_true rfl) dX1_takeHouse_41 (fun H locs hP hD hS => ?_)
      replace hP : xP G [oC kbt 0 [.int (nI k1), .int (nI h), .int (nI la), .ref ka, .ref kc, .ref kl, .ref kn], oC kre 1 [.ref kbt, .ref kby, .int (nI rl), .int (nI nx2_25), .int (nI kd2_25), .int (nI sr2_25), .int (nI k1), .int fo2_25, .int pl2_25, .int li, .int (nI 1), .int lto, .int ct], bA G kby 160 tb] H := hP
      replace hD : va_D (va_A (w_X1_takeHouse G kre kbt kby rl nx kd sr vl fo pl li hto lto ct ka kc kl kn w h la tb) ss.heap.size) [oC kbt 0 [.int (nI k1), .int (nI h), .int (nI la), .ref ka, .ref kc, .ref kl, .ref kn], oC kre 1 [.ref kbt, .ref kby, .int (nI rl), .int (nI nx2_25), .int (nI kd2_25), .int (nI sr2_25), .int (nI k1), .int fo2_25, .int pl2_25, .int li, .int (nI 1), .int lto, .int ct], bA G kby 160 tb] := hD
      refine lv_aload_n hx hb dX1_takeHouse_44 rfl (lv_at hl 0 rfl) ?_
      refine lv_iconst (v := nI 2) hx hb dX1_takeHouse_45 (by decide) ?_
      refine lv_iconst (v := nI 4) hx hb dX1_takeHouse_46 (by decide) ?_
      refine xw_i (As := [.int (nI 2), .int (nI 4)]) (rest := []) (wr := [oC kbt 0 [.int (nI k1), .int (nI h), .int (nI la), .ref ka, .ref kc, .ref kl, .ref kn]]) ⟨hx, hb, hml, hown, hts⟩ (c_X1_takeNumber l G H.size kre kbt kby rl nx2_25 kd2_25 sr2_25 (nI k1) fo2_25 pl2_25 li (nI 1) lto ct tb 2 4 (by first | assumption | omega) (by first | assumption | omega) (by first | assumption | omega) (by first | assumption | omega)) (cwV 2 hts gX1_takeHouse_X1_takeNumber rfl rfl rfl (by decide +kernel) ⟨Nat.le_of_ble_eq_true rfl, Nat.le_of_ble_eq_true rfl⟩) hK hP hD hS hA [1, 2] [0] rfl rfl (by decide) (by decide) (by decide) rfl rfl rfl hl.1 rfl (Nat.le_of_ble_eq_true rfl) dX1_takeHouse_47 ⟨Nat.le_of_ble_eq_true rfl, Nat.le_of_ble_eq_true rfl⟩ (fun r47 u H locs hp47 hP hD hS => ?_)
      obtain ⟨nx2_47, kd2_47, sr2_47, vl2_47, fo2_47, pl2_47⟩ := u
      try dsimp only at hp47 hP hD
      obtain ⟨rfl, he47⟩ := hp47
      replace hP : xP G [oC kbt 0 [.int (nI k1), .int (nI h), .int (nI la), .ref ka, .ref kc, .ref kl, .ref kn], oC kre 1 [.ref kbt, .ref kby, .int (nI rl), .int (nI nx2_47), .int (nI kd2_47), .int (nI sr2_47), .int vl2_47, .int fo2_47, .int pl2_47, .int li, .int (nI 1), .int lto, .int ct], bA G kby 160 tb] H := hP
      replace hD : va_D (va_A (w_X1_takeHouse G kre kbt kby rl nx kd sr vl fo pl li hto lto ct ka kc kl kn w h la tb) ss.heap.size) [oC kbt 0 [.int (nI k1), .int (nI h), .int (nI la), .ref ka, .ref kc, .ref kl, .ref kn], oC kre 1 [.ref kbt, .ref kby, .int (nI rl), .int (nI nx2_47), .int (nI kd2_47), .int (nI sr2_47), .int vl2_47, .int fo2_47, .int pl2_47, .int li, .int (nI 1), .int lto, .int ct], bA G kby 160 tb] := hD
      have hn47 : nx2_47 ≤ rl := (by have hq := fNum_bd (t := tb) (rl := rl) (lo := 2) (hi := 4) (s := (nx2_25, kd2_25, sr2_25, nI k1, fo2_25, pl2_25)) (by assumption); rw [← he47] at hq; exact hq.1)
      refine xb_if_ne (tgt := 55) hx hb dX1_takeHouse_50 rfl (fun b50 => ?_) (fun b50 => ?_)
      · skip
        obtain ⟨k2, hk47a, hk47b, hk47⟩ := fNum_val (by omega) b50
        rw [← he47] at hk47
        replace hk47 : vl2_47 = nI k2 := hk47
        subst hk47
        refine lv_aload_n hx hb dX1_takeHouse_55 rfl (lv_at hl 0 rfl) ?_
        refine va_get (D := G.1) (ci := 1) (v := .ref kbt) (C := RX1) (T := TX1) (N := 13) hx hb hts hin1 hown hK.1 hP 1 rfl rfl 0 (by decide) (hts (.fieldLink RX1 12 "BackLenses$Reader" "target" "LBackLenses$Book;") (List.mem_of_getElem? (i := 3) rfl)) (fun _ h9 => h9) rfl dX1_takeHouse_56 ?_
        refine lv_aload_n hx hb dX1_takeHouse_59 rfl (lv_at hl 0 rfl) ?_
        refine va_get (D := G.1) (ci := 1) (v := .int (nI k2)) (C := RX1) (T := TX1) (N := 13) hx hb hts hin1 hown hK.1 hP 1 rfl rfl 6 (by decide) (hts (.fieldLink RX1 130 "BackLenses$Reader" "value" "I") (List.mem_of_getElem? (i := 4) rfl)) (fun _ h9 => h9) rfl dX1_takeHouse_60 ?_
        refine va_putN (D := G.1) (ci := 0) (v := .int (nI k2)) (ty := .int) (C := RX0) (T := TX0) (N := 7) hx hb hts hin0 tyX0 tyX0_ok nmX0 hown hK.1 hP hD hS 0 rfl rfl 1 (by decide) (va_Nw.use rfl (hK.2 (Cond.fieldLinkNest "BackLenses$Reader" (136 : Nat) "BackLenses$Book" "high" "I" "BackLenses") (List.mem_of_getElem? (i := 9) rfl))) (fun _ h9 => h9) rfl (by decide +kernel) rfl rfl (Nat.le_of_ble_eq_true rfl) dX1_takeHouse_63 (fun H locs hP hD hS => ?_)
        replace hP : xP G [oC kbt 0 [.int (nI k1), .int (nI k2), .int (nI la), .ref ka, .ref kc, .ref kl, .ref kn], oC kre 1 [.ref kbt, .ref kby, .int (nI rl), .int (nI nx2_47), .int (nI kd2_47), .int (nI sr2_47), .int (nI k2), .int fo2_47, .int pl2_47, .int li, .int (nI 1), .int lto, .int ct], bA G kby 160 tb] H := hP
        replace hD : va_D (va_A (w_X1_takeHouse G kre kbt kby rl nx kd sr vl fo pl li hto lto ct ka kc kl kn w h la tb) ss.heap.size) [oC kbt 0 [.int (nI k1), .int (nI k2), .int (nI la), .ref ka, .ref kc, .ref kl, .ref kn], oC kre 1 [.ref kbt, .ref kby, .int (nI rl), .int (nI nx2_47), .int (nI kd2_47), .int (nI sr2_47), .int (nI k2), .int fo2_47, .int pl2_47, .int li, .int (nI 1), .int lto, .int ct], bA G kby 160 tb] := hD
        refine lv_aload_n hx hb dX1_takeHouse_66 rfl (lv_at hl 0 rfl) ?_
        refine xw_i (As := []) (rest := []) (wr := [oC kbt 0 [.int (nI k1), .int (nI k2), .int (nI la), .ref ka, .ref kc, .ref kl, .ref kn]]) ⟨hx, hb, hml, hown, hts⟩ (c_X1_takeSemicolon l G H.size kre kbt kby rl nx2_47 kd2_47 sr2_47 (nI k2) fo2_47 pl2_47 li (nI 1) lto ct tb (by first | assumption | omega) (by first | assumption | omega)) (cwV 0 hts gX1_takeHouse_X1_takeSemicolon rfl rfl rfl (by decide +kernel) ⟨Nat.le_of_ble_eq_true rfl, Nat.le_of_ble_eq_true rfl⟩) hK hP hD hS hA [1, 2] [0] rfl rfl (by decide) (by decide) (by decide) rfl rfl rfl hl.1 rfl (Nat.le_of_ble_eq_true rfl) dX1_takeHouse_67 ⟨Nat.le_of_ble_eq_true rfl, Nat.le_of_ble_eq_true rfl⟩ (fun r67 u H locs hp67 hP hD hS => ?_)
        obtain ⟨nx2_67, kd2_67, sr2_67, vl2_67, fo2_67, pl2_67⟩ := u
        try dsimp only at hp67 hP hD
        obtain ⟨rfl, he67⟩ := hp67
        replace hP : xP G [oC kbt 0 [.int (nI k1), .int (nI k2), .int (nI la), .ref ka, .ref kc, .ref kl, .ref kn], oC kre 1 [.ref kbt, .ref kby, .int (nI rl), .int (nI nx2_67), .int (nI kd2_67), .int (nI sr2_67), .int vl2_67, .int fo2_67, .int pl2_67, .int li, .int (nI 1), .int lto, .int ct], bA G kby 160 tb] H := hP
        replace hD : va_D (va_A (w_X1_takeHouse G kre kbt kby rl nx kd sr vl fo pl li hto lto ct ka kc kl kn w h la tb) ss.heap.size) [oC kbt 0 [.int (nI k1), .int (nI k2), .int (nI la), .ref ka, .ref kc, .ref kl, .ref kn], oC kre 1 [.ref kbt, .ref kby, .int (nI rl), .int (nI nx2_67), .int (nI kd2_67), .int (nI sr2_67), .int vl2_67, .int fo2_67, .int pl2_67, .int li, .int (nI 1), .int lto, .int ct], bA G kby 160 tb] := hD
        have hP := hP.sub (ws' := [oC kre 1 [.ref kbt, .ref kby, .int (nI rl), .int (nI nx2_67), .int (nI kd2_67), .int (nI sr2_67), .int vl2_67, .int fo2_67, .int pl2_67, .int li, .int (nI 1), .int lto, .int ct], oC kbt 0 [.int (nI k1), .int (nI k2), .int (nI la), .ref ka, .ref kc, .ref kl, .ref kn], bA G kby 160 tb]) [1, 0, 2] rfl
        have hD := hD.sub (ws' := [oC kre 1 [.ref kbt, .ref kby, .int (nI rl), .int (nI nx2_67), .int (nI kd2_67), .int (nI sr2_67), .int vl2_67, .int fo2_67, .int pl2_67, .int li, .int (nI 1), .int lto, .int ct], oC kbt 0 [.int (nI k1), .int (nI k2), .int (nI la), .ref ka, .ref kc, .ref kl, .ref kn], bA G kby 160 tb]) [1, 0, 2] (by decide) rfl
        refine W.zret (v := xb ((fSem tb rl (nx2_47, kd2_47, sr2_47, (nI k2), fo2_47, pl2_47)).1 = true)) (ty := .boolean) hx hb hr xb_nar (fun t ht hW => ⟨⟨xb ((fSem tb rl (nx2_47, kd2_47, sr2_47, (nI k2), fo2_47, pl2_47)).1 = true), (nx2_67, kd2_67, sr2_67, vl2_67, fo2_67, pl2_67, (nI 1), k1, k2), rfl, ?_, by rw [ht]; exact hP, hD⟩, hS.F ht⟩) hS.2.2 dX1_takeHouse_70
        try dsimp only
        rw [show fHou tb rl hto w h (nx, kd, sr, vl, fo, pl) = _ from (if_pos b4).trans ((bN_ok b28 he25 (by omega)).trans (bN_ok b50 he47 (by omega)))]; exact ⟨rfl, congrArg (fun a => (a, _)) he67⟩
      · skip
        refine lv_iconst (v := nI 0) hx hb dX1_takeHouse_53 (by decide) ?_
        have hP := hP.sub (ws' := [oC kre 1 [.ref kbt, .ref kby, .int (nI rl), .int (nI nx2_47), .int (nI kd2_47), .int (nI sr2_47), .int vl2_47, .int fo2_47, .int pl2_47, .int li, .int (nI 1), .int lto, .int ct], oC kbt 0 [.int (nI k1), .int (nI h), .int (nI la), .ref ka, .ref kc, .ref kl, .ref kn], bA G kby 160 tb]) [1, 0, 2] rfl
        have hD := hD.sub (ws' := [oC kre 1 [.ref kbt, .ref kby, .int (nI rl), .int (nI nx2_47), .int (nI kd2_47), .int (nI sr2_47), .int vl2_47, .int fo2_47, .int pl2_47, .int li, .int (nI 1), .int lto, .int ct], oC kbt 0 [.int (nI k1), .int (nI h), .int (nI la), .ref ka, .ref kc, .ref kl, .ref kn], bA G kby 160 tb]) [1, 0, 2] (by decide) rfl
        refine W.zret (v := nI 0) (ty := .boolean) hx hb hr (by decide) (fun t ht hW => ⟨⟨nI 0, (nx2_47, kd2_47, sr2_47, vl2_47, fo2_47, pl2_47, (nI 1), k1, h), rfl, ?_, by rw [ht]; exact hP, hD⟩, hS.F ht⟩) hS.2.2 dX1_takeHouse_54
        try dsimp only
        rw [show fHou tb rl hto w h (nx, kd, sr, vl, fo, pl) = _ from (if_pos b4).trans ((bN_ok b28 he25 (by omega)).trans (bN_no b50 he47))]; exact ⟨(xb_f Bool.false_ne_true).symm, rfl⟩
    · skip
      refine lv_iconst (v := nI 0) hx hb dX1_takeHouse_31 (by decide) ?_
      have hP := hP.sub (ws' := [oC kre 1 [.ref kbt, .ref kby, .int (nI rl), .int (nI nx2_25), .int (nI kd2_25), .int (nI sr2_25), .int vl2_25, .int fo2_25, .int pl2_25, .int li, .int (nI 1), .int lto, .int ct], oC kbt 0 [.int (nI w), .int (nI h), .int (nI la), .ref ka, .ref kc, .ref kl, .ref kn], bA G kby 160 tb]) [1, 0, 2] rfl
      have hD := hD.sub (ws' := [oC kre 1 [.ref kbt, .ref kby, .int (nI rl), .int (nI nx2_25), .int (nI kd2_25), .int (nI sr2_25), .int vl2_25, .int fo2_25, .int pl2_25, .int li, .int (nI 1), .int lto, .int ct], oC kbt 0 [.int (nI w), .int (nI h), .int (nI la), .ref ka, .ref kc, .ref kl, .ref kn], bA G kby 160 tb]) [1, 0, 2] (by decide) rfl
      refine W.zret (v := nI 0) (ty := .boolean) hx hb hr (by decide) (fun t ht hW => ⟨⟨nI 0, (nx2_25, kd2_25, sr2_25, vl2_25, fo2_25, pl2_25, (nI 1), w, h), rfl, ?_, by rw [ht]; exact hP, hD⟩, hS.F ht⟩) hS.2.2 dX1_takeHouse_32
      try dsimp only
      rw [show fHou tb rl hto w h (nx, kd, sr, vl, fo, pl) = _ from (if_pos b4).trans (bN_no b28 he25)]; exact ⟨(xb_f Bool.false_ne_true).symm, rfl⟩
  · skip
    refine lv_aload_n hx hb dX1_takeHouse_7 rfl (lv_at hl 0 rfl) ?_
    refine lv_iconst (v := nI 4) hx hb dX1_takeHouse_8 (by decide) ?_
    refine lv_aload_n hx hb dX1_takeHouse_9 rfl (lv_at hl 0 rfl) ?_
    refine va_get (D := G.1) (ci := 1) (v := .int (nI sr)) (C := RX1) (T := TX1) (N := 13) hx hb hts hin1 hown hK.1 hP 0 rfl rfl 5 (by decide) (hts (.fieldLink RX1 95 "BackLenses$Reader" "start" "I") (List.mem_of_getElem? (i := 2) rfl)) (fun _ h9 => h9) rfl dX1_takeHouse_10 ?_
    refine xw_i (As := [.int (nI 4), .int (nI sr)]) (rest := []) (wr := [oC kbt 0 [.int (nI w), .int (nI h), .int (nI la), .ref ka, .ref kc, .ref kl, .ref kn], bA G kby 160 tb]) ⟨hx, hb, hml, hown, hts⟩ (c_X1_refuse l G ss.heap.size kre kbt kby rl nx kd sr vl fo pl li hto lto ct (nI 4) (nI sr) ) (cwV 2 hts gX1_takeHouse_X1_refuse rfl rfl rfl (by decide +kernel) ⟨Nat.le_of_ble_eq_true rfl, Nat.le_of_ble_eq_true rfl⟩) hK hP hD hS hA [0] [1, 2] rfl rfl (by decide) (by decide) (by decide) rfl rfl rfl hl.1 rfl (Nat.le_of_ble_eq_true rfl) dX1_takeHouse_13 ⟨Nat.le_of_ble_eq_true rfl, Nat.le_of_ble_eq_true rfl⟩ (fun r13 u H locs hp13 hP hD hS => ?_)
    obtain rfl := hp13
    replace hP : xP G [oC kbt 0 [.int (nI w), .int (nI h), .int (nI la), .ref ka, .ref kc, .ref kl, .ref kn], bA G kby 160 tb, oC kre 1 [.ref kbt, .ref kby, .int (nI rl), .int (nI nx), .int (nI kd), .int (nI sr), .int vl, .int (nI 4), .int (nI sr), .int li, .int hto, .int lto, .int ct]] H := hP
    replace hD : va_D (va_A (w_X1_takeHouse G kre kbt kby rl nx kd sr vl fo pl li hto lto ct ka kc kl kn w h la tb) ss.heap.size) [oC kbt 0 [.int (nI w), .int (nI h), .int (nI la), .ref ka, .ref kc, .ref kl, .ref kn], bA G kby 160 tb, oC kre 1 [.ref kbt, .ref kby, .int (nI rl), .int (nI nx), .int (nI kd), .int (nI sr), .int vl, .int (nI 4), .int (nI sr), .int li, .int hto, .int lto, .int ct]] := hD
    have hP := hP.sub (ws' := [oC kre 1 [.ref kbt, .ref kby, .int (nI rl), .int (nI nx), .int (nI kd), .int (nI sr), .int vl, .int (nI 4), .int (nI sr), .int li, .int hto, .int lto, .int ct], oC kbt 0 [.int (nI w), .int (nI h), .int (nI la), .ref ka, .ref kc, .ref kl, .ref kn], bA G kby 160 tb]) [2, 0, 1] rfl
    have hD := hD.sub (ws' := [oC kre 1 [.ref kbt, .ref kby, .int (nI rl), .int (nI nx), .int (nI kd), .int (nI sr), .int vl, .int (nI 4), .int (nI sr), .int li, .int hto, .int lto, .int ct], oC kbt 0 [.int (nI w), .int (nI h), .int (nI la), .ref ka, .ref kc, .ref kl, .ref kn], bA G kby 160 tb]) [2, 0, 1] (by decide) rfl
    refine W.zret (v := nI 0) (ty := .boolean) hx hb hr (by decide) (fun t ht hW => ⟨⟨nI 0, (nx, kd, sr, vl, (nI 4), (nI sr), hto, w, h), rfl, ?_, by rw [ht]; exact hP, hD⟩, hS.F ht⟩) hS.2.2 dX1_takeHouse_16
    try dsimp only
    rw [show fHou tb rl hto w h (nx, kd, sr, vl, fo, pl) = _ from if_neg b4]; exact ⟨(xb_f Bool.false_ne_true).symm, rfl⟩

abbrev w_X1_takeLast (G : XG) (kre kbt kby : Nat) (rl nx kd sr : Nat) (vl fo pl li hto lto ct : Int32) (ka kc kl kn : Nat) (w h la : Nat) (tb : Nat → Int32) : va_W := [oC kre 1 [.ref kbt, .ref kby, .int (nI rl), .int (nI nx), .int (nI kd), .int (nI sr), .int vl, .int fo, .int pl, .int li, .int hto, .int lto, .int ct], oC kbt 0 [.int (nI w), .int (nI h), .int (nI la), .ref ka, .ref kc, .ref kl, .ref kn], bA G kby 160 tb]
abbrev Q_X1_takeLast (G : XG) (sz : Nat) (kre kbt kby : Nat) (rl nx kd sr : Nat) (vl fo pl li hto lto ct : Int32) (ka kc kl kn : Nat) (w h la : Nat) (tb : Nat → Int32) : Array Value → State → Outcome → State → Prop := (va_Qi (fun (r : Int32) (u : Nat × Nat × Nat × Int32 × Int32 × Int32 × Int32 × Nat) => r = xb ((fLas tb rl lto la (nx, kd, sr, vl, fo, pl)).1 = true) ∧ ((u.1, u.2.1, u.2.2.1, u.2.2.2.1, u.2.2.2.2.1, u.2.2.2.2.2.1), u.2.2.2.2.2.2.1, u.2.2.2.2.2.2.2) = (fLas tb rl lto la (nx, kd, sr, vl, fo, pl)).2) (xWb G sz (w_X1_takeLast G kre kbt kby rl nx kd sr vl fo pl li hto lto ct ka kc kl kn w h la tb) (fun u : Nat × Nat × Nat × Int32 × Int32 × Int32 × Int32 × Nat => [oC kre 1 [.ref kbt, .ref kby, .int (nI rl), .int (nI u.1), .int (nI u.2.1), .int (nI u.2.2.1), .int u.2.2.2.1, .int u.2.2.2.2.1, .int u.2.2.2.2.2.1, .int li, .int hto, .int u.2.2.2.2.2.2.1, .int ct], oC kbt 0 [.int (nI w), .int (nI h), .int (nI u.2.2.2.2.2.2.2), .ref ka, .ref kc, .ref kl, .ref kn], bA G kby 160 tb])) (va_A (w_X1_takeLast G kre kbt kby rl nx kd sr vl fo pl li hto lto ct ka kc kl kn w h la tb) sz))
set_option maxHeartbeats 4000000 in
set_option maxRecDepth 100000 in
theorem c_X1_takeLast (l : Launch) (G : XG) (sz : Nat) (kre kbt kby : Nat) (rl nx kd sr : Nat) (vl fo pl li hto lto ct : Int32) (ka kc kl kn : Nat) (w h la : Nat) (tb : Nat → Int32) (hrl : rl ≤ 160) (hnx : nx ≤ rl) : Met l yX1_takeLast wsX1_takeLast ({ frames := 3, cells := 0, slots := 0, locals := 66 } : Room) (va_Pc [.ref kre] (xWp G sz (w_X1_takeLast G kre kbt kby rl nx kd sr vl fo pl li hto lto ct ka kc kl kn w h la tb))) (Q_X1_takeLast G sz kre kbt kby rl nx kd sr vl fo pl li hto lto ct ka kc kl kn w h la tb) 0 0 (va_A (w_X1_takeLast G kre kbt kby rl nx kd sr vl fo pl li hto lto ct ka kc kl kn w h la tb) sz) := by
  refine Met.ofW (cc := cX1_takeLast) (maxL := 1) (ret := (some .boolean)) (by decide) rfl ?_
  intro pp ee ss mm aa below mt cd s₁ BB hml hv
  obtain ⟨rfl, hsz, hP, hK, hD0⟩ := hv
  have hx := BB.exec
  have hb := BB.bytes
  have hr := BB.returns
  have hts := atoms_spec (ws := wsX1_takeLast) BB.pre
  have hown : ss.vm.findClass RX1 = some mm.cls := findClass_of_methodNamed BB.named
  have hlocks := BB.notSynchronized
  subst hsz
  have hD := hD0.self (sz := ss.heap.size)
  have hA : ∀ q : Nat, ss.heap.size ≤ q → va_A (w_X1_takeLast G kre kbt kby rl nx kd sr vl fo pl li hto lto ct ka kc kl kn w h la tb) ss.heap.size q := fun q h => Or.inr h
  have hS : va_S (va_A (w_X1_takeLast G kre kbt kby rl nx kd sr vl fo pl li hto lto ct ka kc kl kn w h la tb) ss.heap.size) ss.heap ss.heap [] := va_S.rf
  replace hD : va_D (va_A (w_X1_takeLast G kre kbt kby rl nx kd sr vl fo pl li hto lto ct ka kc kl kn w h la tb) ss.heap.size) [oC kre 1 [.ref kbt, .ref kby, .int (nI rl), .int (nI nx), .int (nI kd), .int (nI sr), .int vl, .int fo, .int pl, .int li, .int hto, .int lto, .int ct], oC kbt 0 [.int (nI w), .int (nI h), .int (nI la), .ref ka, .ref kc, .ref kl, .ref kn], bA G kby 160 tb] := hD
  replace hP : xP G [oC kre 1 [.ref kbt, .ref kby, .int (nI rl), .int (nI nx), .int (nI kd), .int (nI sr), .int vl, .int fo, .int pl, .int li, .int hto, .int lto, .int ct], oC kbt 0 [.int (nI w), .int (nI h), .int (nI la), .ref ka, .ref kc, .ref kl, .ref kn], bA G kby 160 tb] ss.heap := hP
  have hin0 : ∀ w ∈ u_ws RX0 TX0 7, w ∈ wsX1_takeLast := fun w h => List.mem_cons_of_mem _ (List.mem_append_right _ h)
  have hin1 : ∀ w ∈ u_ws RX1 TX1 13, w ∈ wsX1_takeLast := fun w h => List.mem_cons_of_mem _ (List.mem_append_left _ (List.mem_append_right _ h))
  have hl := lv_entry ([.ref kre]) (n := 1) (Nat.le_of_ble_eq_true rfl)
  rw [lg_entry_eq]
  generalize (lg_sl ([.ref kre]) ++ List.replicate (1 - (lg_sl ([.ref kre])).length) Slot.unset).toArray = ls at hl ⊢
  replace hl : lv_has ls 1 [(0, .ref kre)] := hl
  refine lv_aload_n hx hb dX1_takeLast_0 rfl (lv_at hl 0 rfl) ?_
  refine va_get (D := G.1) (ci := 1) (v := .int lto) (C := RX1) (T := TX1) (N := 13) hx hb hts hin1 hown hK.1 hP 0 rfl rfl 11 (by decide) (hts (.fieldLink RX1 42 "BackLenses$Reader" "lastTold" "Z") (List.mem_of_getElem? (i := 1) rfl)) (fun _ h9 => h9) rfl dX1_takeLast_1 ?_
  refine lv_if_eq (tgt := 17) hx hb dX1_takeLast_4 rfl (fun b4 => ?_) (fun b4 => ?_)
  · skip
    refine lv_aload_n hx hb dX1_takeLast_17 rfl (lv_at hl 0 rfl) ?_
    refine lv_iconst (v := nI 1) hx hb dX1_takeLast_18 (by decide) ?_
    refine va_put (D := G.1) (ci := 1) (v := .int (nI 1)) (ty := .boolean) (C := RX1) (T := TX1) (N := 13) hx hb hts hin1 tyX1 tyX1_ok nmX1 hown hK.1 hP hD hS 0 rfl rfl 11 (by decide) (hts (.fieldLink RX1 42 "BackLenses$Reader" "lastTold" "Z") (List.mem_of_getElem? (i := 1) rfl)) (fun _ h9 => h9) rfl (by decide +kernel) (by decide) (by decide) (Nat.le_of_ble_eq_true rfl) dX1_takeLast_19 (fun H locs hP hD hS => ?_)
    replace hP : xP G [oC kre 1 [.ref kbt, .ref kby, .int (nI rl), .int (nI nx), .int (nI kd), .int (nI sr), .int vl, .int fo, .int pl, .int li, .int hto, .int (nI 1), .int ct], oC kbt 0 [.int (nI w), .int (nI h), .int (nI la), .ref ka, .ref kc, .ref kl, .ref kn], bA G kby 160 tb] H := hP
    replace hD : va_D (va_A (w_X1_takeLast G kre kbt kby rl nx kd sr vl fo pl li hto lto ct ka kc kl kn w h la tb) ss.heap.size) [oC kre 1 [.ref kbt, .ref kby, .int (nI rl), .int (nI nx), .int (nI kd), .int (nI sr), .int vl, .int fo, .int pl, .int li, .int hto, .int (nI 1), .int ct], oC kbt 0 [.int (nI w), .int (nI h), .int (nI la), .ref ka, .ref kc, .ref kl, .ref kn], bA G kby 160 tb] := hD
    refine lv_aload_n hx hb dX1_takeLast_22 rfl (lv_at hl 0 rfl) ?_
    refine lv_iconst (v := nI 0) hx hb dX1_takeLast_23 (by decide) ?_
    refine lv_bipush (v := nI 9) hx hb dX1_takeLast_24 (by decide) ?_
    refine xw_i (As := [.int (nI 0), .int (nI 9)]) (rest := []) (wr := [oC kbt 0 [.int (nI w), .int (nI h), .int (nI la), .ref ka, .ref kc, .ref kl, .ref kn]]) ⟨hx, hb, hml, hown, hts⟩ (c_X1_takeNumber l G H.size kre kbt kby rl nx kd sr vl fo pl li hto (nI 1) ct tb 0 9 (by first | assumption | omega) (by first | assumption | omega) (by first | assumption | omega) (by first | assumption | omega)) (cwV 2 hts gX1_takeLast_X1_takeNumber rfl rfl rfl (by decide +kernel) ⟨Nat.le_of_ble_eq_true rfl, Nat.le_of_ble_eq_true rfl⟩) hK hP hD hS hA [0, 2] [1] rfl rfl (by decide) (by decide) (by decide) rfl rfl rfl hl.1 rfl (Nat.le_of_ble_eq_true rfl) dX1_takeLast_26 ⟨Nat.le_of_ble_eq_true rfl, Nat.le_of_ble_eq_true rfl⟩ (fun r26 u H locs hp26 hP hD hS => ?_)
    obtain ⟨nx2_26, kd2_26, sr2_26, vl2_26, fo2_26, pl2_26⟩ := u
    try dsimp only at hp26 hP hD
    obtain ⟨rfl, he26⟩ := hp26
    replace hP : xP G [oC kbt 0 [.int (nI w), .int (nI h), .int (nI la), .ref ka, .ref kc, .ref kl, .ref kn], oC kre 1 [.ref kbt, .ref kby, .int (nI rl), .int (nI nx2_26), .int (nI kd2_26), .int (nI sr2_26), .int vl2_26, .int fo2_26, .int pl2_26, .int li, .int hto, .int (nI 1), .int ct], bA G kby 160 tb] H := hP
    replace hD : va_D (va_A (w_X1_takeLast G kre kbt kby rl nx kd sr vl fo pl li hto lto ct ka kc kl kn w h la tb) ss.heap.size) [oC kbt 0 [.int (nI w), .int (nI h), .int (nI la), .ref ka, .ref kc, .ref kl, .ref kn], oC kre 1 [.ref kbt, .ref kby, .int (nI rl), .int (nI nx2_26), .int (nI kd2_26), .int (nI sr2_26), .int vl2_26, .int fo2_26, .int pl2_26, .int li, .int hto, .int (nI 1), .int ct], bA G kby 160 tb] := hD
    have hn26 : nx2_26 ≤ rl := (by have hq := fNum_bd (t := tb) (rl := rl) (lo := 0) (hi := 9) (s := (nx, kd, sr, vl, fo, pl)) (by assumption); rw [← he26] at hq; exact hq.1)
    refine xb_if_ne (tgt := 34) hx hb dX1_takeLast_29 rfl (fun b29 => ?_) (fun b29 => ?_)
    · skip
      obtain ⟨k1, hk26a, hk26b, hk26⟩ := fNum_val (by omega) b29
      rw [← he26] at hk26
      replace hk26 : vl2_26 = nI k1 := hk26
      subst hk26
      refine lv_aload_n hx hb dX1_takeLast_34 rfl (lv_at hl 0 rfl) ?_
      refine va_get (D := G.1) (ci := 1) (v := .ref kbt) (C := RX1) (T := TX1) (N := 13) hx hb hts hin1 hown hK.1 hP 1 rfl rfl 0 (by decide) (hts (.fieldLink RX1 12 "BackLenses$Reader" "target" "LBackLenses$Book;") (List.mem_of_getElem? (i := 3) rfl)) (fun _ h9 => h9) rfl dX1_takeLast_35 ?_
      refine lv_aload_n hx hb dX1_takeLast_38 rfl (lv_at hl 0 rfl) ?_
      refine va_get (D := G.1) (ci := 1) (v := .int (nI k1)) (C := RX1) (T := TX1) (N := 13) hx hb hts hin1 hown hK.1 hP 1 rfl rfl 6 (by decide) (hts (.fieldLink RX1 130 "BackLenses$Reader" "value" "I") (List.mem_of_getElem? (i := 4) rfl)) (fun _ h9 => h9) rfl dX1_takeLast_39 ?_
      refine va_putN (D := G.1) (ci := 0) (v := .int (nI k1)) (ty := .int) (C := RX0) (T := TX0) (N := 7) hx hb hts hin0 tyX0 tyX0_ok nmX0 hown hK.1 hP hD hS 0 rfl rfl 2 (by decide) (va_Nw.use rfl (hK.2 (Cond.fieldLinkNest "BackLenses$Reader" (142 : Nat) "BackLenses$Book" "last" "I" "BackLenses") (List.mem_of_getElem? (i := 12) rfl))) (fun _ h9 => h9) rfl (by decide +kernel) rfl rfl (Nat.le_of_ble_eq_true rfl) dX1_takeLast_42 (fun H locs hP hD hS => ?_)
      replace hP : xP G [oC kbt 0 [.int (nI w), .int (nI h), .int (nI k1), .ref ka, .ref kc, .ref kl, .ref kn], oC kre 1 [.ref kbt, .ref kby, .int (nI rl), .int (nI nx2_26), .int (nI kd2_26), .int (nI sr2_26), .int (nI k1), .int fo2_26, .int pl2_26, .int li, .int hto, .int (nI 1), .int ct], bA G kby 160 tb] H := hP
      replace hD : va_D (va_A (w_X1_takeLast G kre kbt kby rl nx kd sr vl fo pl li hto lto ct ka kc kl kn w h la tb) ss.heap.size) [oC kbt 0 [.int (nI w), .int (nI h), .int (nI k1), .ref ka, .ref kc, .ref kl, .ref kn], oC kre 1 [.ref kbt, .ref kby, .int (nI rl), .int (nI nx2_26), .int (nI kd2_26), .int (nI sr2_26), .int (nI k1), .int fo2_26, .int pl2_26, .int li, .int hto, .int (nI 1), .int ct], bA G kby 160 tb] := hD
      refine lv_aload_n hx hb dX1_takeLast_45 rfl (lv_at hl 0 rfl) ?_
      refine xw_i (As := []) (rest := []) (wr := [oC kbt 0 [.int (nI w), .int (nI h), .int (nI k1), .ref ka, .ref kc, .ref kl, .ref kn]]) ⟨hx, hb, hml, hown, hts⟩ (c_X1_takeSemicolon l G H.size kre kbt kby rl nx2_26 kd2_26 sr2_26 (nI k1) fo2_26 pl2_26 li hto (nI 1) ct tb (by first | assumption | omega) (by first | assumption | omega)) (cwV 0 hts gX1_takeLast_X1_takeSemicolon rfl rfl rfl (by decide +kernel) ⟨Nat.le_of_ble_eq_true rfl, Nat.le_of_ble_eq_true rfl⟩) hK hP hD hS hA [1, 2] [0] rfl rfl (by decide) (by decide) (by decide) rfl rfl rfl hl.1 rfl (Nat.le_of_ble_eq_true rfl) dX1_takeLast_46 ⟨Nat.le_of_ble_eq_true rfl, Nat.le_of_ble_eq_true rfl⟩ (fun r46 u H locs hp46 hP hD hS => ?_)
      obtain ⟨nx2_46, kd2_46, sr2_46, vl2_46, fo2_46, pl2_46⟩ := u
      try dsimp only at hp46 hP hD
      obtain ⟨rfl, he46⟩ := hp46
      replace hP : xP G [oC kbt 0 [.int (nI w), .int (nI h), .int (nI k1), .ref ka, .ref kc, .ref kl, .ref kn], oC kre 1 [.ref kbt, .ref kby, .int (nI rl), .int (nI nx2_46), .int (nI kd2_46), .int (nI sr2_46), .int vl2_46, .int fo2_46, .int pl2_46, .int li, .int hto, .int (nI 1), .int ct], bA G kby 160 tb] H := hP
      replace hD : va_D (va_A (w_X1_takeLast G kre kbt kby rl nx kd sr vl fo pl li hto lto ct ka kc kl kn w h la tb) ss.heap.size) [oC kbt 0 [.int (nI w), .int (nI h), .int (nI k1), .ref ka, .ref kc, .ref kl, .ref kn], oC kre 1 [.ref kbt, .ref kby, .int (nI rl), .int (nI nx2_46), .int (nI kd2_46), .int (nI sr2_46), .int vl2_46, .int fo2_46, .int pl2_46, .int li, .int hto, .int (nI 1), .int ct], bA G kby 160 tb] := hD
      have hP := hP.sub (ws' := [oC kre 1 [.ref kbt, .ref kby, .int (nI rl), .int (nI nx2_46), .int (nI kd2_46), .int (nI sr2_46), .int vl2_46, .int fo2_46, .int pl2_46, .int li, .int hto, .int (nI 1), .int ct], oC kbt 0 [.int (nI w), .int (nI h), .int (nI k1), .ref ka, .ref kc, .ref kl, .ref kn], bA G kby 160 tb]) [1, 0, 2] rfl
      have hD := hD.sub (ws' := [oC kre 1 [.ref kbt, .ref kby, .int (nI rl), .int (nI nx2_46), .int (nI kd2_46), .int (nI sr2_46), .int vl2_46, .int fo2_46, .int pl2_46, .int li, .int hto, .int (nI 1), .int ct], oC kbt 0 [.int (nI w), .int (nI h), .int (nI k1), .ref ka, .ref kc, .ref kl, .ref kn], bA G kby 160 tb]) [1, 0, 2] (by decide) rfl
      refine W.zret (v := xb ((fSem tb rl (nx2_26, kd2_26, sr2_26, (nI k1), fo2_26, pl2_26)).1 = true)) (ty := .boolean) hx hb hr xb_nar (fun t ht hW => ⟨⟨xb ((fSem tb rl (nx2_26, kd2_26, sr2_26, (nI k1), fo2_26, pl2_26)).1 = true), (nx2_46, kd2_46, sr2_46, vl2_46, fo2_46, pl2_46, (nI 1), k1), rfl, ?_, by rw [ht]; exact hP, hD⟩, hS.F ht⟩) hS.2.2 dX1_takeLast_49
      try dsimp only
      rw [show fLas tb rl lto la (nx, kd, sr, vl, fo, pl) = _ from (if_pos b4).trans (bN_ok b29 he26 (by omega))]; exact ⟨rfl, congrArg (fun a => (a, _)) he46⟩
    · skip
      refine lv_iconst (v := nI 0) hx hb dX1_takeLast_32 (by decide) ?_
      have hP := hP.sub (ws' := [oC kre 1 [.ref kbt, .ref kby, .int (nI rl), .int (nI nx2_26), .int (nI kd2_26), .int (nI sr2_26), .int vl2_26, .int fo2_26, .int pl2_26, .int li, .int hto, .int (nI 1), .int ct], oC kbt 0 [.int (nI w), .int (nI h), .int (nI la), .ref ka, .ref kc, .ref kl, .ref kn], bA G kby 160 tb]) [1, 0, 2] rfl
      have hD := hD.sub (ws' := [oC kre 1 [.ref kbt, .ref kby, .int (nI rl), .int (nI nx2_26), .int (nI kd2_26), .int (nI sr2_26), .int vl2_26, .int fo2_26, .int pl2_26, .int li, .int hto, .int (nI 1), .int ct], oC kbt 0 [.int (nI w), .int (nI h), .int (nI la), .ref ka, .ref kc, .ref kl, .ref kn], bA G kby 160 tb]) [1, 0, 2] (by decide) rfl
      refine W.zret (v := nI 0) (ty := .boolean) hx hb hr (by decide) (fun t ht hW => ⟨⟨nI 0, (nx2_26, kd2_26, sr2_26, vl2_26, fo2_26, pl2_26, (nI 1), la), rfl, ?_, by rw [ht]; exact hP, hD⟩, hS.F ht⟩) hS.2.2 dX1_takeLast_33
      try dsimp only
      rw [show fLas tb rl lto la (nx, kd, sr, vl, fo, pl) = _ from (if_pos b4).trans (bN_no b29 he26)]; exact ⟨(xb_f Bool.false_ne_true).symm, rfl⟩
  · skip
    refine lv_aload_n hx hb dX1_takeLast_7 rfl (lv_at hl 0 rfl) ?_
    refine lv_iconst (v := nI 4) hx hb dX1_takeLast_8 (by decide) ?_
    refine lv_aload_n hx hb dX1_takeLast_9 rfl (lv_at hl 0 rfl) ?_
    refine va_get (D := G.1) (ci := 1) (v := .int (nI sr)) (C := RX1) (T := TX1) (N := 13) hx hb hts hin1 hown hK.1 hP 0 rfl rfl 5 (by decide) (hts (.fieldLink RX1 95 "BackLenses$Reader" "start" "I") (List.mem_of_getElem? (i := 2) rfl)) (fun _ h9 => h9) rfl dX1_takeLast_10 ?_
    refine xw_i (As := [.int (nI 4), .int (nI sr)]) (rest := []) (wr := [oC kbt 0 [.int (nI w), .int (nI h), .int (nI la), .ref ka, .ref kc, .ref kl, .ref kn], bA G kby 160 tb]) ⟨hx, hb, hml, hown, hts⟩ (c_X1_refuse l G ss.heap.size kre kbt kby rl nx kd sr vl fo pl li hto lto ct (nI 4) (nI sr) ) (cwV 2 hts gX1_takeLast_X1_refuse rfl rfl rfl (by decide +kernel) ⟨Nat.le_of_ble_eq_true rfl, Nat.le_of_ble_eq_true rfl⟩) hK hP hD hS hA [0] [1, 2] rfl rfl (by decide) (by decide) (by decide) rfl rfl rfl hl.1 rfl (Nat.le_of_ble_eq_true rfl) dX1_takeLast_13 ⟨Nat.le_of_ble_eq_true rfl, Nat.le_of_ble_eq_true rfl⟩ (fun r13 u H locs hp13 hP hD hS => ?_)
    obtain rfl := hp13
    replace hP : xP G [oC kbt 0 [.int (nI w), .int (nI h), .int (nI la), .ref ka, .ref kc, .ref kl, .ref kn], bA G kby 160 tb, oC kre 1 [.ref kbt, .ref kby, .int (nI rl), .int (nI nx), .int (nI kd), .int (nI sr), .int vl, .int (nI 4), .int (nI sr), .int li, .int hto, .int lto, .int ct]] H := hP
    replace hD : va_D (va_A (w_X1_takeLast G kre kbt kby rl nx kd sr vl fo pl li hto lto ct ka kc kl kn w h la tb) ss.heap.size) [oC kbt 0 [.int (nI w), .int (nI h), .int (nI la), .ref ka, .ref kc, .ref kl, .ref kn], bA G kby 160 tb, oC kre 1 [.ref kbt, .ref kby, .int (nI rl), .int (nI nx), .int (nI kd), .int (nI sr), .int vl, .int (nI 4), .int (nI sr), .int li, .int hto, .int lto, .int ct]] := hD
    have hP := hP.sub (ws' := [oC kre 1 [.ref kbt, .ref kby, .int (nI rl), .int (nI nx), .int (nI kd), .int (nI sr), .int vl, .int (nI 4), .int (nI sr), .int li, .int hto, .int lto, .int ct], oC kbt 0 [.int (nI w), .int (nI h), .int (nI la), .ref ka, .ref kc, .ref kl, .ref kn], bA G kby 160 tb]) [2, 0, 1] rfl
    have hD := hD.sub (ws' := [oC kre 1 [.ref kbt, .ref kby, .int (nI rl), .int (nI nx), .int (nI kd), .int (nI sr), .int vl, .int (nI 4), .int (nI sr), .int li, .int hto, .int lto, .int ct], oC kbt 0 [.int (nI w), .int (nI h), .int (nI la), .ref ka, .ref kc, .ref kl, .ref kn], bA G kby 160 tb]) [2, 0, 1] (by decide) rfl
    refine W.zret (v := nI 0) (ty := .boolean) hx hb hr (by decide) (fun t ht hW => ⟨⟨nI 0, (nx, kd, sr, vl, (nI 4), (nI sr), lto, la), rfl, ?_, by rw [ht]; exact hP, hD⟩, hS.F ht⟩) hS.2.2 dX1_takeLast_16
    try dsimp only
    rw [show fLas tb rl lto la (nx, kd, sr, vl, fo, pl) = _ from if_neg b4]; exact ⟨(xb_f Bool.false_ne_true).symm, rfl⟩

abbrev w_X1_takeCell (G : XG) (kre kbt kby : Nat) (rl nx kd sr : Nat) (vl fo pl li hto lto ct : Int32) (ka kc kl kn : Nat) (w h la : Nat) (af tb : Nat → Int32) : va_W := [oC kre 1 [.ref kbt, .ref kby, .int (nI rl), .int (nI nx), .int (nI kd), .int (nI sr), .int vl, .int fo, .int pl, .int li, .int hto, .int lto, .int ct], oC kbt 0 [.int (nI w), .int (nI h), .int (nI la), .ref ka, .ref kc, .ref kl, .ref kn], iA G ka 16 af, bA G kby 160 tb]
abbrev Q_X1_takeCell (G : XG) (sz : Nat) (kre kbt kby : Nat) (rl nx kd sr : Nat) (vl fo pl li hto lto ct : Int32) (ka kc kl kn : Nat) (w h la : Nat) (af tb : Nat → Int32) : Array Value → State → Outcome → State → Prop := (va_Qi (fun (r : Int32) (u : Nat × Nat × Nat × Int32 × Int32 × Int32 × Int32 × (Nat → Int32)) => r = xb ((fCel tb rl ct af (nx, kd, sr, vl, fo, pl)).1 = true) ∧ ((u.1, u.2.1, u.2.2.1, u.2.2.2.1, u.2.2.2.2.1, u.2.2.2.2.2.1), u.2.2.2.2.2.2.1, u.2.2.2.2.2.2.2) = (fCel tb rl ct af (nx, kd, sr, vl, fo, pl)).2) (xWb G sz (w_X1_takeCell G kre kbt kby rl nx kd sr vl fo pl li hto lto ct ka kc kl kn w h la af tb) (fun u : Nat × Nat × Nat × Int32 × Int32 × Int32 × Int32 × (Nat → Int32) => [oC kre 1 [.ref kbt, .ref kby, .int (nI rl), .int (nI u.1), .int (nI u.2.1), .int (nI u.2.2.1), .int u.2.2.2.1, .int u.2.2.2.2.1, .int u.2.2.2.2.2.1, .int li, .int hto, .int lto, .int u.2.2.2.2.2.2.1], oC kbt 0 [.int (nI w), .int (nI h), .int (nI la), .ref ka, .ref kc, .ref kl, .ref kn], iA G ka 16 u.2.2.2.2.2.2.2, bA G kby 160 tb])) (va_A (w_X1_takeCell G kre kbt kby rl nx kd sr vl fo pl li hto lto ct ka kc kl kn w h la af tb) sz))
set_option maxHeartbeats 4000000 in
set_option maxRecDepth 100000 in
theorem c_X1_takeCell (l : Launch) (G : XG) (sz : Nat) (kre kbt kby : Nat) (rl nx kd sr : Nat) (vl fo pl li hto lto ct : Int32) (ka kc kl kn : Nat) (w h la : Nat) (af tb : Nat → Int32) (hrl : rl ≤ 160) (hnx : nx ≤ rl) : Met l yX1_takeCell wsX1_takeCell ({ frames := 3, cells := 0, slots := 0, locals := 66 } : Room) (va_Pc [.ref kre] (xWp G sz (w_X1_takeCell G kre kbt kby rl nx kd sr vl fo pl li hto lto ct ka kc kl kn w h la af tb))) (Q_X1_takeCell G sz kre kbt kby rl nx kd sr vl fo pl li hto lto ct ka kc kl kn w h la af tb) 0 0 (va_A (w_X1_takeCell G kre kbt kby rl nx kd sr vl fo pl li hto lto ct ka kc kl kn w h la af tb) sz) := by
  refine Met.ofW (cc := cX1_takeCell) (maxL := 2) (ret := (some .boolean)) (by decide) rfl ?_
  intro pp ee ss mm aa below mt cd s₁ BB hml hv
  obtain ⟨rfl, hsz, hP, hK, hD0⟩ := hv
  have hx := BB.exec
  have hb := BB.bytes
  have hr := BB.returns
  have hts := atoms_spec (ws := wsX1_takeCell) BB.pre
  have hown : ss.vm.findClass RX1 = some mm.cls := findClass_of_methodNamed BB.named
  have hlocks := BB.notSynchronized
  subst hsz
  have hD := hD0.self (sz := ss.heap.size)
  have hA : ∀ q : Nat, ss.heap.size ≤ q → va_A (w_X1_takeCell G kre kbt kby rl nx kd sr vl fo pl li hto lto ct ka kc kl kn w h la af tb) ss.heap.size q := fun q h => Or.inr h
  have hS : va_S (va_A (w_X1_takeCell G kre kbt kby rl nx kd sr vl fo pl li hto lto ct ka kc kl kn w h la af tb) ss.heap.size) ss.heap ss.heap [] := va_S.rf
  replace hD : va_D (va_A (w_X1_takeCell G kre kbt kby rl nx kd sr vl fo pl li hto lto ct ka kc kl kn w h la af tb) ss.heap.size) [oC kre 1 [.ref kbt, .ref kby, .int (nI rl), .int (nI nx), .int (nI kd), .int (nI sr), .int vl, .int fo, .int pl, .int li, .int hto, .int lto, .int ct], oC kbt 0 [.int (nI w), .int (nI h), .int (nI la), .ref ka, .ref kc, .ref kl, .ref kn], iA G ka 16 af, bA G kby 160 tb] := hD
  replace hP : xP G [oC kre 1 [.ref kbt, .ref kby, .int (nI rl), .int (nI nx), .int (nI kd), .int (nI sr), .int vl, .int fo, .int pl, .int li, .int hto, .int lto, .int ct], oC kbt 0 [.int (nI w), .int (nI h), .int (nI la), .ref ka, .ref kc, .ref kl, .ref kn], iA G ka 16 af, bA G kby 160 tb] ss.heap := hP
  have hin0 : ∀ w ∈ u_ws RX0 TX0 7, w ∈ wsX1_takeCell := fun w h => List.mem_cons_of_mem _ (List.mem_append_right _ h)
  have hin1 : ∀ w ∈ u_ws RX1 TX1 13, w ∈ wsX1_takeCell := fun w h => List.mem_cons_of_mem _ (List.mem_append_left _ (List.mem_append_right _ h))
  have hl := lv_entry ([.ref kre]) (n := 2) (Nat.le_of_ble_eq_true rfl)
  rw [lg_entry_eq]
  generalize (lg_sl ([.ref kre]) ++ List.replicate (2 - (lg_sl ([.ref kre])).length) Slot.unset).toArray = ls at hl ⊢
  replace hl : lv_has ls 2 [(0, .ref kre)] := hl
  refine lv_aload_n hx hb dX1_takeCell_0 rfl (lv_at hl 0 rfl) ?_
  refine lv_iconst (v := nI 0) hx hb dX1_takeCell_1 (by decide) ?_
  refine lv_bipush (v := nI 15) hx hb dX1_takeCell_2 (by decide) ?_
  refine xw_i (As := [.int (nI 0), .int (nI 15)]) (rest := []) (wr := [oC kbt 0 [.int (nI w), .int (nI h), .int (nI la), .ref ka, .ref kc, .ref kl, .ref kn], iA G ka 16 af]) ⟨hx, hb, hml, hown, hts⟩ (c_X1_takeNumber l G ss.heap.size kre kbt kby rl nx kd sr vl fo pl li hto lto ct tb 0 15 (by first | assumption | omega) (by first | assumption | omega) (by first | assumption | omega) (by first | assumption | omega)) (cwV 2 hts gX1_takeCell_X1_takeNumber rfl rfl rfl (by decide +kernel) ⟨Nat.le_of_ble_eq_true rfl, Nat.le_of_ble_eq_true rfl⟩) hK hP hD hS hA [0, 3] [1, 2] rfl rfl (by decide) (by decide) (by decide) rfl rfl rfl hl.1 rfl (Nat.le_of_ble_eq_true rfl) dX1_takeCell_4 ⟨Nat.le_of_ble_eq_true rfl, Nat.le_of_ble_eq_true rfl⟩ (fun r4 u H locs hp4 hP hD hS => ?_)
  obtain ⟨nx2_4, kd2_4, sr2_4, vl2_4, fo2_4, pl2_4⟩ := u
  try dsimp only at hp4 hP hD
  obtain ⟨rfl, he4⟩ := hp4
  replace hP : xP G [oC kbt 0 [.int (nI w), .int (nI h), .int (nI la), .ref ka, .ref kc, .ref kl, .ref kn], iA G ka 16 af, oC kre 1 [.ref kbt, .ref kby, .int (nI rl), .int (nI nx2_4), .int (nI kd2_4), .int (nI sr2_4), .int vl2_4, .int fo2_4, .int pl2_4, .int li, .int hto, .int lto, .int ct], bA G kby 160 tb] H := hP
  replace hD : va_D (va_A (w_X1_takeCell G kre kbt kby rl nx kd sr vl fo pl li hto lto ct ka kc kl kn w h la af tb) ss.heap.size) [oC kbt 0 [.int (nI w), .int (nI h), .int (nI la), .ref ka, .ref kc, .ref kl, .ref kn], iA G ka 16 af, oC kre 1 [.ref kbt, .ref kby, .int (nI rl), .int (nI nx2_4), .int (nI kd2_4), .int (nI sr2_4), .int vl2_4, .int fo2_4, .int pl2_4, .int li, .int hto, .int lto, .int ct], bA G kby 160 tb] := hD
  have hn4 : nx2_4 ≤ rl := (by have hq := fNum_bd (t := tb) (rl := rl) (lo := 0) (hi := 15) (s := (nx, kd, sr, vl, fo, pl)) (by assumption); rw [← he4] at hq; exact hq.1)
  refine xb_if_ne (tgt := 12) hx hb dX1_takeCell_7 rfl (fun b7 => ?_) (fun b7 => ?_)
  · skip
    obtain ⟨k1, hk4a, hk4b, hk4⟩ := fNum_val (by omega) b7
    rw [← he4] at hk4
    replace hk4 : vl2_4 = nI k1 := hk4
    subst hk4
    refine lv_aload_n hx hb dX1_takeCell_12 rfl (lv_at hl 0 rfl) ?_
    refine va_get (D := G.1) (ci := 1) (v := .int (nI k1)) (C := RX1) (T := TX1) (N := 13) hx hb hts hin1 hown hK.1 hP 2 rfl rfl 6 (by decide) (hts (.fieldLink RX1 130 "BackLenses$Reader" "value" "I") (List.mem_of_getElem? (i := 1) rfl)) (fun _ h9 => h9) rfl dX1_takeCell_13 ?_
    refine lv_istore_n (lv' := [(1, .int (nI k1)), (0, .ref kre)]) hx hb dX1_takeCell_16 rfl hl (by decide) rfl (fun ls hl => ?_)
    refine lv_aload_n hx hb dX1_takeCell_17 rfl (lv_at hl 1 rfl) ?_
    refine va_get (D := G.1) (ci := 1) (v := .int ct) (C := RX1) (T := TX1) (N := 13) hx hb hts hin1 hown hK.1 hP 2 rfl rfl 12 (by decide) (hts (.fieldLink RX1 45 "BackLenses$Reader" "cellsTold" "I") (List.mem_of_getElem? (i := 2) rfl)) (fun _ h9 => h9) rfl dX1_takeCell_18 ?_
    refine lv_iload_n hx hb dX1_takeCell_21 rfl (lv_at hl 0 rfl) ?_
    refine lv_ishr hx hb dX1_takeCell_22 ?_
    refine lv_iconst (v := nI 1) hx hb dX1_takeCell_23 (by decide) ?_
    refine lv_iand hx hb dX1_takeCell_24 ?_
    refine lv_if_eq (tgt := 38) hx hb dX1_takeCell_25 rfl (fun b25 => ?_) (fun b25 => ?_)
    · skip
      refine lv_aload_n hx hb dX1_takeCell_38 rfl (lv_at hl 1 rfl) ?_
      refine lv_dup hx hb dX1_takeCell_39 rfl ?_
      refine va_get (D := G.1) (ci := 1) (v := .int ct) (C := RX1) (T := TX1) (N := 13) hx hb hts hin1 hown hK.1 hP 2 rfl rfl 12 (by decide) (hts (.fieldLink RX1 45 "BackLenses$Reader" "cellsTold" "I") (List.mem_of_getElem? (i := 2) rfl)) (fun _ h9 => h9) rfl dX1_takeCell_40 ?_
      refine lv_iconst (v := nI 1) hx hb dX1_takeCell_43 (by decide) ?_
      refine lv_iload_n hx hb dX1_takeCell_44 rfl (lv_at hl 0 rfl) ?_
      refine lv_ishl hx hb dX1_takeCell_45 ?_
      refine lv_ior hx hb dX1_takeCell_46 ?_
      refine va_put (D := G.1) (ci := 1) (v := .int (ct ||| ((nI 1) <<< ((nI k1) &&& 31)))) (ty := .int) (C := RX1) (T := TX1) (N := 13) hx hb hts hin1 tyX1 tyX1_ok nmX1 hown hK.1 hP hD hS 2 rfl rfl 12 (by decide) (hts (.fieldLink RX1 45 "BackLenses$Reader" "cellsTold" "I") (List.mem_of_getElem? (i := 2) rfl)) (fun _ h9 => h9) rfl (by decide +kernel) rfl rfl (Nat.le_of_ble_eq_true rfl) dX1_takeCell_47 (fun H locs hP hD hS => ?_)
      replace hP : xP G [oC kbt 0 [.int (nI w), .int (nI h), .int (nI la), .ref ka, .ref kc, .ref kl, .ref kn], iA G ka 16 af, oC kre 1 [.ref kbt, .ref kby, .int (nI rl), .int (nI nx2_4), .int (nI kd2_4), .int (nI sr2_4), .int (nI k1), .int fo2_4, .int pl2_4, .int li, .int hto, .int lto, .int (ct ||| ((nI 1) <<< ((nI k1) &&& 31)))], bA G kby 160 tb] H := hP
      replace hD : va_D (va_A (w_X1_takeCell G kre kbt kby rl nx kd sr vl fo pl li hto lto ct ka kc kl kn w h la af tb) ss.heap.size) [oC kbt 0 [.int (nI w), .int (nI h), .int (nI la), .ref ka, .ref kc, .ref kl, .ref kn], iA G ka 16 af, oC kre 1 [.ref kbt, .ref kby, .int (nI rl), .int (nI nx2_4), .int (nI kd2_4), .int (nI sr2_4), .int (nI k1), .int fo2_4, .int pl2_4, .int li, .int hto, .int lto, .int (ct ||| ((nI 1) <<< ((nI k1) &&& 31)))], bA G kby 160 tb] := hD
      refine lv_aload_n hx hb dX1_takeCell_50 rfl (lv_at hl 1 rfl) ?_
      refine lv_iconst (v := nI 0) hx hb dX1_takeCell_51 (by decide) ?_
      refine lv_iconst (v := nI 5) hx hb dX1_takeCell_52 (by decide) ?_
      refine xw_i (As := [.int (nI 0), .int (nI 5)]) (rest := []) (wr := [oC kbt 0 [.int (nI w), .int (nI h), .int (nI la), .ref ka, .ref kc, .ref kl, .ref kn], iA G ka 16 af]) ⟨hx, hb, hml, hown, hts⟩ (c_X1_takeNumber l G H.size kre kbt kby rl nx2_4 kd2_4 sr2_4 (nI k1) fo2_4 pl2_4 li hto lto (ct ||| ((nI 1) <<< ((nI k1) &&& 31))) tb 0 5 (by first | assumption | omega) (by first | assumption | omega) (by first | assumption | omega) (by first | assumption | omega)) (cwV 2 hts gX1_takeCell_X1_takeNumber rfl rfl rfl (by decide +kernel) ⟨Nat.le_of_ble_eq_true rfl, Nat.le_of_ble_eq_true rfl⟩) hK hP hD hS hA [2, 3] [0, 1] rfl rfl (by decide) (by decide) (by decide) rfl rfl rfl hl.1 rfl (Nat.le_of_ble_eq_true rfl) dX1_takeCell_53 ⟨Nat.le_of_ble_eq_true rfl, Nat.le_of_ble_eq_true rfl⟩ (fun r53 u H locs hp53 hP hD hS => ?_)
      obtain ⟨nx2_53, kd2_53, sr2_53, vl2_53, fo2_53, pl2_53⟩ := u
      try dsimp only at hp53 hP hD
      obtain ⟨rfl, he53⟩ := hp53
      replace hP : xP G [oC kbt 0 [.int (nI w), .int (nI h), .int (nI la), .ref ka, .ref kc, .ref kl, .ref kn], iA G ka 16 af, oC kre 1 [.ref kbt, .ref kby, .int (nI rl), .int (nI nx2_53), .int (nI kd2_53), .int (nI sr2_53), .int vl2_53, .int fo2_53, .int pl2_53, .int li, .int hto, .int lto, .int (ct ||| ((nI 1) <<< ((nI k1) &&& 31)))], bA G kby 160 tb] H := hP
      replace hD : va_D (va_A (w_X1_takeCell G kre kbt kby rl nx kd sr vl fo pl li hto lto ct ka kc kl kn w h la af tb) ss.heap.size) [oC kbt 0 [.int (nI w), .int (nI h), .int (nI la), .ref ka, .ref kc, .ref kl, .ref kn], iA G ka 16 af, oC kre 1 [.ref kbt, .ref kby, .int (nI rl), .int (nI nx2_53), .int (nI kd2_53), .int (nI sr2_53), .int vl2_53, .int fo2_53, .int pl2_53, .int li, .int hto, .int lto, .int (ct ||| ((nI 1) <<< ((nI k1) &&& 31)))], bA G kby 160 tb] := hD
      have hn53 : nx2_53 ≤ rl := (by have hq := fNum_bd (t := tb) (rl := rl) (lo := 0) (hi := 5) (s := (nx2_4, kd2_4, sr2_4, nI k1, fo2_4, pl2_4)) (by assumption); rw [← he53] at hq; exact hq.1)
      refine xb_if_ne (tgt := 61) hx hb dX1_takeCell_56 rfl (fun b56 => ?_) (fun b56 => ?_)
      · skip
        obtain ⟨k2, hk53a, hk53b, hk53⟩ := fNum_val (by omega) b56
        rw [← he53] at hk53
        replace hk53 : vl2_53 = nI k2 := hk53
        subst hk53
        refine lv_aload_n hx hb dX1_takeCell_61 rfl (lv_at hl 1 rfl) ?_
        refine va_get (D := G.1) (ci := 1) (v := .ref kbt) (C := RX1) (T := TX1) (N := 13) hx hb hts hin1 hown hK.1 hP 2 rfl rfl 0 (by decide) (hts (.fieldLink RX1 12 "BackLenses$Reader" "target" "LBackLenses$Book;") (List.mem_of_getElem? (i := 4) rfl)) (fun _ h9 => h9) rfl dX1_takeCell_62 ?_
        refine va_getN (D := G.1) (ci := 0) (v := .ref ka) (C := RX0) (T := TX0) (N := 7) hx hb hts hin0 hown hK.1 hP 0 rfl rfl 3 (by decide) (va_Nw.use rfl (hK.2 (Cond.fieldLinkNest "BackLenses$Reader" (144 : Nat) "BackLenses$Book" "atFirst" "[I" "BackLenses") (List.mem_of_getElem? (i := 15) rfl))) (fun _ h9 => h9) rfl dX1_takeCell_65 ?_
        refine lv_iload_n hx hb dX1_takeCell_68 rfl (lv_at hl 0 rfl) ?_
        refine lv_aload_n hx hb dX1_takeCell_69 rfl (lv_at hl 1 rfl) ?_
        refine va_get (D := G.1) (ci := 1) (v := .int (nI k2)) (C := RX1) (T := TX1) (N := 13) hx hb hts hin1 hown hK.1 hP 2 rfl rfl 6 (by decide) (hts (.fieldLink RX1 130 "BackLenses$Reader" "value" "I") (List.mem_of_getElem? (i := 1) rfl)) (fun _ h9 => h9) rfl dX1_takeCell_70 ?_
        refine xn_iast hx hb hK hP hD hS 1 rfl (by omega) (by omega) dX1_takeCell_73 (fun H locs hP hD hS => ?_)
        replace hP : xP G [oC kbt 0 [.int (nI w), .int (nI h), .int (nI la), .ref ka, .ref kc, .ref kl, .ref kn], iA G ka 16 (upd af k1 (nI k2)), oC kre 1 [.ref kbt, .ref kby, .int (nI rl), .int (nI nx2_53), .int (nI kd2_53), .int (nI sr2_53), .int (nI k2), .int fo2_53, .int pl2_53, .int li, .int hto, .int lto, .int (ct ||| ((nI 1) <<< ((nI k1) &&& 31)))], bA G kby 160 tb] H := hP
        replace hD : va_D (va_A (w_X1_takeCell G kre kbt kby rl nx kd sr vl fo pl li hto lto ct ka kc kl kn w h la af tb) ss.heap.size) [oC kbt 0 [.int (nI w), .int (nI h), .int (nI la), .ref ka, .ref kc, .ref kl, .ref kn], iA G ka 16 (upd af k1 (nI k2)), oC kre 1 [.ref kbt, .ref kby, .int (nI rl), .int (nI nx2_53), .int (nI kd2_53), .int (nI sr2_53), .int (nI k2), .int fo2_53, .int pl2_53, .int li, .int hto, .int lto, .int (ct ||| ((nI 1) <<< ((nI k1) &&& 31)))], bA G kby 160 tb] := hD
        refine lv_aload_n hx hb dX1_takeCell_74 rfl (lv_at hl 1 rfl) ?_
        refine xw_i (As := []) (rest := []) (wr := [oC kbt 0 [.int (nI w), .int (nI h), .int (nI la), .ref ka, .ref kc, .ref kl, .ref kn], iA G ka 16 (upd af k1 (nI k2))]) ⟨hx, hb, hml, hown, hts⟩ (c_X1_takeSemicolon l G H.size kre kbt kby rl nx2_53 kd2_53 sr2_53 (nI k2) fo2_53 pl2_53 li hto lto (ct ||| ((nI 1) <<< ((nI k1) &&& 31))) tb (by first | assumption | omega) (by first | assumption | omega)) (cwV 0 hts gX1_takeCell_X1_takeSemicolon rfl rfl rfl (by decide +kernel) ⟨Nat.le_of_ble_eq_true rfl, Nat.le_of_ble_eq_true rfl⟩) hK hP hD hS hA [2, 3] [0, 1] rfl rfl (by decide) (by decide) (by decide) rfl rfl rfl hl.1 rfl (Nat.le_of_ble_eq_true rfl) dX1_takeCell_75 ⟨Nat.le_of_ble_eq_true rfl, Nat.le_of_ble_eq_true rfl⟩ (fun r75 u H locs hp75 hP hD hS => ?_)
        obtain ⟨nx2_75, kd2_75, sr2_75, vl2_75, fo2_75, pl2_75⟩ := u
        try dsimp only at hp75 hP hD
        obtain ⟨rfl, he75⟩ := hp75
        replace hP : xP G [oC kbt 0 [.int (nI w), .int (nI h), .int (nI la), .ref ka, .ref kc, .ref kl, .ref kn], iA G ka 16 (upd af k1 (nI k2)), oC kre 1 [.ref kbt, .ref kby, .int (nI rl), .int (nI nx2_75), .int (nI kd2_75), .int (nI sr2_75), .int vl2_75, .int fo2_75, .int pl2_75, .int li, .int hto, .int lto, .int (ct ||| ((nI 1) <<< ((nI k1) &&& 31)))], bA G kby 160 tb] H := hP
        replace hD : va_D (va_A (w_X1_takeCell G kre kbt kby rl nx kd sr vl fo pl li hto lto ct ka kc kl kn w h la af tb) ss.heap.size) [oC kbt 0 [.int (nI w), .int (nI h), .int (nI la), .ref ka, .ref kc, .ref kl, .ref kn], iA G ka 16 (upd af k1 (nI k2)), oC kre 1 [.ref kbt, .ref kby, .int (nI rl), .int (nI nx2_75), .int (nI kd2_75), .int (nI sr2_75), .int vl2_75, .int fo2_75, .int pl2_75, .int li, .int hto, .int lto, .int (ct ||| ((nI 1) <<< ((nI k1) &&& 31)))], bA G kby 160 tb] := hD
        have hP := hP.sub (ws' := [oC kre 1 [.ref kbt, .ref kby, .int (nI rl), .int (nI nx2_75), .int (nI kd2_75), .int (nI sr2_75), .int vl2_75, .int fo2_75, .int pl2_75, .int li, .int hto, .int lto, .int (ct ||| ((nI 1) <<< ((nI k1) &&& 31)))], oC kbt 0 [.int (nI w), .int (nI h), .int (nI la), .ref ka, .ref kc, .ref kl, .ref kn], iA G ka 16 (upd af k1 (nI k2)), bA G kby 160 tb]) [2, 0, 1, 3] rfl
        have hD := hD.sub (ws' := [oC kre 1 [.ref kbt, .ref kby, .int (nI rl), .int (nI nx2_75), .int (nI kd2_75), .int (nI sr2_75), .int vl2_75, .int fo2_75, .int pl2_75, .int li, .int hto, .int lto, .int (ct ||| ((nI 1) <<< ((nI k1) &&& 31)))], oC kbt 0 [.int (nI w), .int (nI h), .int (nI la), .ref ka, .ref kc, .ref kl, .ref kn], iA G ka 16 (upd af k1 (nI k2)), bA G kby 160 tb]) [2, 0, 1, 3] (by decide) rfl
        refine W.zret (v := xb ((fSem tb rl (nx2_53, kd2_53, sr2_53, (nI k2), fo2_53, pl2_53)).1 = true)) (ty := .boolean) hx hb hr xb_nar (fun t ht hW => ⟨⟨xb ((fSem tb rl (nx2_53, kd2_53, sr2_53, (nI k2), fo2_53, pl2_53)).1 = true), (nx2_75, kd2_75, sr2_75, vl2_75, fo2_75, pl2_75, (ct ||| ((nI 1) <<< ((nI k1) &&& 31))), upd af k1 (nI k2)), rfl, ?_, by rw [ht]; exact hP, hD⟩, hS.F ht⟩) hS.2.2 dX1_takeCell_78
        try dsimp only
        rw [show fCel tb rl ct af (nx, kd, sr, vl, fo, pl) = _ from (bN_ok b7 he4 (by omega)).trans ((if_pos b25).trans (bN_ok b56 he53 (by omega)))]; exact ⟨rfl, congrArg (fun a => (a, _)) he75⟩
      · skip
        refine lv_iconst (v := nI 0) hx hb dX1_takeCell_59 (by decide) ?_
        have hP := hP.sub (ws' := [oC kre 1 [.ref kbt, .ref kby, .int (nI rl), .int (nI nx2_53), .int (nI kd2_53), .int (nI sr2_53), .int vl2_53, .int fo2_53, .int pl2_53, .int li, .int hto, .int lto, .int (ct ||| ((nI 1) <<< ((nI k1) &&& 31)))], oC kbt 0 [.int (nI w), .int (nI h), .int (nI la), .ref ka, .ref kc, .ref kl, .ref kn], iA G ka 16 af, bA G kby 160 tb]) [2, 0, 1, 3] rfl
        have hD := hD.sub (ws' := [oC kre 1 [.ref kbt, .ref kby, .int (nI rl), .int (nI nx2_53), .int (nI kd2_53), .int (nI sr2_53), .int vl2_53, .int fo2_53, .int pl2_53, .int li, .int hto, .int lto, .int (ct ||| ((nI 1) <<< ((nI k1) &&& 31)))], oC kbt 0 [.int (nI w), .int (nI h), .int (nI la), .ref ka, .ref kc, .ref kl, .ref kn], iA G ka 16 af, bA G kby 160 tb]) [2, 0, 1, 3] (by decide) rfl
        refine W.zret (v := nI 0) (ty := .boolean) hx hb hr (by decide) (fun t ht hW => ⟨⟨nI 0, (nx2_53, kd2_53, sr2_53, vl2_53, fo2_53, pl2_53, (ct ||| ((nI 1) <<< ((nI k1) &&& 31))), af), rfl, ?_, by rw [ht]; exact hP, hD⟩, hS.F ht⟩) hS.2.2 dX1_takeCell_60
        try dsimp only
        rw [show fCel tb rl ct af (nx, kd, sr, vl, fo, pl) = _ from (bN_ok b7 he4 (by omega)).trans ((if_pos b25).trans (bN_no b56 he53))]; exact ⟨(xb_f Bool.false_ne_true).symm, rfl⟩
    · skip
      refine lv_aload_n hx hb dX1_takeCell_28 rfl (lv_at hl 1 rfl) ?_
      refine lv_iconst (v := nI 4) hx hb dX1_takeCell_29 (by decide) ?_
      refine lv_aload_n hx hb dX1_takeCell_30 rfl (lv_at hl 1 rfl) ?_
      refine va_get (D := G.1) (ci := 1) (v := .int (nI sr2_4)) (C := RX1) (T := TX1) (N := 13) hx hb hts hin1 hown hK.1 hP 2 rfl rfl 5 (by decide) (hts (.fieldLink RX1 95 "BackLenses$Reader" "start" "I") (List.mem_of_getElem? (i := 3) rfl)) (fun _ h9 => h9) rfl dX1_takeCell_31 ?_
      refine xw_i (As := [.int (nI 4), .int (nI sr2_4)]) (rest := []) (wr := [oC kbt 0 [.int (nI w), .int (nI h), .int (nI la), .ref ka, .ref kc, .ref kl, .ref kn], iA G ka 16 af, bA G kby 160 tb]) ⟨hx, hb, hml, hown, hts⟩ (c_X1_refuse l G H.size kre kbt kby rl nx2_4 kd2_4 sr2_4 (nI k1) fo2_4 pl2_4 li hto lto ct (nI 4) (nI sr2_4) ) (cwV 2 hts gX1_takeCell_X1_refuse rfl rfl rfl (by decide +kernel) ⟨Nat.le_of_ble_eq_true rfl, Nat.le_of_ble_eq_true rfl⟩) hK hP hD hS hA [2] [0, 1, 3] rfl rfl (by decide) (by decide) (by decide) rfl rfl rfl hl.1 rfl (Nat.le_of_ble_eq_true rfl) dX1_takeCell_34 ⟨Nat.le_of_ble_eq_true rfl, Nat.le_of_ble_eq_true rfl⟩ (fun r34 u H locs hp34 hP hD hS => ?_)
      obtain rfl := hp34
      replace hP : xP G [oC kbt 0 [.int (nI w), .int (nI h), .int (nI la), .ref ka, .ref kc, .ref kl, .ref kn], iA G ka 16 af, bA G kby 160 tb, oC kre 1 [.ref kbt, .ref kby, .int (nI rl), .int (nI nx2_4), .int (nI kd2_4), .int (nI sr2_4), .int (nI k1), .int (nI 4), .int (nI sr2_4), .int li, .int hto, .int lto, .int ct]] H := hP
      replace hD : va_D (va_A (w_X1_takeCell G kre kbt kby rl nx kd sr vl fo pl li hto lto ct ka kc kl kn w h la af tb) ss.heap.size) [oC kbt 0 [.int (nI w), .int (nI h), .int (nI la), .ref ka, .ref kc, .ref kl, .ref kn], iA G ka 16 af, bA G kby 160 tb, oC kre 1 [.ref kbt, .ref kby, .int (nI rl), .int (nI nx2_4), .int (nI kd2_4), .int (nI sr2_4), .int (nI k1), .int (nI 4), .int (nI sr2_4), .int li, .int hto, .int lto, .int ct]] := hD
      have hP := hP.sub (ws' := [oC kre 1 [.ref kbt, .ref kby, .int (nI rl), .int (nI nx2_4), .int (nI kd2_4), .int (nI sr2_4), .int (nI k1), .int (nI 4), .int (nI sr2_4), .int li, .int hto, .int lto, .int ct], oC kbt 0 [.int (nI w), .int (nI h), .int (nI la), .ref ka, .ref kc, .ref kl, .ref kn], iA G ka 16 af, bA G kby 160 tb]) [3, 0, 1, 2] rfl
      have hD := hD.sub (ws' := [oC kre 1 [.ref kbt, .ref kby, .int (nI rl), .int (nI nx2_4), .int (nI kd2_4), .int (nI sr2_4), .int (nI k1), .int (nI 4), .int (nI sr2_4), .int li, .int hto, .int lto, .int ct], oC kbt 0 [.int (nI w), .int (nI h), .int (nI la), .ref ka, .ref kc, .ref kl, .ref kn], iA G ka 16 af, bA G kby 160 tb]) [3, 0, 1, 2] (by decide) rfl
      refine W.zret (v := nI 0) (ty := .boolean) hx hb hr (by decide) (fun t ht hW => ⟨⟨nI 0, (nx2_4, kd2_4, sr2_4, (nI k1), (nI 4), (nI sr2_4), ct, af), rfl, ?_, by rw [ht]; exact hP, hD⟩, hS.F ht⟩) hS.2.2 dX1_takeCell_37
      try dsimp only
      rw [show fCel tb rl ct af (nx, kd, sr, vl, fo, pl) = _ from (bN_ok b7 he4 (by omega)).trans (if_neg b25)]; exact ⟨(xb_f Bool.false_ne_true).symm, rfl⟩
  · skip
    refine lv_iconst (v := nI 0) hx hb dX1_takeCell_10 (by decide) ?_
    have hP := hP.sub (ws' := [oC kre 1 [.ref kbt, .ref kby, .int (nI rl), .int (nI nx2_4), .int (nI kd2_4), .int (nI sr2_4), .int vl2_4, .int fo2_4, .int pl2_4, .int li, .int hto, .int lto, .int ct], oC kbt 0 [.int (nI w), .int (nI h), .int (nI la), .ref ka, .ref kc, .ref kl, .ref kn], iA G ka 16 af, bA G kby 160 tb]) [2, 0, 1, 3] rfl
    have hD := hD.sub (ws' := [oC kre 1 [.ref kbt, .ref kby, .int (nI rl), .int (nI nx2_4), .int (nI kd2_4), .int (nI sr2_4), .int vl2_4, .int fo2_4, .int pl2_4, .int li, .int hto, .int lto, .int ct], oC kbt 0 [.int (nI w), .int (nI h), .int (nI la), .ref ka, .ref kc, .ref kl, .ref kn], iA G ka 16 af, bA G kby 160 tb]) [2, 0, 1, 3] (by decide) rfl
    refine W.zret (v := nI 0) (ty := .boolean) hx hb hr (by decide) (fun t ht hW => ⟨⟨nI 0, (nx2_4, kd2_4, sr2_4, vl2_4, fo2_4, pl2_4, ct, af), rfl, ?_, by rw [ht]; exact hP, hD⟩, hS.F ht⟩) hS.2.2 dX1_takeCell_11
    try dsimp only
    rw [show fCel tb rl ct af (nx, kd, sr, vl, fo, pl) = _ from bN_no b7 he4]; exact ⟨(xb_f Bool.false_ne_true).symm, rfl⟩

abbrev w_X1_takeTurn (G : XG) (kre kbt kby : Nat) (rl nx kd sr : Nat) (vl fo pl li hto lto ct : Int32) (ka kc kl kn : Nat) (w h la : Nat) (kcn nc : Nat) (fc tb : Nat → Int32) : va_W := [oC kre 1 [.ref kbt, .ref kby, .int (nI rl), .int (nI nx), .int (nI kd), .int (nI sr), .int vl, .int fo, .int pl, .int li, .int hto, .int lto, .int ct], oC kbt 0 [.int (nI w), .int (nI h), .int (nI la), .ref ka, .ref kc, .ref kl, .ref kn], oC kc 2 [.ref kcn, .int (nI 10), .int (nI nc)], iA G kcn (3 * 10) fc, bA G kby 160 tb]
abbrev Q_X1_takeTurn (G : XG) (sz : Nat) (kre kbt kby : Nat) (rl nx kd sr : Nat) (vl fo pl li hto lto ct : Int32) (ka kc kl kn : Nat) (w h la : Nat) (kcn nc : Nat) (fc tb : Nat → Int32) : Array Value → State → Outcome → State → Prop := (va_Qi (fun (r : Int32) (u : Nat × Nat × Nat × Int32 × Int32 × Int32 × Nat × (Nat → Int32)) => r = xb ((fTur tb rl nc fc (nx, kd, sr, vl, fo, pl)).1 = true) ∧ ((u.1, u.2.1, u.2.2.1, u.2.2.2.1, u.2.2.2.2.1, u.2.2.2.2.2.1), u.2.2.2.2.2.2.1, u.2.2.2.2.2.2.2) = (fTur tb rl nc fc (nx, kd, sr, vl, fo, pl)).2) (xWb G sz (w_X1_takeTurn G kre kbt kby rl nx kd sr vl fo pl li hto lto ct ka kc kl kn w h la kcn nc fc tb) (fun u : Nat × Nat × Nat × Int32 × Int32 × Int32 × Nat × (Nat → Int32) => [oC kre 1 [.ref kbt, .ref kby, .int (nI rl), .int (nI u.1), .int (nI u.2.1), .int (nI u.2.2.1), .int u.2.2.2.1, .int u.2.2.2.2.1, .int u.2.2.2.2.2.1, .int li, .int hto, .int lto, .int ct], oC kbt 0 [.int (nI w), .int (nI h), .int (nI la), .ref ka, .ref kc, .ref kl, .ref kn], oC kc 2 [.ref kcn, .int (nI 10), .int (nI u.2.2.2.2.2.2.1)], iA G kcn (3 * 10) u.2.2.2.2.2.2.2, bA G kby 160 tb])) (va_A (w_X1_takeTurn G kre kbt kby rl nx kd sr vl fo pl li hto lto ct ka kc kl kn w h la kcn nc fc tb) sz))
set_option maxHeartbeats 4000000 in
set_option maxRecDepth 100000 in
theorem c_X1_takeTurn (l : Launch) (G : XG) (sz : Nat) (kre kbt kby : Nat) (rl nx kd sr : Nat) (vl fo pl li hto lto ct : Int32) (ka kc kl kn : Nat) (w h la : Nat) (kcn nc : Nat) (fc tb : Nat → Int32) (hrl : rl ≤ 160) (hnx : nx ≤ rl) (hnc : nc ≤ 10) : Met l yX1_takeTurn wsX1_takeTurn ({ frames := 3, cells := 0, slots := 0, locals := 66 } : Room) (va_Pc [.ref kre] (xWp G sz (w_X1_takeTurn G kre kbt kby rl nx kd sr vl fo pl li hto lto ct ka kc kl kn w h la kcn nc fc tb))) (Q_X1_takeTurn G sz kre kbt kby rl nx kd sr vl fo pl li hto lto ct ka kc kl kn w h la kcn nc fc tb) 0 0 (va_A (w_X1_takeTurn G kre kbt kby rl nx kd sr vl fo pl li hto lto ct ka kc kl kn w h la kcn nc fc tb) sz) := by
  refine Met.ofW (cc := cX1_takeTurn) (maxL := 3) (ret := (some .boolean)) (by decide) rfl ?_
  intro pp ee ss mm aa below mt cd s₁ BB hml hv
  obtain ⟨rfl, hsz, hP, hK, hD0⟩ := hv
  have hx := BB.exec
  have hb := BB.bytes
  have hr := BB.returns
  have hts := atoms_spec (ws := wsX1_takeTurn) BB.pre
  have hown : ss.vm.findClass RX1 = some mm.cls := findClass_of_methodNamed BB.named
  have hlocks := BB.notSynchronized
  subst hsz
  have hD := hD0.self (sz := ss.heap.size)
  have hA : ∀ q : Nat, ss.heap.size ≤ q → va_A (w_X1_takeTurn G kre kbt kby rl nx kd sr vl fo pl li hto lto ct ka kc kl kn w h la kcn nc fc tb) ss.heap.size q := fun q h => Or.inr h
  have hS : va_S (va_A (w_X1_takeTurn G kre kbt kby rl nx kd sr vl fo pl li hto lto ct ka kc kl kn w h la kcn nc fc tb) ss.heap.size) ss.heap ss.heap [] := va_S.rf
  replace hD : va_D (va_A (w_X1_takeTurn G kre kbt kby rl nx kd sr vl fo pl li hto lto ct ka kc kl kn w h la kcn nc fc tb) ss.heap.size) [oC kre 1 [.ref kbt, .ref kby, .int (nI rl), .int (nI nx), .int (nI kd), .int (nI sr), .int vl, .int fo, .int pl, .int li, .int hto, .int lto, .int ct], oC kbt 0 [.int (nI w), .int (nI h), .int (nI la), .ref ka, .ref kc, .ref kl, .ref kn], oC kc 2 [.ref kcn, .int (nI 10), .int (nI nc)], iA G kcn (3 * 10) fc, bA G kby 160 tb] := hD
  replace hP : xP G [oC kre 1 [.ref kbt, .ref kby, .int (nI rl), .int (nI nx), .int (nI kd), .int (nI sr), .int vl, .int fo, .int pl, .int li, .int hto, .int lto, .int ct], oC kbt 0 [.int (nI w), .int (nI h), .int (nI la), .ref ka, .ref kc, .ref kl, .ref kn], oC kc 2 [.ref kcn, .int (nI 10), .int (nI nc)], iA G kcn (3 * 10) fc, bA G kby 160 tb] ss.heap := hP
  have hin0 : ∀ w ∈ u_ws RX0 TX0 7, w ∈ wsX1_takeTurn := fun w h => List.mem_cons_of_mem _ (List.mem_append_left _ (List.mem_append_right _ h))
  have hin1 : ∀ w ∈ u_ws RX1 TX1 13, w ∈ wsX1_takeTurn := fun w h => List.mem_cons_of_mem _ (List.mem_append_left _ (List.mem_append_left _ (List.mem_append_right _ h)))
  have hin2 : ∀ w ∈ u_ws RX2 TX2 3, w ∈ wsX1_takeTurn := fun w h => List.mem_cons_of_mem _ (List.mem_append_right _ h)
  have hl := lv_entry ([.ref kre]) (n := 3) (Nat.le_of_ble_eq_true rfl)
  rw [lg_entry_eq]
  generalize (lg_sl ([.ref kre]) ++ List.replicate (3 - (lg_sl ([.ref kre])).length) Slot.unset).toArray = ls at hl ⊢
  replace hl : lv_has ls 3 [(0, .ref kre)] := hl
  refine lv_aload_n hx hb dX1_takeTurn_0 rfl (lv_at hl 0 rfl) ?_
  refine va_get (D := G.1) (ci := 1) (v := .ref kbt) (C := RX1) (T := TX1) (N := 13) hx hb hts hin1 hown hK.1 hP 0 rfl rfl 0 (by decide) (hts (.fieldLink RX1 12 "BackLenses$Reader" "target" "LBackLenses$Book;") (List.mem_of_getElem? (i := 1) rfl)) (fun _ h9 => h9) rfl dX1_takeTurn_1 ?_
  refine va_getN (D := G.1) (ci := 0) (v := .ref kc) (C := RX0) (T := TX0) (N := 7) hx hb hts hin0 hown hK.1 hP 1 rfl rfl 4 (by decide) (va_Nw.use rfl (hK.2 (Cond.fieldLinkNest "BackLenses$Reader" (72 : Nat) "BackLenses$Book" "changes" "LBackLenses$Rows;" "BackLenses") (List.mem_of_getElem? (i := 17) rfl))) (fun _ h9 => h9) rfl dX1_takeTurn_4 ?_
  refine va_getN (D := G.1) (ci := 2) (v := .int (nI nc)) (C := RX2) (T := TX2) (N := 3) hx hb hts hin2 hown hK.1 hP 2 rfl rfl 2 (by decide) (va_Nw.use rfl (hK.2 (Cond.fieldLinkNest "BackLenses$Reader" (76 : Nat) "BackLenses$Rows" "size" "I" "BackLenses") (List.mem_of_getElem? (i := 2) rfl))) (fun _ h9 => h9) rfl dX1_takeTurn_7 ?_
  refine lv_bipush (v := nI 10) hx hb dX1_takeTurn_10 (by decide) ?_
  refine xn_icmp_lt (tgt := 25) hx hb (by omega) (by omega) dX1_takeTurn_12 rfl (fun b12 => ?_) (fun b12 => ?_)
  · skip
    refine lv_aload_n hx hb dX1_takeTurn_25 rfl (lv_at hl 0 rfl) ?_
    refine lv_iconst (v := nI 0) hx hb dX1_takeTurn_26 (by decide) ?_
    refine lv_bipush (v := nI 9) hx hb dX1_takeTurn_27 (by decide) ?_
    refine xw_i (As := [.int (nI 0), .int (nI 9)]) (rest := []) (wr := [oC kbt 0 [.int (nI w), .int (nI h), .int (nI la), .ref ka, .ref kc, .ref kl, .ref kn], oC kc 2 [.ref kcn, .int (nI 10), .int (nI nc)], iA G kcn (3 * 10) fc]) ⟨hx, hb, hml, hown, hts⟩ (c_X1_takeNumber l G ss.heap.size kre kbt kby rl nx kd sr vl fo pl li hto lto ct tb 0 9 (by first | assumption | omega) (by first | assumption | omega) (by first | assumption | omega) (by first | assumption | omega)) (cwV 2 hts gX1_takeTurn_X1_takeNumber rfl rfl rfl (by decide +kernel) ⟨Nat.le_of_ble_eq_true rfl, Nat.le_of_ble_eq_true rfl⟩) hK hP hD hS hA [0, 4] [1, 2, 3] rfl rfl (by decide) (by decide) (by decide) rfl rfl rfl hl.1 rfl (Nat.le_of_ble_eq_true rfl) dX1_takeTurn_29 ⟨Nat.le_of_ble_eq_true rfl, Nat.le_of_ble_eq_true rfl⟩ (fun r29 u H locs hp29 hP hD hS => ?_)
    obtain ⟨nx2_29, kd2_29, sr2_29, vl2_29, fo2_29, pl2_29⟩ := u
    try dsimp only at hp29 hP hD
    obtain ⟨rfl, he29⟩ := hp29
    replace hP : xP G [oC kbt 0 [.int (nI w), .int (nI h), .int (nI la), .ref ka, .ref kc, .ref kl, .ref kn], oC kc 2 [.ref kcn, .int (nI 10), .int (nI nc)], iA G kcn (3 * 10) fc, oC kre 1 [.ref kbt, .ref kby, .int (nI rl), .int (nI nx2_29), .int (nI kd2_29), .int (nI sr2_29), .int vl2_29, .int fo2_29, .int pl2_29, .int li, .int hto, .int lto, .int ct], bA G kby 160 tb] H := hP
    replace hD : va_D (va_A (w_X1_takeTurn G kre kbt kby rl nx kd sr vl fo pl li hto lto ct ka kc kl kn w h la kcn nc fc tb) ss.heap.size) [oC kbt 0 [.int (nI w), .int (nI h), .int (nI la), .ref ka, .ref kc, .ref kl, .ref kn], oC kc 2 [.ref kcn, .int (nI 10), .int (nI nc)], iA G kcn (3 * 10) fc, oC kre 1 [.ref kbt, .ref kby, .int (nI rl), .int (nI nx2_29), .int (nI kd2_29), .int (nI sr2_29), .int vl2_29, .int fo2_29, .int pl2_29, .int li, .int hto, .int lto, .int ct], bA G kby 160 tb] := hD
    have hn29 : nx2_29 ≤ rl := (by have hq := fNum_bd (t := tb) (rl := rl) (lo := 0) (hi := 9) (s := (nx, kd, sr, vl, fo, pl)) (by assumption); rw [← he29] at hq; exact hq.1)
    refine xb_if_ne (tgt := 37) hx hb dX1_takeTurn_32 rfl (fun b32 => ?_) (fun b32 => ?_)
    · skip
      obtain ⟨k1, hk29a, hk29b, hk29⟩ := fNum_val (by omega) b32
      rw [← he29] at hk29
      replace hk29 : vl2_29 = nI k1 := hk29
      subst hk29
      refine lv_aload_n hx hb dX1_takeTurn_37 rfl (lv_at hl 0 rfl) ?_
      refine va_get (D := G.1) (ci := 1) (v := .int (nI k1)) (C := RX1) (T := TX1) (N := 13) hx hb hts hin1 hown hK.1 hP 3 rfl rfl 6 (by decide) (hts (.fieldLink RX1 130 "BackLenses$Reader" "value" "I") (List.mem_of_getElem? (i := 3) rfl)) (fun _ h9 => h9) rfl dX1_takeTurn_38 ?_
      refine lv_istore_n (lv' := [(1, .int (nI k1)), (0, .ref kre)]) hx hb dX1_takeTurn_41 rfl hl (by decide) rfl (fun ls hl => ?_)
      refine lv_aload_n hx hb dX1_takeTurn_42 rfl (lv_at hl 1 rfl) ?_
      refine lv_iconst (v := nI 0) hx hb dX1_takeTurn_43 (by decide) ?_
      refine lv_bipush (v := nI 15) hx hb dX1_takeTurn_44 (by decide) ?_
      refine xw_i (As := [.int (nI 0), .int (nI 15)]) (rest := []) (wr := [oC kbt 0 [.int (nI w), .int (nI h), .int (nI la), .ref ka, .ref kc, .ref kl, .ref kn], oC kc 2 [.ref kcn, .int (nI 10), .int (nI nc)], iA G kcn (3 * 10) fc]) ⟨hx, hb, hml, hown, hts⟩ (c_X1_takeNumber l G H.size kre kbt kby rl nx2_29 kd2_29 sr2_29 (nI k1) fo2_29 pl2_29 li hto lto ct tb 0 15 (by first | assumption | omega) (by first | assumption | omega) (by first | assumption | omega) (by first | assumption | omega)) (cwV 2 hts gX1_takeTurn_X1_takeNumber rfl rfl rfl (by decide +kernel) ⟨Nat.le_of_ble_eq_true rfl, Nat.le_of_ble_eq_true rfl⟩) hK hP hD hS hA [3, 4] [0, 1, 2] rfl rfl (by decide) (by decide) (by decide) rfl rfl rfl hl.1 rfl (Nat.le_of_ble_eq_true rfl) dX1_takeTurn_46 ⟨Nat.le_of_ble_eq_true rfl, Nat.le_of_ble_eq_true rfl⟩ (fun r46 u H locs hp46 hP hD hS => ?_)
      obtain ⟨nx2_46, kd2_46, sr2_46, vl2_46, fo2_46, pl2_46⟩ := u
      try dsimp only at hp46 hP hD
      obtain ⟨rfl, he46⟩ := hp46
      replace hP : xP G [oC kbt 0 [.int (nI w), .int (nI h), .int (nI la), .ref ka, .ref kc, .ref kl, .ref kn], oC kc 2 [.ref kcn, .int (nI 10), .int (nI nc)], iA G kcn (3 * 10) fc, oC kre 1 [.ref kbt, .ref kby, .int (nI rl), .int (nI nx2_46), .int (nI kd2_46), .int (nI sr2_46), .int vl2_46, .int fo2_46, .int pl2_46, .int li, .int hto, .int lto, .int ct], bA G kby 160 tb] H := hP
      replace hD : va_D (va_A (w_X1_takeTurn G kre kbt kby rl nx kd sr vl fo pl li hto lto ct ka kc kl kn w h la kcn nc fc tb) ss.heap.size) [oC kbt 0 [.int (nI w), .int (nI h), .int (nI la), .ref ka, .ref kc, .ref kl, .ref kn], oC kc 2 [.ref kcn, .int (nI 10), .int (nI nc)], iA G kcn (3 * 10) fc, oC kre 1 [.ref kbt, .ref kby, .int (nI rl), .int (nI nx2_46), .int (nI kd2_46), .int (nI sr2_46), .int vl2_46, .int fo2_46, .int pl2_46, .int li, .int hto, .int lto, .int ct], bA G kby 160 tb] := hD
      have hn46 : nx2_46 ≤ rl := (by have hq := fNum_bd (t := tb) (rl := rl) (lo := 0) (hi := 15) (s := (nx2_29, kd2_29, sr2_29, nI k1, fo2_29, pl2_29)) (by assumption); rw [← he46] at hq; exact hq.1)
      refine xb_if_ne (tgt := 54) hx hb dX1_takeTurn_49 rfl (fun b49 => ?_) (fun b49 => ?_)
      · skip
        obtain ⟨k2, hk46a, hk46b, hk46⟩ := fNum_val (by omega) b49
        rw [← he46] at hk46
        replace hk46 : vl2_46 = nI k2 := hk46
        subst hk46
        refine lv_aload_n hx hb dX1_takeTurn_54 rfl (lv_at hl 1 rfl) ?_
        refine va_get (D := G.1) (ci := 1) (v := .int (nI k2)) (C := RX1) (T := TX1) (N := 13) hx hb hts hin1 hown hK.1 hP 3 rfl rfl 6 (by decide) (hts (.fieldLink RX1 130 "BackLenses$Reader" "value" "I") (List.mem_of_getElem? (i := 3) rfl)) (fun _ h9 => h9) rfl dX1_takeTurn_55 ?_
        refine lv_istore_n (lv' := [(2, .int (nI k2)), (1, .int (nI k1)), (0, .ref kre)]) hx hb dX1_takeTurn_58 rfl hl (by decide) rfl (fun ls hl => ?_)
        refine lv_aload_n hx hb dX1_takeTurn_59 rfl (lv_at hl 2 rfl) ?_
        refine lv_iconst (v := nI 0) hx hb dX1_takeTurn_60 (by decide) ?_
        refine lv_iconst (v := nI 5) hx hb dX1_takeTurn_61 (by decide) ?_
        refine xw_i (As := [.int (nI 0), .int (nI 5)]) (rest := []) (wr := [oC kbt 0 [.int (nI w), .int (nI h), .int (nI la), .ref ka, .ref kc, .ref kl, .ref kn], oC kc 2 [.ref kcn, .int (nI 10), .int (nI nc)], iA G kcn (3 * 10) fc]) ⟨hx, hb, hml, hown, hts⟩ (c_X1_takeNumber l G H.size kre kbt kby rl nx2_46 kd2_46 sr2_46 (nI k2) fo2_46 pl2_46 li hto lto ct tb 0 5 (by first | assumption | omega) (by first | assumption | omega) (by first | assumption | omega) (by first | assumption | omega)) (cwV 2 hts gX1_takeTurn_X1_takeNumber rfl rfl rfl (by decide +kernel) ⟨Nat.le_of_ble_eq_true rfl, Nat.le_of_ble_eq_true rfl⟩) hK hP hD hS hA [3, 4] [0, 1, 2] rfl rfl (by decide) (by decide) (by decide) rfl rfl rfl hl.1 rfl (Nat.le_of_ble_eq_true rfl) dX1_takeTurn_62 ⟨Nat.le_of_ble_eq_true rfl, Nat.le_of_ble_eq_true rfl⟩ (fun r62 u H locs hp62 hP hD hS => ?_)
        obtain ⟨nx2_62, kd2_62, sr2_62, vl2_62, fo2_62, pl2_62⟩ := u
        try dsimp only at hp62 hP hD
        obtain ⟨rfl, he62⟩ := hp62
        replace hP : xP G [oC kbt 0 [.int (nI w), .int (nI h), .int (nI la), .ref ka, .ref kc, .ref kl, .ref kn], oC kc 2 [.ref kcn, .int (nI 10), .int (nI nc)], iA G kcn (3 * 10) fc, oC kre 1 [.ref kbt, .ref kby, .int (nI rl), .int (nI nx2_62), .int (nI kd2_62), .int (nI sr2_62), .int vl2_62, .int fo2_62, .int pl2_62, .int li, .int hto, .int lto, .int ct], bA G kby 160 tb] H := hP
        replace hD : va_D (va_A (w_X1_takeTurn G kre kbt kby rl nx kd sr vl fo pl li hto lto ct ka kc kl kn w h la kcn nc fc tb) ss.heap.size) [oC kbt 0 [.int (nI w), .int (nI h), .int (nI la), .ref ka, .ref kc, .ref kl, .ref kn], oC kc 2 [.ref kcn, .int (nI 10), .int (nI nc)], iA G kcn (3 * 10) fc, oC kre 1 [.ref kbt, .ref kby, .int (nI rl), .int (nI nx2_62), .int (nI kd2_62), .int (nI sr2_62), .int vl2_62, .int fo2_62, .int pl2_62, .int li, .int hto, .int lto, .int ct], bA G kby 160 tb] := hD
        have hn62 : nx2_62 ≤ rl := (by have hq := fNum_bd (t := tb) (rl := rl) (lo := 0) (hi := 5) (s := (nx2_46, kd2_46, sr2_46, nI k2, fo2_46, pl2_46)) (by assumption); rw [← he62] at hq; exact hq.1)
        refine xb_if_ne (tgt := 70) hx hb dX1_takeTurn_65 rfl (fun b65 => ?_) (fun b65 => ?_)
        · skip
          obtain ⟨k3, hk62a, hk62b, hk62⟩ := fNum_val (by omega) b65
          rw [← he62] at hk62
          replace hk62 : vl2_62 = nI k3 := hk62
          subst hk62
          refine lv_aload_n hx hb dX1_takeTurn_70 rfl (lv_at hl 2 rfl) ?_
          refine va_get (D := G.1) (ci := 1) (v := .ref kbt) (C := RX1) (T := TX1) (N := 13) hx hb hts hin1 hown hK.1 hP 3 rfl rfl 0 (by decide) (hts (.fieldLink RX1 12 "BackLenses$Reader" "target" "LBackLenses$Book;") (List.mem_of_getElem? (i := 1) rfl)) (fun _ h9 => h9) rfl dX1_takeTurn_71 ?_
          refine va_getN (D := G.1) (ci := 0) (v := .ref kc) (C := RX0) (T := TX0) (N := 7) hx hb hts hin0 hown hK.1 hP 0 rfl rfl 4 (by decide) (va_Nw.use rfl (hK.2 (Cond.fieldLinkNest "BackLenses$Reader" (72 : Nat) "BackLenses$Book" "changes" "LBackLenses$Rows;" "BackLenses") (List.mem_of_getElem? (i := 17) rfl))) (fun _ h9 => h9) rfl dX1_takeTurn_74 ?_
          refine lv_iload_n hx hb dX1_takeTurn_77 rfl (lv_at hl 1 rfl) ?_
          refine lv_iload_n hx hb dX1_takeTurn_78 rfl (lv_at hl 0 rfl) ?_
          refine lv_aload_n hx hb dX1_takeTurn_79 rfl (lv_at hl 2 rfl) ?_
          refine va_get (D := G.1) (ci := 1) (v := .int (nI k3)) (C := RX1) (T := TX1) (N := 13) hx hb hts hin1 hown hK.1 hP 3 rfl rfl 6 (by decide) (hts (.fieldLink RX1 130 "BackLenses$Reader" "value" "I") (List.mem_of_getElem? (i := 3) rfl)) (fun _ h9 => h9) rfl dX1_takeTurn_80 ?_
          refine xw_i (As := [.int (nI k1), .int (nI k2), .int (nI k3)]) (rest := []) (wr := [oC kbt 0 [.int (nI w), .int (nI h), .int (nI la), .ref ka, .ref kc, .ref kl, .ref kn], oC kre 1 [.ref kbt, .ref kby, .int (nI rl), .int (nI nx2_62), .int (nI kd2_62), .int (nI sr2_62), .int (nI k3), .int fo2_62, .int pl2_62, .int li, .int hto, .int lto, .int ct], bA G kby 160 tb]) ⟨hx, hb, hml, hown, hts⟩ (c_X2_add l G H.size kc kcn 10 nc fc (nI k1) (nI k2) (nI k3) (by first | assumption | omega) (by first | assumption | omega)) (cwV 3 hts gX1_takeTurn_X2_add rfl rfl rfl (by decide +kernel) ⟨Nat.le_of_ble_eq_true rfl, Nat.le_of_ble_eq_true rfl⟩) hK hP hD hS hA [1, 2] [0, 3, 4] rfl rfl (by decide) (by decide) (by decide) rfl rfl rfl hl.1 rfl (Nat.le_of_ble_eq_true rfl) dX1_takeTurn_83 ⟨Nat.le_of_ble_eq_true rfl, Nat.le_of_ble_eq_true rfl⟩ (fun r83 u H locs hp83 hP hD hS => ?_)
          obtain ⟨u0_83, u1_83⟩ := u
          try dsimp only at hp83 hP hD
          obtain ⟨rfl, rfl, rfl⟩ := hp83
          replace hP : xP G [oC kbt 0 [.int (nI w), .int (nI h), .int (nI la), .ref ka, .ref kc, .ref kl, .ref kn], oC kre 1 [.ref kbt, .ref kby, .int (nI rl), .int (nI nx2_62), .int (nI kd2_62), .int (nI sr2_62), .int (nI k3), .int fo2_62, .int pl2_62, .int li, .int hto, .int lto, .int ct], bA G kby 160 tb, oC kc 2 [.ref kcn, .int (nI 10), .int (nI (if nc < 10 then nc + 1 else nc))], iA G kcn (3 * 10) (if nc < 10 then upd (upd (upd fc (3 * nc) (nI k1)) (3 * nc + 1) (nI k2)) (3 * nc + 2) (nI k3) else fc)] H := hP
          replace hD : va_D (va_A (w_X1_takeTurn G kre kbt kby rl nx kd sr vl fo pl li hto lto ct ka kc kl kn w h la kcn nc fc tb) ss.heap.size) [oC kbt 0 [.int (nI w), .int (nI h), .int (nI la), .ref ka, .ref kc, .ref kl, .ref kn], oC kre 1 [.ref kbt, .ref kby, .int (nI rl), .int (nI nx2_62), .int (nI kd2_62), .int (nI sr2_62), .int (nI k3), .int fo2_62, .int pl2_62, .int li, .int hto, .int lto, .int ct], bA G kby 160 tb, oC kc 2 [.ref kcn, .int (nI 10), .int (nI (if nc < 10 then nc + 1 else nc))], iA G kcn (3 * 10) (if nc < 10 then upd (upd (upd fc (3 * nc) (nI k1)) (3 * nc + 1) (nI k2)) (3 * nc + 2) (nI k3) else fc)] := hD
          refine lv_pop hx hb dX1_takeTurn_86 rfl ?_
          refine lv_aload_n hx hb dX1_takeTurn_87 rfl (lv_at hl 2 rfl) ?_
          refine xw_i (As := []) (rest := []) (wr := [oC kbt 0 [.int (nI w), .int (nI h), .int (nI la), .ref ka, .ref kc, .ref kl, .ref kn], oC kc 2 [.ref kcn, .int (nI 10), .int (nI (if nc < 10 then nc + 1 else nc))], iA G kcn (3 * 10) (if nc < 10 then upd (upd (upd fc (3 * nc) (nI k1)) (3 * nc + 1) (nI k2)) (3 * nc + 2) (nI k3) else fc)]) ⟨hx, hb, hml, hown, hts⟩ (c_X1_takeSemicolon l G H.size kre kbt kby rl nx2_62 kd2_62 sr2_62 (nI k3) fo2_62 pl2_62 li hto lto ct tb (by first | assumption | omega) (by first | assumption | omega)) (cwV 0 hts gX1_takeTurn_X1_takeSemicolon rfl rfl rfl (by decide +kernel) ⟨Nat.le_of_ble_eq_true rfl, Nat.le_of_ble_eq_true rfl⟩) hK hP hD hS hA [1, 2] [0, 3, 4] rfl rfl (by decide) (by decide) (by decide) rfl rfl rfl hl.1 rfl (Nat.le_of_ble_eq_true rfl) dX1_takeTurn_88 ⟨Nat.le_of_ble_eq_true rfl, Nat.le_of_ble_eq_true rfl⟩ (fun r88 u H locs hp88 hP hD hS => ?_)
          obtain ⟨nx2_88, kd2_88, sr2_88, vl2_88, fo2_88, pl2_88⟩ := u
          try dsimp only at hp88 hP hD
          obtain ⟨rfl, he88⟩ := hp88
          replace hP : xP G [oC kbt 0 [.int (nI w), .int (nI h), .int (nI la), .ref ka, .ref kc, .ref kl, .ref kn], oC kc 2 [.ref kcn, .int (nI 10), .int (nI (if nc < 10 then nc + 1 else nc))], iA G kcn (3 * 10) (if nc < 10 then upd (upd (upd fc (3 * nc) (nI k1)) (3 * nc + 1) (nI k2)) (3 * nc + 2) (nI k3) else fc), oC kre 1 [.ref kbt, .ref kby, .int (nI rl), .int (nI nx2_88), .int (nI kd2_88), .int (nI sr2_88), .int vl2_88, .int fo2_88, .int pl2_88, .int li, .int hto, .int lto, .int ct], bA G kby 160 tb] H := hP
          replace hD : va_D (va_A (w_X1_takeTurn G kre kbt kby rl nx kd sr vl fo pl li hto lto ct ka kc kl kn w h la kcn nc fc tb) ss.heap.size) [oC kbt 0 [.int (nI w), .int (nI h), .int (nI la), .ref ka, .ref kc, .ref kl, .ref kn], oC kc 2 [.ref kcn, .int (nI 10), .int (nI (if nc < 10 then nc + 1 else nc))], iA G kcn (3 * 10) (if nc < 10 then upd (upd (upd fc (3 * nc) (nI k1)) (3 * nc + 1) (nI k2)) (3 * nc + 2) (nI k3) else fc), oC kre 1 [.ref kbt, .ref kby, .int (nI rl), .int (nI nx2_88), .int (nI kd2_88), .int (nI sr2_88), .int vl2_88, .int fo2_88, .int pl2_88, .int li, .int hto, .int lto, .int ct], bA G kby 160 tb] := hD
          have hP := hP.sub (ws' := [oC kre 1 [.ref kbt, .ref kby, .int (nI rl), .int (nI nx2_88), .int (nI kd2_88), .int (nI sr2_88), .int vl2_88, .int fo2_88, .int pl2_88, .int li, .int hto, .int lto, .int ct], oC kbt 0 [.int (nI w), .int (nI h), .int (nI la), .ref ka, .ref kc, .ref kl, .ref kn], oC kc 2 [.ref kcn, .int (nI 10), .int (nI (if nc < 10 then nc + 1 else nc))], iA G kcn (3 * 10) (if nc < 10 then upd (upd (upd fc (3 * nc) (nI k1)) (3 * nc + 1) (nI k2)) (3 * nc + 2) (nI k3) else fc), bA G kby 160 tb]) [3, 0, 1, 2, 4] rfl
          have hD := hD.sub (ws' := [oC kre 1 [.ref kbt, .ref kby, .int (nI rl), .int (nI nx2_88), .int (nI kd2_88), .int (nI sr2_88), .int vl2_88, .int fo2_88, .int pl2_88, .int li, .int hto, .int lto, .int ct], oC kbt 0 [.int (nI w), .int (nI h), .int (nI la), .ref ka, .ref kc, .ref kl, .ref kn], oC kc 2 [.ref kcn, .int (nI 10), .int (nI (if nc < 10 then nc + 1 else nc))], iA G kcn (3 * 10) (if nc < 10 then upd (upd (upd fc (3 * nc) (nI k1)) (3 * nc + 1) (nI k2)) (3 * nc + 2) (nI k3) else fc), bA G kby 160 tb]) [3, 0, 1, 2, 4] (by decide) rfl
          refine W.zret (v := xb ((fSem tb rl (nx2_62, kd2_62, sr2_62, (nI k3), fo2_62, pl2_62)).1 = true)) (ty := .boolean) hx hb hr xb_nar (fun t ht hW => ⟨⟨xb ((fSem tb rl (nx2_62, kd2_62, sr2_62, (nI k3), fo2_62, pl2_62)).1 = true), (nx2_88, kd2_88, sr2_88, vl2_88, fo2_88, pl2_88, (if nc < 10 then nc + 1 else nc), (if nc < 10 then upd (upd (upd fc (3 * nc) (nI k1)) (3 * nc + 1) (nI k2)) (3 * nc + 2) (nI k3) else fc)), rfl, ?_, by rw [ht]; exact hP, hD⟩, hS.F ht⟩) hS.2.2 dX1_takeTurn_91
          try dsimp only
          rw [show fTur tb rl nc fc (nx, kd, sr, vl, fo, pl) = _ from (if_pos b12).trans ((bN_ok b32 he29 (by omega)).trans ((bN_ok b49 he46 (by omega)).trans (bN_ok b65 he62 (by omega))))]; rw [if_pos b12, if_pos b12]; exact ⟨rfl, congrArg (fun a => (a, _)) he88⟩
        · skip
          refine lv_iconst (v := nI 0) hx hb dX1_takeTurn_68 (by decide) ?_
          have hP := hP.sub (ws' := [oC kre 1 [.ref kbt, .ref kby, .int (nI rl), .int (nI nx2_62), .int (nI kd2_62), .int (nI sr2_62), .int vl2_62, .int fo2_62, .int pl2_62, .int li, .int hto, .int lto, .int ct], oC kbt 0 [.int (nI w), .int (nI h), .int (nI la), .ref ka, .ref kc, .ref kl, .ref kn], oC kc 2 [.ref kcn, .int (nI 10), .int (nI nc)], iA G kcn (3 * 10) fc, bA G kby 160 tb]) [3, 0, 1, 2, 4] rfl
          have hD := hD.sub (ws' := [oC kre 1 [.ref kbt, .ref kby, .int (nI rl), .int (nI nx2_62), .int (nI kd2_62), .int (nI sr2_62), .int vl2_62, .int fo2_62, .int pl2_62, .int li, .int hto, .int lto, .int ct], oC kbt 0 [.int (nI w), .int (nI h), .int (nI la), .ref ka, .ref kc, .ref kl, .ref kn], oC kc 2 [.ref kcn, .int (nI 10), .int (nI nc)], iA G kcn (3 * 10) fc, bA G kby 160 tb]) [3, 0, 1, 2, 4] (by decide) rfl
          refine W.zret (v := nI 0) (ty := .boolean) hx hb hr (by decide) (fun t ht hW => ⟨⟨nI 0, (nx2_62, kd2_62, sr2_62, vl2_62, fo2_62, pl2_62, nc, fc), rfl, ?_, by rw [ht]; exact hP, hD⟩, hS.F ht⟩) hS.2.2 dX1_takeTurn_69
          try dsimp only
          rw [show fTur tb rl nc fc (nx, kd, sr, vl, fo, pl) = _ from (if_pos b12).trans ((bN_ok b32 he29 (by omega)).trans ((bN_ok b49 he46 (by omega)).trans (bN_no b65 he62)))]; exact ⟨(xb_f Bool.false_ne_true).symm, rfl⟩
      · skip
        refine lv_iconst (v := nI 0) hx hb dX1_takeTurn_52 (by decide) ?_
        have hP := hP.sub (ws' := [oC kre 1 [.ref kbt, .ref kby, .int (nI rl), .int (nI nx2_46), .int (nI kd2_46), .int (nI sr2_46), .int vl2_46, .int fo2_46, .int pl2_46, .int li, .int hto, .int lto, .int ct], oC kbt 0 [.int (nI w), .int (nI h), .int (nI la), .ref ka, .ref kc, .ref kl, .ref kn], oC kc 2 [.ref kcn, .int (nI 10), .int (nI nc)], iA G kcn (3 * 10) fc, bA G kby 160 tb]) [3, 0, 1, 2, 4] rfl
        have hD := hD.sub (ws' := [oC kre 1 [.ref kbt, .ref kby, .int (nI rl), .int (nI nx2_46), .int (nI kd2_46), .int (nI sr2_46), .int vl2_46, .int fo2_46, .int pl2_46, .int li, .int hto, .int lto, .int ct], oC kbt 0 [.int (nI w), .int (nI h), .int (nI la), .ref ka, .ref kc, .ref kl, .ref kn], oC kc 2 [.ref kcn, .int (nI 10), .int (nI nc)], iA G kcn (3 * 10) fc, bA G kby 160 tb]) [3, 0, 1, 2, 4] (by decide) rfl
        refine W.zret (v := nI 0) (ty := .boolean) hx hb hr (by decide) (fun t ht hW => ⟨⟨nI 0, (nx2_46, kd2_46, sr2_46, vl2_46, fo2_46, pl2_46, nc, fc), rfl, ?_, by rw [ht]; exact hP, hD⟩, hS.F ht⟩) hS.2.2 dX1_takeTurn_53
        try dsimp only
        rw [show fTur tb rl nc fc (nx, kd, sr, vl, fo, pl) = _ from (if_pos b12).trans ((bN_ok b32 he29 (by omega)).trans (bN_no b49 he46))]; exact ⟨(xb_f Bool.false_ne_true).symm, rfl⟩
    · skip
      refine lv_iconst (v := nI 0) hx hb dX1_takeTurn_35 (by decide) ?_
      have hP := hP.sub (ws' := [oC kre 1 [.ref kbt, .ref kby, .int (nI rl), .int (nI nx2_29), .int (nI kd2_29), .int (nI sr2_29), .int vl2_29, .int fo2_29, .int pl2_29, .int li, .int hto, .int lto, .int ct], oC kbt 0 [.int (nI w), .int (nI h), .int (nI la), .ref ka, .ref kc, .ref kl, .ref kn], oC kc 2 [.ref kcn, .int (nI 10), .int (nI nc)], iA G kcn (3 * 10) fc, bA G kby 160 tb]) [3, 0, 1, 2, 4] rfl
      have hD := hD.sub (ws' := [oC kre 1 [.ref kbt, .ref kby, .int (nI rl), .int (nI nx2_29), .int (nI kd2_29), .int (nI sr2_29), .int vl2_29, .int fo2_29, .int pl2_29, .int li, .int hto, .int lto, .int ct], oC kbt 0 [.int (nI w), .int (nI h), .int (nI la), .ref ka, .ref kc, .ref kl, .ref kn], oC kc 2 [.ref kcn, .int (nI 10), .int (nI nc)], iA G kcn (3 * 10) fc, bA G kby 160 tb]) [3, 0, 1, 2, 4] (by decide) rfl
      refine W.zret (v := nI 0) (ty := .boolean) hx hb hr (by decide) (fun t ht hW => ⟨⟨nI 0, (nx2_29, kd2_29, sr2_29, vl2_29, fo2_29, pl2_29, nc, fc), rfl, ?_, by rw [ht]; exact hP, hD⟩, hS.F ht⟩) hS.2.2 dX1_takeTurn_36
      try dsimp only
      rw [show fTur tb rl nc fc (nx, kd, sr, vl, fo, pl) = _ from (if_pos b12).trans (bN_no b32 he29)]; exact ⟨(xb_f Bool.false_ne_true).symm, rfl⟩
  · skip
    refine lv_aload_n hx hb dX1_takeTurn_15 rfl (lv_at hl 0 rfl) ?_
    refine lv_iconst (v := nI 5) hx hb dX1_takeTurn_16 (by decide) ?_
    refine lv_aload_n hx hb dX1_takeTurn_17 rfl (lv_at hl 0 rfl) ?_
    refine va_get (D := G.1) (ci := 1) (v := .int (nI sr)) (C := RX1) (T := TX1) (N := 13) hx hb hts hin1 hown hK.1 hP 0 rfl rfl 5 (by decide) (hts (.fieldLink RX1 95 "BackLenses$Reader" "start" "I") (List.mem_of_getElem? (i := 2) rfl)) (fun _ h9 => h9) rfl dX1_takeTurn_18 ?_
    refine xw_i (As := [.int (nI 5), .int (nI sr)]) (rest := []) (wr := [oC kbt 0 [.int (nI w), .int (nI h), .int (nI la), .ref ka, .ref kc, .ref kl, .ref kn], oC kc 2 [.ref kcn, .int (nI 10), .int (nI nc)], iA G kcn (3 * 10) fc, bA G kby 160 tb]) ⟨hx, hb, hml, hown, hts⟩ (c_X1_refuse l G ss.heap.size kre kbt kby rl nx kd sr vl fo pl li hto lto ct (nI 5) (nI sr) ) (cwV 2 hts gX1_takeTurn_X1_refuse rfl rfl rfl (by decide +kernel) ⟨Nat.le_of_ble_eq_true rfl, Nat.le_of_ble_eq_true rfl⟩) hK hP hD hS hA [0] [1, 2, 3, 4] rfl rfl (by decide) (by decide) (by decide) rfl rfl rfl hl.1 rfl (Nat.le_of_ble_eq_true rfl) dX1_takeTurn_21 ⟨Nat.le_of_ble_eq_true rfl, Nat.le_of_ble_eq_true rfl⟩ (fun r21 u H locs hp21 hP hD hS => ?_)
    obtain rfl := hp21
    replace hP : xP G [oC kbt 0 [.int (nI w), .int (nI h), .int (nI la), .ref ka, .ref kc, .ref kl, .ref kn], oC kc 2 [.ref kcn, .int (nI 10), .int (nI nc)], iA G kcn (3 * 10) fc, bA G kby 160 tb, oC kre 1 [.ref kbt, .ref kby, .int (nI rl), .int (nI nx), .int (nI kd), .int (nI sr), .int vl, .int (nI 5), .int (nI sr), .int li, .int hto, .int lto, .int ct]] H := hP
    replace hD : va_D (va_A (w_X1_takeTurn G kre kbt kby rl nx kd sr vl fo pl li hto lto ct ka kc kl kn w h la kcn nc fc tb) ss.heap.size) [oC kbt 0 [.int (nI w), .int (nI h), .int (nI la), .ref ka, .ref kc, .ref kl, .ref kn], oC kc 2 [.ref kcn, .int (nI 10), .int (nI nc)], iA G kcn (3 * 10) fc, bA G kby 160 tb, oC kre 1 [.ref kbt, .ref kby, .int (nI rl), .int (nI nx), .int (nI kd), .int (nI sr), .int vl, .int (nI 5), .int (nI sr), .int li, .int hto, .int lto, .int ct]] := hD
    have hP := hP.sub (ws' := [oC kre 1 [.ref kbt, .ref kby, .int (nI rl), .int (nI nx), .int (nI kd), .int (nI sr), .int vl, .int (nI 5), .int (nI sr), .int li, .int hto, .int lto, .int ct], oC kbt 0 [.int (nI w), .int (nI h), .int (nI la), .ref ka, .ref kc, .ref kl, .ref kn], oC kc 2 [.ref kcn, .int (nI 10), .int (nI nc)], iA G kcn (3 * 10) fc, bA G kby 160 tb]) [4, 0, 1, 2, 3] rfl
    have hD := hD.sub (ws' := [oC kre 1 [.ref kbt, .ref kby, .int (nI rl), .int (nI nx), .int (nI kd), .int (nI sr), .int vl, .int (nI 5), .int (nI sr), .int li, .int hto, .int lto, .int ct], oC kbt 0 [.int (nI w), .int (nI h), .int (nI la), .ref ka, .ref kc, .ref kl, .ref kn], oC kc 2 [.ref kcn, .int (nI 10), .int (nI nc)], iA G kcn (3 * 10) fc, bA G kby 160 tb]) [4, 0, 1, 2, 3] (by decide) rfl
    refine W.zret (v := nI 0) (ty := .boolean) hx hb hr (by decide) (fun t ht hW => ⟨⟨nI 0, (nx, kd, sr, vl, (nI 5), (nI sr), nc, fc), rfl, ?_, by rw [ht]; exact hP, hD⟩, hS.F ht⟩) hS.2.2 dX1_takeTurn_24
    try dsimp only
    rw [show fTur tb rl nc fc (nx, kd, sr, vl, fo, pl) = _ from if_neg (by omega)]; exact ⟨(xb_f Bool.false_ne_true).symm, rfl⟩
end
section
abbrev w_X1_takeLens (G : XG) (kre kbt kby : Nat) (rl nx kd sr : Nat) (vl fo pl li hto lto ct : Int32) (ka kc kl kn : Nat) (w h la : Nat) (kln nl : Nat) (fl tb : Nat → Int32) : va_W := [oC kre 1 [.ref kbt, .ref kby, .int (nI rl), .int (nI nx), .int (nI kd), .int (nI sr), .int vl, .int fo, .int pl, .int li, .int hto, .int lto, .int ct], oC kbt 0 [.int (nI w), .int (nI h), .int (nI la), .ref ka, .ref kc, .ref kl, .ref kn], oC kl 2 [.ref kln, .int (nI 6), .int (nI nl)], iA G kln (3 * 6) fl, bA G kby 160 tb]
abbrev Q_X1_takeLens (G : XG) (sz : Nat) (kre kbt kby : Nat) (rl nx kd sr : Nat) (vl fo pl li hto lto ct : Int32) (ka kc kl kn : Nat) (w h la : Nat) (kln nl : Nat) (fl tb : Nat → Int32) : Array Value → State → Outcome → State → Prop := (va_Qi (fun (r : Int32) (u : Nat × Nat × Nat × Int32 × Int32 × Int32 × Nat × (Nat → Int32)) => r = xb ((fLen tb rl nl fl (nx, kd, sr, vl, fo, pl)).1 = true) ∧ ((u.1, u.2.1, u.2.2.1, u.2.2.2.1, u.2.2.2.2.1, u.2.2.2.2.2.1), u.2.2.2.2.2.2.1, u.2.2.2.2.2.2.2) = (fLen tb rl nl fl (nx, kd, sr, vl, fo, pl)).2) (xWb G sz (w_X1_takeLens G kre kbt kby rl nx kd sr vl fo pl li hto lto ct ka kc kl kn w h la kln nl fl tb) (fun u : Nat × Nat × Nat × Int32 × Int32 × Int32 × Nat × (Nat → Int32) => [oC kre 1 [.ref kbt, .ref kby, .int (nI rl), .int (nI u.1), .int (nI u.2.1), .int (nI u.2.2.1), .int u.2.2.2.1, .int u.2.2.2.2.1, .int u.2.2.2.2.2.1, .int li, .int hto, .int lto, .int ct], oC kbt 0 [.int (nI w), .int (nI h), .int (nI la), .ref ka, .ref kc, .ref kl, .ref kn], oC kl 2 [.ref kln, .int (nI 6), .int (nI u.2.2.2.2.2.2.1)], iA G kln (3 * 6) u.2.2.2.2.2.2.2, bA G kby 160 tb])) (va_A (w_X1_takeLens G kre kbt kby rl nx kd sr vl fo pl li hto lto ct ka kc kl kn w h la kln nl fl tb) sz))
set_option maxHeartbeats 4000000 in
set_option maxRecDepth 100000 in
theorem c_X1_takeLens (l : Launch) (G : XG) (sz : Nat) (kre kbt kby : Nat) (rl nx kd sr : Nat) (vl fo pl li hto lto ct : Int32) (ka kc kl kn : Nat) (w h la : Nat) (kln nl : Nat) (fl tb : Nat → Int32) (hrl : rl ≤ 160) (hnx : nx ≤ rl) (hnl : nl ≤ 6) : Met l yX1_takeLens wsX1_takeLens ({ frames := 3, cells := 0, slots := 0, locals := 66 } : Room) (va_Pc [.ref kre] (xWp G sz (w_X1_takeLens G kre kbt kby rl nx kd sr vl fo pl li hto lto ct ka kc kl kn w h la kln nl fl tb))) (Q_X1_takeLens G sz kre kbt kby rl nx kd sr vl fo pl li hto lto ct ka kc kl kn w h la kln nl fl tb) 0 0 (va_A (w_X1_takeLens G kre kbt kby rl nx kd sr vl fo pl li hto lto ct ka kc kl kn w h la kln nl fl tb) sz) := by
  refine Met.ofW (cc := cX1_takeLens) (maxL := 4) (ret := (some .boolean)) (by decide) rfl ?_
  intro pp ee ss mm aa below mt cd s₁ BB hml hv
  obtain ⟨rfl, hsz, hP, hK, hD0⟩ := hv
  have hx := BB.exec
  have hb := BB.bytes
  have hr := BB.returns
  have hts := atoms_spec (ws := wsX1_takeLens) BB.pre
  have hown : ss.vm.findClass RX1 = some mm.cls := findClass_of_methodNamed BB.named
  have hlocks := BB.notSynchronized
  subst hsz
  have hD := hD0.self (sz := ss.heap.size)
  have hA : ∀ q : Nat, ss.heap.size ≤ q → va_A (w_X1_takeLens G kre kbt kby rl nx kd sr vl fo pl li hto lto ct ka kc kl kn w h la kln nl fl tb) ss.heap.size q := fun q h => Or.inr h
  have hS : va_S (va_A (w_X1_takeLens G kre kbt kby rl nx kd sr vl fo pl li hto lto ct ka kc kl kn w h la kln nl fl tb) ss.heap.size) ss.heap ss.heap [] := va_S.rf
  replace hD : va_D (va_A (w_X1_takeLens G kre kbt kby rl nx kd sr vl fo pl li hto lto ct ka kc kl kn w h la kln nl fl tb) ss.heap.size) [oC kre 1 [.ref kbt, .ref kby, .int (nI rl), .int (nI nx), .int (nI kd), .int (nI sr), .int vl, .int fo, .int pl, .int li, .int hto, .int lto, .int ct], oC kbt 0 [.int (nI w), .int (nI h), .int (nI la), .ref ka, .ref kc, .ref kl, .ref kn], oC kl 2 [.ref kln, .int (nI 6), .int (nI nl)], iA G kln (3 * 6) fl, bA G kby 160 tb] := hD
  replace hP : xP G [oC kre 1 [.ref kbt, .ref kby, .int (nI rl), .int (nI nx), .int (nI kd), .int (nI sr), .int vl, .int fo, .int pl, .int li, .int hto, .int lto, .int ct], oC kbt 0 [.int (nI w), .int (nI h), .int (nI la), .ref ka, .ref kc, .ref kl, .ref kn], oC kl 2 [.ref kln, .int (nI 6), .int (nI nl)], iA G kln (3 * 6) fl, bA G kby 160 tb] ss.heap := hP
  have hin0 : ∀ w ∈ u_ws RX0 TX0 7, w ∈ wsX1_takeLens := fun w h => List.mem_cons_of_mem _ (List.mem_append_left _ (List.mem_append_right _ h))
  have hin1 : ∀ w ∈ u_ws RX1 TX1 13, w ∈ wsX1_takeLens := fun w h => List.mem_cons_of_mem _ (List.mem_append_left _ (List.mem_append_left _ (List.mem_append_right _ h)))
  have hin2 : ∀ w ∈ u_ws RX2 TX2 3, w ∈ wsX1_takeLens := fun w h => List.mem_cons_of_mem _ (List.mem_append_right _ h)
  have hl := lv_entry ([.ref kre]) (n := 4) (Nat.le_of_ble_eq_true rfl)
  rw [lg_entry_eq]
  generalize (lg_sl ([.ref kre]) ++ List.replicate (4 - (lg_sl ([.ref kre])).length) Slot.unset).toArray = ls at hl ⊢
  replace hl : lv_has ls 4 [(0, .ref kre)] := hl
  refine lv_aload_n hx hb dX1_takeLens_0 rfl (lv_at hl 0 rfl) ?_
  refine va_get (D := G.1) (ci := 1) (v := .ref kbt) (C := RX1) (T := TX1) (N := 13) hx hb hts hin1 hown hK.1 hP 0 rfl rfl 0 (by decide) (hts (.fieldLink RX1 12 "BackLenses$Reader" "target" "LBackLenses$Book;") (List.mem_of_getElem? (i := 1) rfl)) (fun _ h9 => h9) rfl dX1_takeLens_1 ?_
  refine va_getN (D := G.1) (ci := 0) (v := .ref kl) (C := RX0) (T := TX0) (N := 7) hx hb hts hin0 hown hK.1 hP 1 rfl rfl 5 (by decide) (va_Nw.use rfl (hK.2 (Cond.fieldLinkNest "BackLenses$Reader" (92 : Nat) "BackLenses$Book" "lenses" "LBackLenses$Rows;" "BackLenses") (List.mem_of_getElem? (i := 19) rfl))) (fun _ h9 => h9) rfl dX1_takeLens_4 ?_
  refine va_getN (D := G.1) (ci := 2) (v := .int (nI nl)) (C := RX2) (T := TX2) (N := 3) hx hb hts hin2 hown hK.1 hP 2 rfl rfl 2 (by decide) (va_Nw.use rfl (hK.2 (Cond.fieldLinkNest "BackLenses$Reader" (76 : Nat) "BackLenses$Rows" "size" "I" "BackLenses") (List.mem_of_getElem? (i := 2) rfl))) (fun _ h9 => h9) rfl dX1_takeLens_7 ?_
  refine lv_bipush (v := nI 6) hx hb dX1_takeLens_10 (by decide) ?_
  refine xn_icmp_lt (tgt := 25) hx hb (by omega) (by omega) dX1_takeLens_12 rfl (fun b12 => ?_) (fun b12 => ?_)
  · skip
    refine lv_aload_n hx hb dX1_takeLens_25 rfl (lv_at hl 0 rfl) ?_
    refine lv_iconst (v := nI 0) hx hb dX1_takeLens_26 (by decide) ?_
    refine lv_bipush (v := nI 9) hx hb dX1_takeLens_27 (by decide) ?_
    refine xw_i (As := [.int (nI 0), .int (nI 9)]) (rest := []) (wr := [oC kbt 0 [.int (nI w), .int (nI h), .int (nI la), .ref ka, .ref kc, .ref kl, .ref kn], oC kl 2 [.ref kln, .int (nI 6), .int (nI nl)], iA G kln (3 * 6) fl]) ⟨hx, hb, hml, hown, hts⟩ (c_X1_takeNumber l G ss.heap.size kre kbt kby rl nx kd sr vl fo pl li hto lto ct tb 0 9 (by first | assumption | omega) (by first | assumption | omega) (by first | assumption | omega) (by first | assumption | omega)) (cwV 2 hts gX1_takeLens_X1_takeNumber rfl rfl rfl (by decide +kernel) ⟨Nat.le_of_ble_eq_true rfl, Nat.le_of_ble_eq_true rfl⟩) hK hP hD hS hA [0, 4] [1, 2, 3] rfl rfl (by decide) (by decide) (by decide) rfl rfl rfl hl.1 rfl (Nat.le_of_ble_eq_true rfl) dX1_takeLens_29 ⟨Nat.le_of_ble_eq_true rfl, Nat.le_of_ble_eq_true rfl⟩ (fun r29 u H locs hp29 hP hD hS => ?_)
    obtain ⟨nx2_29, kd2_29, sr2_29, vl2_29, fo2_29, pl2_29⟩ := u
    try dsimp only at hp29 hP hD
    obtain ⟨rfl, he29⟩ := hp29
    replace hP : xP G [oC kbt 0 [.int (nI w), .int (nI h), .int (nI la), .ref ka, .ref kc, .ref kl, .ref kn], oC kl 2 [.ref kln, .int (nI 6), .int (nI nl)], iA G kln (3 * 6) fl, oC kre 1 [.ref kbt, .ref kby, .int (nI rl), .int (nI nx2_29), .int (nI kd2_29), .int (nI sr2_29), .int vl2_29, .int fo2_29, .int pl2_29, .int li, .int hto, .int lto, .int ct], bA G kby 160 tb] H := hP
    replace hD : va_D (va_A (w_X1_takeLens G kre kbt kby rl nx kd sr vl fo pl li hto lto ct ka kc kl kn w h la kln nl fl tb) ss.heap.size) [oC kbt 0 [.int (nI w), .int (nI h), .int (nI la), .ref ka, .ref kc, .ref kl, .ref kn], oC kl 2 [.ref kln, .int (nI 6), .int (nI nl)], iA G kln (3 * 6) fl, oC kre 1 [.ref kbt, .ref kby, .int (nI rl), .int (nI nx2_29), .int (nI kd2_29), .int (nI sr2_29), .int vl2_29, .int fo2_29, .int pl2_29, .int li, .int hto, .int lto, .int ct], bA G kby 160 tb] := hD
    have hn29 : nx2_29 ≤ rl := (by have hq := fNum_bd (t := tb) (rl := rl) (lo := 0) (hi := 9) (s := (nx, kd, sr, vl, fo, pl)) (by assumption); rw [← he29] at hq; exact hq.1)
    refine xb_if_ne (tgt := 37) hx hb dX1_takeLens_32 rfl (fun b32 => ?_) (fun b32 => ?_)
    · skip
      obtain ⟨k1, hk29a, hk29b, hk29⟩ := fNum_val (by omega) b32
      rw [← he29] at hk29
      replace hk29 : vl2_29 = nI k1 := hk29
      subst hk29
      refine lv_aload_n hx hb dX1_takeLens_37 rfl (lv_at hl 0 rfl) ?_
      refine va_get (D := G.1) (ci := 1) (v := .int (nI k1)) (C := RX1) (T := TX1) (N := 13) hx hb hts hin1 hown hK.1 hP 3 rfl rfl 6 (by decide) (hts (.fieldLink RX1 130 "BackLenses$Reader" "value" "I") (List.mem_of_getElem? (i := 3) rfl)) (fun _ h9 => h9) rfl dX1_takeLens_38 ?_
      refine lv_istore_n (lv' := [(1, .int (nI k1)), (0, .ref kre)]) hx hb dX1_takeLens_41 rfl hl (by decide) rfl (fun ls hl => ?_)
      refine lv_iconst (v := nI 0) hx hb dX1_takeLens_42 (by decide) ?_
      refine lv_istore_n (lv' := [(2, .int (nI 0)), (1, .int (nI k1)), (0, .ref kre)]) hx hb dX1_takeLens_43 rfl hl (by decide) rfl (fun ls hl => ?_)
      refine lv_iconst (v := nI 0) hx hb dX1_takeLens_44 (by decide) ?_
      refine lv_istore_n (lv' := [(3, .int (nI 0)), (2, .int (nI 0)), (1, .int (nI k1)), (0, .ref kre)]) hx hb dX1_takeLens_45 rfl hl (by decide) rfl (fun ls hl => ?_)
      have hL46 : ∀ k : Nat, ∀ (i : Nat) (bl : Int32) (nx3 : Nat) (kd3 : Nat) (sr3 : Nat) (vl3 : Int32) (fo3 : Int32) (pl3 : Int32) (ls : Array Slot) (H : Heap) (locs : List Loc), 17 - i = k → (i ≤ 17) → (nx3 ≤ rl) → (fLen tb rl nl fl (nx, kd, sr, vl, fo, pl) = fBli tb rl nl fl k1 (17 - i) bl (nx3, kd3, sr3, vl3, fo3, pl3)) → lv_has ls 4 [(0, .ref kre), (1, .int (nI k1)), (2, .int bl), (3, .int (nI i))] → xP G [oC kbt 0 [.int (nI w), .int (nI h), .int (nI la), .ref ka, .ref kc, .ref kl, .ref kn], bA G kby 160 tb, oC kl 2 [.ref kln, .int (nI 6), .int (nI nl)], iA G kln (3 * 6) fl, oC kre 1 [.ref kbt, .ref kby, .int (nI rl), .int (nI nx3), .int (nI kd3), .int (nI sr3), .int vl3, .int fo3, .int pl3, .int li, .int hto, .int lto, .int ct]] H → va_D (va_A (w_X1_takeLens G kre kbt kby rl nx kd sr vl fo pl li hto lto ct ka kc kl kn w h la kln nl fl tb) ss.heap.size) [oC kbt 0 [.int (nI w), .int (nI h), .int (nI la), .ref ka, .ref kc, .ref kl, .ref kn], bA G kby 160 tb, oC kl 2 [.ref kln, .int (nI 6), .int (nI nl)], iA G kln (3 * 6) fl, oC kre 1 [.ref kbt, .ref kby, .int (nI rl), .int (nI nx3), .int (nI kd3), .int (nI sr3), .int vl3, .int fo3, .int pl3, .int li, .int hto, .int lto, .int ct]] → va_S (va_A (w_X1_takeLens G kre kbt kby rl nx kd sr vl fo pl li hto lto ct ka kc kl kn w h la kln nl fl tb) ss.heap.size) ss.heap H locs → W pp l ee ({ frames := 3, cells := 0, slots := 0, locals := 66 } : Room) ss mm ([.ref kre] : List Value).toArray below mt cd H locs 0 0 (MQ below (Q_X1_takeLens G ss.heap.size kre kbt kby rl nx kd sr vl fo pl li hto lto ct ka kc kl kn w h la kln nl fl tb) ([.ref kre] : List Value).toArray ss 0 0 (va_A (w_X1_takeLens G kre kbt kby rl nx kd sr vl fo pl li hto lto ct ka kc kl kn w h la kln nl fl tb) ss.heap.size)) (F0 mm 46 ls []) := by
        intro k
        induction k using Nat.strongRecOn with
        | _ k ih46 =>
        intro i bl nx3 kd3 sr3 vl3 fo3 pl3 ls H locs hm46 hi hn3 hF hl hP hD hS
        refine lv_iload_n hx hb dX1_takeLens_46 rfl (lv_at hl 3 rfl) ?_
        refine lv_bipush (v := nI 16) hx hb dX1_takeLens_47 (by decide) ?_
        refine xn_icmp_gt (tgt := 133) hx hb (by omega) (by omega) dX1_takeLens_49 rfl (fun b49 => ?_) (fun b49 => ?_)
        · skip
          refine lv_aload_n hx hb dX1_takeLens_133 rfl (lv_at hl 0 rfl) ?_
          refine lv_iconst (v := nI 4) hx hb dX1_takeLens_134 (by decide) ?_
          refine lv_aload_n hx hb dX1_takeLens_135 rfl (lv_at hl 0 rfl) ?_
          refine va_get (D := G.1) (ci := 1) (v := .int (nI sr3)) (C := RX1) (T := TX1) (N := 13) hx hb hts hin1 hown hK.1 hP 4 rfl rfl 5 (by decide) (hts (.fieldLink RX1 95 "BackLenses$Reader" "start" "I") (List.mem_of_getElem? (i := 2) rfl)) (fun _ h9 => h9) rfl dX1_takeLens_136 ?_
          refine xw_i (As := [.int (nI 4), .int (nI sr3)]) (rest := []) (wr := [oC kbt 0 [.int (nI w), .int (nI h), .int (nI la), .ref ka, .ref kc, .ref kl, .ref kn], bA G kby 160 tb, oC kl 2 [.ref kln, .int (nI 6), .int (nI nl)], iA G kln (3 * 6) fl]) ⟨hx, hb, hml, hown, hts⟩ (c_X1_refuse l G H.size kre kbt kby rl nx3 kd3 sr3 vl3 fo3 pl3 li hto lto ct (nI 4) (nI sr3) ) (cwV 2 hts gX1_takeLens_X1_refuse rfl rfl rfl (by decide +kernel) ⟨Nat.le_of_ble_eq_true rfl, Nat.le_of_ble_eq_true rfl⟩) hK hP hD hS hA [4] [0, 1, 2, 3] rfl rfl (by decide) (by decide) (by decide) rfl rfl rfl hl.1 rfl (Nat.le_of_ble_eq_true rfl) dX1_takeLens_139 ⟨Nat.le_of_ble_eq_true rfl, Nat.le_of_ble_eq_true rfl⟩ (fun r139 u H locs hp139 hP hD hS => ?_)
          obtain rfl := hp139
          replace hP : xP G [oC kbt 0 [.int (nI w), .int (nI h), .int (nI la), .ref ka, .ref kc, .ref kl, .ref kn], bA G kby 160 tb, oC kl 2 [.ref kln, .int (nI 6), .int (nI nl)], iA G kln (3 * 6) fl, oC kre 1 [.ref kbt, .ref kby, .int (nI rl), .int (nI nx3), .int (nI kd3), .int (nI sr3), .int vl3, .int (nI 4), .int (nI sr3), .int li, .int hto, .int lto, .int ct]] H := hP
          replace hD : va_D (va_A (w_X1_takeLens G kre kbt kby rl nx kd sr vl fo pl li hto lto ct ka kc kl kn w h la kln nl fl tb) ss.heap.size) [oC kbt 0 [.int (nI w), .int (nI h), .int (nI la), .ref ka, .ref kc, .ref kl, .ref kn], bA G kby 160 tb, oC kl 2 [.ref kln, .int (nI 6), .int (nI nl)], iA G kln (3 * 6) fl, oC kre 1 [.ref kbt, .ref kby, .int (nI rl), .int (nI nx3), .int (nI kd3), .int (nI sr3), .int vl3, .int (nI 4), .int (nI sr3), .int li, .int hto, .int lto, .int ct]] := hD
          have hP := hP.sub (ws' := [oC kre 1 [.ref kbt, .ref kby, .int (nI rl), .int (nI nx3), .int (nI kd3), .int (nI sr3), .int vl3, .int (nI 4), .int (nI sr3), .int li, .int hto, .int lto, .int ct], oC kbt 0 [.int (nI w), .int (nI h), .int (nI la), .ref ka, .ref kc, .ref kl, .ref kn], oC kl 2 [.ref kln, .int (nI 6), .int (nI nl)], iA G kln (3 * 6) fl, bA G kby 160 tb]) [4, 0, 2, 3, 1] rfl
          have hD := hD.sub (ws' := [oC kre 1 [.ref kbt, .ref kby, .int (nI rl), .int (nI nx3), .int (nI kd3), .int (nI sr3), .int vl3, .int (nI 4), .int (nI sr3), .int li, .int hto, .int lto, .int ct], oC kbt 0 [.int (nI w), .int (nI h), .int (nI la), .ref ka, .ref kc, .ref kl, .ref kn], oC kl 2 [.ref kln, .int (nI 6), .int (nI nl)], iA G kln (3 * 6) fl, bA G kby 160 tb]) [4, 0, 2, 3, 1] (by decide) rfl
          refine W.zret (v := nI 0) (ty := .boolean) hx hb hr (by decide) (fun t ht hW => ⟨⟨nI 0, (nx3, kd3, sr3, vl3, (nI 4), (nI sr3), nl, fl), rfl, ?_, by rw [ht]; exact hP, hD⟩, hS.F ht⟩) hS.2.2 dX1_takeLens_142
          try dsimp only
          rw [hF, show 17 - i = 0 by omega]; exact ⟨(xb_f Bool.false_ne_true).symm, rfl⟩
        · skip
          refine lv_aload_n hx hb dX1_takeLens_52 rfl (lv_at hl 0 rfl) ?_
          refine xw_i (As := []) (rest := []) (wr := [oC kbt 0 [.int (nI w), .int (nI h), .int (nI la), .ref ka, .ref kc, .ref kl, .ref kn], oC kl 2 [.ref kln, .int (nI 6), .int (nI nl)], iA G kln (3 * 6) fl]) ⟨hx, hb, hml, hown, hts⟩ (c_X1_takeToken_f l G H.size kre kbt kby rl nx3 kd3 sr3 vl3 fo3 pl3 li hto lto ct tb (by first | assumption | omega) (by first | assumption | omega)) (cwV 0 hts gX1_takeLens_X1_takeToken rfl rfl rfl (by decide +kernel) ⟨Nat.le_of_ble_eq_true rfl, Nat.le_of_ble_eq_true rfl⟩) hK hP hD hS hA [4, 1] [0, 2, 3] rfl rfl (by decide) (by decide) (by decide) rfl rfl rfl hl.1 rfl (Nat.le_of_ble_eq_true rfl) dX1_takeLens_53 ⟨Nat.le_of_ble_eq_true rfl, Nat.le_of_ble_eq_true rfl⟩ (fun r53 u H locs hp53 hP hD hS => ?_)
          obtain ⟨nx2_53, kd2_53, sr2_53, vl2_53, fo2_53, pl2_53⟩ := u
          try dsimp only at hp53 hP hD
          obtain ⟨rfl, he53⟩ := hp53
          replace hP : xP G [oC kbt 0 [.int (nI w), .int (nI h), .int (nI la), .ref ka, .ref kc, .ref kl, .ref kn], oC kl 2 [.ref kln, .int (nI 6), .int (nI nl)], iA G kln (3 * 6) fl, oC kre 1 [.ref kbt, .ref kby, .int (nI rl), .int (nI nx2_53), .int (nI kd2_53), .int (nI sr2_53), .int vl2_53, .int fo2_53, .int pl2_53, .int li, .int hto, .int lto, .int ct], bA G kby 160 tb] H := hP
          replace hD : va_D (va_A (w_X1_takeLens G kre kbt kby rl nx kd sr vl fo pl li hto lto ct ka kc kl kn w h la kln nl fl tb) ss.heap.size) [oC kbt 0 [.int (nI w), .int (nI h), .int (nI la), .ref ka, .ref kc, .ref kl, .ref kn], oC kl 2 [.ref kln, .int (nI 6), .int (nI nl)], iA G kln (3 * 6) fl, oC kre 1 [.ref kbt, .ref kby, .int (nI rl), .int (nI nx2_53), .int (nI kd2_53), .int (nI sr2_53), .int vl2_53, .int fo2_53, .int pl2_53, .int li, .int hto, .int lto, .int ct], bA G kby 160 tb] := hD
          have hn53 : nx2_53 ≤ rl := (by have hq := fTok_bd (t := tb) (rl := rl) (s := (nx3, kd3, sr3, vl3, fo3, pl3)) hn3; rw [← he53] at hq; exact hq.1)
          have hk53 : kd2_53 ≤ 3 := (by have hk := fTok_kd (t := tb) (rl := rl) (s := (nx3, kd3, sr3, vl3, fo3, pl3)); rw [← he53] at hk; exact hk)
          refine xb_if_ne (tgt := 61) hx hb dX1_takeLens_56 rfl (fun b56 => ?_) (fun b56 => ?_)
          · skip
            refine lv_aload_n hx hb dX1_takeLens_61 rfl (lv_at hl 0 rfl) ?_
            refine va_get (D := G.1) (ci := 1) (v := .int (nI kd2_53)) (C := RX1) (T := TX1) (N := 13) hx hb hts hin1 hown hK.1 hP 3 rfl rfl 4 (by decide) (hts (.fieldLink RX1 55 "BackLenses$Reader" "kind" "I") (List.mem_of_getElem? (i := 4) rfl)) (fun _ h9 => h9) rfl dX1_takeLens_62 ?_
            refine lv_iconst (v := nI 3) hx hb dX1_takeLens_65 (by decide) ?_
            refine xn_icmp_ne (tgt := 85) hx hb (by omega) (by omega) dX1_takeLens_66 rfl (fun b66 => ?_) (fun b66 => ?_)
            · skip
              refine lv_aload_n hx hb dX1_takeLens_85 rfl (lv_at hl 0 rfl) ?_
              refine lv_iconst (v := nI 0) hx hb dX1_takeLens_86 (by decide) ?_
              refine lv_bipush (v := nI 15) hx hb dX1_takeLens_87 (by decide) ?_
              refine xw_i (As := [.int (nI 0), .int (nI 15)]) (rest := []) (wr := [oC kbt 0 [.int (nI w), .int (nI h), .int (nI la), .ref ka, .ref kc, .ref kl, .ref kn], oC kl 2 [.ref kln, .int (nI 6), .int (nI nl)], iA G kln (3 * 6) fl, bA G kby 160 tb]) ⟨hx, hb, hml, hown, hts⟩ (c_X1_isNumberWithin l G H.size kre kbt kby rl nx2_53 kd2_53 sr2_53 vl2_53 fo2_53 pl2_53 li hto lto ct 0 15 (by first | assumption | omega) (by first | assumption | omega) (by have hk := fTok_kd (t := tb) (rl := rl) (s := (nx3, kd3, sr3, vl3, fo3, pl3)); rw [← he53] at hk; dsimp only at hk; omega)) (cwV 2 hts gX1_takeLens_X1_isNumberWithin rfl rfl rfl (by decide +kernel) ⟨Nat.le_of_ble_eq_true rfl, Nat.le_of_ble_eq_true rfl⟩) hK hP hD hS hA [3] [0, 1, 2, 4] rfl rfl (by decide) (by decide) (by decide) rfl rfl rfl hl.1 rfl (Nat.le_of_ble_eq_true rfl) dX1_takeLens_89 ⟨Nat.le_of_ble_eq_true rfl, Nat.le_of_ble_eq_true rfl⟩ (fun r89 u H locs hp89 hP hD hS => ?_)
              obtain ⟨nx2_89, kd2_89, sr2_89, vl2_89, fo2_89, pl2_89⟩ := u
              try dsimp only at hp89 hP hD
              obtain ⟨rfl, he89⟩ := hp89
              replace hP : xP G [oC kbt 0 [.int (nI w), .int (nI h), .int (nI la), .ref ka, .ref kc, .ref kl, .ref kn], oC kl 2 [.ref kln, .int (nI 6), .int (nI nl)], iA G kln (3 * 6) fl, bA G kby 160 tb, oC kre 1 [.ref kbt, .ref kby, .int (nI rl), .int (nI nx2_89), .int (nI kd2_89), .int (nI sr2_89), .int vl2_89, .int fo2_89, .int pl2_89, .int li, .int hto, .int lto, .int ct]] H := hP
              replace hD : va_D (va_A (w_X1_takeLens G kre kbt kby rl nx kd sr vl fo pl li hto lto ct ka kc kl kn w h la kln nl fl tb) ss.heap.size) [oC kbt 0 [.int (nI w), .int (nI h), .int (nI la), .ref ka, .ref kc, .ref kl, .ref kn], oC kl 2 [.ref kln, .int (nI 6), .int (nI nl)], iA G kln (3 * 6) fl, bA G kby 160 tb, oC kre 1 [.ref kbt, .ref kby, .int (nI rl), .int (nI nx2_89), .int (nI kd2_89), .int (nI sr2_89), .int vl2_89, .int fo2_89, .int pl2_89, .int li, .int hto, .int lto, .int ct]] := hD
              refine xb_if_ne (tgt := 97) hx hb dX1_takeLens_92 rfl (fun b92 => ?_) (fun b92 => ?_)
              · skip
                have hw89 := he89.trans (fWit_same b92)
                cases hw89
                obtain ⟨k2, hk89a, hk89b, hk89⟩ := fWit_val (by omega) b92
                rw [fWit_same b92] at hk89
                replace hk89 : vl2_53 = nI k2 := hk89
                subst hk89
                refine lv_iload_n hx hb dX1_takeLens_97 rfl (lv_at hl 2 rfl) ?_
                refine lv_aload_n hx hb dX1_takeLens_98 rfl (lv_at hl 0 rfl) ?_
                refine va_get (D := G.1) (ci := 1) (v := .int (nI k2)) (C := RX1) (T := TX1) (N := 13) hx hb hts hin1 hown hK.1 hP 4 rfl rfl 6 (by decide) (hts (.fieldLink RX1 130 "BackLenses$Reader" "value" "I") (List.mem_of_getElem? (i := 3) rfl)) (fun _ h9 => h9) rfl dX1_takeLens_99 ?_
                refine lv_ishr hx hb dX1_takeLens_102 ?_
                refine lv_iconst (v := nI 1) hx hb dX1_takeLens_103 (by decide) ?_
                refine lv_iand hx hb dX1_takeLens_104 ?_
                refine lv_if_eq (tgt := 118) hx hb dX1_takeLens_105 rfl (fun b105 => ?_) (fun b105 => ?_)
                · skip
                  refine lv_iload_n hx hb dX1_takeLens_118 rfl (lv_at hl 2 rfl) ?_
                  refine lv_iconst (v := nI 1) hx hb dX1_takeLens_119 (by decide) ?_
                  refine lv_aload_n hx hb dX1_takeLens_120 rfl (lv_at hl 0 rfl) ?_
                  refine va_get (D := G.1) (ci := 1) (v := .int (nI k2)) (C := RX1) (T := TX1) (N := 13) hx hb hts hin1 hown hK.1 hP 4 rfl rfl 6 (by decide) (hts (.fieldLink RX1 130 "BackLenses$Reader" "value" "I") (List.mem_of_getElem? (i := 3) rfl)) (fun _ h9 => h9) rfl dX1_takeLens_121 ?_
                  refine lv_ishl hx hb dX1_takeLens_124 ?_
                  refine lv_ior hx hb dX1_takeLens_125 ?_
                  refine lv_istore_n (lv' := [(2, .int (bl ||| ((nI 1) <<< ((nI k2) &&& 31)))), (0, .ref kre), (1, .int (nI k1)), (3, .int (nI i))]) hx hb dX1_takeLens_126 rfl hl (by decide) rfl (fun ls hl => ?_)
                  refine lv_iinc (k := 3) (v := nI (i + 1)) (lv' := [(3, .int (nI (i + 1))), (2, .int (bl ||| ((nI 1) <<< ((nI k2) &&& 31)))), (0, .ref kre), (1, .int (nI k1))]) hx hb dX1_takeLens_127 hl rfl (xn_inc i 1) (by decide) rfl (fun ls hl => ?_)
                  refine lv_goto (tgt := 46) hx hb dX1_takeLens_130 rfl ?_
                  have hl := lv_sub hl (l' := [(0, .ref kre), (1, .int (nI k1)), (2, .int (bl ||| ((nI 1) <<< ((nI k2) &&& 31)))), (3, .int (nI (i + 1)))]) [2, 3, 1, 0] rfl
                  have hP := hP.sub (ws' := [oC kbt 0 [.int (nI w), .int (nI h), .int (nI la), .ref ka, .ref kc, .ref kl, .ref kn], bA G kby 160 tb, oC kl 2 [.ref kln, .int (nI 6), .int (nI nl)], iA G kln (3 * 6) fl, oC kre 1 [.ref kbt, .ref kby, .int (nI rl), .int (nI nx2_53), .int (nI kd2_53), .int (nI sr2_53), .int (nI k2), .int fo2_53, .int pl2_53, .int li, .int hto, .int lto, .int ct]]) [0, 3, 1, 2, 4] rfl
                  have hD := hD.sub (ws' := [oC kbt 0 [.int (nI w), .int (nI h), .int (nI la), .ref ka, .ref kc, .ref kl, .ref kn], bA G kby 160 tb, oC kl 2 [.ref kln, .int (nI 6), .int (nI nl)], iA G kln (3 * 6) fl, oC kre 1 [.ref kbt, .ref kby, .int (nI rl), .int (nI nx2_53), .int (nI kd2_53), .int (nI sr2_53), .int (nI k2), .int fo2_53, .int pl2_53, .int li, .int hto, .int lto, .int ct]]) [0, 3, 1, 2, 4] (by decide) rfl
                  exact ih46 (17 - (i + 1)) (by omega) (i + 1) (bl ||| ((nI 1) <<< ((nI k2) &&& 31))) nx2_53 kd2_53 sr2_53 (nI k2) fo2_53 pl2_53 ls H locs rfl (by omega) (by assumption) (by rw [hF, show 17 - i = (17 - (i + 1)) + 1 by omega]; exact fBli_4 b56 he53 b66 b92 (by omega) b105) hl hP hD hS
                · skip
                  refine lv_aload_n hx hb dX1_takeLens_108 rfl (lv_at hl 0 rfl) ?_
                  refine lv_iconst (v := nI 4) hx hb dX1_takeLens_109 (by decide) ?_
                  refine lv_aload_n hx hb dX1_takeLens_110 rfl (lv_at hl 0 rfl) ?_
                  refine va_get (D := G.1) (ci := 1) (v := .int (nI sr2_53)) (C := RX1) (T := TX1) (N := 13) hx hb hts hin1 hown hK.1 hP 4 rfl rfl 5 (by decide) (hts (.fieldLink RX1 95 "BackLenses$Reader" "start" "I") (List.mem_of_getElem? (i := 2) rfl)) (fun _ h9 => h9) rfl dX1_takeLens_111 ?_
                  refine xw_i (As := [.int (nI 4), .int (nI sr2_53)]) (rest := []) (wr := [oC kbt 0 [.int (nI w), .int (nI h), .int (nI la), .ref ka, .ref kc, .ref kl, .ref kn], oC kl 2 [.ref kln, .int (nI 6), .int (nI nl)], iA G kln (3 * 6) fl, bA G kby 160 tb]) ⟨hx, hb, hml, hown, hts⟩ (c_X1_refuse l G H.size kre kbt kby rl nx2_53 kd2_53 sr2_53 (nI k2) fo2_53 pl2_53 li hto lto ct (nI 4) (nI sr2_53) ) (cwV 2 hts gX1_takeLens_X1_refuse rfl rfl rfl (by decide +kernel) ⟨Nat.le_of_ble_eq_true rfl, Nat.le_of_ble_eq_true rfl⟩) hK hP hD hS hA [4] [0, 1, 2, 3] rfl rfl (by decide) (by decide) (by decide) rfl rfl rfl hl.1 rfl (Nat.le_of_ble_eq_true rfl) dX1_takeLens_114 ⟨Nat.le_of_ble_eq_true rfl, Nat.le_of_ble_eq_true rfl⟩ (fun r114 u H locs hp114 hP hD hS => ?_)
                  obtain rfl := hp114
                  replace hP : xP G [oC kbt 0 [.int (nI w), .int (nI h), .int (nI la), .ref ka, .ref kc, .ref kl, .ref kn], oC kl 2 [.ref kln, .int (nI 6), .int (nI nl)], iA G kln (3 * 6) fl, bA G kby 160 tb, oC kre 1 [.ref kbt, .ref kby, .int (nI rl), .int (nI nx2_53), .int (nI kd2_53), .int (nI sr2_53), .int (nI k2), .int (nI 4), .int (nI sr2_53), .int li, .int hto, .int lto, .int ct]] H := hP
                  replace hD : va_D (va_A (w_X1_takeLens G kre kbt kby rl nx kd sr vl fo pl li hto lto ct ka kc kl kn w h la kln nl fl tb) ss.heap.size) [oC kbt 0 [.int (nI w), .int (nI h), .int (nI la), .ref ka, .ref kc, .ref kl, .ref kn], oC kl 2 [.ref kln, .int (nI 6), .int (nI nl)], iA G kln (3 * 6) fl, bA G kby 160 tb, oC kre 1 [.ref kbt, .ref kby, .int (nI rl), .int (nI nx2_53), .int (nI kd2_53), .int (nI sr2_53), .int (nI k2), .int (nI 4), .int (nI sr2_53), .int li, .int hto, .int lto, .int ct]] := hD
                  have hP := hP.sub (ws' := [oC kre 1 [.ref kbt, .ref kby, .int (nI rl), .int (nI nx2_53), .int (nI kd2_53), .int (nI sr2_53), .int (nI k2), .int (nI 4), .int (nI sr2_53), .int li, .int hto, .int lto, .int ct], oC kbt 0 [.int (nI w), .int (nI h), .int (nI la), .ref ka, .ref kc, .ref kl, .ref kn], oC kl 2 [.ref kln, .int (nI 6), .int (nI nl)], iA G kln (3 * 6) fl, bA G kby 160 tb]) [4, 0, 1, 2, 3] rfl
                  have hD := hD.sub (ws' := [oC kre 1 [.ref kbt, .ref kby, .int (nI rl), .int (nI nx2_53), .int (nI kd2_53), .int (nI sr2_53), .int (nI k2), .int (nI 4), .int (nI sr2_53), .int li, .int hto, .int lto, .int ct], oC kbt 0 [.int (nI w), .int (nI h), .int (nI la), .ref ka, .ref kc, .ref kl, .ref kn], oC kl 2 [.ref kln, .int (nI 6), .int (nI nl)], iA G kln (3 * 6) fl, bA G kby 160 tb]) [4, 0, 1, 2, 3] (by decide) rfl
                  refine W.zret (v := nI 0) (ty := .boolean) hx hb hr (by decide) (fun t ht hW => ⟨⟨nI 0, (nx2_53, kd2_53, sr2_53, (nI k2), (nI 4), (nI sr2_53), nl, fl), rfl, ?_, by rw [ht]; exact hP, hD⟩, hS.F ht⟩) hS.2.2 dX1_takeLens_117
                  try dsimp only
                  rw [hF, show 17 - i = (17 - (i + 1)) + 1 by omega, fBli_3 b56 he53 b66 b92 (by omega) b105]; exact ⟨(xb_f Bool.false_ne_true).symm, rfl⟩
              · skip
                refine lv_iconst (v := nI 0) hx hb dX1_takeLens_95 (by decide) ?_
                have hP := hP.sub (ws' := [oC kre 1 [.ref kbt, .ref kby, .int (nI rl), .int (nI nx2_89), .int (nI kd2_89), .int (nI sr2_89), .int vl2_89, .int fo2_89, .int pl2_89, .int li, .int hto, .int lto, .int ct], oC kbt 0 [.int (nI w), .int (nI h), .int (nI la), .ref ka, .ref kc, .ref kl, .ref kn], oC kl 2 [.ref kln, .int (nI 6), .int (nI nl)], iA G kln (3 * 6) fl, bA G kby 160 tb]) [4, 0, 1, 2, 3] rfl
                have hD := hD.sub (ws' := [oC kre 1 [.ref kbt, .ref kby, .int (nI rl), .int (nI nx2_89), .int (nI kd2_89), .int (nI sr2_89), .int vl2_89, .int fo2_89, .int pl2_89, .int li, .int hto, .int lto, .int ct], oC kbt 0 [.int (nI w), .int (nI h), .int (nI la), .ref ka, .ref kc, .ref kl, .ref kn], oC kl 2 [.ref kln, .int (nI 6), .int (nI nl)], iA G kln (3 * 6) fl, bA G kby 160 tb]) [4, 0, 1, 2, 3] (by decide) rfl
                refine W.zret (v := nI 0) (ty := .boolean) hx hb hr (by decide) (fun t ht hW => ⟨⟨nI 0, (nx2_89, kd2_89, sr2_89, vl2_89, fo2_89, pl2_89, nl, fl), rfl, ?_, by rw [ht]; exact hP, hD⟩, hS.F ht⟩) hS.2.2 dX1_takeLens_96
                try dsimp only
                rw [hF, show 17 - i = (17 - (i + 1)) + 1 by omega, fBli_2 b56 he53 b66 b92]; exact ⟨(xb_f Bool.false_ne_true).symm, congrArg (fun a => (a, _)) he89⟩
            · skip
              refine lv_aload_n hx hb dX1_takeLens_69 rfl (lv_at hl 0 rfl) ?_
              refine va_get (D := G.1) (ci := 1) (v := .ref kbt) (C := RX1) (T := TX1) (N := 13) hx hb hts hin1 hown hK.1 hP 3 rfl rfl 0 (by decide) (hts (.fieldLink RX1 12 "BackLenses$Reader" "target" "LBackLenses$Book;") (List.mem_of_getElem? (i := 1) rfl)) (fun _ h9 => h9) rfl dX1_takeLens_70 ?_
              refine va_getN (D := G.1) (ci := 0) (v := .ref kl) (C := RX0) (T := TX0) (N := 7) hx hb hts hin0 hown hK.1 hP 0 rfl rfl 5 (by decide) (va_Nw.use rfl (hK.2 (Cond.fieldLinkNest "BackLenses$Reader" (92 : Nat) "BackLenses$Book" "lenses" "LBackLenses$Rows;" "BackLenses") (List.mem_of_getElem? (i := 19) rfl))) (fun _ h9 => h9) rfl dX1_takeLens_73 ?_
              refine lv_iload_n hx hb dX1_takeLens_76 rfl (lv_at hl 1 rfl) ?_
              refine lv_iload_n hx hb dX1_takeLens_77 rfl (lv_at hl 2 rfl) ?_
              refine lv_iconst (v := nI 0) hx hb dX1_takeLens_78 (by decide) ?_
              refine xw_i (As := [.int (nI k1), .int bl, .int (nI 0)]) (rest := []) (wr := [oC kbt 0 [.int (nI w), .int (nI h), .int (nI la), .ref ka, .ref kc, .ref kl, .ref kn], oC kre 1 [.ref kbt, .ref kby, .int (nI rl), .int (nI nx2_53), .int (nI kd2_53), .int (nI sr2_53), .int vl2_53, .int fo2_53, .int pl2_53, .int li, .int hto, .int lto, .int ct], bA G kby 160 tb]) ⟨hx, hb, hml, hown, hts⟩ (c_X2_add l G H.size kl kln 6 nl fl (nI k1) bl (nI 0) (by first | assumption | omega) (by first | assumption | omega)) (cwV 3 hts gX1_takeLens_X2_add rfl rfl rfl (by decide +kernel) ⟨Nat.le_of_ble_eq_true rfl, Nat.le_of_ble_eq_true rfl⟩) hK hP hD hS hA [1, 2] [0, 3, 4] rfl rfl (by decide) (by decide) (by decide) rfl rfl rfl hl.1 rfl (Nat.le_of_ble_eq_true rfl) dX1_takeLens_79 ⟨Nat.le_of_ble_eq_true rfl, Nat.le_of_ble_eq_true rfl⟩ (fun r79 u H locs hp79 hP hD hS => ?_)
              obtain ⟨u0_79, u1_79⟩ := u
              try dsimp only at hp79 hP hD
              obtain ⟨rfl, rfl, rfl⟩ := hp79
              replace hP : xP G [oC kbt 0 [.int (nI w), .int (nI h), .int (nI la), .ref ka, .ref kc, .ref kl, .ref kn], oC kre 1 [.ref kbt, .ref kby, .int (nI rl), .int (nI nx2_53), .int (nI kd2_53), .int (nI sr2_53), .int vl2_53, .int fo2_53, .int pl2_53, .int li, .int hto, .int lto, .int ct], bA G kby 160 tb, oC kl 2 [.ref kln, .int (nI 6), .int (nI (if nl < 6 then nl + 1 else nl))], iA G kln (3 * 6) (if nl < 6 then upd (upd (upd fl (3 * nl) (nI k1)) (3 * nl + 1) bl) (3 * nl + 2) (nI 0) else fl)] H := hP
              replace hD : va_D (va_A (w_X1_takeLens G kre kbt kby rl nx kd sr vl fo pl li hto lto ct ka kc kl kn w h la kln nl fl tb) ss.heap.size) [oC kbt 0 [.int (nI w), .int (nI h), .int (nI la), .ref ka, .ref kc, .ref kl, .ref kn], oC kre 1 [.ref kbt, .ref kby, .int (nI rl), .int (nI nx2_53), .int (nI kd2_53), .int (nI sr2_53), .int vl2_53, .int fo2_53, .int pl2_53, .int li, .int hto, .int lto, .int ct], bA G kby 160 tb, oC kl 2 [.ref kln, .int (nI 6), .int (nI (if nl < 6 then nl + 1 else nl))], iA G kln (3 * 6) (if nl < 6 then upd (upd (upd fl (3 * nl) (nI k1)) (3 * nl + 1) bl) (3 * nl + 2) (nI 0) else fl)] := hD
              refine lv_pop hx hb dX1_takeLens_82 rfl ?_
              refine lv_iconst (v := nI 1) hx hb dX1_takeLens_83 (by decide) ?_
              have hP := hP.sub (ws' := [oC kre 1 [.ref kbt, .ref kby, .int (nI rl), .int (nI nx2_53), .int (nI kd2_53), .int (nI sr2_53), .int vl2_53, .int fo2_53, .int pl2_53, .int li, .int hto, .int lto, .int ct], oC kbt 0 [.int (nI w), .int (nI h), .int (nI la), .ref ka, .ref kc, .ref kl, .ref kn], oC kl 2 [.ref kln, .int (nI 6), .int (nI (if nl < 6 then nl + 1 else nl))], iA G kln (3 * 6) (if nl < 6 then upd (upd (upd fl (3 * nl) (nI k1)) (3 * nl + 1) bl) (3 * nl + 2) (nI 0) else fl), bA G kby 160 tb]) [1, 0, 3, 4, 2] rfl
              have hD := hD.sub (ws' := [oC kre 1 [.ref kbt, .ref kby, .int (nI rl), .int (nI nx2_53), .int (nI kd2_53), .int (nI sr2_53), .int vl2_53, .int fo2_53, .int pl2_53, .int li, .int hto, .int lto, .int ct], oC kbt 0 [.int (nI w), .int (nI h), .int (nI la), .ref ka, .ref kc, .ref kl, .ref kn], oC kl 2 [.ref kln, .int (nI 6), .int (nI (if nl < 6 then nl + 1 else nl))], iA G kln (3 * 6) (if nl < 6 then upd (upd (upd fl (3 * nl) (nI k1)) (3 * nl + 1) bl) (3 * nl + 2) (nI 0) else fl), bA G kby 160 tb]) [1, 0, 3, 4, 2] (by decide) rfl
              refine W.zret (v := nI 1) (ty := .boolean) hx hb hr (by decide) (fun t ht hW => ⟨⟨nI 1, (nx2_53, kd2_53, sr2_53, vl2_53, fo2_53, pl2_53, (if nl < 6 then nl + 1 else nl), (if nl < 6 then upd (upd (upd fl (3 * nl) (nI k1)) (3 * nl + 1) bl) (3 * nl + 2) (nI 0) else fl)), rfl, ?_, by rw [ht]; exact hP, hD⟩, hS.F ht⟩) hS.2.2 dX1_takeLens_84
              try dsimp only
              rw [hF, show 17 - i = (17 - (i + 1)) + 1 by omega, fBli_1 b56 he53 b66]; rw [if_pos (by omega), if_pos (by omega)]; exact ⟨(xb_t rfl).symm, rfl⟩
          · skip
            refine lv_iconst (v := nI 0) hx hb dX1_takeLens_59 (by decide) ?_
            have hP := hP.sub (ws' := [oC kre 1 [.ref kbt, .ref kby, .int (nI rl), .int (nI nx2_53), .int (nI kd2_53), .int (nI sr2_53), .int vl2_53, .int fo2_53, .int pl2_53, .int li, .int hto, .int lto, .int ct], oC kbt 0 [.int (nI w), .int (nI h), .int (nI la), .ref ka, .ref kc, .ref kl, .ref kn], oC kl 2 [.ref kln, .int (nI 6), .int (nI nl)], iA G kln (3 * 6) fl, bA G kby 160 tb]) [3, 0, 1, 2, 4] rfl
            have hD := hD.sub (ws' := [oC kre 1 [.ref kbt, .ref kby, .int (nI rl), .int (nI nx2_53), .int (nI kd2_53), .int (nI sr2_53), .int vl2_53, .int fo2_53, .int pl2_53, .int li, .int hto, .int lto, .int ct], oC kbt 0 [.int (nI w), .int (nI h), .int (nI la), .ref ka, .ref kc, .ref kl, .ref kn], oC kl 2 [.ref kln, .int (nI 6), .int (nI nl)], iA G kln (3 * 6) fl, bA G kby 160 tb]) [3, 0, 1, 2, 4] (by decide) rfl
            refine W.zret (v := nI 0) (ty := .boolean) hx hb hr (by decide) (fun t ht hW => ⟨⟨nI 0, (nx2_53, kd2_53, sr2_53, vl2_53, fo2_53, pl2_53, nl, fl), rfl, ?_, by rw [ht]; exact hP, hD⟩, hS.F ht⟩) hS.2.2 dX1_takeLens_60
            try dsimp only
            rw [hF, show 17 - i = (17 - (i + 1)) + 1 by omega, fBli_0 b56, ← he53]; exact ⟨(xb_f Bool.false_ne_true).symm, rfl⟩
      have hl := lv_sub hl (l' := [(0, .ref kre), (1, .int (nI k1)), (2, .int (nI 0)), (3, .int (nI 0))]) [3, 2, 1, 0] rfl
      have hP := hP.sub (ws' := [oC kbt 0 [.int (nI w), .int (nI h), .int (nI la), .ref ka, .ref kc, .ref kl, .ref kn], bA G kby 160 tb, oC kl 2 [.ref kln, .int (nI 6), .int (nI nl)], iA G kln (3 * 6) fl, oC kre 1 [.ref kbt, .ref kby, .int (nI rl), .int (nI nx2_29), .int (nI kd2_29), .int (nI sr2_29), .int (nI k1), .int fo2_29, .int pl2_29, .int li, .int hto, .int lto, .int ct]]) [0, 4, 1, 2, 3] rfl
      have hD := hD.sub (ws' := [oC kbt 0 [.int (nI w), .int (nI h), .int (nI la), .ref ka, .ref kc, .ref kl, .ref kn], bA G kby 160 tb, oC kl 2 [.ref kln, .int (nI 6), .int (nI nl)], iA G kln (3 * 6) fl, oC kre 1 [.ref kbt, .ref kby, .int (nI rl), .int (nI nx2_29), .int (nI kd2_29), .int (nI sr2_29), .int (nI k1), .int fo2_29, .int pl2_29, .int li, .int hto, .int lto, .int ct]]) [0, 4, 1, 2, 3] (by decide) rfl
      exact hL46 (17 - 0) 0 (nI 0) nx2_29 kd2_29 sr2_29 (nI k1) fo2_29 pl2_29 ls H locs rfl (by omega) (by assumption) (by exact (if_pos b12).trans (bN_ok b32 he29 (by omega))) hl hP hD hS
    · skip
      refine lv_iconst (v := nI 0) hx hb dX1_takeLens_35 (by decide) ?_
      have hP := hP.sub (ws' := [oC kre 1 [.ref kbt, .ref kby, .int (nI rl), .int (nI nx2_29), .int (nI kd2_29), .int (nI sr2_29), .int vl2_29, .int fo2_29, .int pl2_29, .int li, .int hto, .int lto, .int ct], oC kbt 0 [.int (nI w), .int (nI h), .int (nI la), .ref ka, .ref kc, .ref kl, .ref kn], oC kl 2 [.ref kln, .int (nI 6), .int (nI nl)], iA G kln (3 * 6) fl, bA G kby 160 tb]) [3, 0, 1, 2, 4] rfl
      have hD := hD.sub (ws' := [oC kre 1 [.ref kbt, .ref kby, .int (nI rl), .int (nI nx2_29), .int (nI kd2_29), .int (nI sr2_29), .int vl2_29, .int fo2_29, .int pl2_29, .int li, .int hto, .int lto, .int ct], oC kbt 0 [.int (nI w), .int (nI h), .int (nI la), .ref ka, .ref kc, .ref kl, .ref kn], oC kl 2 [.ref kln, .int (nI 6), .int (nI nl)], iA G kln (3 * 6) fl, bA G kby 160 tb]) [3, 0, 1, 2, 4] (by decide) rfl
      refine W.zret (v := nI 0) (ty := .boolean) hx hb hr (by decide) (fun t ht hW => ⟨⟨nI 0, (nx2_29, kd2_29, sr2_29, vl2_29, fo2_29, pl2_29, nl, fl), rfl, ?_, by rw [ht]; exact hP, hD⟩, hS.F ht⟩) hS.2.2 dX1_takeLens_36
      try dsimp only
      rw [show fLen tb rl nl fl (nx, kd, sr, vl, fo, pl) = _ from (if_pos b12).trans (bN_no b32 he29)]; exact ⟨(xb_f Bool.false_ne_true).symm, rfl⟩
  · skip
    refine lv_aload_n hx hb dX1_takeLens_15 rfl (lv_at hl 0 rfl) ?_
    refine lv_iconst (v := nI 5) hx hb dX1_takeLens_16 (by decide) ?_
    refine lv_aload_n hx hb dX1_takeLens_17 rfl (lv_at hl 0 rfl) ?_
    refine va_get (D := G.1) (ci := 1) (v := .int (nI sr)) (C := RX1) (T := TX1) (N := 13) hx hb hts hin1 hown hK.1 hP 0 rfl rfl 5 (by decide) (hts (.fieldLink RX1 95 "BackLenses$Reader" "start" "I") (List.mem_of_getElem? (i := 2) rfl)) (fun _ h9 => h9) rfl dX1_takeLens_18 ?_
    refine xw_i (As := [.int (nI 5), .int (nI sr)]) (rest := []) (wr := [oC kbt 0 [.int (nI w), .int (nI h), .int (nI la), .ref ka, .ref kc, .ref kl, .ref kn], oC kl 2 [.ref kln, .int (nI 6), .int (nI nl)], iA G kln (3 * 6) fl, bA G kby 160 tb]) ⟨hx, hb, hml, hown, hts⟩ (c_X1_refuse l G ss.heap.size kre kbt kby rl nx kd sr vl fo pl li hto lto ct (nI 5) (nI sr) ) (cwV 2 hts gX1_takeLens_X1_refuse rfl rfl rfl (by decide +kernel) ⟨Nat.le_of_ble_eq_true rfl, Nat.le_of_ble_eq_true rfl⟩) hK hP hD hS hA [0] [1, 2, 3, 4] rfl rfl (by decide) (by decide) (by decide) rfl rfl rfl hl.1 rfl (Nat.le_of_ble_eq_true rfl) dX1_takeLens_21 ⟨Nat.le_of_ble_eq_true rfl, Nat.le_of_ble_eq_true rfl⟩ (fun r21 u H locs hp21 hP hD hS => ?_)
    obtain rfl := hp21
    replace hP : xP G [oC kbt 0 [.int (nI w), .int (nI h), .int (nI la), .ref ka, .ref kc, .ref kl, .ref kn], oC kl 2 [.ref kln, .int (nI 6), .int (nI nl)], iA G kln (3 * 6) fl, bA G kby 160 tb, oC kre 1 [.ref kbt, .ref kby, .int (nI rl), .int (nI nx), .int (nI kd), .int (nI sr), .int vl, .int (nI 5), .int (nI sr), .int li, .int hto, .int lto, .int ct]] H := hP
    replace hD : va_D (va_A (w_X1_takeLens G kre kbt kby rl nx kd sr vl fo pl li hto lto ct ka kc kl kn w h la kln nl fl tb) ss.heap.size) [oC kbt 0 [.int (nI w), .int (nI h), .int (nI la), .ref ka, .ref kc, .ref kl, .ref kn], oC kl 2 [.ref kln, .int (nI 6), .int (nI nl)], iA G kln (3 * 6) fl, bA G kby 160 tb, oC kre 1 [.ref kbt, .ref kby, .int (nI rl), .int (nI nx), .int (nI kd), .int (nI sr), .int vl, .int (nI 5), .int (nI sr), .int li, .int hto, .int lto, .int ct]] := hD
    have hP := hP.sub (ws' := [oC kre 1 [.ref kbt, .ref kby, .int (nI rl), .int (nI nx), .int (nI kd), .int (nI sr), .int vl, .int (nI 5), .int (nI sr), .int li, .int hto, .int lto, .int ct], oC kbt 0 [.int (nI w), .int (nI h), .int (nI la), .ref ka, .ref kc, .ref kl, .ref kn], oC kl 2 [.ref kln, .int (nI 6), .int (nI nl)], iA G kln (3 * 6) fl, bA G kby 160 tb]) [4, 0, 1, 2, 3] rfl
    have hD := hD.sub (ws' := [oC kre 1 [.ref kbt, .ref kby, .int (nI rl), .int (nI nx), .int (nI kd), .int (nI sr), .int vl, .int (nI 5), .int (nI sr), .int li, .int hto, .int lto, .int ct], oC kbt 0 [.int (nI w), .int (nI h), .int (nI la), .ref ka, .ref kc, .ref kl, .ref kn], oC kl 2 [.ref kln, .int (nI 6), .int (nI nl)], iA G kln (3 * 6) fl, bA G kby 160 tb]) [4, 0, 1, 2, 3] (by decide) rfl
    refine W.zret (v := nI 0) (ty := .boolean) hx hb hr (by decide) (fun t ht hW => ⟨⟨nI 0, (nx, kd, sr, vl, (nI 5), (nI sr), nl, fl), rfl, ?_, by rw [ht]; exact hP, hD⟩, hS.F ht⟩) hS.2.2 dX1_takeLens_24
    try dsimp only
    rw [show fLen tb rl nl fl (nx, kd, sr, vl, fo, pl) = _ from if_neg (by omega)]; exact ⟨(xb_f Bool.false_ne_true).symm, rfl⟩
end
section
abbrev w_X1_allIsThere (G : XG) (kre kbt kby : Nat) (rl nx kd sr : Nat) (vl fo pl li hto lto ct : Int32) (ka kc kl kn : Nat) (w h la : Nat) (kcn kln nc nl : Nat) (fc fl : Nat → Int32) : va_W := [oC kre 1 [.ref kbt, .ref kby, .int (nI rl), .int (nI nx), .int (nI kd), .int (nI sr), .int vl, .int fo, .int pl, .int li, .int hto, .int lto, .int ct], oC kbt 0 [.int (nI w), .int (nI h), .int (nI la), .ref ka, .ref kc, .ref kl, .ref kn], oC kc 2 [.ref kcn, .int (nI 10), .int (nI nc)], iA G kcn (3 * 10) fc, oC kl 2 [.ref kln, .int (nI 6), .int (nI nl)], iA G kln (3 * 6) fl]
abbrev Q_X1_allIsThere (G : XG) (kre kbt kby : Nat) (rl nx kd sr : Nat) (vl fo pl li hto lto ct : Int32) (ka kc kl kn : Nat) (w h la : Nat) (kcn kln nc nl : Nat) (fc fl : Nat → Int32) : Array Value → State → Outcome → State → Prop := (xRi (fun r => (r = xb ((∀ i, i < nc → inR (fc (3 * i + 0)) (la + 1) ∧ inR (fc (3 * i + 1)) (w * h)) ∧ (∀ i, i < nl → inR (fl (3 * i + 0)) (la + 1) ∧ xu (fl (3 * i + 1)) (nI (w * h)) = nI 0) ∧ xu ct (nI (w * h)) = nI 0))))
set_option maxHeartbeats 4000000 in
set_option maxRecDepth 100000 in
theorem c_X1_allIsThere (l : Launch) (G : XG) (kre kbt kby : Nat) (rl nx kd sr : Nat) (vl fo pl li hto lto ct : Int32) (ka kc kl kn : Nat) (w h la : Nat) (kcn kln nc nl : Nat) (fc fl : Nat → Int32) (hnc : nc ≤ 10) (hnl : nl ≤ 6) (hwh : w * h ≤ 16) (hla : la ≤ 9) : Met l yX1_allIsThere wsX1_allIsThere ({ frames := 1, cells := 0, slots := 0, locals := 22 } : Room) (va_Pc [.ref kre] (xRp G (w_X1_allIsThere G kre kbt kby rl nx kd sr vl fo pl li hto lto ct ka kc kl kn w h la kcn kln nc nl fc fl))) (Q_X1_allIsThere G kre kbt kby rl nx kd sr vl fo pl li hto lto ct ka kc kl kn w h la kcn kln nc nl fc fl) 0 0 (fun _ => False) := by
  refine Met.ofW (cc := cX1_allIsThere) (maxL := 3) (ret := (some .boolean)) (by decide) rfl ?_
  intro pp ee ss mm aa below mt cd s₁ BB hml hv
  obtain ⟨rfl, hP, hK⟩ := hv
  have hx := BB.exec
  have hb := BB.bytes
  have hr := BB.returns
  have hts := atoms_spec (ws := wsX1_allIsThere) BB.pre
  have hown : ss.vm.findClass RX1 = some mm.cls := findClass_of_methodNamed BB.named
  have hlocks := BB.notSynchronized
  have hS : va_S (fun _ => False) ss.heap ss.heap [] := va_S.rf
  replace hP : xP G [oC kre 1 [.ref kbt, .ref kby, .int (nI rl), .int (nI nx), .int (nI kd), .int (nI sr), .int vl, .int fo, .int pl, .int li, .int hto, .int lto, .int ct], oC kbt 0 [.int (nI w), .int (nI h), .int (nI la), .ref ka, .ref kc, .ref kl, .ref kn], oC kc 2 [.ref kcn, .int (nI 10), .int (nI nc)], iA G kcn (3 * 10) fc, oC kl 2 [.ref kln, .int (nI 6), .int (nI nl)], iA G kln (3 * 6) fl] ss.heap := hP
  have hin0 : ∀ w ∈ u_ws RX0 TX0 7, w ∈ wsX1_allIsThere := fun w h => List.mem_cons_of_mem _ (List.mem_append_left _ (List.mem_append_right _ h))
  have hin1 : ∀ w ∈ u_ws RX1 TX1 13, w ∈ wsX1_allIsThere := fun w h => List.mem_cons_of_mem _ (List.mem_append_left _ (List.mem_append_left _ (List.mem_append_right _ h)))
  have hin2 : ∀ w ∈ u_ws RX2 TX2 3, w ∈ wsX1_allIsThere := fun w h => List.mem_cons_of_mem _ (List.mem_append_right _ h)
  have hl := lv_entry ([.ref kre]) (n := 3) (Nat.le_of_ble_eq_true rfl)
  rw [lg_entry_eq]
  generalize (lg_sl ([.ref kre]) ++ List.replicate (3 - (lg_sl ([.ref kre])).length) Slot.unset).toArray = ls at hl ⊢
  replace hl : lv_has ls 3 [(0, .ref kre)] := hl
  refine lv_aload_n hx hb dX1_allIsThere_0 rfl (lv_at hl 0 rfl) ?_
  refine va_get (D := G.1) (ci := 1) (v := .ref kbt) (C := RX1) (T := TX1) (N := 13) hx hb hts hin1 hown hK.1 hP 0 rfl rfl 0 (by decide) (hts (.fieldLink RX1 12 "BackLenses$Reader" "target" "LBackLenses$Book;") (List.mem_of_getElem? (i := 1) rfl)) (fun _ h9 => h9) rfl dX1_allIsThere_1 ?_
  refine xr_i (As := []) (rest := []) ⟨hx, hb, hml, hown, hts⟩ (c_X0_cells l G kbt ka kc kl kn w h la ) (cwV 0 hts gX1_allIsThere_X0_cells rfl rfl rfl (by decide +kernel) ⟨Nat.le_of_ble_eq_true rfl, Nat.le_of_ble_eq_true rfl⟩) hK hP hS [1] rfl rfl rfl rfl hl.1 rfl (Nat.le_of_ble_eq_true rfl) dX1_allIsThere_4 ⟨Nat.zero_le _, Nat.zero_le _⟩ (fun r4 H locs hp4 hP hS => ?_)
  rw [show r4 = _ from hp4]
  refine lv_istore_n (lv' := [(1, .int (nI (w * h))), (0, .ref kre)]) hx hb dX1_allIsThere_7 rfl hl (by decide) rfl (fun ls hl => ?_)
  refine lv_iconst (v := nI 0) hx hb dX1_allIsThere_8 (by decide) ?_
  refine lv_istore_n (lv' := [(2, .int (nI 0)), (1, .int (nI (w * h))), (0, .ref kre)]) hx hb dX1_allIsThere_9 rfl hl (by decide) rfl (fun ls hl => ?_)
  have hL10 : ∀ k : Nat, ∀ (i : Nat) (ls : Array Slot) (H : Heap) (locs : List Loc), nc - i = k → (i ≤ nc) → (∀ j, j < i → inR (fc (3 * j + 0)) (la + 1) ∧ inR (fc (3 * j + 1)) (w * h)) → lv_has ls 3 [(0, .ref kre), (1, .int (nI (w * h))), (2, .int (nI i))] → xP G [oC kbt 0 [.int (nI w), .int (nI h), .int (nI la), .ref ka, .ref kc, .ref kl, .ref kn], oC kc 2 [.ref kcn, .int (nI 10), .int (nI nc)], iA G kcn (3 * 10) fc, oC kl 2 [.ref kln, .int (nI 6), .int (nI nl)], iA G kln (3 * 6) fl, oC kre 1 [.ref kbt, .ref kby, .int (nI rl), .int (nI nx), .int (nI kd), .int (nI sr), .int vl, .int fo, .int pl, .int li, .int hto, .int lto, .int ct]] H → va_S (fun _ => False) ss.heap H locs → W pp l ee ({ frames := 1, cells := 0, slots := 0, locals := 22 } : Room) ss mm ([.ref kre] : List Value).toArray below mt cd H locs 0 0 (MQ below (Q_X1_allIsThere G kre kbt kby rl nx kd sr vl fo pl li hto lto ct ka kc kl kn w h la kcn kln nc nl fc fl) ([.ref kre] : List Value).toArray ss 0 0 (fun _ => False)) (F0 mm 10 ls []) := by
    intro k
    induction k using Nat.strongRecOn with
    | _ k ih10 =>
    intro i ls H locs hm10 hi hT hl hP hS
    refine lv_iload_n hx hb dX1_allIsThere_10 rfl (lv_at hl 2 rfl) ?_
    refine lv_aload_n hx hb dX1_allIsThere_11 rfl (lv_at hl 0 rfl) ?_
    refine va_get (D := G.1) (ci := 1) (v := .ref kbt) (C := RX1) (T := TX1) (N := 13) hx hb hts hin1 hown hK.1 hP 5 rfl rfl 0 (by decide) (hts (.fieldLink RX1 12 "BackLenses$Reader" "target" "LBackLenses$Book;") (List.mem_of_getElem? (i := 1) rfl)) (fun _ h9 => h9) rfl dX1_allIsThere_12 ?_
    refine va_getN (D := G.1) (ci := 0) (v := .ref kc) (C := RX0) (T := TX0) (N := 7) hx hb hts hin0 hown hK.1 hP 0 rfl rfl 4 (by decide) (va_Nw.use rfl (hK.2 (Cond.fieldLinkNest "BackLenses$Reader" (72 : Nat) "BackLenses$Book" "changes" "LBackLenses$Rows;" "BackLenses") (List.mem_of_getElem? (i := 17) rfl))) (fun _ h9 => h9) rfl dX1_allIsThere_15 ?_
    refine va_getN (D := G.1) (ci := 2) (v := .int (nI nc)) (C := RX2) (T := TX2) (N := 3) hx hb hts hin2 hown hK.1 hP 1 rfl rfl 2 (by decide) (va_Nw.use rfl (hK.2 (Cond.fieldLinkNest "BackLenses$Reader" (76 : Nat) "BackLenses$Rows" "size" "I" "BackLenses") (List.mem_of_getElem? (i := 2) rfl))) (fun _ h9 => h9) rfl dX1_allIsThere_18 ?_
    refine xn_icmp_ge (tgt := 76) hx hb (by omega) (by omega) dX1_allIsThere_21 rfl (fun b21 => ?_) (fun b21 => ?_)
    · skip
      have hC : ∀ j, j < nc → inR (fc (3 * j + 0)) (la + 1) ∧ inR (fc (3 * j + 1)) (w * h) := fun j hj => hT j (by omega)
      refine lv_iconst (v := nI 0) hx hb dX1_allIsThere_76 (by decide) ?_
      refine lv_istore_n (lv' := [(2, .int (nI 0)), (0, .ref kre), (1, .int (nI (w * h)))]) hx hb dX1_allIsThere_77 rfl hl (by decide) rfl (fun ls hl => ?_)
      have hL78 : ∀ k : Nat, ∀ (i : Nat) (ls : Array Slot) (H : Heap) (locs : List Loc), nl - i = k → (i ≤ nl) → (∀ j, j < i → inR (fl (3 * j + 0)) (la + 1) ∧ xu (fl (3 * j + 1)) (nI (w * h)) = nI 0) → lv_has ls 3 [(0, .ref kre), (1, .int (nI (w * h))), (2, .int (nI i))] → xP G [oC kbt 0 [.int (nI w), .int (nI h), .int (nI la), .ref ka, .ref kc, .ref kl, .ref kn], oC kc 2 [.ref kcn, .int (nI 10), .int (nI nc)], iA G kcn (3 * 10) fc, oC kl 2 [.ref kln, .int (nI 6), .int (nI nl)], iA G kln (3 * 6) fl, oC kre 1 [.ref kbt, .ref kby, .int (nI rl), .int (nI nx), .int (nI kd), .int (nI sr), .int vl, .int fo, .int pl, .int li, .int hto, .int lto, .int ct]] H → va_S (fun _ => False) ss.heap H locs → W pp l ee ({ frames := 1, cells := 0, slots := 0, locals := 22 } : Room) ss mm ([.ref kre] : List Value).toArray below mt cd H locs 0 0 (MQ below (Q_X1_allIsThere G kre kbt kby rl nx kd sr vl fo pl li hto lto ct ka kc kl kn w h la kcn kln nc nl fc fl) ([.ref kre] : List Value).toArray ss 0 0 (fun _ => False)) (F0 mm 78 ls []) := by
        intro k
        induction k using Nat.strongRecOn with
        | _ k ih78 =>
        intro i ls H locs hm78 hi2 hU hl hP hS
        refine lv_iload_n hx hb dX1_allIsThere_78 rfl (lv_at hl 2 rfl) ?_
        refine lv_aload_n hx hb dX1_allIsThere_79 rfl (lv_at hl 0 rfl) ?_
        refine va_get (D := G.1) (ci := 1) (v := .ref kbt) (C := RX1) (T := TX1) (N := 13) hx hb hts hin1 hown hK.1 hP 5 rfl rfl 0 (by decide) (hts (.fieldLink RX1 12 "BackLenses$Reader" "target" "LBackLenses$Book;") (List.mem_of_getElem? (i := 1) rfl)) (fun _ h9 => h9) rfl dX1_allIsThere_80 ?_
        refine va_getN (D := G.1) (ci := 0) (v := .ref kl) (C := RX0) (T := TX0) (N := 7) hx hb hts hin0 hown hK.1 hP 0 rfl rfl 5 (by decide) (va_Nw.use rfl (hK.2 (Cond.fieldLinkNest "BackLenses$Reader" (92 : Nat) "BackLenses$Book" "lenses" "LBackLenses$Rows;" "BackLenses") (List.mem_of_getElem? (i := 19) rfl))) (fun _ h9 => h9) rfl dX1_allIsThere_83 ?_
        refine va_getN (D := G.1) (ci := 2) (v := .int (nI nl)) (C := RX2) (T := TX2) (N := 3) hx hb hts hin2 hown hK.1 hP 3 rfl rfl 2 (by decide) (va_Nw.use rfl (hK.2 (Cond.fieldLinkNest "BackLenses$Reader" (76 : Nat) "BackLenses$Rows" "size" "I" "BackLenses") (List.mem_of_getElem? (i := 2) rfl))) (fun _ h9 => h9) rfl dX1_allIsThere_86 ?_
        refine xn_icmp_ge (tgt := 139) hx hb (by omega) (by omega) dX1_allIsThere_89 rfl (fun b89 => ?_) (fun b89 => ?_)
        · skip
          have hV : ∀ j, j < nl → inR (fl (3 * j + 0)) (la + 1) ∧ xu (fl (3 * j + 1)) (nI (w * h)) = nI 0 := fun j hj => hU j (by omega)
          refine lv_aload_n hx hb dX1_allIsThere_139 rfl (lv_at hl 0 rfl) ?_
          refine va_get (D := G.1) (ci := 1) (v := .int ct) (C := RX1) (T := TX1) (N := 13) hx hb hts hin1 hown hK.1 hP 5 rfl rfl 12 (by decide) (hts (.fieldLink RX1 45 "BackLenses$Reader" "cellsTold" "I") (List.mem_of_getElem? (i := 2) rfl)) (fun _ h9 => h9) rfl dX1_allIsThere_140 ?_
          refine lv_iload_n hx hb dX1_allIsThere_143 rfl (lv_at hl 1 rfl) ?_
          refine lv_iushr (v := xu ct (nI (w * h))) hx hb dX1_allIsThere_144 rfl ?_
          refine lv_if_ne (tgt := 152) hx hb dX1_allIsThere_145 rfl (fun b145 => ?_) (fun b145 => ?_)
          · skip
            refine lv_iconst (v := nI 0) hx hb dX1_allIsThere_152 (by decide) ?_
            refine W.zret (v := nI 0) (ty := .boolean) hx hb hr (by decide) (fun t ht hW => ⟨⟨nI 0, (), rfl, ?_, trivial⟩, hS.F ht⟩) hS.2.2 dX1_allIsThere_153
            first | exact (xb_t ⟨hC, hV, b145⟩).symm | exact (xb_f (fun q => b145 q.2.2)).symm
          · skip
            refine lv_iconst (v := nI 1) hx hb dX1_allIsThere_148 (by decide) ?_
            refine lv_goto (tgt := 153) hx hb dX1_allIsThere_149 rfl ?_
            refine W.zret (v := nI 1) (ty := .boolean) hx hb hr (by decide) (fun t ht hW => ⟨⟨nI 1, (), rfl, ?_, trivial⟩, hS.F ht⟩) hS.2.2 dX1_allIsThere_153
            first | exact (xb_t ⟨hC, hV, b145⟩).symm | exact (xb_f (fun q => b145 q.2.2)).symm
        · skip
          refine lv_aload_n hx hb dX1_allIsThere_92 rfl (lv_at hl 0 rfl) ?_
          refine va_get (D := G.1) (ci := 1) (v := .ref kbt) (C := RX1) (T := TX1) (N := 13) hx hb hts hin1 hown hK.1 hP 5 rfl rfl 0 (by decide) (hts (.fieldLink RX1 12 "BackLenses$Reader" "target" "LBackLenses$Book;") (List.mem_of_getElem? (i := 1) rfl)) (fun _ h9 => h9) rfl dX1_allIsThere_93 ?_
          refine lv_aload_n hx hb dX1_allIsThere_96 rfl (lv_at hl 0 rfl) ?_
          refine va_get (D := G.1) (ci := 1) (v := .ref kbt) (C := RX1) (T := TX1) (N := 13) hx hb hts hin1 hown hK.1 hP 5 rfl rfl 0 (by decide) (hts (.fieldLink RX1 12 "BackLenses$Reader" "target" "LBackLenses$Book;") (List.mem_of_getElem? (i := 1) rfl)) (fun _ h9 => h9) rfl dX1_allIsThere_97 ?_
          refine va_getN (D := G.1) (ci := 0) (v := .ref kl) (C := RX0) (T := TX0) (N := 7) hx hb hts hin0 hown hK.1 hP 0 rfl rfl 5 (by decide) (va_Nw.use rfl (hK.2 (Cond.fieldLinkNest "BackLenses$Reader" (92 : Nat) "BackLenses$Book" "lenses" "LBackLenses$Rows;" "BackLenses") (List.mem_of_getElem? (i := 19) rfl))) (fun _ h9 => h9) rfl dX1_allIsThere_100 ?_
          refine lv_iload_n hx hb dX1_allIsThere_103 rfl (lv_at hl 2 rfl) ?_
          refine lv_iconst (v := nI 0) hx hb dX1_allIsThere_104 (by decide) ?_
          refine xr_i (As := [.int (nI i), .int (nI 0)]) (rest := [.ref kbt]) ⟨hx, hb, hml, hown, hts⟩ (c_X2_number l G kl kln 6 nl fl i 0 (by first | assumption | omega) (by first | assumption | omega)) (cwV 2 hts gX1_allIsThere_X2_number rfl rfl rfl (by decide +kernel) ⟨Nat.le_of_ble_eq_true rfl, Nat.le_of_ble_eq_true rfl⟩) hK hP hS [3, 4] rfl rfl rfl rfl hl.1 rfl (Nat.le_of_ble_eq_true rfl) dX1_allIsThere_105 ⟨Nat.zero_le _, Nat.zero_le _⟩ (fun r105 H locs hp105 hP hS => ?_)
          rw [show r105 = _ from hp105]
          refine xr_i (As := [.int (fl (3 * i + 0))]) (rest := []) ⟨hx, hb, hml, hown, hts⟩ (c_X0_hasDay l G kbt ka kc kl kn w h la (fl (3 * i + 0)) (by first | assumption | omega)) (cwV 1 hts gX1_allIsThere_X0_hasDay rfl rfl rfl (by decide +kernel) ⟨Nat.le_of_ble_eq_true rfl, Nat.le_of_ble_eq_true rfl⟩) hK hP hS [0] rfl rfl rfl rfl hl.1 rfl (Nat.le_of_ble_eq_true rfl) dX1_allIsThere_108 ⟨Nat.zero_le _, Nat.zero_le _⟩ (fun r108 H locs hp108 hP hS => ?_)
          rw [show r108 = _ from hp108]
          refine xb_if_eq (tgt := 131) hx hb dX1_allIsThere_111 rfl (fun b111 => ?_) (fun b111 => ?_)
          · skip
            refine lv_iconst (v := nI 0) hx hb dX1_allIsThere_131 (by decide) ?_
            refine W.zret (v := nI 0) (ty := .boolean) hx hb hr (by decide) (fun t ht hW => ⟨⟨nI 0, (), rfl, ?_, trivial⟩, hS.F ht⟩) hS.2.2 dX1_allIsThere_132
            first | exact (xb_f (fun q => b111 (q.2.1 i (by omega)).1)).symm | exact (xb_f (fun q => b128 (q.2.1 i (by omega)).2)).symm
          · skip
            refine lv_aload_n hx hb dX1_allIsThere_114 rfl (lv_at hl 0 rfl) ?_
            refine va_get (D := G.1) (ci := 1) (v := .ref kbt) (C := RX1) (T := TX1) (N := 13) hx hb hts hin1 hown hK.1 hP 5 rfl rfl 0 (by decide) (hts (.fieldLink RX1 12 "BackLenses$Reader" "target" "LBackLenses$Book;") (List.mem_of_getElem? (i := 1) rfl)) (fun _ h9 => h9) rfl dX1_allIsThere_115 ?_
            refine va_getN (D := G.1) (ci := 0) (v := .ref kl) (C := RX0) (T := TX0) (N := 7) hx hb hts hin0 hown hK.1 hP 0 rfl rfl 5 (by decide) (va_Nw.use rfl (hK.2 (Cond.fieldLinkNest "BackLenses$Reader" (92 : Nat) "BackLenses$Book" "lenses" "LBackLenses$Rows;" "BackLenses") (List.mem_of_getElem? (i := 19) rfl))) (fun _ h9 => h9) rfl dX1_allIsThere_118 ?_
            refine lv_iload_n hx hb dX1_allIsThere_121 rfl (lv_at hl 2 rfl) ?_
            refine lv_iconst (v := nI 1) hx hb dX1_allIsThere_122 (by decide) ?_
            refine xr_i (As := [.int (nI i), .int (nI 1)]) (rest := []) ⟨hx, hb, hml, hown, hts⟩ (c_X2_number l G kl kln 6 nl fl i 1 (by first | assumption | omega) (by first | assumption | omega)) (cwV 2 hts gX1_allIsThere_X2_number rfl rfl rfl (by decide +kernel) ⟨Nat.le_of_ble_eq_true rfl, Nat.le_of_ble_eq_true rfl⟩) hK hP hS [3, 4] rfl rfl rfl rfl hl.1 rfl (Nat.le_of_ble_eq_true rfl) dX1_allIsThere_123 ⟨Nat.zero_le _, Nat.zero_le _⟩ (fun r123 H locs hp123 hP hS => ?_)
            rw [show r123 = _ from hp123]
            refine lv_iload_n hx hb dX1_allIsThere_126 rfl (lv_at hl 1 rfl) ?_
            refine lv_iushr (v := xu (fl (3 * i + 1)) (nI (w * h))) hx hb dX1_allIsThere_127 rfl ?_
            refine lv_if_eq (tgt := 133) hx hb dX1_allIsThere_128 rfl (fun b128 => ?_) (fun b128 => ?_)
            · skip
              refine lv_iinc (k := 2) (v := nI (i + 1)) (lv' := [(2, .int (nI (i + 1))), (0, .ref kre), (1, .int (nI (w * h)))]) hx hb dX1_allIsThere_133 hl rfl (xn_inc i 1) (by decide) rfl (fun ls hl => ?_)
              refine lv_goto (tgt := 78) hx hb dX1_allIsThere_136 rfl ?_
              have hl := lv_sub hl (l' := [(0, .ref kre), (1, .int (nI (w * h))), (2, .int (nI (i + 1)))]) [1, 2, 0] rfl
              exact ih78 (nl - (i + 1)) (by omega) (i + 1) ls H locs rfl (by omega) (by intro j hj; by_cases hq : j = i; (rw [hq]; exact ⟨b111, b128⟩); exact hU j (by omega)) hl hP hS
            · skip
              refine lv_iconst (v := nI 0) hx hb dX1_allIsThere_131 (by decide) ?_
              refine W.zret (v := nI 0) (ty := .boolean) hx hb hr (by decide) (fun t ht hW => ⟨⟨nI 0, (), rfl, ?_, trivial⟩, hS.F ht⟩) hS.2.2 dX1_allIsThere_132
              first | exact (xb_f (fun q => b111 (q.2.1 i (by omega)).1)).symm | exact (xb_f (fun q => b128 (q.2.1 i (by omega)).2)).symm
      have hl := lv_sub hl (l' := [(0, .ref kre), (1, .int (nI (w * h))), (2, .int (nI 0))]) [1, 2, 0] rfl
      exact hL78 (nl - 0) 0 ls H locs rfl (by omega) (by intro j hj; omega) hl hP hS
    · skip
      refine lv_aload_n hx hb dX1_allIsThere_24 rfl (lv_at hl 0 rfl) ?_
      refine va_get (D := G.1) (ci := 1) (v := .ref kbt) (C := RX1) (T := TX1) (N := 13) hx hb hts hin1 hown hK.1 hP 5 rfl rfl 0 (by decide) (hts (.fieldLink RX1 12 "BackLenses$Reader" "target" "LBackLenses$Book;") (List.mem_of_getElem? (i := 1) rfl)) (fun _ h9 => h9) rfl dX1_allIsThere_25 ?_
      refine lv_aload_n hx hb dX1_allIsThere_28 rfl (lv_at hl 0 rfl) ?_
      refine va_get (D := G.1) (ci := 1) (v := .ref kbt) (C := RX1) (T := TX1) (N := 13) hx hb hts hin1 hown hK.1 hP 5 rfl rfl 0 (by decide) (hts (.fieldLink RX1 12 "BackLenses$Reader" "target" "LBackLenses$Book;") (List.mem_of_getElem? (i := 1) rfl)) (fun _ h9 => h9) rfl dX1_allIsThere_29 ?_
      refine va_getN (D := G.1) (ci := 0) (v := .ref kc) (C := RX0) (T := TX0) (N := 7) hx hb hts hin0 hown hK.1 hP 0 rfl rfl 4 (by decide) (va_Nw.use rfl (hK.2 (Cond.fieldLinkNest "BackLenses$Reader" (72 : Nat) "BackLenses$Book" "changes" "LBackLenses$Rows;" "BackLenses") (List.mem_of_getElem? (i := 17) rfl))) (fun _ h9 => h9) rfl dX1_allIsThere_32 ?_
      refine lv_iload_n hx hb dX1_allIsThere_35 rfl (lv_at hl 2 rfl) ?_
      refine lv_iconst (v := nI 0) hx hb dX1_allIsThere_36 (by decide) ?_
      refine xr_i (As := [.int (nI i), .int (nI 0)]) (rest := [.ref kbt]) ⟨hx, hb, hml, hown, hts⟩ (c_X2_number l G kc kcn 10 nc fc i 0 (by first | assumption | omega) (by first | assumption | omega)) (cwV 2 hts gX1_allIsThere_X2_number rfl rfl rfl (by decide +kernel) ⟨Nat.le_of_ble_eq_true rfl, Nat.le_of_ble_eq_true rfl⟩) hK hP hS [1, 2] rfl rfl rfl rfl hl.1 rfl (Nat.le_of_ble_eq_true rfl) dX1_allIsThere_37 ⟨Nat.zero_le _, Nat.zero_le _⟩ (fun r37 H locs hp37 hP hS => ?_)
      rw [show r37 = _ from hp37]
      refine xr_i (As := [.int (fc (3 * i + 0))]) (rest := []) ⟨hx, hb, hml, hown, hts⟩ (c_X0_hasDay l G kbt ka kc kl kn w h la (fc (3 * i + 0)) (by first | assumption | omega)) (cwV 1 hts gX1_allIsThere_X0_hasDay rfl rfl rfl (by decide +kernel) ⟨Nat.le_of_ble_eq_true rfl, Nat.le_of_ble_eq_true rfl⟩) hK hP hS [0] rfl rfl rfl rfl hl.1 rfl (Nat.le_of_ble_eq_true rfl) dX1_allIsThere_40 ⟨Nat.zero_le _, Nat.zero_le _⟩ (fun r40 H locs hp40 hP hS => ?_)
      rw [show r40 = _ from hp40]
      refine xb_if_eq (tgt := 68) hx hb dX1_allIsThere_43 rfl (fun b43 => ?_) (fun b43 => ?_)
      · skip
        refine lv_iconst (v := nI 0) hx hb dX1_allIsThere_68 (by decide) ?_
        refine W.zret (v := nI 0) (ty := .boolean) hx hb hr (by decide) (fun t ht hW => ⟨⟨nI 0, (), rfl, ?_, trivial⟩, hS.F ht⟩) hS.2.2 dX1_allIsThere_69
        first | exact (xb_f (fun q => b43 (q.1 i (by omega)).1)).symm | exact (xb_f (fun q => b65 (q.1 i (by omega)).2)).symm
      · skip
        refine lv_aload_n hx hb dX1_allIsThere_46 rfl (lv_at hl 0 rfl) ?_
        refine va_get (D := G.1) (ci := 1) (v := .ref kbt) (C := RX1) (T := TX1) (N := 13) hx hb hts hin1 hown hK.1 hP 5 rfl rfl 0 (by decide) (hts (.fieldLink RX1 12 "BackLenses$Reader" "target" "LBackLenses$Book;") (List.mem_of_getElem? (i := 1) rfl)) (fun _ h9 => h9) rfl dX1_allIsThere_47 ?_
        refine lv_aload_n hx hb dX1_allIsThere_50 rfl (lv_at hl 0 rfl) ?_
        refine va_get (D := G.1) (ci := 1) (v := .ref kbt) (C := RX1) (T := TX1) (N := 13) hx hb hts hin1 hown hK.1 hP 5 rfl rfl 0 (by decide) (hts (.fieldLink RX1 12 "BackLenses$Reader" "target" "LBackLenses$Book;") (List.mem_of_getElem? (i := 1) rfl)) (fun _ h9 => h9) rfl dX1_allIsThere_51 ?_
        refine va_getN (D := G.1) (ci := 0) (v := .ref kc) (C := RX0) (T := TX0) (N := 7) hx hb hts hin0 hown hK.1 hP 0 rfl rfl 4 (by decide) (va_Nw.use rfl (hK.2 (Cond.fieldLinkNest "BackLenses$Reader" (72 : Nat) "BackLenses$Book" "changes" "LBackLenses$Rows;" "BackLenses") (List.mem_of_getElem? (i := 17) rfl))) (fun _ h9 => h9) rfl dX1_allIsThere_54 ?_
        refine lv_iload_n hx hb dX1_allIsThere_57 rfl (lv_at hl 2 rfl) ?_
        refine lv_iconst (v := nI 1) hx hb dX1_allIsThere_58 (by decide) ?_
        refine xr_i (As := [.int (nI i), .int (nI 1)]) (rest := [.ref kbt]) ⟨hx, hb, hml, hown, hts⟩ (c_X2_number l G kc kcn 10 nc fc i 1 (by first | assumption | omega) (by first | assumption | omega)) (cwV 2 hts gX1_allIsThere_X2_number rfl rfl rfl (by decide +kernel) ⟨Nat.le_of_ble_eq_true rfl, Nat.le_of_ble_eq_true rfl⟩) hK hP hS [1, 2] rfl rfl rfl rfl hl.1 rfl (Nat.le_of_ble_eq_true rfl) dX1_allIsThere_59 ⟨Nat.zero_le _, Nat.zero_le _⟩ (fun r59 H locs hp59 hP hS => ?_)
        rw [show r59 = _ from hp59]
        refine xr_i (As := [.int (fc (3 * i + 1))]) (rest := []) ⟨hx, hb, hml, hown, hts⟩ (c_X0_hasCell l G kbt ka kc kl kn w h la (fc (3 * i + 1)) (by first | assumption | omega)) (cwV 1 hts gX1_allIsThere_X0_hasCell rfl rfl rfl (by decide +kernel) ⟨Nat.le_of_ble_eq_true rfl, Nat.le_of_ble_eq_true rfl⟩) hK hP hS [0] rfl rfl rfl rfl hl.1 rfl (Nat.le_of_ble_eq_true rfl) dX1_allIsThere_62 ⟨Nat.zero_le _, Nat.zero_le _⟩ (fun r62 H locs hp62 hP hS => ?_)
        rw [show r62 = _ from hp62]
        refine xb_if_ne (tgt := 70) hx hb dX1_allIsThere_65 rfl (fun b65 => ?_) (fun b65 => ?_)
        · skip
          refine lv_iinc (k := 2) (v := nI (i + 1)) (lv' := [(2, .int (nI (i + 1))), (0, .ref kre), (1, .int (nI (w * h)))]) hx hb dX1_allIsThere_70 hl rfl (xn_inc i 1) (by decide) rfl (fun ls hl => ?_)
          refine lv_goto (tgt := 10) hx hb dX1_allIsThere_73 rfl ?_
          have hl := lv_sub hl (l' := [(0, .ref kre), (1, .int (nI (w * h))), (2, .int (nI (i + 1)))]) [1, 2, 0] rfl
          exact ih10 (nc - (i + 1)) (by omega) (i + 1) ls H locs rfl (by omega) (by intro j hj; by_cases hq : j = i; (rw [hq]; exact ⟨b43, b65⟩); exact hT j (by omega)) hl hP hS
        · skip
          refine lv_iconst (v := nI 0) hx hb dX1_allIsThere_68 (by decide) ?_
          refine W.zret (v := nI 0) (ty := .boolean) hx hb hr (by decide) (fun t ht hW => ⟨⟨nI 0, (), rfl, ?_, trivial⟩, hS.F ht⟩) hS.2.2 dX1_allIsThere_69
          first | exact (xb_f (fun q => b43 (q.1 i (by omega)).1)).symm | exact (xb_f (fun q => b65 (q.1 i (by omega)).2)).symm
  have hl := lv_sub hl (l' := [(0, .ref kre), (1, .int (nI (w * h))), (2, .int (nI 0))]) [2, 1, 0] rfl
  have hP := hP.sub (ws' := [oC kbt 0 [.int (nI w), .int (nI h), .int (nI la), .ref ka, .ref kc, .ref kl, .ref kn], oC kc 2 [.ref kcn, .int (nI 10), .int (nI nc)], iA G kcn (3 * 10) fc, oC kl 2 [.ref kln, .int (nI 6), .int (nI nl)], iA G kln (3 * 6) fl, oC kre 1 [.ref kbt, .ref kby, .int (nI rl), .int (nI nx), .int (nI kd), .int (nI sr), .int vl, .int fo, .int pl, .int li, .int hto, .int lto, .int ct]]) [1, 2, 3, 4, 5, 0] rfl
  exact hL10 (nc - 0) 0 ls H locs rfl (by omega) (by intro j hj; omega) hl hP hS
end
section
/-! the five names that the class's own text holds, as the start gives them: their places (ad), their bytes -/
abbrev XAd : Type := (Nat → Nat) × (Nat → Nat)
def sLen : List Nat := [5, 4, 4, 4, 4]
def sByt : List (List Int32) := [[104, 111, 117, 115, 101], [108, 97, 115, 116], [99, 101, 108, 108], [116, 117, 114, 110], [108, 101, 110, 115]]
def sC (i k : Nat) : Int32 := (sByt.getD i []).getD k 0
def sIx (i : Nat) : Nat := [98, 107, 112, 117, 122].getD i 0
def sTx (i : Nat) : String := ["house", "last", "cell", "turn", "lens"].getD i ""
def xStr (ad : XAd) (A : Nat → Prop) (U : State) (H : Heap) : Prop := vk_S 5 sLen sByt ad.1 ad.2 A U H ∧ (∀ i : Nat, i < 5 → vk_R RX1 (sIx i) (sTx i) (ad.1 i) U) ∧ va_Z "java/lang/String" "COMPACT_STRINGS" "Z" (.int (nI 1)) A U H ∧ va_Zq "jdk/internal/util/Preconditions" "SIOOBE_FORMATTER" "Ljava/util/function/BiFunction;" A U H
theorem xStr_at {ad : XAd} {A B : Nat → Prop} {s U : State} {H : Heap} {locs : List Loc} (hZ : xStr ad A s s.heap) (hS : va_S A s.heap H locs) (hU : U.heap = H) (hW : s.WarmedH U.vm) (hB : ∀ q, B q → A q) : xStr ad B U U.heap := by
  rw [hU]
  obtain ⟨h1, h2, h3, h4⟩ := hZ
  exact ⟨((h1.kept hS.2.1).moved hW.alike).narrow hB, fun i hi => (h2 i hi).warm hW, ((h3.kept hS.2.1).moved hW.alike).narrow hB, ((h4.kept hS.2.1).moved hW.alike).narrow hB⟩
theorem xStr_same {ad : XAd} {A : Nat → Prop} {U V : State} {H : Heap} (hv : U.vm = V.vm) (hZ : xStr ad A U H) : xStr ad A V H := by
  have hA : U.vm.Alike V.vm := by rw [hv]; exact Vm.Alike.refl V.vm
  obtain ⟨h1, h2, h3, h4⟩ := hZ
  exact ⟨h1.moved hA, fun i hi => (h2 i hi).same hv.symm, h3.moved hA, h4.moved hA⟩
abbrev xZp (ad : XAd) : State → Prop := fun U => xStr ad (fun _ => False) U U.heap
abbrev xZRp (G : XG) (ad : XAd) (ws : va_W) : State → Prop := fun U => xRp G ws U ∧ xStr ad (fun _ => False) U U.heap
abbrev xZWp (G : XG) (sz : Nat) (ad : XAd) (ws : va_W) : State → Prop := fun U => xWp G sz ws U ∧ xStr ad (va_A ws sz) U U.heap
theorem xZp_blind {ad : XAd} {av : List Value} : FrameBlind (va_Pc av (xZp ad)) := fun a U g mk q => ⟨q.1, xStr_same (U := U) (V := U.calling g mk a) rfl q.2⟩
theorem xZRp_blind {G : XG} {ad : XAd} {ws : va_W} {av : List Value} : FrameBlind (va_Pc av (xZRp G ad ws)) := fun a U g mk q => ⟨q.1, ⟨q.2.1.1, xK_same (U := U) (V := U.calling g mk a) rfl q.2.1.2⟩, xStr_same (U := U) (V := U.calling g mk a) rfl q.2.2⟩
theorem xZWp_blind {G : XG} {sz : Nat} {ad : XAd} {ws : va_W} {av : List Value} : FrameBlind (va_Pc av (xZWp G sz ad ws)) := fun a U g mk q => ⟨q.1, ⟨q.2.1.1, q.2.1.2.1, xK_same (U := U) (V := U.calling g mk a) rfl q.2.1.2.2.1, q.2.1.2.2.2⟩, xStr_same (U := U) (V := U.calling g mk a) rfl q.2.2⟩
section XZ
variable {p : Program} {l : Launch} {e : Env} {R : Room} {s : State} {m : MethodId} {args : Array Value} {below : List Frame} {meth : Method} {c : Code} {H : Heap} {locs : List Loc} {cells slots : Nat} {Q : State → Prop}
variable {cc : ByteArray} {pc : Nat} {ls : Array Slot} {rest st0 : List Value} {G : XG} {ws wc wr : va_W} {A : Nat → Prop}
variable {y : MethodName} {bytes : ByteArray} {maxL nL mc ms n index : Nat} {ret : Option FieldType} {wy : List Cond} {rm : Room} {Ts : List Cond} {own C : String} {b : Addr} {As : List Value} {ad : XAd} {i : Nat}
theorem xz_i {post : Int32 → Prop} (S : CallFix p m c cc nL s args Ts own) (hM : Met l y wy rm (va_Pc (.ref (ad.1 i) :: As) (xZp ad)) (xRi post) 0 0 (fun _ => False)) (cw : CallW R s args own "java/lang/String" index y bytes maxL ret wy rm 0 0 n) (hZ : xStr ad A s s.heap) (hi : i < 5) (hP : xP G ws H) (hS : va_S A s.heap H locs) (hn : As.length = n) (hl : ls.size = nL) (hst : st0 = As.reverse ++ .ref (ad.1 i) :: rest) (hw : (rest.map fun v => v.category).sum ≤ 8) (hdg : decode cc pc = .ok (.invokevirtual index, 3)) (hf : cells + 0 ≤ R.cells ∧ slots + 0 ≤ R.slots) (kk : ∀ (r : Int32) (H1 : Heap) (locs1 : List Loc), post r → xP G ws H1 → va_S A s.heap H1 locs1 → W p l e R s m args below meth c H1 locs1 (cells) (slots) Q (F0 m (pc + 3) ls (.int r :: rest))) : W p l e R s m args below meth c H locs (cells) (slots) Q (F0 m pc ls st0) := by
  refine va_calli (va_runV (As := As) (rest := rest) (b := ad.1 i) S hM cw ⟨xZp_blind, vk_recv hZ.1 hi hS, fun U hU hW => ⟨rfl, xStr_at hZ hS hU hW (fun _ h => h.elim)⟩⟩ rfl hn hl hst (lv_room hw) hdg hf) hS (fun q _ h => h.elim) (fun q h => h.elim) (fun r u t H1 locs1 ht hvm hp hB hz hk hS1 => ?_)
  exact kk r H1 locs1 hp (xP_kept hP hk) hS1
theorem xzs_i {post : Int32 → Prop} (S : CallFix p m c cc nL s args Ts own) (hM : Met l y wy rm (va_Pc As (xZp ad)) (xRi post) 0 0 (fun _ => False)) (cw : CallB R s args own index y bytes maxL ret wy rm 0 0 n ∧ (Cond.static y).before args s = true) (hZ : xStr ad A s s.heap) (hP : xP G ws H) (hS : va_S A s.heap H locs) (hn : As.length = n) (hl : ls.size = nL) (hst : st0 = As.reverse ++ rest) (hw : (rest.map fun v => v.category).sum ≤ 8) (hdg : decode cc pc = .ok (.invokestatic index, 3)) (hf : cells + 0 ≤ R.cells ∧ slots + 0 ≤ R.slots) (kk : ∀ (r : Int32) (H1 : Heap) (locs1 : List Loc), post r → xP G ws H1 → va_S A s.heap H1 locs1 → W p l e R s m args below meth c H1 locs1 (cells) (slots) Q (F0 m (pc + 3) ls (.int r :: rest))) : W p l e R s m args below meth c H locs (cells) (slots) Q (F0 m pc ls st0) := by
  refine va_calli (va_runS (As := As) (rest := rest) S hM cw ⟨xZp_blind, fun U hU hW => ⟨rfl, xStr_at hZ hS hU hW (fun _ h => h.elim)⟩⟩ rfl hn hl hst (lv_room hw) hdg hf) hS (fun q _ h => h.elim) (fun q h => h.elim) (fun r u t H1 locs1 ht hvm hp hB hz hk hS1 => ?_)
  exact kk r H1 locs1 hp (xP_kept hP hk) hS1
theorem xzs_v (S : CallFix p m c cc nL s args Ts own) (hM : Met l y wy rm (va_Pc As (xZp ad)) (va_Qv (fun (_ : Unit) => True) (fun _ _ => True) (fun _ => False)) 0 0 (fun _ => False)) (cw : CallB R s args own index y bytes maxL ret wy rm 0 0 n ∧ (Cond.static y).before args s = true) (hZ : xStr ad A s s.heap) (hP : xP G ws H) (hS : va_S A s.heap H locs) (hn : As.length = n) (hl : ls.size = nL) (hst : st0 = As.reverse ++ rest) (hw : (rest.map fun v => v.category).sum ≤ 8) (hdg : decode cc pc = .ok (.invokestatic index, 3)) (hf : cells + 0 ≤ R.cells ∧ slots + 0 ≤ R.slots) (kk : ∀ (H1 : Heap) (locs1 : List Loc), xP G ws H1 → va_S A s.heap H1 locs1 → W p l e R s m args below meth c H1 locs1 (cells) (slots) Q (F0 m (pc + 3) ls rest)) : W p l e R s m args below meth c H locs (cells) (slots) Q (F0 m pc ls st0) := by
  refine va_callv (va_runS (As := As) (rest := rest) S hM cw ⟨xZp_blind, fun U hU hW => ⟨rfl, xStr_at hZ hS hU hW (fun _ h => h.elim)⟩⟩ rfl hn hl hst (lv_room hw) hdg hf) hS (fun q _ h => h.elim) (fun q h => h.elim) (fun u t H1 locs1 ht hvm hp hB hz hk hS1 => ?_)
  exact kk H1 locs1 (xP_kept hP hk) hS1
theorem xzr_i {post : Int32 → Prop} (S : CallFix p m c cc nL s args Ts own) (hM : Met l y wy rm (va_Pc (.ref b :: As) (xZRp G ad wc)) (xRi post) 0 0 (fun _ => False)) (cw : CallW R s args own C index y bytes maxL ret wy rm 0 0 n) (hZ : xStr ad A s s.heap) (hK : xK G s) (hP : xP G ws H) (hS : va_S A s.heap H locs) (is : List Nat) (hs : is.filterMap (fun i => ws[i]?) = wc) {ci N : Nat} {fs : List Value} {T : u_T} (he : wc[0]? = some (oC b ci fs)) (hc : vwCl[ci]? = some (C, T, N)) (hn : As.length = n) (hl : ls.size = nL) (hst : st0 = As.reverse ++ .ref b :: rest) (hw : (rest.map fun v => v.category).sum ≤ 8) (hdg : decode cc pc = .ok (.invokevirtual index, 3)) (hf : cells + 0 ≤ R.cells ∧ slots + 0 ≤ R.slots) (kk : ∀ (r : Int32) (H1 : Heap) (locs1 : List Loc), post r → xP G ws H1 → va_S A s.heap H1 locs1 → W p l e R s m args below meth c H1 locs1 (cells) (slots) Q (F0 m (pc + 3) ls (.int r :: rest))) : W p l e R s m args below meth c H locs (cells) (slots) Q (F0 m pc ls st0) := by
  have hPc : xP G wc H := va_P.sub hP is hs
  refine va_calli (va_runV (As := As) (rest := rest) (b := b) S hM cw ⟨xZRp_blind, va_recv hK.1 hPc hc he, fun U hU hW => ⟨rfl, ⟨by rw [hU]; exact hPc, xK_warm hW hK⟩, xStr_at hZ hS hU hW (fun _ h => h.elim)⟩⟩ rfl hn hl hst (lv_room hw) hdg hf) hS (fun q _ h => h.elim) (fun q h => h.elim) (fun r u t H1 locs1 ht hvm hp hB hz hk hS1 => ?_)
  exact kk r H1 locs1 hp (xP_kept hP hk) hS1
theorem xzw_i {S' : Type} {post : Int32 → S' → Prop} {w1 : S' → va_W} (S : CallFix p m c cc nL s args Ts own) (hM : Met l y wy rm (va_Pc (.ref b :: As) (xZWp G H.size ad wc)) (va_Qi post (xWb G H.size wc w1) (va_A wc H.size)) mc ms (va_A wc H.size)) (cw : CallW R s args own C index y bytes maxL ret wy rm mc ms n) (hZ : xStr ad A s s.heap) (hK : xK G s) (hP : xP G ws H) (hD : va_D A ws) (hS : va_S A s.heap H locs) (hA : ∀ q : Nat, s.heap.size ≤ q → A q) (isC isR : List Nat) (hC : isC.map (fun i => ws[i]?) = wc.map some) (hR : isR.map (fun i => ws[i]?) = wr.map some) (hnC : va_nd isC = true) (hnR : va_nd isR = true) (hdis : ∀ i ∈ isR, i ∉ isC) {ci N : Nat} {fs : List Value} {T : u_T} (he : wc[0]? = some (oC b ci fs)) (hc : vwCl[ci]? = some (C, T, N)) (hn : As.length = n) (hl : ls.size = nL) (hst : st0 = As.reverse ++ .ref b :: rest) (hw : (rest.map fun v => v.category).sum ≤ 8) (hdg : decode cc pc = .ok (.invokevirtual index, 3)) (hf : cells + mc ≤ R.cells ∧ slots + ms ≤ R.slots) (kk : ∀ (r : Int32) (u : S') (H1 : Heap) (locs1 : List Loc), post r u → xP G (wr ++ w1 u) H1 → va_D A (wr ++ w1 u) → va_S A s.heap H1 locs1 → W p l e R s m args below meth c H1 locs1 (cells + mc) (slots + ms) Q (F0 m (pc + 3) ls (.int r :: rest))) : W p l e R s m args below meth c H locs (cells) (slots) Q (F0 m pc ls st0) := by
  have hDc : va_D A wc := va_D.sub hD isC hnC hC
  have hPc : xP G wc H := xP_sub hP isC hC
  have hFc := va_free (wc := wc) hD hS hA isC hC
  refine va_calli (va_runV (As := As) (rest := rest) (b := b) S hM cw ⟨xZWp_blind, va_recv hK.1 hPc hc he, fun U hU hW => ⟨rfl, ⟨by rw [hU], by rw [hU]; exact hPc, xK_warm hW hK, hDc.weaken (fun _ _ _ _ => trivial)⟩, xStr_at hZ hS hU hW hFc⟩⟩ rfl hn hl hst (lv_room hw) hdg hf) hS (fun q _ h => hFc q h) hFc (fun r u t H1 locs1 ht hvm hp hB hz hk hS1 => ?_)
  have hP1 : xP G (w1 u) H1 := by rw [← ht]; exact hB.1
  obtain ⟨hP2, hD2⟩ := va_join (wr := wr) (w1 := w1 u) hP hD isC isR hC hR hnR hdis hk hFc hP1 hB.2
  exact kk r u H1 locs1 hp hP2 hD2 hS1
end XZ
theorem sC_nar : ∀ i, i < 5 → ∀ k, k < 5 → ((sC i k &&& nI 255).toUInt32 % 65536).toInt32 = sC i k ∧ narrow .char (.int (sC i k)) = .int (sC i k) := by decide +kernel
theorem sLen_le : ∀ i, i < 5 → sLen.getD i 0 ≤ 5 ∧ nI (sLen.getD i 0) >>> (nI 0 &&& 31) = nI (sLen.getD i 0) := by decide +kernel
abbrev nmP (t : Nat → Int32) (nx sr i : Nat) : Prop := nx - sr = sLen.getD i 0 ∧ ∀ k, k < sLen.getD i 0 → t (sr + k) = sC i k
/-- all that the reader changes: token; told house, last, cells; wide, high, last; marks at first; changes; lenses -/
abbrev PS : Type := TS × (Int32 × Int32 × Int32) × (Nat × Nat × Nat) × (Nat → Int32) × (Nat × (Nat → Int32)) × (Nat × (Nat → Int32))
def fLin (t : Nat → Int32) (rl : Nat) (s : TS) (ho lo ct : Int32) (w h la : Nat) (af : Nat → Int32) (nc : Nat) (fc : Nat → Int32) (nl : Nat) (fl : Nat → Int32) : Bool × PS :=
  if s.2.1 = 1 then
    if nmP t s.1 s.2.2.1 0 then ((fHou t rl ho w h s).1, ((fHou t rl ho w h s).2.1, ((fHou t rl ho w h s).2.2.1, lo, ct), ((fHou t rl ho w h s).2.2.2.1, (fHou t rl ho w h s).2.2.2.2, la), af, (nc, fc), (nl, fl)))
    else if nmP t s.1 s.2.2.1 1 then ((fLas t rl lo la s).1, ((fLas t rl lo la s).2.1, (ho, (fLas t rl lo la s).2.2.1, ct), (w, h, (fLas t rl lo la s).2.2.2), af, (nc, fc), (nl, fl)))
    else if nmP t s.1 s.2.2.1 2 then ((fCel t rl ct af s).1, ((fCel t rl ct af s).2.1, (ho, lo, (fCel t rl ct af s).2.2.1), (w, h, la), (fCel t rl ct af s).2.2.2, (nc, fc), (nl, fl)))
    else if nmP t s.1 s.2.2.1 3 then ((fTur t rl nc fc s).1, ((fTur t rl nc fc s).2.1, (ho, lo, ct), (w, h, la), af, (fTur t rl nc fc s).2.2, (nl, fl)))
    else if nmP t s.1 s.2.2.1 4 then ((fLen t rl nl fl s).1, ((fLen t rl nl fl s).2.1, (ho, lo, ct), (w, h, la), af, (nc, fc), (fLen t rl nl fl s).2.2))
    else (false, (fRef (nI 2) s, (ho, lo, ct), (w, h, la), af, (nc, fc), (nl, fl)))
  else (false, (fRef (nI 2) s, (ho, lo, ct), (w, h, la), af, (nc, fc), (nl, fl)))
end

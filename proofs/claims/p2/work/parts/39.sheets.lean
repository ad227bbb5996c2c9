abbrev w_X5_keep (G : XG) (kx kim kit kv kre ksh kwa kta : Nat) (tf rf : Int32) (gi : Nat → Option Nat) (it : Nat → Int32) (kb ka kc kcn kl kln kn knn : Nat) (w h la : Nat) (af : Nat → Int32) (nc : Nat) (fc : Nat → Int32) (nl : Nat) (fl : Nat → Int32) (ns : Nat) (fs : Nat → Int32) (kbq kaq kcq kcnq klq klnq knq knnq : Nat) (wq hq laq : Nat) (afq : Nat → Int32) (ncq : Nat) (fcq : Nat → Int32) (nlq : Nat) (flq : Nat → Int32) (nsq : Nat) (fsq : Nat → Int32) : va_W := [oC kx 5 [.ref kb, .ref kim, .ref kit, .ref kv, .ref kre, .int tf, .ref ksh, .int rf, .ref kwa, .ref kta], kA G kim 2 gi, zA G kit 2 it, oC kb 0 [.int (nI w), .int (nI h), .int (nI la), .ref ka, .ref kc, .ref kl, .ref kn], iA G ka 16 af, oC kc 2 [.ref kcn, .int (nI 10), .int (nI nc)], iA G kcn (3 * 10) fc, oC kl 2 [.ref kln, .int (nI 6), .int (nI nl)], iA G kln (3 * 6) fl, oC kn 2 [.ref knn, .int (nI 8), .int (nI ns)], iA G knn (3 * 8) fs, oC kbq 0 [.int (nI wq), .int (nI hq), .int (nI laq), .ref kaq, .ref kcq, .ref klq, .ref knq], iA G kaq 16 afq, oC kcq 2 [.ref kcnq, .int (nI 10), .int (nI ncq)], iA G kcnq (3 * 10) fcq, oC klq 2 [.ref klnq, .int (nI 6), .int (nI nlq)], iA G klnq (3 * 6) flq, oC knq 2 [.ref knnq, .int (nI 8), .int (nI nsq)], iA G knnq (3 * 8) fsq]
abbrev Q_X5_keep (G : XG) (sz : Nat) (kx kim kit kv kre ksh kwa kta : Nat) (tf rf : Int32) (gi : Nat → Option Nat) (it : Nat → Int32) (kb ka kc kcn kl kln kn knn : Nat) (w h la : Nat) (af : Nat → Int32) (nc : Nat) (fc : Nat → Int32) (nl : Nat) (fl : Nat → Int32) (ns : Nat) (fs : Nat → Int32) (kbq kaq kcq kcnq klq klnq knq knnq : Nat) (wq hq laq : Nat) (afq : Nat → Int32) (ncq : Nat) (fcq : Nat → Int32) (nlq : Nat) (flq : Nat → Int32) (nsq : Nat) (fsq : Nat → Int32) (j : Nat) : Array Value → State → Outcome → State → Prop := (va_Qi (fun (r : Int32) (u : (Nat → Int32) × (Nat → Int32) × (Nat → Int32) × (Nat → Int32) × (Nat → Int32)) => r = (if it j = 0 then nI 0 else nI 1) ∧ u.1 = upd it j (nI 1) ∧ u.2.1 = va_cpy af afq 0 0 16 ∧ u.2.2.1 = va_cpy fc fcq 0 0 (3 * 10) ∧ u.2.2.2.1 = va_cpy fl flq 0 0 (3 * 6) ∧ u.2.2.2.2 = va_cpy fs fsq 0 0 (3 * 8)) (xWb G sz (w_X5_keep G kx kim kit kv kre ksh kwa kta tf rf gi it kb ka kc kcn kl kln kn knn w h la af nc fc nl fl ns fs kbq kaq kcq kcnq klq klnq knq knnq wq hq laq afq ncq fcq nlq flq nsq fsq) (fun u : (Nat → Int32) × (Nat → Int32) × (Nat → Int32) × (Nat → Int32) × (Nat → Int32) => [oC kx 5 [.ref kb, .ref kim, .ref kit, .ref kv, .ref kre, .int tf, .ref ksh, .int rf, .ref kwa, .ref kta], kA G kim 2 gi, zA G kit 2 u.1, oC kb 0 [.int (nI w), .int (nI h), .int (nI la), .ref ka, .ref kc, .ref kl, .ref kn], iA G ka 16 af, oC kc 2 [.ref kcn, .int (nI 10), .int (nI nc)], iA G kcn (3 * 10) fc, oC kl 2 [.ref kln, .int (nI 6), .int (nI nl)], iA G kln (3 * 6) fl, oC kn 2 [.ref knn, .int (nI 8), .int (nI ns)], iA G knn (3 * 8) fs, oC kbq 0 [.int (nI w), .int (nI h), .int (nI la), .ref kaq, .ref kcq, .ref klq, .ref knq], iA G kaq 16 u.2.1, oC kcq 2 [.ref kcnq, .int (nI 10), .int (nI nc)], iA G kcnq (3 * 10) u.2.2.1, oC klq 2 [.ref klnq, .int (nI 6), .int (nI nl)], iA G klnq (3 * 6) u.2.2.2.1, oC knq 2 [.ref knnq, .int (nI 8), .int (nI ns)], iA G knnq (3 * 8) u.2.2.2.2])) (va_A (w_X5_keep G kx kim kit kv kre ksh kwa kta tf rf gi it kb ka kc kcn kl kln kn knn w h la af nc fc nl fl ns fs kbq kaq kcq kcnq klq klnq knq knnq wq hq laq afq ncq fcq nlq flq nsq fsq) sz))
set_option maxHeartbeats 4000000 in
set_option maxRecDepth 100000 in
theorem c_X5_keep (l : Launch) (G : XG) (sz : Nat) (kx kim kit kv kre ksh kwa kta : Nat) (tf rf : Int32) (gi : Nat → Option Nat) (it : Nat → Int32) (kb ka kc kcn kl kln kn knn : Nat) (w h la : Nat) (af : Nat → Int32) (nc : Nat) (fc : Nat → Int32) (nl : Nat) (fl : Nat → Int32) (ns : Nat) (fs : Nat → Int32) (kbq kaq kcq kcnq klq klnq knq knnq : Nat) (wq hq laq : Nat) (afq : Nat → Int32) (ncq : Nat) (fcq : Nat → Int32) (nlq : Nat) (flq : Nat → Int32) (nsq : Nat) (fsq : Nat → Int32) (j : Nat) (hj : j < 2) (hgj : gi j = some kbq) : Met l yX5_keep wsX5_keep ({ frames := 3, cells := 0, slots := 0, locals := 60 } : Room) (va_Pc [.ref kx, .int (nI j)] (xWp G sz (w_X5_keep G kx kim kit kv kre ksh kwa kta tf rf gi it kb ka kc kcn kl kln kn knn w h la af nc fc nl fl ns fs kbq kaq kcq kcnq klq klnq knq knnq wq hq laq afq ncq fcq nlq flq nsq fsq))) (Q_X5_keep G sz kx kim kit kv kre ksh kwa kta tf rf gi it kb ka kc kcn kl kln kn knn w h la af nc fc nl fl ns fs kbq kaq kcq kcnq klq klnq knq knnq wq hq laq afq ncq fcq nlq flq nsq fsq j) 0 0 (va_A (w_X5_keep G kx kim kit kv kre ksh kwa kta tf rf gi it kb ka kc kcn kl kln kn knn w h la af nc fc nl fl ns fs kbq kaq kcq kcnq klq klnq knq knnq wq hq laq afq ncq fcq nlq flq nsq fsq) sz) := by
  refine Met.ofW (cc := cX5_keep) (maxL := 3) (ret := (some .int)) (by decide) rfl ?_
  intro pp ee ss mm aa below mt cd s₁ BB hml hv
  obtain ⟨rfl, hsz, hP, hK, hD0⟩ := hv
  have hx := BB.exec
  have hb := BB.bytes
  have hr := BB.returns
  have hts := atoms_spec (ws := wsX5_keep) BB.pre
  have hown : ss.vm.findClass RX5 = some mm.cls := findClass_of_methodNamed BB.named
  have hlocks := BB.notSynchronized
  subst hsz
  have hD := hD0.self (sz := ss.heap.size)
  have hA : ∀ q : Nat, ss.heap.size ≤ q → va_A (w_X5_keep G kx kim kit kv kre ksh kwa kta tf rf gi it kb ka kc kcn kl kln kn knn w h la af nc fc nl fl ns fs kbq kaq kcq kcnq klq klnq knq knnq wq hq laq afq ncq fcq nlq flq nsq fsq) ss.heap.size q := fun q h => Or.inr h
  have hS : va_S (va_A (w_X5_keep G kx kim kit kv kre ksh kwa kta tf rf gi it kb ka kc kcn kl kln kn knn w h la af nc fc nl fl ns fs kbq kaq kcq kcnq klq klnq knq knnq wq hq laq afq ncq fcq nlq flq nsq fsq) ss.heap.size) ss.heap ss.heap [] := va_S.rf
  replace hD : va_D (va_A (w_X5_keep G kx kim kit kv kre ksh kwa kta tf rf gi it kb ka kc kcn kl kln kn knn w h la af nc fc nl fl ns fs kbq kaq kcq kcnq klq klnq knq knnq wq hq laq afq ncq fcq nlq flq nsq fsq) ss.heap.size) [oC kx 5 [.ref kb, .ref kim, .ref kit, .ref kv, .ref kre, .int tf, .ref ksh, .int rf, .ref kwa, .ref kta], kA G kim 2 gi, zA G kit 2 it, oC kb 0 [.int (nI w), .int (nI h), .int (nI la), .ref ka, .ref kc, .ref kl, .ref kn], iA G ka 16 af, oC kc 2 [.ref kcn, .int (nI 10), .int (nI nc)], iA G kcn (3 * 10) fc, oC kl 2 [.ref kln, .int (nI 6), .int (nI nl)], iA G kln (3 * 6) fl, oC kn 2 [.ref knn, .int (nI 8), .int (nI ns)], iA G knn (3 * 8) fs, oC kbq 0 [.int (nI wq), .int (nI hq), .int (nI laq), .ref kaq, .ref kcq, .ref klq, .ref knq], iA G kaq 16 afq, oC kcq 2 [.ref kcnq, .int (nI 10), .int (nI ncq)], iA G kcnq (3 * 10) fcq, oC klq 2 [.ref klnq, .int (nI 6), .int (nI nlq)], iA G klnq (3 * 6) flq, oC knq 2 [.ref knnq, .int (nI 8), .int (nI nsq)], iA G knnq (3 * 8) fsq] := hD
  replace hP : xP G [oC kx 5 [.ref kb, .ref kim, .ref kit, .ref kv, .ref kre, .int tf, .ref ksh, .int rf, .ref kwa, .ref kta], kA G kim 2 gi, zA G kit 2 it, oC kb 0 [.int (nI w), .int (nI h), .int (nI la), .ref ka, .ref kc, .ref kl, .ref kn], iA G ka 16 af, oC kc 2 [.ref kcn, .int (nI 10), .int (nI nc)], iA G kcn (3 * 10) fc, oC kl 2 [.ref kln, .int (nI 6), .int (nI nl)], iA G kln (3 * 6) fl, oC kn 2 [.ref knn, .int (nI 8), .int (nI ns)], iA G knn (3 * 8) fs, oC kbq 0 [.int (nI wq), .int (nI hq), .int (nI laq), .ref kaq, .ref kcq, .ref klq, .ref knq], iA G kaq 16 afq, oC kcq 2 [.ref kcnq, .int (nI 10), .int (nI ncq)], iA G kcnq (3 * 10) fcq, oC klq 2 [.ref klnq, .int (nI 6), .int (nI nlq)], iA G klnq (3 * 6) flq, oC knq 2 [.ref knnq, .int (nI 8), .int (nI nsq)], iA G knnq (3 * 8) fsq] ss.heap := hP
  have hin0 : ∀ w ∈ u_ws RX0 TX0 7, w ∈ wsX5_keep := fun w h => List.mem_cons_of_mem _ (List.mem_append_left _ (List.mem_append_right _ h))
  have hin2 : ∀ w ∈ u_ws RX2 TX2 3, w ∈ wsX5_keep := fun w h => List.mem_cons_of_mem _ (List.mem_append_right _ h)
  have hin5 : ∀ w ∈ u_ws RX5 TX5 10, w ∈ wsX5_keep := fun w h => List.mem_cons_of_mem _ (List.mem_append_left _ (List.mem_append_left _ (List.mem_append_right _ h)))
  have hl := lv_entry ([.ref kx, .int (nI j)]) (n := 3) (Nat.le_of_ble_eq_true rfl)
  rw [lg_entry_eq]
  generalize (lg_sl ([.ref kx, .int (nI j)]) ++ List.replicate (3 - (lg_sl ([.ref kx, .int (nI j)])).length) Slot.unset).toArray = ls at hl ⊢
  replace hl : lv_has ls 3 [(0, .ref kx), (1, .int (nI j))] := hl
  refine lv_iload_n hx hb dX5_keep_0 rfl (lv_at hl 1 rfl) ?_
  refine xn_if_lt (tgt := 9) hx hb (by omega) dX5_keep_1 rfl (fun b1 => absurd b1 (by omega)) (fun _ => ?_)
  refine lv_iload_n hx hb dX5_keep_4 rfl (lv_at hl 1 rfl) ?_
  refine lv_iconst (v := nI 2) hx hb dX5_keep_5 (by decide) ?_
  refine xn_icmp_lt (tgt := 11) hx hb (by omega) (by omega) dX5_keep_6 rfl (fun _ => ?_) (fun b6 => absurd b6 (by omega))
  refine lv_aload_n hx hb dX5_keep_11 rfl (lv_at hl 0 rfl) ?_
  refine va_get (D := G.1) (ci := 5) (v := .ref kit) (C := RX5) (T := TX5) (N := 10) hx hb hts hin5 hown hK.1 hP 0 rfl rfl 2 (by decide) (hts (.fieldLink RX5 20 "BackLenses" "imageThere" "[Z") (List.mem_of_getElem? (i := 1) rfl)) (fun _ h9 => h9) rfl dX5_keep_12 ?_
  refine lv_iload_n hx hb dX5_keep_15 rfl (lv_at hl 1 rfl) ?_
  refine xn_zald hx hb hK hP 2 rfl (by omega) (by omega) dX5_keep_16 ?_
  refine lv_if_eq (tgt := 24) hx hb dX5_keep_17 rfl (fun b17 => ?_) (fun b17 => ?_)
  · skip
    refine lv_iconst (v := nI 0) hx hb dX5_keep_24 (by decide) ?_
    refine lv_istore_n (lv' := [(2, .int (nI 0)), (0, .ref kx), (1, .int (nI j))]) hx hb dX5_keep_25 rfl hl (by decide) rfl (fun ls hl => ?_)
    refine lv_aload_n hx hb dX5_keep_26 rfl (lv_at hl 1 rfl) ?_
    refine va_get (D := G.1) (ci := 5) (v := .ref kim) (C := RX5) (T := TX5) (N := 10) hx hb hts hin5 hown hK.1 hP 0 rfl rfl 1 (by decide) (hts (.fieldLink RX5 16 "BackLenses" "images" "[LBackLenses$Book;") (List.mem_of_getElem? (i := 2) rfl)) (fun _ h9 => h9) rfl dX5_keep_27 ?_
    refine lv_iload_n hx hb dX5_keep_30 rfl (lv_at hl 2 rfl) ?_
    refine xn_aaldk hx hb hK hP 1 rfl (by omega) (by omega) (show _ = some kbq by assumption) dX5_keep_31 ?_
    refine lv_aload_n hx hb dX5_keep_32 rfl (lv_at hl 1 rfl) ?_
    refine va_get (D := G.1) (ci := 5) (v := .ref kb) (C := RX5) (T := TX5) (N := 10) hx hb hts hin5 hown hK.1 hP 0 rfl rfl 0 (by decide) (hts (.fieldLink RX5 10 "BackLenses" "book" "LBackLenses$Book;") (List.mem_of_getElem? (i := 3) rfl)) (fun _ h9 => h9) rfl dX5_keep_33 ?_
    refine xw_v (As := [.ref kb]) (rest := []) (wr := [oC kx 5 [.ref kb, .ref kim, .ref kit, .ref kv, .ref kre, .int tf, .ref ksh, .int rf, .ref kwa, .ref kta], kA G kim 2 gi, zA G kit 2 it]) ⟨hx, hb, hml, hown, hts⟩ (c_X0_become l G ss.heap.size kbq kaq kcq kcnq klq klnq knq knnq wq hq laq afq ncq fcq nlq flq nsq fsq kb ka kc kcn kl kln kn knn w h la af nc fc nl fl ns fs ) (cwV 1 hts gX5_keep_X0_become rfl rfl rfl (by decide +kernel) ⟨Nat.le_of_ble_eq_true rfl, Nat.le_of_ble_eq_true rfl⟩) hK hP hD hS hA [11, 12, 13, 14, 15, 16, 17, 18, 3, 4, 5, 6, 7, 8, 9, 10] [0, 1, 2] rfl rfl (by decide) (by decide) (by decide) rfl rfl rfl hl.1 rfl (Nat.le_of_ble_eq_true rfl) dX5_keep_36 ⟨Nat.le_of_ble_eq_true rfl, Nat.le_of_ble_eq_true rfl⟩ (fun u H locs hp36 hP hD hS => ?_)
    obtain ⟨u0_36, u1_36, u2_36, u3_36⟩ := u
    try dsimp only at hp36 hP hD
    obtain ⟨rfl, rfl, rfl, rfl⟩ := hp36
    replace hP : xP G [oC kx 5 [.ref kb, .ref kim, .ref kit, .ref kv, .ref kre, .int tf, .ref ksh, .int rf, .ref kwa, .ref kta], kA G kim 2 gi, zA G kit 2 it, oC kbq 0 [.int (nI w), .int (nI h), .int (nI la), .ref kaq, .ref kcq, .ref klq, .ref knq], iA G kaq 16 (va_cpy af afq 0 0 16), oC kcq 2 [.ref kcnq, .int (nI 10), .int (nI nc)], iA G kcnq (3 * 10) (va_cpy fc fcq 0 0 (3 * 10)), oC klq 2 [.ref klnq, .int (nI 6), .int (nI nl)], iA G klnq (3 * 6) (va_cpy fl flq 0 0 (3 * 6)), oC knq 2 [.ref knnq, .int (nI 8), .int (nI ns)], iA G knnq (3 * 8) (va_cpy fs fsq 0 0 (3 * 8)), oC kb 0 [.int (nI w), .int (nI h), .int (nI la), .ref ka, .ref kc, .ref kl, .ref kn], iA G ka 16 af, oC kc 2 [.ref kcn, .int (nI 10), .int (nI nc)], iA G kcn (3 * 10) fc, oC kl 2 [.ref kln, .int (nI 6), .int (nI nl)], iA G kln (3 * 6) fl, oC kn 2 [.ref knn, .int (nI 8), .int (nI ns)], iA G knn (3 * 8) fs] H := hP
    replace hD : va_D (va_A (w_X5_keep G kx kim kit kv kre ksh kwa kta tf rf gi it kb ka kc kcn kl kln kn knn w h la af nc fc nl fl ns fs kbq kaq kcq kcnq klq klnq knq knnq wq hq laq afq ncq fcq nlq flq nsq fsq) ss.heap.size) [oC kx 5 [.ref kb, .ref kim, .ref kit, .ref kv, .ref kre, .int tf, .ref ksh, .int rf, .ref kwa, .ref kta], kA G kim 2 gi, zA G kit 2 it, oC kbq 0 [.int (nI w), .int (nI h), .int (nI la), .ref kaq, .ref kcq, .ref klq, .ref knq], iA G kaq 16 (va_cpy af afq 0 0 16), oC kcq 2 [.ref kcnq, .int (nI 10), .int (nI nc)], iA G kcnq (3 * 10) (va_cpy fc fcq 0 0 (3 * 10)), oC klq 2 [.ref klnq, .int (nI 6), .int (nI nl)], iA G klnq (3 * 6) (va_cpy fl flq 0 0 (3 * 6)), oC knq 2 [.ref knnq, .int (nI 8), .int (nI ns)], iA G knnq (3 * 8) (va_cpy fs fsq 0 0 (3 * 8)), oC kb 0 [.int (nI w), .int (nI h), .int (nI la), .ref ka, .ref kc, .ref kl, .ref kn], iA G ka 16 af, oC kc 2 [.ref kcn, .int (nI 10), .int (nI nc)], iA G kcn (3 * 10) fc, oC kl 2 [.ref kln, .int (nI 6), .int (nI nl)], iA G kln (3 * 6) fl, oC kn 2 [.ref knn, .int (nI 8), .int (nI ns)], iA G knn (3 * 8) fs] := hD
    refine lv_aload_n hx hb dX5_keep_39 rfl (lv_at hl 1 rfl) ?_
    refine va_get (D := G.1) (ci := 5) (v := .ref kit) (C := RX5) (T := TX5) (N := 10) hx hb hts hin5 hown hK.1 hP 0 rfl rfl 2 (by decide) (hts (.fieldLink RX5 20 "BackLenses" "imageThere" "[Z") (List.mem_of_getElem? (i := 1) rfl)) (fun _ h9 => h9) rfl dX5_keep_40 ?_
    refine lv_iload_n hx hb dX5_keep_43 rfl (lv_at hl 2 rfl) ?_
    refine lv_iconst (v := nI 1) hx hb dX5_keep_44 (by decide) ?_
    refine xn_zast (y := nI 1) hx hb hK hP hD hS 2 rfl (by omega) (by omega) (by decide) dX5_keep_45 (fun H locs hP hD hS => ?_)
    replace hP : xP G [oC kx 5 [.ref kb, .ref kim, .ref kit, .ref kv, .ref kre, .int tf, .ref ksh, .int rf, .ref kwa, .ref kta], kA G kim 2 gi, zA G kit 2 (upd it j (nI 1)), oC kbq 0 [.int (nI w), .int (nI h), .int (nI la), .ref kaq, .ref kcq, .ref klq, .ref knq], iA G kaq 16 (va_cpy af afq 0 0 16), oC kcq 2 [.ref kcnq, .int (nI 10), .int (nI nc)], iA G kcnq (3 * 10) (va_cpy fc fcq 0 0 (3 * 10)), oC klq 2 [.ref klnq, .int (nI 6), .int (nI nl)], iA G klnq (3 * 6) (va_cpy fl flq 0 0 (3 * 6)), oC knq 2 [.ref knnq, .int (nI 8), .int (nI ns)], iA G knnq (3 * 8) (va_cpy fs fsq 0 0 (3 * 8)), oC kb 0 [.int (nI w), .int (nI h), .int (nI la), .ref ka, .ref kc, .ref kl, .ref kn], iA G ka 16 af, oC kc 2 [.ref kcn, .int (nI 10), .int (nI nc)], iA G kcn (3 * 10) fc, oC kl 2 [.ref kln, .int (nI 6), .int (nI nl)], iA G kln (3 * 6) fl, oC kn 2 [.ref knn, .int (nI 8), .int (nI ns)], iA G knn (3 * 8) fs] H := hP
    replace hD : va_D (va_A (w_X5_keep G kx kim kit kv kre ksh kwa kta tf rf gi it kb ka kc kcn kl kln kn knn w h la af nc fc nl fl ns fs kbq kaq kcq kcnq klq klnq knq knnq wq hq laq afq ncq fcq nlq flq nsq fsq) ss.heap.size) [oC kx 5 [.ref kb, .ref kim, .ref kit, .ref kv, .ref kre, .int tf, .ref ksh, .int rf, .ref kwa, .ref kta], kA G kim 2 gi, zA G kit 2 (upd it j (nI 1)), oC kbq 0 [.int (nI w), .int (nI h), .int (nI la), .ref kaq, .ref kcq, .ref klq, .ref knq], iA G kaq 16 (va_cpy af afq 0 0 16), oC kcq 2 [.ref kcnq, .int (nI 10), .int (nI nc)], iA G kcnq (3 * 10) (va_cpy fc fcq 0 0 (3 * 10)), oC klq 2 [.ref klnq, .int (nI 6), .int (nI nl)], iA G klnq (3 * 6) (va_cpy fl flq 0 0 (3 * 6)), oC knq 2 [.ref knnq, .int (nI 8), .int (nI ns)], iA G knnq (3 * 8) (va_cpy fs fsq 0 0 (3 * 8)), oC kb 0 [.int (nI w), .int (nI h), .int (nI la), .ref ka, .ref kc, .ref kl, .ref kn], iA G ka 16 af, oC kc 2 [.ref kcn, .int (nI 10), .int (nI nc)], iA G kcn (3 * 10) fc, oC kl 2 [.ref kln, .int (nI 6), .int (nI nl)], iA G kln (3 * 6) fl, oC kn 2 [.ref knn, .int (nI 8), .int (nI ns)], iA G knn (3 * 8) fs] := hD
    refine lv_iload_n hx hb dX5_keep_46 rfl (lv_at hl 0 rfl) ?_
    have hP := hP.sub (ws' := [oC kx 5 [.ref kb, .ref kim, .ref kit, .ref kv, .ref kre, .int tf, .ref ksh, .int rf, .ref kwa, .ref kta], kA G kim 2 gi, zA G kit 2 (upd it j (nI 1)), oC kb 0 [.int (nI w), .int (nI h), .int (nI la), .ref ka, .ref kc, .ref kl, .ref kn], iA G ka 16 af, oC kc 2 [.ref kcn, .int (nI 10), .int (nI nc)], iA G kcn (3 * 10) fc, oC kl 2 [.ref kln, .int (nI 6), .int (nI nl)], iA G kln (3 * 6) fl, oC kn 2 [.ref knn, .int (nI 8), .int (nI ns)], iA G knn (3 * 8) fs, oC kbq 0 [.int (nI w), .int (nI h), .int (nI la), .ref kaq, .ref kcq, .ref klq, .ref knq], iA G kaq 16 (va_cpy af afq 0 0 16), oC kcq 2 [.ref kcnq, .int (nI 10), .int (nI nc)], iA G kcnq (3 * 10) (va_cpy fc fcq 0 0 (3 * 10)), oC klq 2 [.ref klnq, .int (nI 6), .int (nI nl)], iA G klnq (3 * 6) (va_cpy fl flq 0 0 (3 * 6)), oC knq 2 [.ref knnq, .int (nI 8), .int (nI ns)], iA G knnq (3 * 8) (va_cpy fs fsq 0 0 (3 * 8))]) [0, 1, 2, 11, 12, 13, 14, 15, 16, 17, 18, 3, 4, 5, 6, 7, 8, 9, 10] rfl
    have hD := hD.sub (ws' := [oC kx 5 [.ref kb, .ref kim, .ref kit, .ref kv, .ref kre, .int tf, .ref ksh, .int rf, .ref kwa, .ref kta], kA G kim 2 gi, zA G kit 2 (upd it j (nI 1)), oC kb 0 [.int (nI w), .int (nI h), .int (nI la), .ref ka, .ref kc, .ref kl, .ref kn], iA G ka 16 af, oC kc 2 [.ref kcn, .int (nI 10), .int (nI nc)], iA G kcn (3 * 10) fc, oC kl 2 [.ref kln, .int (nI 6), .int (nI nl)], iA G kln (3 * 6) fl, oC kn 2 [.ref knn, .int (nI 8), .int (nI ns)], iA G knn (3 * 8) fs, oC kbq 0 [.int (nI w), .int (nI h), .int (nI la), .ref kaq, .ref kcq, .ref klq, .ref knq], iA G kaq 16 (va_cpy af afq 0 0 16), oC kcq 2 [.ref kcnq, .int (nI 10), .int (nI nc)], iA G kcnq (3 * 10) (va_cpy fc fcq 0 0 (3 * 10)), oC klq 2 [.ref klnq, .int (nI 6), .int (nI nl)], iA G klnq (3 * 6) (va_cpy fl flq 0 0 (3 * 6)), oC knq 2 [.ref knnq, .int (nI 8), .int (nI ns)], iA G knnq (3 * 8) (va_cpy fs fsq 0 0 (3 * 8))]) [0, 1, 2, 11, 12, 13, 14, 15, 16, 17, 18, 3, 4, 5, 6, 7, 8, 9, 10] (by decide) rfl
    refine W.iret (v := nI 0) hx hb hr (fun t ht hW => ⟨⟨nI 0, (upd it j (nI 1), (va_cpy af afq 0 0 16), (va_cpy fc fcq 0 0 (3 * 10)), (va_cpy fl flq 0 0 (3 * 6)), (va_cpy fs fsq 0 0 (3 * 8))), rfl, ?_, by rw [ht]; exact hP, hD⟩, hS.F ht⟩) hS.2.2 dX5_keep_47
    try dsimp only
    first | exact ⟨(if_pos b17).symm, rfl, rfl, rfl, rfl, rfl⟩ | exact ⟨(if_neg b17).symm, rfl, rfl, rfl, rfl, rfl⟩
  · skip
    refine lv_iconst (v := nI 1) hx hb dX5_keep_20 (by decide) ?_
    refine lv_goto (tgt := 25) hx hb dX5_keep_21 rfl ?_
    refine lv_istore_n (lv' := [(2, .int (nI 1)), (0, .ref kx), (1, .int (nI j))]) hx hb dX5_keep_25 rfl hl (by decide) rfl (fun ls hl => ?_)
    refine lv_aload_n hx hb dX5_keep_26 rfl (lv_at hl 1 rfl) ?_
    refine va_get (D := G.1) (ci := 5) (v := .ref kim) (C := RX5) (T := TX5) (N := 10) hx hb hts hin5 hown hK.1 hP 0 rfl rfl 1 (by decide) (hts (.fieldLink RX5 16 "BackLenses" "images" "[LBackLenses$Book;") (List.mem_of_getElem? (i := 2) rfl)) (fun _ h9 => h9) rfl dX5_keep_27 ?_
    refine lv_iload_n hx hb dX5_keep_30 rfl (lv_at hl 2 rfl) ?_
    refine xn_aaldk hx hb hK hP 1 rfl (by omega) (by omega) (show _ = some kbq by assumption) dX5_keep_31 ?_
    refine lv_aload_n hx hb dX5_keep_32 rfl (lv_at hl 1 rfl) ?_
    refine va_get (D := G.1) (ci := 5) (v := .ref kb) (C := RX5) (T := TX5) (N := 10) hx hb hts hin5 hown hK.1 hP 0 rfl rfl 0 (by decide) (hts (.fieldLink RX5 10 "BackLenses" "book" "LBackLenses$Book;") (List.mem_of_getElem? (i := 3) rfl)) (fun _ h9 => h9) rfl dX5_keep_33 ?_
    refine xw_v (As := [.ref kb]) (rest := []) (wr := [oC kx 5 [.ref kb, .ref kim, .ref kit, .ref kv, .ref kre, .int tf, .ref ksh, .int rf, .ref kwa, .ref kta], kA G kim 2 gi, zA G kit 2 it]) ⟨hx, hb, hml, hown, hts⟩ (c_X0_become l G ss.heap.size kbq kaq kcq kcnq klq klnq knq knnq wq hq laq afq ncq fcq nlq flq nsq fsq kb ka kc kcn kl kln kn knn w h la af nc fc nl fl ns fs ) (cwV 1 hts gX5_keep_X0_become rfl rfl rfl (by decide +kernel) ⟨Nat.le_of_ble_eq_true rfl, Nat.le_of_ble_eq_true rfl⟩) hK hP hD hS hA [11, 12, 13, 14, 15, 16, 17, 18, 3, 4, 5, 6, 7, 8, 9, 10] [0, 1, 2] rfl rfl (by decide) (by decide) (by decide) rfl rfl rfl hl.1 rfl (Nat.le_of_ble_eq_true rfl) dX5_keep_36 ⟨Nat.le_of_ble_eq_true rfl, Nat.le_of_ble_eq_true rfl⟩ (fun u H locs hp36 hP hD hS => ?_)
    obtain ⟨u0_36, u1_36, u2_36, u3_36⟩ := u
    try dsimp only at hp36 hP hD
    obtain ⟨rfl, rfl, rfl, rfl⟩ := hp36
    replace hP : xP G [oC kx 5 [.ref kb, .ref kim, .ref kit, .ref kv, .ref kre, .int tf, .ref ksh, .int rf, .ref kwa, .ref kta], kA G kim 2 gi, zA G kit 2 it, oC kbq 0 [.int (nI w), .int (nI h), .int (nI la), .ref kaq, .ref kcq, .ref klq, .ref knq], iA G kaq 16 (va_cpy af afq 0 0 16), oC kcq 2 [.ref kcnq, .int (nI 10), .int (nI nc)], iA G kcnq (3 * 10) (va_cpy fc fcq 0 0 (3 * 10)), oC klq 2 [.ref klnq, .int (nI 6), .int (nI nl)], iA G klnq (3 * 6) (va_cpy fl flq 0 0 (3 * 6)), oC knq 2 [.ref knnq, .int (nI 8), .int (nI ns)], iA G knnq (3 * 8) (va_cpy fs fsq 0 0 (3 * 8)), oC kb 0 [.int (nI w), .int (nI h), .int (nI la), .ref ka, .ref kc, .ref kl, .ref kn], iA G ka 16 af, oC kc 2 [.ref kcn, .int (nI 10), .int (nI nc)], iA G kcn (3 * 10) fc, oC kl 2 [.ref kln, .int (nI 6), .int (nI nl)], iA G kln (3 * 6) fl, oC kn 2 [.ref knn, .int (nI 8), .int (nI ns)], iA G knn (3 * 8) fs] H := hP
    replace hD : va_D (va_A (w_X5_keep G kx kim kit kv kre ksh kwa kta tf rf gi it kb ka kc kcn kl kln kn knn w h la af nc fc nl fl ns fs kbq kaq kcq kcnq klq klnq knq knnq wq hq laq afq ncq fcq nlq flq nsq fsq) ss.heap.size) [oC kx 5 [.ref kb, .ref kim, .ref kit, .ref kv, .ref kre, .int tf, .ref ksh, .int rf, .ref kwa, .ref kta], kA G kim 2 gi, zA G kit 2 it, oC kbq 0 [.int (nI w), .int (nI h), .int (nI la), .ref kaq, .ref kcq, .ref klq, .ref knq], iA G kaq 16 (va_cpy af afq 0 0 16), oC kcq 2 [.ref kcnq, .int (nI 10), .int (nI nc)], iA G kcnq (3 * 10) (va_cpy fc fcq 0 0 (3 * 10)), oC klq 2 [.ref klnq, .int (nI 6), .int (nI nl)], iA G klnq (3 * 6) (va_cpy fl flq 0 0 (3 * 6)), oC knq 2 [.ref knnq, .int (nI 8), .int (nI ns)], iA G knnq (3 * 8) (va_cpy fs fsq 0 0 (3 * 8)), oC kb 0 [.int (nI w), .int (nI h), .int (nI la), .ref ka, .ref kc, .ref kl, .ref kn], iA G ka 16 af, oC kc 2 [.ref kcn, .int (nI 10), .int (nI nc)], iA G kcn (3 * 10) fc, oC kl 2 [.ref kln, .int (nI 6), .int (nI nl)], iA G kln (3 * 6) fl, oC kn 2 [.ref knn, .int (nI 8), .int (nI ns)], iA G knn (3 * 8) fs] := hD
    refine lv_aload_n hx hb dX5_keep_39 rfl (lv_at hl 1 rfl) ?_
    refine va_get (D := G.1) (ci := 5) (v := .ref kit) (C := RX5) (T := TX5) (N := 10) hx hb hts hin5 hown hK.1 hP 0 rfl rfl 2 (by decide) (hts (.fieldLink RX5 20 "BackLenses" "imageThere" "[Z") (List.mem_of_getElem? (i := 1) rfl)) (fun _ h9 => h9) rfl dX5_keep_40 ?_
    refine lv_iload_n hx hb dX5_keep_43 rfl (lv_at hl 2 rfl) ?_
    refine lv_iconst (v := nI 1) hx hb dX5_keep_44 (by decide) ?_
    refine xn_zast (y := nI 1) hx hb hK hP hD hS 2 rfl (by omega) (by omega) (by decide) dX5_keep_45 (fun H locs hP hD hS => ?_)
    replace hP : xP G [oC kx 5 [.ref kb, .ref kim, .ref kit, .ref kv, .ref kre, .int tf, .ref ksh, .int rf, .ref kwa, .ref kta], kA G kim 2 gi, zA G kit 2 (upd it j (nI 1)), oC kbq 0 [.int (nI w), .int (nI h), .int (nI la), .ref kaq, .ref kcq, .ref klq, .ref knq], iA G kaq 16 (va_cpy af afq 0 0 16), oC kcq 2 [.ref kcnq, .int (nI 10), .int (nI nc)], iA G kcnq (3 * 10) (va_cpy fc fcq 0 0 (3 * 10)), oC klq 2 [.ref klnq, .int (nI 6), .int (nI nl)], iA G klnq (3 * 6) (va_cpy fl flq 0 0 (3 * 6)), oC knq 2 [.ref knnq, .int (nI 8), .int (nI ns)], iA G knnq (3 * 8) (va_cpy fs fsq 0 0 (3 * 8)), oC kb 0 [.int (nI w), .int (nI h), .int (nI la), .ref ka, .ref kc, .ref kl, .ref kn], iA G ka 16 af, oC kc 2 [.ref kcn, .int (nI 10), .int (nI nc)], iA G kcn (3 * 10) fc, oC kl 2 [.ref kln, .int (nI 6), .int (nI nl)], iA G kln (3 * 6) fl, oC kn 2 [.ref knn, .int (nI 8), .int (nI ns)], iA G knn (3 * 8) fs] H := hP
    replace hD : va_D (va_A (w_X5_keep G kx kim kit kv kre ksh kwa kta tf rf gi it kb ka kc kcn kl kln kn knn w h la af nc fc nl fl ns fs kbq kaq kcq kcnq klq klnq knq knnq wq hq laq afq ncq fcq nlq flq nsq fsq) ss.heap.size) [oC kx 5 [.ref kb, .ref kim, .ref kit, .ref kv, .ref kre, .int tf, .ref ksh, .int rf, .ref kwa, .ref kta], kA G kim 2 gi, zA G kit 2 (upd it j (nI 1)), oC kbq 0 [.int (nI w), .int (nI h), .int (nI la), .ref kaq, .ref kcq, .ref klq, .ref knq], iA G kaq 16 (va_cpy af afq 0 0 16), oC kcq 2 [.ref kcnq, .int (nI 10), .int (nI nc)], iA G kcnq (3 * 10) (va_cpy fc fcq 0 0 (3 * 10)), oC klq 2 [.ref klnq, .int (nI 6), .int (nI nl)], iA G klnq (3 * 6) (va_cpy fl flq 0 0 (3 * 6)), oC knq 2 [.ref knnq, .int (nI 8), .int (nI ns)], iA G knnq (3 * 8) (va_cpy fs fsq 0 0 (3 * 8)), oC kb 0 [.int (nI w), .int (nI h), .int (nI la), .ref ka, .ref kc, .ref kl, .ref kn], iA G ka 16 af, oC kc 2 [.ref kcn, .int (nI 10), .int (nI nc)], iA G kcn (3 * 10) fc, oC kl 2 [.ref kln, .int (nI 6), .int (nI nl)], iA G kln (3 * 6) fl, oC kn 2 [.ref knn, .int (nI 8), .int (nI ns)], iA G knn (3 * 8) fs] := hD
    refine lv_iload_n hx hb dX5_keep_46 rfl (lv_at hl 0 rfl) ?_
    have hP := hP.sub (ws' := [oC kx 5 [.ref kb, .ref kim, .ref kit, .ref kv, .ref kre, .int tf, .ref ksh, .int rf, .ref kwa, .ref kta], kA G kim 2 gi, zA G kit 2 (upd it j (nI 1)), oC kb 0 [.int (nI w), .int (nI h), .int (nI la), .ref ka, .ref kc, .ref kl, .ref kn], iA G ka 16 af, oC kc 2 [.ref kcn, .int (nI 10), .int (nI nc)], iA G kcn (3 * 10) fc, oC kl 2 [.ref kln, .int (nI 6), .int (nI nl)], iA G kln (3 * 6) fl, oC kn 2 [.ref knn, .int (nI 8), .int (nI ns)], iA G knn (3 * 8) fs, oC kbq 0 [.int (nI w), .int (nI h), .int (nI la), .ref kaq, .ref kcq, .ref klq, .ref knq], iA G kaq 16 (va_cpy af afq 0 0 16), oC kcq 2 [.ref kcnq, .int (nI 10), .int (nI nc)], iA G kcnq (3 * 10) (va_cpy fc fcq 0 0 (3 * 10)), oC klq 2 [.ref klnq, .int (nI 6), .int (nI nl)], iA G klnq (3 * 6) (va_cpy fl flq 0 0 (3 * 6)), oC knq 2 [.ref knnq, .int (nI 8), .int (nI ns)], iA G knnq (3 * 8) (va_cpy fs fsq 0 0 (3 * 8))]) [0, 1, 2, 11, 12, 13, 14, 15, 16, 17, 18, 3, 4, 5, 6, 7, 8, 9, 10] rfl
    have hD := hD.sub (ws' := [oC kx 5 [.ref kb, .ref kim, .ref kit, .ref kv, .ref kre, .int tf, .ref ksh, .int rf, .ref kwa, .ref kta], kA G kim 2 gi, zA G kit 2 (upd it j (nI 1)), oC kb 0 [.int (nI w), .int (nI h), .int (nI la), .ref ka, .ref kc, .ref kl, .ref kn], iA G ka 16 af, oC kc 2 [.ref kcn, .int (nI 10), .int (nI nc)], iA G kcn (3 * 10) fc, oC kl 2 [.ref kln, .int (nI 6), .int (nI nl)], iA G kln (3 * 6) fl, oC kn 2 [.ref knn, .int (nI 8), .int (nI ns)], iA G knn (3 * 8) fs, oC kbq 0 [.int (nI w), .int (nI h), .int (nI la), .ref kaq, .ref kcq, .ref klq, .ref knq], iA G kaq 16 (va_cpy af afq 0 0 16), oC kcq 2 [.ref kcnq, .int (nI 10), .int (nI nc)], iA G kcnq (3 * 10) (va_cpy fc fcq 0 0 (3 * 10)), oC klq 2 [.ref klnq, .int (nI 6), .int (nI nl)], iA G klnq (3 * 6) (va_cpy fl flq 0 0 (3 * 6)), oC knq 2 [.ref knnq, .int (nI 8), .int (nI ns)], iA G knnq (3 * 8) (va_cpy fs fsq 0 0 (3 * 8))]) [0, 1, 2, 11, 12, 13, 14, 15, 16, 17, 18, 3, 4, 5, 6, 7, 8, 9, 10] (by decide) rfl
    refine W.iret (v := nI 1) hx hb hr (fun t ht hW => ⟨⟨nI 1, (upd it j (nI 1), (va_cpy af afq 0 0 16), (va_cpy fc fcq 0 0 (3 * 10)), (va_cpy fl flq 0 0 (3 * 6)), (va_cpy fs fsq 0 0 (3 * 8))), rfl, ?_, by rw [ht]; exact hP, hD⟩, hS.F ht⟩) hS.2.2 dX5_keep_47
    try dsimp only
    first | exact ⟨(if_pos b17).symm, rfl, rfl, rfl, rfl, rfl⟩ | exact ⟨(if_neg b17).symm, rfl, rfl, rfl, rfl, rfl⟩

abbrev w_X5_back (G : XG) (kx kim kit kv kre ksh kwa kta : Nat) (tf rf : Int32) (gi : Nat → Option Nat) (it : Nat → Int32) (kb ka kc kcn kl kln kn knn : Nat) (w h la : Nat) (af : Nat → Int32) (nc : Nat) (fc : Nat → Int32) (nl : Nat) (fl : Nat → Int32) (ns : Nat) (fs : Nat → Int32) (kbq kaq kcq kcnq klq klnq knq knnq : Nat) (wq hq laq : Nat) (afq : Nat → Int32) (ncq : Nat) (fcq : Nat → Int32) (nlq : Nat) (flq : Nat → Int32) (nsq : Nat) (fsq : Nat → Int32) (km kg : Nat) (vw vh : Nat) (sl : Int32) : va_W := [oC kx 5 [.ref kb, .ref kim, .ref kit, .ref kv, .ref kre, .int tf, .ref ksh, .int rf, .ref kwa, .ref kta], kA G kim 2 gi, zA G kit 2 it, oC kb 0 [.int (nI w), .int (nI h), .int (nI la), .ref ka, .ref kc, .ref kl, .ref kn], iA G ka 16 af, oC kc 2 [.ref kcn, .int (nI 10), .int (nI nc)], iA G kcn (3 * 10) fc, oC kl 2 [.ref kln, .int (nI 6), .int (nI nl)], iA G kln (3 * 6) fl, oC kn 2 [.ref knn, .int (nI 8), .int (nI ns)], iA G knn (3 * 8) fs, oC kbq 0 [.int (nI wq), .int (nI hq), .int (nI laq), .ref kaq, .ref kcq, .ref klq, .ref knq], iA G kaq 16 afq, oC kcq 2 [.ref kcnq, .int (nI 10), .int (nI ncq)], iA G kcnq (3 * 10) fcq, oC klq 2 [.ref klnq, .int (nI 6), .int (nI nlq)], iA G klnq (3 * 6) flq, oC knq 2 [.ref knnq, .int (nI 8), .int (nI nsq)], iA G knnq (3 * 8) fsq, oC kv 4 [.ref km, .ref kg, .int (nI vw), .int (nI vh), .int sl]]
abbrev Q_X5_back (G : XG) (sz : Nat) (kx kim kit kv kre ksh kwa kta : Nat) (tf rf : Int32) (gi : Nat → Option Nat) (it : Nat → Int32) (kb ka kc kcn kl kln kn knn : Nat) (w h la : Nat) (af : Nat → Int32) (nc : Nat) (fc : Nat → Int32) (nl : Nat) (fl : Nat → Int32) (ns : Nat) (fs : Nat → Int32) (kbq kaq kcq kcnq klq klnq knq knnq : Nat) (wq hq laq : Nat) (afq : Nat → Int32) (ncq : Nat) (fcq : Nat → Int32) (nlq : Nat) (flq : Nat → Int32) (nsq : Nat) (fsq : Nat → Int32) (j : Nat) (km kg : Nat) (vw vh : Nat) (sl : Int32) : Array Value → State → Outcome → State → Prop := (va_Qi (fun (r : Int32) (u : (Nat → Int32) × (Nat → Int32) × (Nat → Int32) × (Nat → Int32)) => r = nI ncq ∧ u.1 = va_cpy afq af 0 0 16 ∧ u.2.1 = va_cpy fcq fc 0 0 (3 * 10) ∧ u.2.2.1 = va_cpy flq fl 0 0 (3 * 6) ∧ u.2.2.2 = va_cpy fsq fs 0 0 (3 * 8)) (xWb G sz (w_X5_back G kx kim kit kv kre ksh kwa kta tf rf gi it kb ka kc kcn kl kln kn knn w h la af nc fc nl fl ns fs kbq kaq kcq kcnq klq klnq knq knnq wq hq laq afq ncq fcq nlq flq nsq fsq km kg vw vh sl) (fun u : (Nat → Int32) × (Nat → Int32) × (Nat → Int32) × (Nat → Int32) => [oC kx 5 [.ref kb, .ref kim, .ref kit, .ref kv, .ref kre, .int tf, .ref ksh, .int rf, .ref kwa, .ref kta], kA G kim 2 gi, zA G kit 2 it, oC kb 0 [.int (nI wq), .int (nI hq), .int (nI laq), .ref ka, .ref kc, .ref kl, .ref kn], iA G ka 16 u.1, oC kc 2 [.ref kcn, .int (nI 10), .int (nI ncq)], iA G kcn (3 * 10) u.2.1, oC kl 2 [.ref kln, .int (nI 6), .int (nI nlq)], iA G kln (3 * 6) u.2.2.1, oC kn 2 [.ref knn, .int (nI 8), .int (nI nsq)], iA G knn (3 * 8) u.2.2.2, oC kbq 0 [.int (nI wq), .int (nI hq), .int (nI laq), .ref kaq, .ref kcq, .ref klq, .ref knq], iA G kaq 16 afq, oC kcq 2 [.ref kcnq, .int (nI 10), .int (nI ncq)], iA G kcnq (3 * 10) fcq, oC klq 2 [.ref klnq, .int (nI 6), .int (nI nlq)], iA G klnq (3 * 6) flq, oC knq 2 [.ref knnq, .int (nI 8), .int (nI nsq)], iA G knnq (3 * 8) fsq, oC kv 4 [.ref km, .ref kg, .int (nI vw), .int (nI vh), .int (nI 1)]])) (va_A (w_X5_back G kx kim kit kv kre ksh kwa kta tf rf gi it kb ka kc kcn kl kln kn knn w h la af nc fc nl fl ns fs kbq kaq kcq kcnq klq klnq knq knnq wq hq laq afq ncq fcq nlq flq nsq fsq km kg vw vh sl) sz))
set_option maxHeartbeats 4000000 in
set_option maxRecDepth 100000 in
theorem c_X5_back (l : Launch) (G : XG) (sz : Nat) (kx kim kit kv kre ksh kwa kta : Nat) (tf rf : Int32) (gi : Nat → Option Nat) (it : Nat → Int32) (kb ka kc kcn kl kln kn knn : Nat) (w h la : Nat) (af : Nat → Int32) (nc : Nat) (fc : Nat → Int32) (nl : Nat) (fl : Nat → Int32) (ns : Nat) (fs : Nat → Int32) (kbq kaq kcq kcnq klq klnq knq knnq : Nat) (wq hq laq : Nat) (afq : Nat → Int32) (ncq : Nat) (fcq : Nat → Int32) (nlq : Nat) (flq : Nat → Int32) (nsq : Nat) (fsq : Nat → Int32) (j : Nat) (km kg : Nat) (vw vh : Nat) (sl : Int32) (hj : j < 2) (hgj : gi j = some kbq) (hit : ¬ it j = 0) : Met l yX5_back wsX5_back ({ frames := 3, cells := 0, slots := 0, locals := 60 } : Room) (va_Pc [.ref kx, .int (nI j)] (xWp G sz (w_X5_back G kx kim kit kv kre ksh kwa kta tf rf gi it kb ka kc kcn kl kln kn knn w h la af nc fc nl fl ns fs kbq kaq kcq kcnq klq klnq knq knnq wq hq laq afq ncq fcq nlq flq nsq fsq km kg vw vh sl))) (Q_X5_back G sz kx kim kit kv kre ksh kwa kta tf rf gi it kb ka kc kcn kl kln kn knn w h la af nc fc nl fl ns fs kbq kaq kcq kcnq klq klnq knq knnq wq hq laq afq ncq fcq nlq flq nsq fsq j km kg vw vh sl) 0 0 (va_A (w_X5_back G kx kim kit kv kre ksh kwa kta tf rf gi it kb ka kc kcn kl kln kn knn w h la af nc fc nl fl ns fs kbq kaq kcq kcnq klq klnq knq knnq wq hq laq afq ncq fcq nlq flq nsq fsq km kg vw vh sl) sz) := by
  refine Met.ofW (cc := cX5_back) (maxL := 2) (ret := (some .int)) (by decide) rfl ?_
  intro pp ee ss mm aa below mt cd s₁ BB hml hv
  obtain ⟨rfl, hsz, hP, hK, hD0⟩ := hv
  have hx := BB.exec
  have hb := BB.bytes
  have hr := BB.returns
  have hts := atoms_spec (ws := wsX5_back) BB.pre
  have hown : ss.vm.findClass RX5 = some mm.cls := findClass_of_methodNamed BB.named
  have hlocks := BB.notSynchronized
  subst hsz
  have hD := hD0.self (sz := ss.heap.size)
  have hA : ∀ q : Nat, ss.heap.size ≤ q → va_A (w_X5_back G kx kim kit kv kre ksh kwa kta tf rf gi it kb ka kc kcn kl kln kn knn w h la af nc fc nl fl ns fs kbq kaq kcq kcnq klq klnq knq knnq wq hq laq afq ncq fcq nlq flq nsq fsq km kg vw vh sl) ss.heap.size q := fun q h => Or.inr h
  have hS : va_S (va_A (w_X5_back G kx kim kit kv kre ksh kwa kta tf rf gi it kb ka kc kcn kl kln kn knn w h la af nc fc nl fl ns fs kbq kaq kcq kcnq klq klnq knq knnq wq hq laq afq ncq fcq nlq flq nsq fsq km kg vw vh sl) ss.heap.size) ss.heap ss.heap [] := va_S.rf
  replace hD : va_D (va_A (w_X5_back G kx kim kit kv kre ksh kwa kta tf rf gi it kb ka kc kcn kl kln kn knn w h la af nc fc nl fl ns fs kbq kaq kcq kcnq klq klnq knq knnq wq hq laq afq ncq fcq nlq flq nsq fsq km kg vw vh sl) ss.heap.size) [oC kx 5 [.ref kb, .ref kim, .ref kit, .ref kv, .ref kre, .int tf, .ref ksh, .int rf, .ref kwa, .ref kta], kA G kim 2 gi, zA G kit 2 it, oC kb 0 [.int (nI w), .int (nI h), .int (nI la), .ref ka, .ref kc, .ref kl, .ref kn], iA G ka 16 af, oC kc 2 [.ref kcn, .int (nI 10), .int (nI nc)], iA G kcn (3 * 10) fc, oC kl 2 [.ref kln, .int (nI 6), .int (nI nl)], iA G kln (3 * 6) fl, oC kn 2 [.ref knn, .int (nI 8), .int (nI ns)], iA G knn (3 * 8) fs, oC kbq 0 [.int (nI wq), .int (nI hq), .int (nI laq), .ref kaq, .ref kcq, .ref klq, .ref knq], iA G kaq 16 afq, oC kcq 2 [.ref kcnq, .int (nI 10), .int (nI ncq)], iA G kcnq (3 * 10) fcq, oC klq 2 [.ref klnq, .int (nI 6), .int (nI nlq)], iA G klnq (3 * 6) flq, oC knq 2 [.ref knnq, .int (nI 8), .int (nI nsq)], iA G knnq (3 * 8) fsq, oC kv 4 [.ref km, .ref kg, .int (nI vw), .int (nI vh), .int sl]] := hD
  replace hP : xP G [oC kx 5 [.ref kb, .ref kim, .ref kit, .ref kv, .ref kre, .int tf, .ref ksh, .int rf, .ref kwa, .ref kta], kA G kim 2 gi, zA G kit 2 it, oC kb 0 [.int (nI w), .int (nI h), .int (nI la), .ref ka, .ref kc, .ref kl, .ref kn], iA G ka 16 af, oC kc 2 [.ref kcn, .int (nI 10), .int (nI nc)], iA G kcn (3 * 10) fc, oC kl 2 [.ref kln, .int (nI 6), .int (nI nl)], iA G kln (3 * 6) fl, oC kn 2 [.ref knn, .int (nI 8), .int (nI ns)], iA G knn (3 * 8) fs, oC kbq 0 [.int (nI wq), .int (nI hq), .int (nI laq), .ref kaq, .ref kcq, .ref klq, .ref knq], iA G kaq 16 afq, oC kcq 2 [.ref kcnq, .int (nI 10), .int (nI ncq)], iA G kcnq (3 * 10) fcq, oC klq 2 [.ref klnq, .int (nI 6), .int (nI nlq)], iA G klnq (3 * 6) flq, oC knq 2 [.ref knnq, .int (nI 8), .int (nI nsq)], iA G knnq (3 * 8) fsq, oC kv 4 [.ref km, .ref kg, .int (nI vw), .int (nI vh), .int sl]] ss.heap := hP
  have hin0 : ∀ w ∈ u_ws RX0 TX0 7, w ∈ wsX5_back := fun w h => List.mem_cons_of_mem _ (List.mem_append_left _ (List.mem_append_right _ h))
  have hin2 : ∀ w ∈ u_ws RX2 TX2 3, w ∈ wsX5_back := fun w h => List.mem_cons_of_mem _ (List.mem_append_right _ h)
  have hin4 : ∀ w ∈ u_ws RX4 TX4 5, w ∈ wsX5_back := fun w h => List.mem_cons_of_mem _ (List.mem_append_left _ (List.mem_append_left _ (List.mem_append_right _ h)))
  have hin5 : ∀ w ∈ u_ws RX5 TX5 10, w ∈ wsX5_back := fun w h => List.mem_cons_of_mem _ (List.mem_append_left _ (List.mem_append_left _ (List.mem_append_left _ (List.mem_append_right _ h))))
  have hl := lv_entry ([.ref kx, .int (nI j)]) (n := 2) (Nat.le_of_ble_eq_true rfl)
  rw [lg_entry_eq]
  generalize (lg_sl ([.ref kx, .int (nI j)]) ++ List.replicate (2 - (lg_sl ([.ref kx, .int (nI j)])).length) Slot.unset).toArray = ls at hl ⊢
  replace hl : lv_has ls 2 [(0, .ref kx), (1, .int (nI j))] := hl
  refine lv_iload_n hx hb dX5_back_0 rfl (lv_at hl 1 rfl) ?_
  refine xn_if_lt (tgt := 9) hx hb (by omega) dX5_back_1 rfl (fun b1 => absurd b1 (by omega)) (fun _ => ?_)
  refine lv_iload_n hx hb dX5_back_4 rfl (lv_at hl 1 rfl) ?_
  refine lv_iconst (v := nI 2) hx hb dX5_back_5 (by decide) ?_
  refine xn_icmp_lt (tgt := 11) hx hb (by omega) (by omega) dX5_back_6 rfl (fun _ => ?_) (fun b6 => absurd b6 (by omega))
  refine lv_aload_n hx hb dX5_back_11 rfl (lv_at hl 0 rfl) ?_
  refine va_get (D := G.1) (ci := 5) (v := .ref kit) (C := RX5) (T := TX5) (N := 10) hx hb hts hin5 hown hK.1 hP 0 rfl rfl 2 (by decide) (hts (.fieldLink RX5 20 "BackLenses" "imageThere" "[Z") (List.mem_of_getElem? (i := 1) rfl)) (fun _ h9 => h9) rfl dX5_back_12 ?_
  refine lv_iload_n hx hb dX5_back_15 rfl (lv_at hl 1 rfl) ?_
  refine xn_zald hx hb hK hP 2 rfl (by omega) (by omega) dX5_back_16 ?_
  refine lv_if_ne (tgt := 23) hx hb dX5_back_17 rfl (fun _ => ?_) (fun b17 => absurd b17 (by first | exact hit | exact absurd b17 hit))
  refine lv_aload_n hx hb dX5_back_23 rfl (lv_at hl 0 rfl) ?_
  refine va_get (D := G.1) (ci := 5) (v := .ref kb) (C := RX5) (T := TX5) (N := 10) hx hb hts hin5 hown hK.1 hP 0 rfl rfl 0 (by decide) (hts (.fieldLink RX5 10 "BackLenses" "book" "LBackLenses$Book;") (List.mem_of_getElem? (i := 2) rfl)) (fun _ h9 => h9) rfl dX5_back_24 ?_
  refine lv_aload_n hx hb dX5_back_27 rfl (lv_at hl 0 rfl) ?_
  refine va_get (D := G.1) (ci := 5) (v := .ref kim) (C := RX5) (T := TX5) (N := 10) hx hb hts hin5 hown hK.1 hP 0 rfl rfl 1 (by decide) (hts (.fieldLink RX5 16 "BackLenses" "images" "[LBackLenses$Book;") (List.mem_of_getElem? (i := 3) rfl)) (fun _ h9 => h9) rfl dX5_back_28 ?_
  refine lv_iload_n hx hb dX5_back_31 rfl (lv_at hl 1 rfl) ?_
  refine xn_aaldk hx hb hK hP 1 rfl (by omega) (by omega) (show _ = some kbq by assumption) dX5_back_32 ?_
  refine xw_v (As := [.ref kbq]) (rest := []) (wr := [oC kx 5 [.ref kb, .ref kim, .ref kit, .ref kv, .ref kre, .int tf, .ref ksh, .int rf, .ref kwa, .ref kta], kA G kim 2 gi, zA G kit 2 it, oC kv 4 [.ref km, .ref kg, .int (nI vw), .int (nI vh), .int sl]]) ⟨hx, hb, hml, hown, hts⟩ (c_X0_become l G ss.heap.size kb ka kc kcn kl kln kn knn w h la af nc fc nl fl ns fs kbq kaq kcq kcnq klq klnq knq knnq wq hq laq afq ncq fcq nlq flq nsq fsq ) (cwV 1 hts gX5_back_X0_become rfl rfl rfl (by decide +kernel) ⟨Nat.le_of_ble_eq_true rfl, Nat.le_of_ble_eq_true rfl⟩) hK hP hD hS hA [3, 4, 5, 6, 7, 8, 9, 10, 11, 12, 13, 14, 15, 16, 17, 18] [0, 1, 2, 19] rfl rfl (by decide) (by decide) (by decide) rfl rfl rfl hl.1 rfl (Nat.le_of_ble_eq_true rfl) dX5_back_33 ⟨Nat.le_of_ble_eq_true rfl, Nat.le_of_ble_eq_true rfl⟩ (fun u H locs hp33 hP hD hS => ?_)
  obtain ⟨u0_33, u1_33, u2_33, u3_33⟩ := u
  try dsimp only at hp33 hP hD
  obtain ⟨rfl, rfl, rfl, rfl⟩ := hp33
  replace hP : xP G [oC kx 5 [.ref kb, .ref kim, .ref kit, .ref kv, .ref kre, .int tf, .ref ksh, .int rf, .ref kwa, .ref kta], kA G kim 2 gi, zA G kit 2 it, oC kv 4 [.ref km, .ref kg, .int (nI vw), .int (nI vh), .int sl], oC kb 0 [.int (nI wq), .int (nI hq), .int (nI laq), .ref ka, .ref kc, .ref kl, .ref kn], iA G ka 16 (va_cpy afq af 0 0 16), oC kc 2 [.ref kcn, .int (nI 10), .int (nI ncq)], iA G kcn (3 * 10) (va_cpy fcq fc 0 0 (3 * 10)), oC kl 2 [.ref kln, .int (nI 6), .int (nI nlq)], iA G kln (3 * 6) (va_cpy flq fl 0 0 (3 * 6)), oC kn 2 [.ref knn, .int (nI 8), .int (nI nsq)], iA G knn (3 * 8) (va_cpy fsq fs 0 0 (3 * 8)), oC kbq 0 [.int (nI wq), .int (nI hq), .int (nI laq), .ref kaq, .ref kcq, .ref klq, .ref knq], iA G kaq 16 afq, oC kcq 2 [.ref kcnq, .int (nI 10), .int (nI ncq)], iA G kcnq (3 * 10) fcq, oC klq 2 [.ref klnq, .int (nI 6), .int (nI nlq)], iA G klnq (3 * 6) flq, oC knq 2 [.ref knnq, .int (nI 8), .int (nI nsq)], iA G knnq (3 * 8) fsq] H := hP
  replace hD : va_D (va_A (w_X5_back G kx kim kit kv kre ksh kwa kta tf rf gi it kb ka kc kcn kl kln kn knn w h la af nc fc nl fl ns fs kbq kaq kcq kcnq klq klnq knq knnq wq hq laq afq ncq fcq nlq flq nsq fsq km kg vw vh sl) ss.heap.size) [oC kx 5 [.ref kb, .ref kim, .ref kit, .ref kv, .ref kre, .int tf, .ref ksh, .int rf, .ref kwa, .ref kta], kA G kim 2 gi, zA G kit 2 it, oC kv 4 [.ref km, .ref kg, .int (nI vw), .int (nI vh), .int sl], oC kb 0 [.int (nI wq), .int (nI hq), .int (nI laq), .ref ka, .ref kc, .ref kl, .ref kn], iA G ka 16 (va_cpy afq af 0 0 16), oC kc 2 [.ref kcn, .int (nI 10), .int (nI ncq)], iA G kcn (3 * 10) (va_cpy fcq fc 0 0 (3 * 10)), oC kl 2 [.ref kln, .int (nI 6), .int (nI nlq)], iA G kln (3 * 6) (va_cpy flq fl 0 0 (3 * 6)), oC kn 2 [.ref knn, .int (nI 8), .int (nI nsq)], iA G knn (3 * 8) (va_cpy fsq fs 0 0 (3 * 8)), oC kbq 0 [.int (nI wq), .int (nI hq), .int (nI laq), .ref kaq, .ref kcq, .ref klq, .ref knq], iA G kaq 16 afq, oC kcq 2 [.ref kcnq, .int (nI 10), .int (nI ncq)], iA G kcnq (3 * 10) fcq, oC klq 2 [.ref klnq, .int (nI 6), .int (nI nlq)], iA G klnq (3 * 6) flq, oC knq 2 [.ref knnq, .int (nI 8), .int (nI nsq)], iA G knnq (3 * 8) fsq] := hD
  refine lv_aload_n hx hb dX5_back_36 rfl (lv_at hl 0 rfl) ?_
  refine va_get (D := G.1) (ci := 5) (v := .ref kv) (C := RX5) (T := TX5) (N := 10) hx hb hts hin5 hown hK.1 hP 0 rfl rfl 3 (by decide) (hts (.fieldLink RX5 27 "BackLenses" "views" "LBackLenses$Views;") (List.mem_of_getElem? (i := 4) rfl)) (fun _ h9 => h9) rfl dX5_back_37 ?_
  refine lv_iconst (v := nI 1) hx hb dX5_back_40 (by decide) ?_
  refine va_putN (D := G.1) (ci := 4) (v := .int (nI 1)) (ty := .boolean) (C := RX4) (T := TX4) (N := 5) hx hb hts hin4 tyX4 tyX4_ok nmX4 hown hK.1 hP hD hS 3 rfl rfl 4 (by decide) (va_Nw.use rfl (hK.2 (Cond.fieldLinkNest "BackLenses" (77 : Nat) "BackLenses$Views" "stale" "Z" "BackLenses") (List.mem_of_getElem? (i := 22) rfl))) (fun _ h9 => h9) rfl (by decide +kernel) (by decide) (by decide) (Nat.le_of_ble_eq_true rfl) dX5_back_41 (fun H locs hP hD hS => ?_)
  replace hP : xP G [oC kx 5 [.ref kb, .ref kim, .ref kit, .ref kv, .ref kre, .int tf, .ref ksh, .int rf, .ref kwa, .ref kta], kA G kim 2 gi, zA G kit 2 it, oC kv 4 [.ref km, .ref kg, .int (nI vw), .int (nI vh), .int (nI 1)], oC kb 0 [.int (nI wq), .int (nI hq), .int (nI laq), .ref ka, .ref kc, .ref kl, .ref kn], iA G ka 16 (va_cpy afq af 0 0 16), oC kc 2 [.ref kcn, .int (nI 10), .int (nI ncq)], iA G kcn (3 * 10) (va_cpy fcq fc 0 0 (3 * 10)), oC kl 2 [.ref kln, .int (nI 6), .int (nI nlq)], iA G kln (3 * 6) (va_cpy flq fl 0 0 (3 * 6)), oC kn 2 [.ref knn, .int (nI 8), .int (nI nsq)], iA G knn (3 * 8) (va_cpy fsq fs 0 0 (3 * 8)), oC kbq 0 [.int (nI wq), .int (nI hq), .int (nI laq), .ref kaq, .ref kcq, .ref klq, .ref knq], iA G kaq 16 afq, oC kcq 2 [.ref kcnq, .int (nI 10), .int (nI ncq)], iA G kcnq (3 * 10) fcq, oC klq 2 [.ref klnq, .int (nI 6), .int (nI nlq)], iA G klnq (3 * 6) flq, oC knq 2 [.ref knnq, .int (nI 8), .int (nI nsq)], iA G knnq (3 * 8) fsq] H := hP
  replace hD : va_D (va_A (w_X5_back G kx kim kit kv kre ksh kwa kta tf rf gi it kb ka kc kcn kl kln kn knn w h la af nc fc nl fl ns fs kbq kaq kcq kcnq klq klnq knq knnq wq hq laq afq ncq fcq nlq flq nsq fsq km kg vw vh sl) ss.heap.size) [oC kx 5 [.ref kb, .ref kim, .ref kit, .ref kv, .ref kre, .int tf, .ref ksh, .int rf, .ref kwa, .ref kta], kA G kim 2 gi, zA G kit 2 it, oC kv 4 [.ref km, .ref kg, .int (nI vw), .int (nI vh), .int (nI 1)], oC kb 0 [.int (nI wq), .int (nI hq), .int (nI laq), .ref ka, .ref kc, .ref kl, .ref kn], iA G ka 16 (va_cpy afq af 0 0 16), oC kc 2 [.ref kcn, .int (nI 10), .int (nI ncq)], iA G kcn (3 * 10) (va_cpy fcq fc 0 0 (3 * 10)), oC kl 2 [.ref kln, .int (nI 6), .int (nI nlq)], iA G kln (3 * 6) (va_cpy flq fl 0 0 (3 * 6)), oC kn 2 [.ref knn, .int (nI 8), .int (nI nsq)], iA G knn (3 * 8) (va_cpy fsq fs 0 0 (3 * 8)), oC kbq 0 [.int (nI wq), .int (nI hq), .int (nI laq), .ref kaq, .ref kcq, .ref klq, .ref knq], iA G kaq 16 afq, oC kcq 2 [.ref kcnq, .int (nI 10), .int (nI ncq)], iA G kcnq (3 * 10) fcq, oC klq 2 [.ref klnq, .int (nI 6), .int (nI nlq)], iA G klnq (3 * 6) flq, oC knq 2 [.ref knnq, .int (nI 8), .int (nI nsq)], iA G knnq (3 * 8) fsq] := hD
  refine lv_aload_n hx hb dX5_back_44 rfl (lv_at hl 0 rfl) ?_
  refine va_get (D := G.1) (ci := 5) (v := .ref kb) (C := RX5) (T := TX5) (N := 10) hx hb hts hin5 hown hK.1 hP 0 rfl rfl 0 (by decide) (hts (.fieldLink RX5 10 "BackLenses" "book" "LBackLenses$Book;") (List.mem_of_getElem? (i := 2) rfl)) (fun _ h9 => h9) rfl dX5_back_45 ?_
  refine va_getN (D := G.1) (ci := 0) (v := .ref kc) (C := RX0) (T := TX0) (N := 7) hx hb hts hin0 hown hK.1 hP 4 rfl rfl 4 (by decide) (va_Nw.use rfl (hK.2 (Cond.fieldLinkNest "BackLenses" (93 : Nat) "BackLenses$Book" "changes" "LBackLenses$Rows;" "BackLenses") (List.mem_of_getElem? (i := 18) rfl))) (fun _ h9 => h9) rfl dX5_back_48 ?_
  refine va_getN (D := G.1) (ci := 2) (v := .int (nI ncq)) (C := RX2) (T := TX2) (N := 3) hx hb hts hin2 hown hK.1 hP 6 rfl rfl 2 (by decide) (va_Nw.use rfl (hK.2 (Cond.fieldLinkNest "BackLenses" (97 : Nat) "BackLenses$Rows" "size" "I" "BackLenses") (List.mem_of_getElem? (i := 3) rfl))) (fun _ h9 => h9) rfl dX5_back_51 ?_
  have hP := hP.sub (ws' := [oC kx 5 [.ref kb, .ref kim, .ref kit, .ref kv, .ref kre, .int tf, .ref ksh, .int rf, .ref kwa, .ref kta], kA G kim 2 gi, zA G kit 2 it, oC kb 0 [.int (nI wq), .int (nI hq), .int (nI laq), .ref ka, .ref kc, .ref kl, .ref kn], iA G ka 16 (va_cpy afq af 0 0 16), oC kc 2 [.ref kcn, .int (nI 10), .int (nI ncq)], iA G kcn (3 * 10) (va_cpy fcq fc 0 0 (3 * 10)), oC kl 2 [.ref kln, .int (nI 6), .int (nI nlq)], iA G kln (3 * 6) (va_cpy flq fl 0 0 (3 * 6)), oC kn 2 [.ref knn, .int (nI 8), .int (nI nsq)], iA G knn (3 * 8) (va_cpy fsq fs 0 0 (3 * 8)), oC kbq 0 [.int (nI wq), .int (nI hq), .int (nI laq), .ref kaq, .ref kcq, .ref klq, .ref knq], iA G kaq 16 afq, oC kcq 2 [.ref kcnq, .int (nI 10), .int (nI ncq)], iA G kcnq (3 * 10) fcq, oC klq 2 [.ref klnq, .int (nI 6), .int (nI nlq)], iA G klnq (3 * 6) flq, oC knq 2 [.ref knnq, .int (nI 8), .int (nI nsq)], iA G knnq (3 * 8) fsq, oC kv 4 [.ref km, .ref kg, .int (nI vw), .int (nI vh), .int (nI 1)]]) [0, 1, 2, 4, 5, 6, 7, 8, 9, 10, 11, 12, 13, 14, 15, 16, 17, 18, 19, 3] rfl
  have hD := hD.sub (ws' := [oC kx 5 [.ref kb, .ref kim, .ref kit, .ref kv, .ref kre, .int tf, .ref ksh, .int rf, .ref kwa, .ref kta], kA G kim 2 gi, zA G kit 2 it, oC kb 0 [.int (nI wq), .int (nI hq), .int (nI laq), .ref ka, .ref kc, .ref kl, .ref kn], iA G ka 16 (va_cpy afq af 0 0 16), oC kc 2 [.ref kcn, .int (nI 10), .int (nI ncq)], iA G kcn (3 * 10) (va_cpy fcq fc 0 0 (3 * 10)), oC kl 2 [.ref kln, .int (nI 6), .int (nI nlq)], iA G kln (3 * 6) (va_cpy flq fl 0 0 (3 * 6)), oC kn 2 [.ref knn, .int (nI 8), .int (nI nsq)], iA G knn (3 * 8) (va_cpy fsq fs 0 0 (3 * 8)), oC kbq 0 [.int (nI wq), .int (nI hq), .int (nI laq), .ref kaq, .ref kcq, .ref klq, .ref knq], iA G kaq 16 afq, oC kcq 2 [.ref kcnq, .int (nI 10), .int (nI ncq)], iA G kcnq (3 * 10) fcq, oC klq 2 [.ref klnq, .int (nI 6), .int (nI nlq)], iA G klnq (3 * 6) flq, oC knq 2 [.ref knnq, .int (nI 8), .int (nI nsq)], iA G knnq (3 * 8) fsq, oC kv 4 [.ref km, .ref kg, .int (nI vw), .int (nI vh), .int (nI 1)]]) [0, 1, 2, 4, 5, 6, 7, 8, 9, 10, 11, 12, 13, 14, 15, 16, 17, 18, 19, 3] (by decide) rfl
  refine W.iret (v := nI ncq) hx hb hr (fun t ht hW => ⟨⟨nI ncq, ((va_cpy afq af 0 0 16), (va_cpy fcq fc 0 0 (3 * 10)), (va_cpy flq fl 0 0 (3 * 6)), (va_cpy fsq fs 0 0 (3 * 8))), rfl, ?_, by rw [ht]; exact hP, hD⟩, hS.F ht⟩) hS.2.2 dX5_back_54
  try dsimp only
  exact ⟨rfl, rfl, rfl, rfl, rfl⟩

abbrev w_X5_back_n (G : XG) (kx kim kit kv kre ksh kwa kta : Nat) (tf rf : Int32) (kb : Nat) (it : Nat → Int32) : va_W := [oC kx 5 [.ref kb, .ref kim, .ref kit, .ref kv, .ref kre, .int tf, .ref ksh, .int rf, .ref kwa, .ref kta], zA G kit 2 it]
abbrev Q_X5_back_n (G : XG) (kx kim kit kv kre ksh kwa kta : Nat) (tf rf : Int32) (kb : Nat) (it : Nat → Int32) (j : Nat) : Array Value → State → Outcome → State → Prop := (xRi (fun r => r = (-2)))
set_option maxHeartbeats 4000000 in
set_option maxRecDepth 100000 in
theorem c_X5_back_n (l : Launch) (G : XG) (kx kim kit kv kre ksh kwa kta : Nat) (tf rf : Int32) (kb : Nat) (it : Nat → Int32) (j : Nat) (hj : j < 2) (hit : it j = 0) : Met l yX5_back wsX5_back ({ frames := 0, cells := 0, slots := 0, locals := 0 } : Room) (va_Pc [.ref kx, .int (nI j)] (xRp G (w_X5_back_n G kx kim kit kv kre ksh kwa kta tf rf kb it))) (Q_X5_back_n G kx kim kit kv kre ksh kwa kta tf rf kb it j) 0 0 (fun _ => False) := by
  refine Met.ofW (cc := cX5_back) (maxL := 2) (ret := (some .int)) (by decide) rfl ?_
  intro pp ee ss mm aa below mt cd s₁ BB hml hv
  obtain ⟨rfl, hP, hK⟩ := hv
  have hx := BB.exec
  have hb := BB.bytes
  have hr := BB.returns
  have hts := atoms_spec (ws := wsX5_back) BB.pre
  have hown : ss.vm.findClass RX5 = some mm.cls := findClass_of_methodNamed BB.named
  have hlocks := BB.notSynchronized
  have hS : va_S (fun _ => False) ss.heap ss.heap [] := va_S.rf
  replace hP : xP G [oC kx 5 [.ref kb, .ref kim, .ref kit, .ref kv, .ref kre, .int tf, .ref ksh, .int rf, .ref kwa, .ref kta], zA G kit 2 it] ss.heap := hP
  have hin0 : ∀ w ∈ u_ws RX0 TX0 7, w ∈ wsX5_back := fun w h => List.mem_cons_of_mem _ (List.mem_append_left _ (List.mem_append_right _ h))
  have hin2 : ∀ w ∈ u_ws RX2 TX2 3, w ∈ wsX5_back := fun w h => List.mem_cons_of_mem _ (List.mem_append_right _ h)
  have hin4 : ∀ w ∈ u_ws RX4 TX4 5, w ∈ wsX5_back := fun w h => List.mem_cons_of_mem _ (List.mem_append_left _ (List.mem_append_left _ (List.mem_append_right _ h)))
  have hin5 : ∀ w ∈ u_ws RX5 TX5 10, w ∈ wsX5_back := fun w h => List.mem_cons_of_mem _ (List.mem_append_left _ (List.mem_append_left _ (List.mem_append_left _ (List.mem_append_right _ h))))
  have hl := lv_entry ([.ref kx, .int (nI j)]) (n := 2) (Nat.le_of_ble_eq_true rfl)
  rw [lg_entry_eq]
  generalize (lg_sl ([.ref kx, .int (nI j)]) ++ List.replicate (2 - (lg_sl ([.ref kx, .int (nI j)])).length) Slot.unset).toArray = ls at hl ⊢
  replace hl : lv_has ls 2 [(0, .ref kx), (1, .int (nI j))] := hl
  refine lv_iload_n hx hb dX5_back_0 rfl (lv_at hl 1 rfl) ?_
  refine xn_if_lt (tgt := 9) hx hb (by omega) dX5_back_1 rfl (fun b1 => absurd b1 (by omega)) (fun _ => ?_)
  refine lv_iload_n hx hb dX5_back_4 rfl (lv_at hl 1 rfl) ?_
  refine lv_iconst (v := nI 2) hx hb dX5_back_5 (by decide) ?_
  refine xn_icmp_lt (tgt := 11) hx hb (by omega) (by omega) dX5_back_6 rfl (fun _ => ?_) (fun b6 => absurd b6 (by omega))
  refine lv_aload_n hx hb dX5_back_11 rfl (lv_at hl 0 rfl) ?_
  refine va_get (D := G.1) (ci := 5) (v := .ref kit) (C := RX5) (T := TX5) (N := 10) hx hb hts hin5 hown hK.1 hP 0 rfl rfl 2 (by decide) (hts (.fieldLink RX5 20 "BackLenses" "imageThere" "[Z") (List.mem_of_getElem? (i := 1) rfl)) (fun _ h9 => h9) rfl dX5_back_12 ?_
  refine lv_iload_n hx hb dX5_back_15 rfl (lv_at hl 1 rfl) ?_
  refine xn_zald hx hb hK hP 1 rfl (by omega) (by omega) dX5_back_16 ?_
  refine lv_if_ne (tgt := 23) hx hb dX5_back_17 rfl (fun b17 => absurd b17 (by exact fun q => q hit)) (fun _ => ?_)
  refine lv_bipush (v := (-2)) hx hb dX5_back_20 (by decide) ?_
  refine W.iret (v := (-2)) hx hb hr (fun t ht hW => ⟨⟨(-2), (), rfl, ?_, trivial⟩, hS.F ht⟩) hS.2.2 dX5_back_22
  rfl

abbrev w_X5_keep_b (G : XG) (kx kim kit kv kre ksh kwa kta : Nat) (tf rf : Int32) (kb : Nat) : va_W := [oC kx 5 [.ref kb, .ref kim, .ref kit, .ref kv, .ref kre, .int tf, .ref ksh, .int rf, .ref kwa, .ref kta]]
abbrev Q_X5_keep_b (G : XG) (kx kim kit kv kre ksh kwa kta : Nat) (tf rf : Int32) (kb : Nat) (k : Int32) : Array Value → State → Outcome → State → Prop := (xRi (fun r => r = (-1)))
set_option maxHeartbeats 4000000 in
set_option maxRecDepth 100000 in
theorem c_X5_keep_b (l : Launch) (G : XG) (kx kim kit kv kre ksh kwa kta : Nat) (tf rf : Int32) (kb : Nat) (k : Int32) (hk : ¬ inR k 2) : Met l yX5_keep wsX5_keep ({ frames := 0, cells := 0, slots := 0, locals := 0 } : Room) (va_Pc [.ref kx, .int k] (xRp G (w_X5_keep_b G kx kim kit kv kre ksh kwa kta tf rf kb))) (Q_X5_keep_b G kx kim kit kv kre ksh kwa kta tf rf kb k) 0 0 (fun _ => False) := by
  refine Met.ofW (cc := cX5_keep) (maxL := 3) (ret := (some .int)) (by decide) rfl ?_
  intro pp ee ss mm aa below mt cd s₁ BB hml hv
  obtain ⟨rfl, hP, hK⟩ := hv
  have hx := BB.exec
  have hb := BB.bytes
  have hr := BB.returns
  have hts := atoms_spec (ws := wsX5_keep) BB.pre
  have hown : ss.vm.findClass RX5 = some mm.cls := findClass_of_methodNamed BB.named
  have hlocks := BB.notSynchronized
  have hS : va_S (fun _ => False) ss.heap ss.heap [] := va_S.rf
  replace hP : xP G [oC kx 5 [.ref kb, .ref kim, .ref kit, .ref kv, .ref kre, .int tf, .ref ksh, .int rf, .ref kwa, .ref kta]] ss.heap := hP
  have hin0 : ∀ w ∈ u_ws RX0 TX0 7, w ∈ wsX5_keep := fun w h => List.mem_cons_of_mem _ (List.mem_append_left _ (List.mem_append_right _ h))
  have hin2 : ∀ w ∈ u_ws RX2 TX2 3, w ∈ wsX5_keep := fun w h => List.mem_cons_of_mem _ (List.mem_append_right _ h)
  have hin5 : ∀ w ∈ u_ws RX5 TX5 10, w ∈ wsX5_keep := fun w h => List.mem_cons_of_mem _ (List.mem_append_left _ (List.mem_append_left _ (List.mem_append_right _ h)))
  have hl := lv_entry ([.ref kx, .int k]) (n := 3) (Nat.le_of_ble_eq_true rfl)
  rw [lg_entry_eq]
  generalize (lg_sl ([.ref kx, .int k]) ++ List.replicate (3 - (lg_sl ([.ref kx, .int k])).length) Slot.unset).toArray = ls at hl ⊢
  replace hl : lv_has ls 3 [(0, .ref kx), (1, .int k)] := hl
  refine lv_iload_n hx hb dX5_keep_0 rfl (lv_at hl 1 rfl) ?_
  refine xi_if_lt (tgt := 9) hx hb dX5_keep_1 rfl (fun b1 => ?_) (fun b1 => ?_)
  · skip
    refine lv_iconst (v := (-1)) hx hb dX5_keep_9 (by decide) ?_
    refine W.iret (v := (-1)) hx hb hr (fun t ht hW => ⟨⟨(-1), (), rfl, ?_, trivial⟩, hS.F ht⟩) hS.2.2 dX5_keep_10
    rfl
  · skip
    refine lv_iload_n hx hb dX5_keep_4 rfl (lv_at hl 1 rfl) ?_
    refine lv_iconst (v := nI 2) hx hb dX5_keep_5 (by decide) ?_
    refine xm_icmp_lt (tgt := 11) hx hb (by omega) dX5_keep_6 rfl (fun b6 => ?_) (fun b6 => ?_)
    · skip
      exact absurd (show inR k 2 by unfold inR; omega) hk
    · skip
      refine lv_iconst (v := (-1)) hx hb dX5_keep_9 (by decide) ?_
      refine W.iret (v := (-1)) hx hb hr (fun t ht hW => ⟨⟨(-1), (), rfl, ?_, trivial⟩, hS.F ht⟩) hS.2.2 dX5_keep_10
      rfl

abbrev w_X5_back_b (G : XG) (kx kim kit kv kre ksh kwa kta : Nat) (tf rf : Int32) (kb : Nat) : va_W := [oC kx 5 [.ref kb, .ref kim, .ref kit, .ref kv, .ref kre, .int tf, .ref ksh, .int rf, .ref kwa, .ref kta]]
abbrev Q_X5_back_b (G : XG) (kx kim kit kv kre ksh kwa kta : Nat) (tf rf : Int32) (kb : Nat) (k : Int32) : Array Value → State → Outcome → State → Prop := (xRi (fun r => r = (-1)))
set_option maxHeartbeats 4000000 in
set_option maxRecDepth 100000 in
theorem c_X5_back_b (l : Launch) (G : XG) (kx kim kit kv kre ksh kwa kta : Nat) (tf rf : Int32) (kb : Nat) (k : Int32) (hk : ¬ inR k 2) : Met l yX5_back wsX5_back ({ frames := 0, cells := 0, slots := 0, locals := 0 } : Room) (va_Pc [.ref kx, .int k] (xRp G (w_X5_back_b G kx kim kit kv kre ksh kwa kta tf rf kb))) (Q_X5_back_b G kx kim kit kv kre ksh kwa kta tf rf kb k) 0 0 (fun _ => False) := by
  refine Met.ofW (cc := cX5_back) (maxL := 2) (ret := (some .int)) (by decide) rfl ?_
  intro pp ee ss mm aa below mt cd s₁ BB hml hv
  obtain ⟨rfl, hP, hK⟩ := hv
  have hx := BB.exec
  have hb := BB.bytes
  have hr := BB.returns
  have hts := atoms_spec (ws := wsX5_back) BB.pre
  have hown : ss.vm.findClass RX5 = some mm.cls := findClass_of_methodNamed BB.named
  have hlocks := BB.notSynchronized
  have hS : va_S (fun _ => False) ss.heap ss.heap [] := va_S.rf
  replace hP : xP G [oC kx 5 [.ref kb, .ref kim, .ref kit, .ref kv, .ref kre, .int tf, .ref ksh, .int rf, .ref kwa, .ref kta]] ss.heap := hP
  have hin0 : ∀ w ∈ u_ws RX0 TX0 7, w ∈ wsX5_back := fun w h => List.mem_cons_of_mem _ (List.mem_append_left _ (List.mem_append_right _ h))
  have hin2 : ∀ w ∈ u_ws RX2 TX2 3, w ∈ wsX5_back := fun w h => List.mem_cons_of_mem _ (List.mem_append_right _ h)
  have hin4 : ∀ w ∈ u_ws RX4 TX4 5, w ∈ wsX5_back := fun w h => List.mem_cons_of_mem _ (List.mem_append_left _ (List.mem_append_left _ (List.mem_append_right _ h)))
  have hin5 : ∀ w ∈ u_ws RX5 TX5 10, w ∈ wsX5_back := fun w h => List.mem_cons_of_mem _ (List.mem_append_left _ (List.mem_append_left _ (List.mem_append_left _ (List.mem_append_right _ h))))
  have hl := lv_entry ([.ref kx, .int k]) (n := 2) (Nat.le_of_ble_eq_true rfl)
  rw [lg_entry_eq]
  generalize (lg_sl ([.ref kx, .int k]) ++ List.replicate (2 - (lg_sl ([.ref kx, .int k])).length) Slot.unset).toArray = ls at hl ⊢
  replace hl : lv_has ls 2 [(0, .ref kx), (1, .int k)] := hl
  refine lv_iload_n hx hb dX5_back_0 rfl (lv_at hl 1 rfl) ?_
  refine xi_if_lt (tgt := 9) hx hb dX5_back_1 rfl (fun b1 => ?_) (fun b1 => ?_)
  · skip
    refine lv_iconst (v := (-1)) hx hb dX5_back_9 (by decide) ?_
    refine W.iret (v := (-1)) hx hb hr (fun t ht hW => ⟨⟨(-1), (), rfl, ?_, trivial⟩, hS.F ht⟩) hS.2.2 dX5_back_10
    rfl
  · skip
    refine lv_iload_n hx hb dX5_back_4 rfl (lv_at hl 1 rfl) ?_
    refine lv_iconst (v := nI 2) hx hb dX5_back_5 (by decide) ?_
    refine xm_icmp_lt (tgt := 11) hx hb (by omega) dX5_back_6 rfl (fun b6 => ?_) (fun b6 => ?_)
    · skip
      exact absurd (show inR k 2 by unfold inR; omega) hk
    · skip
      refine lv_iconst (v := (-1)) hx hb dX5_back_9 (by decide) ?_
      refine W.iret (v := (-1)) hx hb hr (fun t ht hW => ⟨⟨(-1), (), rfl, ?_, trivial⟩, hS.F ht⟩) hS.2.2 dX5_back_10
      rfl

abbrev w_X5_sheet (G : XG) (kx kim kit kv kre ksh kwa kta : Nat) (tf rf : Int32) (kb : Nat) (gs : Nat → Option Nat) (ks ksc : Nat) (ln sz0 : Int32) (f : Nat → Int32) : va_W := [oC kx 5 [.ref kb, .ref kim, .ref kit, .ref kv, .ref kre, .int tf, .ref ksh, .int rf, .ref kwa, .ref kta], sA G ksh 4 gs, oC ks 3 [.ref ksc, .int ln, .int sz0], iA G ksc 40 f]
abbrev Q_X5_sheet (G : XG) (sz : Nat) (kx kim kit kv kre ksh kwa kta : Nat) (tf rf : Int32) (kb : Nat) (gs : Nat → Option Nat) (ks ksc : Nat) (ln sz0 : Int32) (f : Nat → Int32) (j : Nat) (l2 : Int32) (n : Nat) : Array Value → State → Outcome → State → Prop := (va_Qi (fun (r : Int32) (u : (Nat → Int32)) => r = nI 1 ∧ (∀ j, j < 40 → u j = nI 0)) (xWb G sz (w_X5_sheet G kx kim kit kv kre ksh kwa kta tf rf kb gs ks ksc ln sz0 f) (fun u : (Nat → Int32) => [oC kx 5 [.ref kb, .ref kim, .ref kit, .ref kv, .ref kre, .int tf, .ref ksh, .int rf, .ref kwa, .ref kta], sA G ksh 4 gs, oC ks 3 [.ref ksc, .int l2, .int (nI n)], iA G ksc 40 u])) (va_A (w_X5_sheet G kx kim kit kv kre ksh kwa kta tf rf kb gs ks ksc ln sz0 f) sz))
set_option maxHeartbeats 4000000 in
set_option maxRecDepth 100000 in
theorem c_X5_sheet (l : Launch) (G : XG) (sz : Nat) (kx kim kit kv kre ksh kwa kta : Nat) (tf rf : Int32) (kb : Nat) (gs : Nat → Option Nat) (ks ksc : Nat) (ln sz0 : Int32) (f : Nat → Int32) (j : Nat) (l2 : Int32) (n : Nat) (hj : j < 4) (hgj : gs j = some ks) (hl2 : inR l2 3) (hn : n ≤ 40) : Met l yX5_sheet wsX5_sheet ({ frames := 2, cells := 0, slots := 0, locals := 45 } : Room) (va_Pc [.ref kx, .int (nI j), .int l2, .int (nI n)] (xWp G sz (w_X5_sheet G kx kim kit kv kre ksh kwa kta tf rf kb gs ks ksc ln sz0 f))) (Q_X5_sheet G sz kx kim kit kv kre ksh kwa kta tf rf kb gs ks ksc ln sz0 f j l2 n) 0 0 (va_A (w_X5_sheet G kx kim kit kv kre ksh kwa kta tf rf kb gs ks ksc ln sz0 f) sz) := by
  refine Met.ofW (cc := cX5_sheet) (maxL := 4) (ret := (some .int)) (by decide) rfl ?_
  intro pp ee ss mm aa below mt cd s₁ BB hml hv
  obtain ⟨rfl, hsz, hP, hK, hD0⟩ := hv
  have hx := BB.exec
  have hb := BB.bytes
  have hr := BB.returns
  have hts := atoms_spec (ws := wsX5_sheet) BB.pre
  have hown : ss.vm.findClass RX5 = some mm.cls := findClass_of_methodNamed BB.named
  have hlocks := BB.notSynchronized
  subst hsz
  have hD := hD0.self (sz := ss.heap.size)
  have hA : ∀ q : Nat, ss.heap.size ≤ q → va_A (w_X5_sheet G kx kim kit kv kre ksh kwa kta tf rf kb gs ks ksc ln sz0 f) ss.heap.size q := fun q h => Or.inr h
  have hS : va_S (va_A (w_X5_sheet G kx kim kit kv kre ksh kwa kta tf rf kb gs ks ksc ln sz0 f) ss.heap.size) ss.heap ss.heap [] := va_S.rf
  replace hD : va_D (va_A (w_X5_sheet G kx kim kit kv kre ksh kwa kta tf rf kb gs ks ksc ln sz0 f) ss.heap.size) [oC kx 5 [.ref kb, .ref kim, .ref kit, .ref kv, .ref kre, .int tf, .ref ksh, .int rf, .ref kwa, .ref kta], sA G ksh 4 gs, oC ks 3 [.ref ksc, .int ln, .int sz0], iA G ksc 40 f] := hD
  replace hP : xP G [oC kx 5 [.ref kb, .ref kim, .ref kit, .ref kv, .ref kre, .int tf, .ref ksh, .int rf, .ref kwa, .ref kta], sA G ksh 4 gs, oC ks 3 [.ref ksc, .int ln, .int sz0], iA G ksc 40 f] ss.heap := hP
  have hin3 : ∀ w ∈ u_ws RX3 TX3 3, w ∈ wsX5_sheet := fun w h => List.mem_cons_of_mem _ (List.mem_append_right _ h)
  have hin5 : ∀ w ∈ u_ws RX5 TX5 10, w ∈ wsX5_sheet := fun w h => List.mem_cons_of_mem _ (List.mem_append_left _ (List.mem_append_right _ h))
  have hl := lv_entry ([.ref kx, .int (nI j), .int l2, .int (nI n)]) (n := 4) (Nat.le_of_ble_eq_true rfl)
  rw [lg_entry_eq]
  generalize (lg_sl ([.ref kx, .int (nI j), .int l2, .int (nI n)]) ++ List.replicate (4 - (lg_sl ([.ref kx, .int (nI j), .int l2, .int (nI n)])).length) Slot.unset).toArray = ls at hl ⊢
  replace hl : lv_has ls 4 [(0, .ref kx), (1, .int (nI j)), (2, .int l2), (3, .int (nI n))] := hl
  refine lv_iload_n hx hb dX5_sheet_0 rfl (lv_at hl 1 rfl) ?_
  refine xs_i (As := [.int (nI j)]) (rest := []) ⟨hx, hb, hml, hown, hts⟩ (c_X5_isSheet l G (nI j) ) (va_cwS 1 hts gX5_sheet_X5_isSheet rfl rfl rfl (by decide +kernel) ⟨Nat.le_of_ble_eq_true rfl, Nat.le_of_ble_eq_true rfl⟩) hP hS rfl hl.1 rfl (Nat.le_of_ble_eq_true rfl) dX5_sheet_1 ⟨Nat.zero_le _, Nat.zero_le _⟩ (fun r1 H locs hp1 hP hS => ?_)
  rw [show r1 = _ from hp1]
  refine xb_if_eq (tgt := 20) hx hb dX5_sheet_4 rfl (fun b4 => absurd b4 (by exact fun q => q (inR_nI hj (by omega)))) (fun _ => ?_)
  refine lv_iload_n hx hb dX5_sheet_7 rfl (lv_at hl 2 rfl) ?_
  refine xs_i (As := [.int l2]) (rest := []) ⟨hx, hb, hml, hown, hts⟩ (c_X5_isLane l G l2 ) (va_cwS 1 hts gX5_sheet_X5_isLane rfl rfl rfl (by decide +kernel) ⟨Nat.le_of_ble_eq_true rfl, Nat.le_of_ble_eq_true rfl⟩) hP hS rfl hl.1 rfl (Nat.le_of_ble_eq_true rfl) dX5_sheet_8 ⟨Nat.zero_le _, Nat.zero_le _⟩ (fun r8 H locs hp8 hP hS => ?_)
  rw [show r8 = _ from hp8]
  refine xb_if_eq (tgt := 20) hx hb dX5_sheet_11 rfl (fun b11 => absurd b11 (by exact fun q => q hl2)) (fun _ => ?_)
  refine lv_iload_n hx hb dX5_sheet_14 rfl (lv_at hl 3 rfl) ?_
  refine lv_bipush (v := nI 40) hx hb dX5_sheet_15 (by decide) ?_
  refine xn_icmp_le (tgt := 22) hx hb (by omega) (by omega) dX5_sheet_17 rfl (fun _ => ?_) (fun b17 => absurd b17 (by omega))
  refine lv_iload_n hx hb dX5_sheet_22 rfl (lv_at hl 3 rfl) ?_
  refine xn_if_ge (tgt := 29) hx hb (by omega) dX5_sheet_23 rfl (fun _ => ?_) (fun b23 => absurd b23 (by omega))
  refine lv_aload_n hx hb dX5_sheet_29 rfl (lv_at hl 0 rfl) ?_
  refine va_get (D := G.1) (ci := 5) (v := .ref ksh) (C := RX5) (T := TX5) (N := 10) hx hb hts hin5 hown hK.1 hP 0 rfl rfl 6 (by decide) (hts (.fieldLink RX5 40 "BackLenses" "sheets" "[LBackLenses$Sheet;") (List.mem_of_getElem? (i := 1) rfl)) (fun _ h9 => h9) rfl dX5_sheet_30 ?_
  refine lv_iload_n hx hb dX5_sheet_33 rfl (lv_at hl 1 rfl) ?_
  refine xn_aalds hx hb hK hP 1 rfl (by omega) (by omega) (show _ = some ks by assumption) dX5_sheet_34 ?_
  refine lv_iload_n hx hb dX5_sheet_35 rfl (lv_at hl 2 rfl) ?_
  refine lv_iload_n hx hb dX5_sheet_36 rfl (lv_at hl 3 rfl) ?_
  refine xw_v (As := [.int l2, .int (nI n)]) (rest := []) (wr := [oC kx 5 [.ref kb, .ref kim, .ref kit, .ref kv, .ref kre, .int tf, .ref ksh, .int rf, .ref kwa, .ref kta], sA G ksh 4 gs]) ⟨hx, hb, hml, hown, hts⟩ (c_X3_renew l G H.size ks ksc ln sz0 f l2 (nI n) ) (cwV 2 hts gX5_sheet_X3_renew rfl rfl rfl (by decide +kernel) ⟨Nat.le_of_ble_eq_true rfl, Nat.le_of_ble_eq_true rfl⟩) hK hP hD hS hA [2, 3] [0, 1] rfl rfl (by decide) (by decide) (by decide) rfl rfl rfl hl.1 rfl (Nat.le_of_ble_eq_true rfl) dX5_sheet_37 ⟨Nat.le_of_ble_eq_true rfl, Nat.le_of_ble_eq_true rfl⟩ (fun u H locs hp37 hP hD hS => ?_)
  obtain ⟨f2_37, rfl⟩ : ∃ z, z = u := ⟨_, rfl⟩
  try dsimp only at hp37 hP hD
  have he37 := hp37
  replace hP : xP G [oC kx 5 [.ref kb, .ref kim, .ref kit, .ref kv, .ref kre, .int tf, .ref ksh, .int rf, .ref kwa, .ref kta], sA G ksh 4 gs, oC ks 3 [.ref ksc, .int l2, .int (nI n)], iA G ksc 40 f2_37] H := hP
  replace hD : va_D (va_A (w_X5_sheet G kx kim kit kv kre ksh kwa kta tf rf kb gs ks ksc ln sz0 f) ss.heap.size) [oC kx 5 [.ref kb, .ref kim, .ref kit, .ref kv, .ref kre, .int tf, .ref ksh, .int rf, .ref kwa, .ref kta], sA G ksh 4 gs, oC ks 3 [.ref ksc, .int l2, .int (nI n)], iA G ksc 40 f2_37] := hD
  refine lv_iconst (v := nI 1) hx hb dX5_sheet_40 (by decide) ?_
  have hP := hP.sub (ws' := [oC kx 5 [.ref kb, .ref kim, .ref kit, .ref kv, .ref kre, .int tf, .ref ksh, .int rf, .ref kwa, .ref kta], sA G ksh 4 gs, oC ks 3 [.ref ksc, .int l2, .int (nI n)], iA G ksc 40 f2_37]) [0, 1, 2, 3] rfl
  have hD := hD.sub (ws' := [oC kx 5 [.ref kb, .ref kim, .ref kit, .ref kv, .ref kre, .int tf, .ref ksh, .int rf, .ref kwa, .ref kta], sA G ksh 4 gs, oC ks 3 [.ref ksc, .int l2, .int (nI n)], iA G ksc 40 f2_37]) [0, 1, 2, 3] (by decide) rfl
  refine W.iret (v := nI 1) hx hb hr (fun t ht hW => ⟨⟨nI 1, (f2_37), rfl, ?_, by rw [ht]; exact hP, hD⟩, hS.F ht⟩) hS.2.2 dX5_sheet_41
  exact ⟨rfl, he37⟩

abbrev w_X5_sheet_b (G : XG) (kx kim kit kv kre ksh kwa kta : Nat) (tf rf : Int32) (kb : Nat) : va_W := [oC kx 5 [.ref kb, .ref kim, .ref kit, .ref kv, .ref kre, .int tf, .ref ksh, .int rf, .ref kwa, .ref kta]]
abbrev Q_X5_sheet_b (G : XG) (kx kim kit kv kre ksh kwa kta : Nat) (tf rf : Int32) (kb : Nat) (k l2 n : Int32) : Array Value → State → Outcome → State → Prop := (xRi (fun r => r = (if inR k 4 ∧ inR l2 3 ∧ n.toInt ≤ 40 then (-14) else (-1))))
set_option maxHeartbeats 4000000 in
set_option maxRecDepth 100000 in
theorem c_X5_sheet_b (l : Launch) (G : XG) (kx kim kit kv kre ksh kwa kta : Nat) (tf rf : Int32) (kb : Nat) (k l2 n : Int32) (hbad : ¬ (inR k 4 ∧ inR l2 3 ∧ n.toInt ≤ 40 ∧ 0 ≤ n.toInt)) : Met l yX5_sheet wsX5_sheet ({ frames := 1, cells := 0, slots := 0, locals := 20 } : Room) (va_Pc [.ref kx, .int k, .int l2, .int n] (xRp G (w_X5_sheet_b G kx kim kit kv kre ksh kwa kta tf rf kb))) (Q_X5_sheet_b G kx kim kit kv kre ksh kwa kta tf rf kb k l2 n) 0 0 (fun _ => False) := by
  refine Met.ofW (cc := cX5_sheet) (maxL := 4) (ret := (some .int)) (by decide) rfl ?_
  intro pp ee ss mm aa below mt cd s₁ BB hml hv
  obtain ⟨rfl, hP, hK⟩ := hv
  have hx := BB.exec
  have hb := BB.bytes
  have hr := BB.returns
  have hts := atoms_spec (ws := wsX5_sheet) BB.pre
  have hown : ss.vm.findClass RX5 = some mm.cls := findClass_of_methodNamed BB.named
  have hlocks := BB.notSynchronized
  have hS : va_S (fun _ => False) ss.heap ss.heap [] := va_S.rf
  replace hP : xP G [oC kx 5 [.ref kb, .ref kim, .ref kit, .ref kv, .ref kre, .int tf, .ref ksh, .int rf, .ref kwa, .ref kta]] ss.heap := hP
  have hin3 : ∀ w ∈ u_ws RX3 TX3 3, w ∈ wsX5_sheet := fun w h => List.mem_cons_of_mem _ (List.mem_append_right _ h)
  have hin5 : ∀ w ∈ u_ws RX5 TX5 10, w ∈ wsX5_sheet := fun w h => List.mem_cons_of_mem _ (List.mem_append_left _ (List.mem_append_right _ h))
  have hl := lv_entry ([.ref kx, .int k, .int l2, .int n]) (n := 4) (Nat.le_of_ble_eq_true rfl)
  rw [lg_entry_eq]
  generalize (lg_sl ([.ref kx, .int k, .int l2, .int n]) ++ List.replicate (4 - (lg_sl ([.ref kx, .int k, .int l2, .int n])).length) Slot.unset).toArray = ls at hl ⊢
  replace hl : lv_has ls 4 [(0, .ref kx), (1, .int k), (2, .int l2), (3, .int n)] := hl
  refine lv_iload_n hx hb dX5_sheet_0 rfl (lv_at hl 1 rfl) ?_
  refine xs_i (As := [.int k]) (rest := []) ⟨hx, hb, hml, hown, hts⟩ (c_X5_isSheet l G k ) (va_cwS 1 hts gX5_sheet_X5_isSheet rfl rfl rfl (by decide +kernel) ⟨Nat.le_of_ble_eq_true rfl, Nat.le_of_ble_eq_true rfl⟩) hP hS rfl hl.1 rfl (Nat.le_of_ble_eq_true rfl) dX5_sheet_1 ⟨Nat.zero_le _, Nat.zero_le _⟩ (fun r1 H locs hp1 hP hS => ?_)
  rw [show r1 = _ from hp1]
  refine xb_if_eq (tgt := 20) hx hb dX5_sheet_4 rfl (fun b4 => ?_) (fun b4 => ?_)
  · skip
    refine lv_iconst (v := (-1)) hx hb dX5_sheet_20 (by decide) ?_
    refine W.iret (v := (-1)) hx hb hr (fun t ht hW => ⟨⟨(-1), (), rfl, ?_, trivial⟩, hS.F ht⟩) hS.2.2 dX5_sheet_21
    first | exact (if_neg (fun q => b4 q.1)).symm | exact (if_neg (fun q => b11 q.2.1)).symm | exact (if_neg (fun q => b17 q.2.2)).symm | exact (if_pos ⟨b4, b11, b17⟩).symm
  · skip
    refine lv_iload_n hx hb dX5_sheet_7 rfl (lv_at hl 2 rfl) ?_
    refine xs_i (As := [.int l2]) (rest := []) ⟨hx, hb, hml, hown, hts⟩ (c_X5_isLane l G l2 ) (va_cwS 1 hts gX5_sheet_X5_isLane rfl rfl rfl (by decide +kernel) ⟨Nat.le_of_ble_eq_true rfl, Nat.le_of_ble_eq_true rfl⟩) hP hS rfl hl.1 rfl (Nat.le_of_ble_eq_true rfl) dX5_sheet_8 ⟨Nat.zero_le _, Nat.zero_le _⟩ (fun r8 H locs hp8 hP hS => ?_)
    rw [show r8 = _ from hp8]
    refine xb_if_eq (tgt := 20) hx hb dX5_sheet_11 rfl (fun b11 => ?_) (fun b11 => ?_)
    · skip
      refine lv_iconst (v := (-1)) hx hb dX5_sheet_20 (by decide) ?_
      refine W.iret (v := (-1)) hx hb hr (fun t ht hW => ⟨⟨(-1), (), rfl, ?_, trivial⟩, hS.F ht⟩) hS.2.2 dX5_sheet_21
      first | exact (if_neg (fun q => b4 q.1)).symm | exact (if_neg (fun q => b11 q.2.1)).symm | exact (if_neg (fun q => b17 q.2.2)).symm | exact (if_pos ⟨b4, b11, b17⟩).symm
    · skip
      refine lv_iload_n hx hb dX5_sheet_14 rfl (lv_at hl 3 rfl) ?_
      refine lv_bipush (v := nI 40) hx hb dX5_sheet_15 (by decide) ?_
      refine xm_icmp_le (tgt := 22) hx hb (by omega) dX5_sheet_17 rfl (fun b17 => ?_) (fun b17 => ?_)
      · skip
        refine lv_iload_n hx hb dX5_sheet_22 rfl (lv_at hl 3 rfl) ?_
        refine xi_if_ge (tgt := 29) hx hb dX5_sheet_23 rfl (fun b23 => ?_) (fun b23 => ?_)
        · skip
          exact absurd ⟨b4, b11, b17, b23⟩ hbad
        · skip
          refine lv_bipush (v := (-14)) hx hb dX5_sheet_26 (by decide) ?_
          refine W.iret (v := (-14)) hx hb hr (fun t ht hW => ⟨⟨(-14), (), rfl, ?_, trivial⟩, hS.F ht⟩) hS.2.2 dX5_sheet_28
          first | exact (if_neg (fun q => b4 q.1)).symm | exact (if_neg (fun q => b11 q.2.1)).symm | exact (if_neg (fun q => b17 q.2.2)).symm | exact (if_pos ⟨b4, b11, b17⟩).symm
      · skip
        refine lv_iconst (v := (-1)) hx hb dX5_sheet_20 (by decide) ?_
        refine W.iret (v := (-1)) hx hb hr (fun t ht hW => ⟨⟨(-1), (), rfl, ?_, trivial⟩, hS.F ht⟩) hS.2.2 dX5_sheet_21
        first | exact (if_neg (fun q => b4 q.1)).symm | exact (if_neg (fun q => b11 q.2.1)).symm | exact (if_neg (fun q => b17 q.2.2)).symm | exact (if_pos ⟨b4, b11, b17⟩).symm

abbrev w_X5_lay_b (G : XG) (kx kim kit kv kre ksh kwa kta : Nat) (tf rf : Int32) (kb : Nat) : va_W := [oC kx 5 [.ref kb, .ref kim, .ref kit, .ref kv, .ref kre, .int tf, .ref ksh, .int rf, .ref kwa, .ref kta]]
abbrev Q_X5_lay_b (G : XG) (kx kim kit kv kre ksh kwa kta : Nat) (tf rf : Int32) (kb : Nat) (k i v : Int32) : Array Value → State → Outcome → State → Prop := (xRi (fun r => r = (-1)))
set_option maxHeartbeats 4000000 in
set_option maxRecDepth 100000 in
theorem c_X5_lay_b (l : Launch) (G : XG) (kx kim kit kv kre ksh kwa kta : Nat) (tf rf : Int32) (kb : Nat) (k i v : Int32) (hbad : ¬ inR k 4) : Met l yX5_lay wsX5_lay ({ frames := 1, cells := 0, slots := 0, locals := 20 } : Room) (va_Pc [.ref kx, .int k, .int i, .int v] (xRp G (w_X5_lay_b G kx kim kit kv kre ksh kwa kta tf rf kb))) (Q_X5_lay_b G kx kim kit kv kre ksh kwa kta tf rf kb k i v) 0 0 (fun _ => False) := by
  refine Met.ofW (cc := cX5_lay) (maxL := 5) (ret := (some .int)) (by decide) rfl ?_
  intro pp ee ss mm aa below mt cd s₁ BB hml hv
  obtain ⟨rfl, hP, hK⟩ := hv
  have hx := BB.exec
  have hb := BB.bytes
  have hr := BB.returns
  have hts := atoms_spec (ws := wsX5_lay) BB.pre
  have hown : ss.vm.findClass RX5 = some mm.cls := findClass_of_methodNamed BB.named
  have hlocks := BB.notSynchronized
  have hS : va_S (fun _ => False) ss.heap ss.heap [] := va_S.rf
  replace hP : xP G [oC kx 5 [.ref kb, .ref kim, .ref kit, .ref kv, .ref kre, .int tf, .ref ksh, .int rf, .ref kwa, .ref kta]] ss.heap := hP
  have hin3 : ∀ w ∈ u_ws RX3 TX3 3, w ∈ wsX5_lay := fun w h => List.mem_cons_of_mem _ (List.mem_append_right _ h)
  have hin5 : ∀ w ∈ u_ws RX5 TX5 10, w ∈ wsX5_lay := fun w h => List.mem_cons_of_mem _ (List.mem_append_left _ (List.mem_append_right _ h))
  have hl := lv_entry ([.ref kx, .int k, .int i, .int v]) (n := 5) (Nat.le_of_ble_eq_true rfl)
  rw [lg_entry_eq]
  generalize (lg_sl ([.ref kx, .int k, .int i, .int v]) ++ List.replicate (5 - (lg_sl ([.ref kx, .int k, .int i, .int v])).length) Slot.unset).toArray = ls at hl ⊢
  replace hl : lv_has ls 5 [(0, .ref kx), (1, .int k), (2, .int i), (3, .int v)] := hl
  refine lv_iload_n hx hb dX5_lay_0 rfl (lv_at hl 1 rfl) ?_
  refine xs_i (As := [.int k]) (rest := []) ⟨hx, hb, hml, hown, hts⟩ (c_X5_isSheet l G k ) (va_cwS 1 hts gX5_lay_X5_isSheet rfl rfl rfl (by decide +kernel) ⟨Nat.le_of_ble_eq_true rfl, Nat.le_of_ble_eq_true rfl⟩) hP hS rfl hl.1 rfl (Nat.le_of_ble_eq_true rfl) dX5_lay_1 ⟨Nat.zero_le _, Nat.zero_le _⟩ (fun r1 H locs hp1 hP hS => ?_)
  rw [show r1 = _ from hp1]
  refine xb_if_ne (tgt := 9) hx hb dX5_lay_4 rfl (fun b4 => absurd b4 (by exact hbad)) (fun _ => ?_)
  refine lv_iconst (v := (-1)) hx hb dX5_lay_7 (by decide) ?_
  refine W.iret (v := (-1)) hx hb hr (fun t ht hW => ⟨⟨(-1), (), rfl, ?_, trivial⟩, hS.F ht⟩) hS.2.2 dX5_lay_8
  rfl

abbrev w_X5_lay (G : XG) (kx kim kit kv kre ksh kwa kta : Nat) (tf rf : Int32) (kb : Nat) (gs : Nat → Option Nat) (ks ksc : Nat) (ln sz0 : Int32) (f : Nat → Int32) : va_W := [oC kx 5 [.ref kb, .ref kim, .ref kit, .ref kv, .ref kre, .int tf, .ref ksh, .int rf, .ref kwa, .ref kta], sA G ksh 4 gs, oC ks 3 [.ref ksc, .int ln, .int sz0], iA G ksc 40 f]
abbrev Q_X5_lay (G : XG) (sz : Nat) (kx kim kit kv kre ksh kwa kta : Nat) (tf rf : Int32) (kb : Nat) (gs : Nat → Option Nat) (ks ksc : Nat) (ln sz0 : Int32) (f : Nat → Int32) (j : Nat) (i v : Int32) : Array Value → State → Outcome → State → Prop := (va_Qi (fun (r : Int32) (u : (Nat → Int32)) => r = (if faA sz0 i = 0 then nI 1 else (-10) - faA sz0 i) ∧ u = (if faA sz0 i = 0 then upd f (tn i) (if ln = 0 then v.toInt8.toInt32 else if ln = nI 1 then v.toInt16.toInt32 else v) else f)) (xWb G sz (w_X5_lay G kx kim kit kv kre ksh kwa kta tf rf kb gs ks ksc ln sz0 f) (fun u : (Nat → Int32) => [oC kx 5 [.ref kb, .ref kim, .ref kit, .ref kv, .ref kre, .int tf, .ref ksh, .int rf, .ref kwa, .ref kta], sA G ksh 4 gs, oC ks 3 [.ref ksc, .int ln, .int sz0], iA G ksc 40 u])) (va_A (w_X5_lay G kx kim kit kv kre ksh kwa kta tf rf kb gs ks ksc ln sz0 f) sz))
set_option maxHeartbeats 4000000 in
set_option maxRecDepth 100000 in
theorem c_X5_lay (l : Launch) (G : XG) (sz : Nat) (kx kim kit kv kre ksh kwa kta : Nat) (tf rf : Int32) (kb : Nat) (gs : Nat → Option Nat) (ks ksc : Nat) (ln sz0 : Int32) (f : Nat → Int32) (j : Nat) (i v : Int32) (hj : j < 4) (hgj : gs j = some ks) (hsz : sz0.toInt ≤ 40) : Met l yX5_lay wsX5_lay ({ frames := 2, cells := 0, slots := 0, locals := 41 } : Room) (va_Pc [.ref kx, .int (nI j), .int i, .int v] (xWp G sz (w_X5_lay G kx kim kit kv kre ksh kwa kta tf rf kb gs ks ksc ln sz0 f))) (Q_X5_lay G sz kx kim kit kv kre ksh kwa kta tf rf kb gs ks ksc ln sz0 f j i v) 0 0 (va_A (w_X5_lay G kx kim kit kv kre ksh kwa kta tf rf kb gs ks ksc ln sz0 f) sz) := by
  refine Met.ofW (cc := cX5_lay) (maxL := 5) (ret := (some .int)) (by decide) rfl ?_
  intro pp ee ss mm aa below mt cd s₁ BB hml hv
  obtain ⟨rfl, hsz, hP, hK, hD0⟩ := hv
  have hx := BB.exec
  have hb := BB.bytes
  have hr := BB.returns
  have hts := atoms_spec (ws := wsX5_lay) BB.pre
  have hown : ss.vm.findClass RX5 = some mm.cls := findClass_of_methodNamed BB.named
  have hlocks := BB.notSynchronized
  subst hsz
  have hD := hD0.self (sz := ss.heap.size)
  have hA : ∀ q : Nat, ss.heap.size ≤ q → va_A (w_X5_lay G kx kim kit kv kre ksh kwa kta tf rf kb gs ks ksc ln sz0 f) ss.heap.size q := fun q h => Or.inr h
  have hS : va_S (va_A (w_X5_lay G kx kim kit kv kre ksh kwa kta tf rf kb gs ks ksc ln sz0 f) ss.heap.size) ss.heap ss.heap [] := va_S.rf
  replace hD : va_D (va_A (w_X5_lay G kx kim kit kv kre ksh kwa kta tf rf kb gs ks ksc ln sz0 f) ss.heap.size) [oC kx 5 [.ref kb, .ref kim, .ref kit, .ref kv, .ref kre, .int tf, .ref ksh, .int rf, .ref kwa, .ref kta], sA G ksh 4 gs, oC ks 3 [.ref ksc, .int ln, .int sz0], iA G ksc 40 f] := hD
  replace hP : xP G [oC kx 5 [.ref kb, .ref kim, .ref kit, .ref kv, .ref kre, .int tf, .ref ksh, .int rf, .ref kwa, .ref kta], sA G ksh 4 gs, oC ks 3 [.ref ksc, .int ln, .int sz0], iA G ksc 40 f] ss.heap := hP
  have hin3 : ∀ w ∈ u_ws RX3 TX3 3, w ∈ wsX5_lay := fun w h => List.mem_cons_of_mem _ (List.mem_append_right _ h)
  have hin5 : ∀ w ∈ u_ws RX5 TX5 10, w ∈ wsX5_lay := fun w h => List.mem_cons_of_mem _ (List.mem_append_left _ (List.mem_append_right _ h))
  have hl := lv_entry ([.ref kx, .int (nI j), .int i, .int v]) (n := 5) (Nat.le_of_ble_eq_true rfl)
  rw [lg_entry_eq]
  generalize (lg_sl ([.ref kx, .int (nI j), .int i, .int v]) ++ List.replicate (5 - (lg_sl ([.ref kx, .int (nI j), .int i, .int v])).length) Slot.unset).toArray = ls at hl ⊢
  replace hl : lv_has ls 5 [(0, .ref kx), (1, .int (nI j)), (2, .int i), (3, .int v)] := hl
  refine lv_iload_n hx hb dX5_lay_0 rfl (lv_at hl 1 rfl) ?_
  refine xs_i (As := [.int (nI j)]) (rest := []) ⟨hx, hb, hml, hown, hts⟩ (c_X5_isSheet l G (nI j) ) (va_cwS 1 hts gX5_lay_X5_isSheet rfl rfl rfl (by decide +kernel) ⟨Nat.le_of_ble_eq_true rfl, Nat.le_of_ble_eq_true rfl⟩) hP hS rfl hl.1 rfl (Nat.le_of_ble_eq_true rfl) dX5_lay_1 ⟨Nat.zero_le _, Nat.zero_le _⟩ (fun r1 H locs hp1 hP hS => ?_)
  rw [show r1 = _ from hp1]
  refine xb_if_ne (tgt := 9) hx hb dX5_lay_4 rfl (fun _ => ?_) (fun b4 => absurd b4 (by exact fun q => q (inR_nI hj (by omega))))
  refine lv_aload_n hx hb dX5_lay_9 rfl (lv_at hl 0 rfl) ?_
  refine va_get (D := G.1) (ci := 5) (v := .ref ksh) (C := RX5) (T := TX5) (N := 10) hx hb hts hin5 hown hK.1 hP 0 rfl rfl 6 (by decide) (hts (.fieldLink RX5 40 "BackLenses" "sheets" "[LBackLenses$Sheet;") (List.mem_of_getElem? (i := 1) rfl)) (fun _ h9 => h9) rfl dX5_lay_10 ?_
  refine lv_iload_n hx hb dX5_lay_13 rfl (lv_at hl 1 rfl) ?_
  refine xn_aalds hx hb hK hP 1 rfl (by omega) (by omega) (show _ = some ks by assumption) dX5_lay_14 ?_
  refine lv_iload_n hx hb dX5_lay_15 rfl (lv_at hl 2 rfl) ?_
  refine xr_i (As := [.int i]) (rest := []) ⟨hx, hb, hml, hown, hts⟩ (c_X3_faultAt l G ks ksc ln sz0 i ) (cwV 1 hts gX5_lay_X3_faultAt rfl rfl rfl (by decide +kernel) ⟨Nat.le_of_ble_eq_true rfl, Nat.le_of_ble_eq_true rfl⟩) hK hP hS [2] rfl rfl rfl rfl hl.1 rfl (Nat.le_of_ble_eq_true rfl) dX5_lay_16 ⟨Nat.zero_le _, Nat.zero_le _⟩ (fun r16 H locs hp16 hP hS => ?_)
  rw [show r16 = _ from hp16]
  refine xn_top (y := faA sz0 i) rfl ?_
  refine lv_istore (lv' := [(4, .int (faA sz0 i)), (0, .ref kx), (1, .int (nI j)), (2, .int i), (3, .int v)]) hx hb dX5_lay_19 hl (by decide) rfl (fun ls hl => ?_)
  refine lv_iload hx hb dX5_lay_21 (lv_at hl 0 rfl) ?_
  refine lv_if_eq (tgt := 32) hx hb dX5_lay_23 rfl (fun b23 => ?_) (fun b23 => ?_)
  · skip
    have hfa := faA_ok b23
    obtain ⟨i0, hi0, rfl⟩ := inR_nat (x := i) (n := 40) (by unfold inR; omega)
    refine lv_aload_n hx hb dX5_lay_32 rfl (lv_at hl 1 rfl) ?_
    refine va_get (D := G.1) (ci := 5) (v := .ref ksh) (C := RX5) (T := TX5) (N := 10) hx hb hts hin5 hown hK.1 hP 0 rfl rfl 6 (by decide) (hts (.fieldLink RX5 40 "BackLenses" "sheets" "[LBackLenses$Sheet;") (List.mem_of_getElem? (i := 1) rfl)) (fun _ h9 => h9) rfl dX5_lay_33 ?_
    refine lv_iload_n hx hb dX5_lay_36 rfl (lv_at hl 2 rfl) ?_
    refine xn_aalds hx hb hK hP 1 rfl (by omega) (by omega) (show _ = some ks by assumption) dX5_lay_37 ?_
    refine lv_iload_n hx hb dX5_lay_38 rfl (lv_at hl 3 rfl) ?_
    refine lv_iload_n hx hb dX5_lay_39 rfl (lv_at hl 4 rfl) ?_
    refine xw_v (As := [.int (nI i0), .int v]) (rest := []) (wr := [oC kx 5 [.ref kb, .ref kim, .ref kit, .ref kv, .ref kre, .int tf, .ref ksh, .int rf, .ref kwa, .ref kta], sA G ksh 4 gs]) ⟨hx, hb, hml, hown, hts⟩ (c_X3_put l G H.size ks ksc ln sz0 f i0 v (by first | assumption | omega)) (cwV 2 hts gX5_lay_X3_put rfl rfl rfl (by decide +kernel) ⟨Nat.le_of_ble_eq_true rfl, Nat.le_of_ble_eq_true rfl⟩) hK hP hD hS hA [2, 3] [0, 1] rfl rfl (by decide) (by decide) (by decide) rfl rfl rfl hl.1 rfl (Nat.le_of_ble_eq_true rfl) dX5_lay_40 ⟨Nat.le_of_ble_eq_true rfl, Nat.le_of_ble_eq_true rfl⟩ (fun u H locs hp40 hP hD hS => ?_)
    obtain ⟨u0_40, rfl⟩ : ∃ z, z = u := ⟨_, rfl⟩
    try dsimp only at hp40 hP hD
    obtain rfl := hp40
    replace hP : xP G [oC kx 5 [.ref kb, .ref kim, .ref kit, .ref kv, .ref kre, .int tf, .ref ksh, .int rf, .ref kwa, .ref kta], sA G ksh 4 gs, oC ks 3 [.ref ksc, .int ln, .int sz0], iA G ksc 40 (upd f i0 (if ln = 0 then v.toInt8.toInt32 else if ln = nI 1 then v.toInt16.toInt32 else v))] H := hP
    replace hD : va_D (va_A (w_X5_lay G kx kim kit kv kre ksh kwa kta tf rf kb gs ks ksc ln sz0 f) ss.heap.size) [oC kx 5 [.ref kb, .ref kim, .ref kit, .ref kv, .ref kre, .int tf, .ref ksh, .int rf, .ref kwa, .ref kta], sA G ksh 4 gs, oC ks 3 [.ref ksc, .int ln, .int sz0], iA G ksc 40 (upd f i0 (if ln = 0 then v.toInt8.toInt32 else if ln = nI 1 then v.toInt16.toInt32 else v))] := hD
    refine lv_iconst (v := nI 1) hx hb dX5_lay_43 (by decide) ?_
    have hP := hP.sub (ws' := [oC kx 5 [.ref kb, .ref kim, .ref kit, .ref kv, .ref kre, .int tf, .ref ksh, .int rf, .ref kwa, .ref kta], sA G ksh 4 gs, oC ks 3 [.ref ksc, .int ln, .int sz0], iA G ksc 40 (upd f i0 (if ln = 0 then v.toInt8.toInt32 else if ln = nI 1 then v.toInt16.toInt32 else v))]) [0, 1, 2, 3] rfl
    have hD := hD.sub (ws' := [oC kx 5 [.ref kb, .ref kim, .ref kit, .ref kv, .ref kre, .int tf, .ref ksh, .int rf, .ref kwa, .ref kta], sA G ksh 4 gs, oC ks 3 [.ref ksc, .int ln, .int sz0], iA G ksc 40 (upd f i0 (if ln = 0 then v.toInt8.toInt32 else if ln = nI 1 then v.toInt16.toInt32 else v))]) [0, 1, 2, 3] (by decide) rfl
    refine W.iret (v := nI 1) hx hb hr (fun t ht hW => ⟨⟨nI 1, ((upd f i0 (if ln = 0 then v.toInt8.toInt32 else if ln = nI 1 then v.toInt16.toInt32 else v))), rfl, ?_, by rw [ht]; exact hP, hD⟩, hS.F ht⟩) hS.2.2 dX5_lay_44
    first | exact ⟨(if_neg b23).symm, (if_neg b23).symm⟩ | exact ⟨(if_pos b23).symm, (by rw [if_pos b23, tn_nI (by omega)])⟩
  · skip
    refine lv_bipush (v := (-10)) hx hb dX5_lay_26 (by decide) ?_
    refine lv_iload hx hb dX5_lay_28 (lv_at hl 0 rfl) ?_
    refine lv_isub hx hb dX5_lay_30 ?_
    have hP := hP.sub (ws' := [oC kx 5 [.ref kb, .ref kim, .ref kit, .ref kv, .ref kre, .int tf, .ref ksh, .int rf, .ref kwa, .ref kta], sA G ksh 4 gs, oC ks 3 [.ref ksc, .int ln, .int sz0], iA G ksc 40 f]) [0, 1, 2, 3] rfl
    have hD := hD.sub (ws' := [oC kx 5 [.ref kb, .ref kim, .ref kit, .ref kv, .ref kre, .int tf, .ref ksh, .int rf, .ref kwa, .ref kta], sA G ksh 4 gs, oC ks 3 [.ref ksc, .int ln, .int sz0], iA G ksc 40 f]) [0, 1, 2, 3] (by decide) rfl
    refine W.iret (v := (-10) - (faA sz0 i)) hx hb hr (fun t ht hW => ⟨⟨(-10) - (faA sz0 i), (f), rfl, ?_, by rw [ht]; exact hP, hD⟩, hS.F ht⟩) hS.2.2 dX5_lay_31
    first | exact ⟨(if_neg b23).symm, (if_neg b23).symm⟩ | exact ⟨(if_pos b23).symm, (by rw [if_pos b23, tn_nI (by omega)])⟩

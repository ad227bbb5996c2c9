abbrev Q_X5_fractionPart (G : XG) (top bel : Int64) (a : Int32) : Array Value → State → Outcome → State → Prop := (xRl (fun r => r = frS top bel a))
set_option maxHeartbeats 4000000 in
set_option maxRecDepth 100000 in
theorem c_X5_fractionPart (l : Launch) (G : XG) (top bel : Int64) (a : Int32)  : Met l yX5_fractionPart wsX5_fractionPart ({ frames := 0, cells := 0, slots := 0, locals := 0 } : Room) (va_Pc [.long top, .long bel, .int a] (fun _ => True)) (Q_X5_fractionPart G top bel a) 0 0 (fun _ => False) := by
  refine Met.ofW (cc := cX5_fractionPart) (maxL := 12) (ret := (some .long)) (by decide) rfl ?_
  intro pp ee ss mm aa below mt cd s₁ BB hml hv
  obtain ⟨rfl, -⟩ := hv
  have hx := BB.exec
  have hb := BB.bytes
  have hr := BB.returns
  have hts := atoms_spec (ws := wsX5_fractionPart) BB.pre
  have hown : ss.vm.findClass RX5 = some mm.cls := findClass_of_methodNamed BB.named
  have hlocks := BB.notSynchronized
  have hS : va_S (fun _ => False) ss.heap ss.heap [] := va_S.rf
  have hP : xP (G) [] ss.heap := fun k q h => by cases h
  have hl := lv_entry ([.long top, .long bel, .int a]) (n := 12) (Nat.le_of_ble_eq_true rfl)
  rw [lg_entry_eq]
  generalize (lg_sl ([.long top, .long bel, .int a]) ++ List.replicate (12 - (lg_sl ([.long top, .long bel, .int a])).length) Slot.unset).toArray = ls at hl ⊢
  replace hl : lv_has ls 12 [(0, .long top), (2, .long bel), (4, .int a)] := hl
  refine lv_lload_n hx hb dX5_fractionPart_0 rfl (lv_at hl 1 rfl) ?_
  refine lv_lstore (lv' := [(5, .long bel), (0, .long top), (2, .long bel), (4, .int a)]) hx hb dX5_fractionPart_1 hl (by decide) rfl (fun ls hl => ?_)
  refine lv_lload_n hx hb dX5_fractionPart_3 rfl (lv_at hl 1 rfl) ?_
  refine lv_lstore (lv' := [(7, .long top), (5, .long bel), (0, .long top), (2, .long bel), (4, .int a)]) hx hb dX5_fractionPart_4 hl (by decide) rfl (fun ls hl => ?_)
  refine lv_iconst (v := nI 0) hx hb dX5_fractionPart_6 (by decide) ?_
  refine lv_istore (lv' := [(9, .int (nI 0)), (7, .long top), (5, .long bel), (0, .long top), (2, .long bel), (4, .int a)]) hx hb dX5_fractionPart_7 hl (by decide) rfl (fun ls hl => ?_)
  have hL44 : ∀ (dv : Int64) (ls : Array Slot) (H : Heap) (locs : List Loc), (gcL 100 bel top = dv) → lv_has ls 12 [(0, .long top), (2, .long bel), (4, .int a), (5, .long dv)] → xP G [] H → va_S (fun _ => False) ss.heap H locs → W pp l ee ({ frames := 0, cells := 0, slots := 0, locals := 0 } : Room) ss mm ([.long top, .long bel, .int a] : List Value).toArray below mt cd H locs 0 0 (MQ below (Q_X5_fractionPart G top bel a) ([.long top, .long bel, .int a] : List Value).toArray ss 0 0 (fun _ => False)) (F0 mm 44 ls []) := by
    intro dv ls H locs hg hl hP hS
    refine lv_lload hx hb dX5_fractionPart_44 (lv_at hl 3 rfl) ?_
    refine lv_lconst (v := lN 0) hx hb dX5_fractionPart_46 (by decide) ?_
    refine W.lcmp hx hb dX5_fractionPart_47 ?_
    refine xl_if_ne (tgt := 55) hx hb dX5_fractionPart_48 rfl (fun b48 => ?_) (fun b48 => ?_)
    · skip
      refine lv_iload hx hb dX5_fractionPart_55 (lv_at hl 2 rfl) ?_
      refine lv_if_ne (tgt := 64) hx hb dX5_fractionPart_57 rfl (fun b57 => ?_) (fun b57 => ?_)
      · skip
        refine lv_lload_n hx hb dX5_fractionPart_64 rfl (lv_at hl 1 rfl) ?_
        refine lv_lload hx hb dX5_fractionPart_65 (lv_at hl 3 rfl) ?_
        refine lv_ldiv hx hb dX5_fractionPart_67 (by exact b48) ?_
        refine W.lret (v := bel / dv) hx hb hr (fun t ht hW => ⟨⟨bel / dv, (), rfl, ?_, trivial⟩, hS.F ht⟩) hS.2.2 dX5_fractionPart_68
        unfold frS; rw [hg]; first | exact (if_pos b48).symm | (rw [if_neg b48]; first | rw [if_pos b57] | rw [if_neg b57])
      · skip
        refine lv_lload_n hx hb dX5_fractionPart_60 rfl (lv_at hl 0 rfl) ?_
        refine lv_goto (tgt := 65) hx hb dX5_fractionPart_61 rfl ?_
        refine lv_lload hx hb dX5_fractionPart_65 (lv_at hl 3 rfl) ?_
        refine lv_ldiv hx hb dX5_fractionPart_67 (by exact b48) ?_
        refine W.lret (v := top / dv) hx hb hr (fun t ht hW => ⟨⟨top / dv, (), rfl, ?_, trivial⟩, hS.F ht⟩) hS.2.2 dX5_fractionPart_68
        unfold frS; rw [hg]; first | exact (if_pos b48).symm | (rw [if_neg b48]; first | rw [if_pos b57] | rw [if_neg b57])
    · skip
      refine lv_ldc2 (v := (-1)) hx hb hown (hts (.constantLong RX5 175 ((-1))) (List.mem_of_getElem? (i := 1) rfl)) dX5_fractionPart_51 ?_
      refine W.lret (v := (-1)) hx hb hr (fun t ht hW => ⟨⟨(-1), (), rfl, ?_, trivial⟩, hS.F ht⟩) hS.2.2 dX5_fractionPart_54
      unfold frS; rw [hg]; first | exact (if_pos b48).symm | (rw [if_neg b48]; first | rw [if_pos b57] | rw [if_neg b57])
  have hL9 : ∀ k : Nat, ∀ (i : Nat) (dv : Int64) (rs : Int64) (ls : Array Slot) (H : Heap) (locs : List Loc), 100 - i = k → (i ≤ 100) → (gcL 100 bel top = gcL (100 - i) dv rs) → lv_has ls 12 [(0, .long top), (2, .long bel), (4, .int a), (5, .long dv), (7, .long rs), (9, .int (nI i))] → xP G [] H → va_S (fun _ => False) ss.heap H locs → W pp l ee ({ frames := 0, cells := 0, slots := 0, locals := 0 } : Room) ss mm ([.long top, .long bel, .int a] : List Value).toArray below mt cd H locs 0 0 (MQ below (Q_X5_fractionPart G top bel a) ([.long top, .long bel, .int a] : List Value).toArray ss 0 0 (fun _ => False)) (F0 mm 9 ls []) := by
    intro k
    induction k using Nat.strongRecOn with
    | _ k ih9 =>
    intro i dv rs ls H locs hm9 hi hg hl hP hS
    refine lv_iload hx hb dX5_fractionPart_9 (lv_at hl 5 rfl) ?_
    refine lv_bipush (v := nI 100) hx hb dX5_fractionPart_11 (by decide) ?_
    refine xn_icmp_ge (tgt := 44) hx hb (by omega) (by omega) dX5_fractionPart_13 rfl (fun b13 => ?_) (fun b13 => ?_)
    · skip
      have hl := lv_sub hl (l' := [(0, .long top), (2, .long bel), (4, .int a), (5, .long dv)]) [0, 1, 2, 3] rfl
      exact hL44 dv ls H locs (by first | (rw [hg, show 100 - i = 0 by omega, gcL]) | (rw [hg, show 100 - i = (100 - (i + 1)) + 1 by omega, gcL, if_pos b20])) hl hP hS
    · skip
      refine lv_lload hx hb dX5_fractionPart_16 (lv_at hl 4 rfl) ?_
      refine lv_lconst (v := lN 0) hx hb dX5_fractionPart_18 (by decide) ?_
      refine W.lcmp hx hb dX5_fractionPart_19 ?_
      refine xl_if_eq (tgt := 44) hx hb dX5_fractionPart_20 rfl (fun b20 => ?_) (fun b20 => ?_)
      · skip
        have hl := lv_sub hl (l' := [(0, .long top), (2, .long bel), (4, .int a), (5, .long dv)]) [0, 1, 2, 3] rfl
        exact hL44 dv ls H locs (by first | (rw [hg, show 100 - i = 0 by omega, gcL]) | (rw [hg, show 100 - i = (100 - (i + 1)) + 1 by omega, gcL, if_pos b20])) hl hP hS
      · skip
        refine lv_lload hx hb dX5_fractionPart_23 (lv_at hl 3 rfl) ?_
        refine lv_lload hx hb dX5_fractionPart_25 (lv_at hl 4 rfl) ?_
        refine lv_lrem hx hb dX5_fractionPart_27 (by exact b20) ?_
        refine lv_lstore (lv' := [(10, .long (dv - dv / rs * rs)), (0, .long top), (2, .long bel), (4, .int a), (5, .long dv), (7, .long rs), (9, .int (nI i))]) hx hb dX5_fractionPart_28 hl (by decide) rfl (fun ls hl => ?_)
        refine lv_lload hx hb dX5_fractionPart_30 (lv_at hl 5 rfl) ?_
        refine lv_lstore (lv' := [(5, .long rs), (10, .long (dv - dv / rs * rs)), (0, .long top), (2, .long bel), (4, .int a), (7, .long rs), (9, .int (nI i))]) hx hb dX5_fractionPart_32 hl (by decide) rfl (fun ls hl => ?_)
        refine lv_lload hx hb dX5_fractionPart_34 (lv_at hl 1 rfl) ?_
        refine lv_lstore (lv' := [(7, .long (dv - dv / rs * rs)), (5, .long rs), (10, .long (dv - dv / rs * rs)), (0, .long top), (2, .long bel), (4, .int a), (9, .int (nI i))]) hx hb dX5_fractionPart_36 hl (by decide) rfl (fun ls hl => ?_)
        refine lv_iinc (k := 6) (v := nI (i + 1)) (lv' := [(9, .int (nI (i + 1))), (7, .long (dv - dv / rs * rs)), (5, .long rs), (10, .long (dv - dv / rs * rs)), (0, .long top), (2, .long bel), (4, .int a)]) hx hb dX5_fractionPart_38 hl rfl (xn_inc i 1) (by decide) rfl (fun ls hl => ?_)
        refine lv_goto (tgt := 9) hx hb dX5_fractionPart_41 rfl ?_
        have hl := lv_sub hl (l' := [(0, .long top), (2, .long bel), (4, .int a), (5, .long rs), (7, .long (dv - dv / rs * rs)), (9, .int (nI (i + 1)))]) [4, 5, 6, 2, 1, 0] rfl
        exact ih9 (100 - (i + 1)) (by omega) (i + 1) rs (dv - dv / rs * rs) ls H locs rfl (by omega) (by rw [hg, show 100 - i = (100 - (i + 1)) + 1 by omega, gcL, if_neg b20]) hl hP hS
  have hl := lv_sub hl (l' := [(0, .long top), (2, .long bel), (4, .int a), (5, .long bel), (7, .long top), (9, .int (nI 0))]) [3, 4, 5, 2, 1, 0] rfl
  exact hL9 (100 - 0) 0 bel top ls ss.heap [] rfl (by omega) (by rfl) hl hP hS

abbrev Q_X5_drawn (G : XG) (i : Int32) (n : Nat) : Array Value → State → Outcome → State → Prop := (xRi (fun r => r = nI (drw i % n)))
set_option maxHeartbeats 4000000 in
set_option maxRecDepth 100000 in
theorem c_X5_drawn (l : Launch) (G : XG) (i : Int32) (n : Nat) (hn : 1 ≤ n) (hn2 : n ≤ 16) : Met l yX5_drawn wsX5_drawn ({ frames := 0, cells := 0, slots := 0, locals := 0 } : Room) (va_Pc [.int i, .int (nI n)] (fun _ => True)) (Q_X5_drawn G i n) 0 0 (fun _ => False) := by
  refine Met.ofW (cc := cX5_drawn) (maxL := 2) (ret := (some .int)) (by decide) rfl ?_
  intro pp ee ss mm aa below mt cd s₁ BB hml hv
  obtain ⟨rfl, -⟩ := hv
  have hx := BB.exec
  have hb := BB.bytes
  have hr := BB.returns
  have hts := atoms_spec (ws := wsX5_drawn) BB.pre
  have hown : ss.vm.findClass RX5 = some mm.cls := findClass_of_methodNamed BB.named
  have hlocks := BB.notSynchronized
  have hS : va_S (fun _ => False) ss.heap ss.heap [] := va_S.rf
  have hP : xP (G) [] ss.heap := fun k q h => by cases h
  have hl := lv_entry ([.int i, .int (nI n)]) (n := 2) (Nat.le_of_ble_eq_true rfl)
  rw [lg_entry_eq]
  generalize (lg_sl ([.int i, .int (nI n)]) ++ List.replicate (2 - (lg_sl ([.int i, .int (nI n)])).length) Slot.unset).toArray = ls at hl ⊢
  replace hl : lv_has ls 2 [(0, .int i), (1, .int (nI n))] := hl
  refine lv_iload_n hx hb dX5_drawn_0 rfl (lv_at hl 1 rfl) ?_
  refine xn_if_le (tgt := 17) hx hb (by omega) dX5_drawn_1 rfl (fun b1 => absurd b1 (by omega)) (fun _ => ?_)
  refine lv_iload_n hx hb dX5_drawn_4 rfl (lv_at hl 0 rfl) ?_
  refine lv_bipush (v := nI 16) hx hb dX5_drawn_5 (by decide) ?_
  refine lv_iushr (v := xu i (nI 16)) hx hb dX5_drawn_7 rfl ?_
  refine lv_sipush (v := nI 32767) hx hb dX5_drawn_8 (by decide) ?_
  refine lv_iand hx hb dX5_drawn_11 ?_
  refine xn_top (drw_and i) ?_
  have hdl := drw_lt i
  refine lv_iload_n hx hb dX5_drawn_12 rfl (lv_at hl 1 rfl) ?_
  refine xn_irem hx hb (by omega) (by omega) (by omega) dX5_drawn_13 ?_
  refine lv_goto (tgt := 18) hx hb dX5_drawn_14 rfl ?_
  refine W.iret (v := nI ((drw i) % n)) hx hb hr (fun t ht hW => ⟨⟨nI ((drw i) % n), (), rfl, ?_, trivial⟩, hS.F ht⟩) hS.2.2 dX5_drawn_18
  rfl

abbrev w_X5_partsShown (G : XG) (kx kim kit kre ksh kwa kta : Nat) (tf rf : Int32) (kb ka kc kcn kl kn : Nat) (w h la : Nat) (af : Nat → Int32) (nc : Nat) (fc : Nat → Int32) (kv km kg : Nat) (vw vh : Nat) (sl : Int32) (mk sg : Nat → Int32) (kln : Nat) (nl : Nat) (fl : Nat → Int32) : va_W := [oC kx 5 [.ref kb, .ref kim, .ref kit, .ref kv, .ref kre, .int tf, .ref ksh, .int rf, .ref kwa, .ref kta], oC kb 0 [.int (nI w), .int (nI h), .int (nI la), .ref ka, .ref kc, .ref kl, .ref kn], iA G ka 16 af, oC kc 2 [.ref kcn, .int (nI 10), .int (nI nc)], iA G kcn (3 * 10) fc, oC kv 4 [.ref km, .ref kg, .int (nI vw), .int (nI vh), .int sl], iA G km 176 mk, iA G kg 160 sg, oC kl 2 [.ref kln, .int (nI 6), .int (nI nl)], iA G kln (3 * 6) fl]
abbrev Q_X5_partsShown (G : XG) (sz : Nat) (kx kim kit kre ksh kwa kta : Nat) (tf rf : Int32) (kb ka kc kcn kl kn : Nat) (w h la : Nat) (af : Nat → Int32) (nc : Nat) (fc : Nat → Int32) (kv km kg : Nat) (vw vh : Nat) (sl : Int32) (mk sg : Nat → Int32) (kln : Nat) (nl : Nat) (fl : Nat → Int32) (v : Int32) (x c : Nat) : Array Value → State → Outcome → State → Prop := (va_Ql (fun (r : Int64) (u : (Nat → Int32) × (Nat → Int32) × Nat × Nat × Int32) => r = lN 1000000 - abF v (cntF (fun l => bitB (shS w h af nc fc fl l x) c) nl) 6 ∧ VOK w h la af nc fc u.1 u.2.1 u.2.2.1 u.2.2.2.1 u.2.2.2.2) (xWb G sz (w_X5_partsShown G kx kim kit kre ksh kwa kta tf rf kb ka kc kcn kl kn w h la af nc fc kv km kg vw vh sl mk sg kln nl fl) (fun u : (Nat → Int32) × (Nat → Int32) × Nat × Nat × Int32 => [oC kx 5 [.ref kb, .ref kim, .ref kit, .ref kv, .ref kre, .int tf, .ref ksh, .int rf, .ref kwa, .ref kta], oC kb 0 [.int (nI w), .int (nI h), .int (nI la), .ref ka, .ref kc, .ref kl, .ref kn], iA G ka 16 af, oC kc 2 [.ref kcn, .int (nI 10), .int (nI nc)], iA G kcn (3 * 10) fc, oC kv 4 [.ref km, .ref kg, .int (nI u.2.2.1), .int (nI u.2.2.2.1), .int u.2.2.2.2], iA G km 176 u.1, iA G kg 160 u.2.1, oC kl 2 [.ref kln, .int (nI 6), .int (nI nl)], iA G kln (3 * 6) fl])) (va_A (w_X5_partsShown G kx kim kit kre ksh kwa kta tf rf kb ka kc kcn kl kn w h la af nc fc kv km kg vw vh sl mk sg kln nl fl) sz))
set_option maxHeartbeats 4000000 in
set_option maxRecDepth 100000 in
theorem c_X5_partsShown (l : Launch) (G : XG) (sz : Nat) (kx kim kit kre ksh kwa kta : Nat) (tf rf : Int32) (kb ka kc kcn kl kn : Nat) (w h la : Nat) (af : Nat → Int32) (nc : Nat) (fc : Nat → Int32) (kv km kg : Nat) (vw vh : Nat) (sl : Int32) (mk sg : Nat → Int32) (kln : Nat) (nl : Nat) (fl : Nat → Int32) (v : Int32) (x c : Nat) (hw : 1 ≤ w) (hwb : w ≤ 16) (hhb : h ≤ 16) (hwh : w * h ≤ 16) (hla : la ≤ 9) (hnc : nc ≤ 10) (hcell : ∀ i, i < nc → inR (fc (3 * i + 1)) 16) (hvok : VOK w h la af nc fc mk sg vw vh sl) (hnl : nl ≤ 6) (hlens : ∀ i, i < nl → inR (fl (3 * i)) (la + 1)) (hxx : x < w * h) (hcc : c < w * h) : Met l yX5_partsShown wsX5_partsShown ({ frames := 5, cells := 0, slots := 0, locals := 118 } : Room) (va_Pc [.ref kx, .int v, .int (nI x), .int (nI c)] (xWp G sz (w_X5_partsShown G kx kim kit kre ksh kwa kta tf rf kb ka kc kcn kl kn w h la af nc fc kv km kg vw vh sl mk sg kln nl fl))) (Q_X5_partsShown G sz kx kim kit kre ksh kwa kta tf rf kb ka kc kcn kl kn w h la af nc fc kv km kg vw vh sl mk sg kln nl fl v x c) 0 0 (va_A (w_X5_partsShown G kx kim kit kre ksh kwa kta tf rf kb ka kc kcn kl kn w h la af nc fc kv km kg vw vh sl mk sg kln nl fl) sz) := by
  refine Met.ofW (cc := cX5_partsShown) (maxL := 8) (ret := (some .long)) (by decide) rfl ?_
  intro pp ee ss mm aa below mt cd s₁ BB hml hv
  obtain ⟨rfl, hsz, hP, hK, hD0⟩ := hv
  have hx := BB.exec
  have hb := BB.bytes
  have hr := BB.returns
  have hts := atoms_spec (ws := wsX5_partsShown) BB.pre
  have hown : ss.vm.findClass RX5 = some mm.cls := findClass_of_methodNamed BB.named
  have hlocks := BB.notSynchronized
  subst hsz
  have hD := hD0.self (sz := ss.heap.size)
  have hA : ∀ q : Nat, ss.heap.size ≤ q → va_A (w_X5_partsShown G kx kim kit kre ksh kwa kta tf rf kb ka kc kcn kl kn w h la af nc fc kv km kg vw vh sl mk sg kln nl fl) ss.heap.size q := fun q h => Or.inr h
  have hS : va_S (va_A (w_X5_partsShown G kx kim kit kre ksh kwa kta tf rf kb ka kc kcn kl kn w h la af nc fc kv km kg vw vh sl mk sg kln nl fl) ss.heap.size) ss.heap ss.heap [] := va_S.rf
  replace hD : va_D (va_A (w_X5_partsShown G kx kim kit kre ksh kwa kta tf rf kb ka kc kcn kl kn w h la af nc fc kv km kg vw vh sl mk sg kln nl fl) ss.heap.size) [oC kx 5 [.ref kb, .ref kim, .ref kit, .ref kv, .ref kre, .int tf, .ref ksh, .int rf, .ref kwa, .ref kta], oC kb 0 [.int (nI w), .int (nI h), .int (nI la), .ref ka, .ref kc, .ref kl, .ref kn], iA G ka 16 af, oC kc 2 [.ref kcn, .int (nI 10), .int (nI nc)], iA G kcn (3 * 10) fc, oC kv 4 [.ref km, .ref kg, .int (nI vw), .int (nI vh), .int sl], iA G km 176 mk, iA G kg 160 sg, oC kl 2 [.ref kln, .int (nI 6), .int (nI nl)], iA G kln (3 * 6) fl] := hD
  replace hP : xP G [oC kx 5 [.ref kb, .ref kim, .ref kit, .ref kv, .ref kre, .int tf, .ref ksh, .int rf, .ref kwa, .ref kta], oC kb 0 [.int (nI w), .int (nI h), .int (nI la), .ref ka, .ref kc, .ref kl, .ref kn], iA G ka 16 af, oC kc 2 [.ref kcn, .int (nI 10), .int (nI nc)], iA G kcn (3 * 10) fc, oC kv 4 [.ref km, .ref kg, .int (nI vw), .int (nI vh), .int sl], iA G km 176 mk, iA G kg 160 sg, oC kl 2 [.ref kln, .int (nI 6), .int (nI nl)], iA G kln (3 * 6) fl] ss.heap := hP
  have hin0 : ∀ w ∈ u_ws RX0 TX0 7, w ∈ wsX5_partsShown := fun w h => List.mem_cons_of_mem _ (List.mem_append_left _ (List.mem_append_left _ (List.mem_append_right _ h)))
  have hin2 : ∀ w ∈ u_ws RX2 TX2 3, w ∈ wsX5_partsShown := fun w h => List.mem_cons_of_mem _ (List.mem_append_left _ (List.mem_append_right _ h))
  have hin4 : ∀ w ∈ u_ws RX4 TX4 5, w ∈ wsX5_partsShown := fun w h => List.mem_cons_of_mem _ (List.mem_append_right _ h)
  have hin5 : ∀ w ∈ u_ws RX5 TX5 10, w ∈ wsX5_partsShown := fun w h => List.mem_cons_of_mem _ (List.mem_append_left _ (List.mem_append_left _ (List.mem_append_left _ (List.mem_append_right _ h))))
  have hl := lv_entry ([.ref kx, .int v, .int (nI x), .int (nI c)]) (n := 8) (Nat.le_of_ble_eq_true rfl)
  rw [lg_entry_eq]
  generalize (lg_sl ([.ref kx, .int v, .int (nI x), .int (nI c)]) ++ List.replicate (8 - (lg_sl ([.ref kx, .int v, .int (nI x), .int (nI c)])).length) Slot.unset).toArray = ls at hl ⊢
  replace hl : lv_has ls 8 [(0, .ref kx), (1, .int v), (2, .int (nI x)), (3, .int (nI c))] := hl
  refine lv_iconst (v := nI 0) hx hb dX5_partsShown_0 (by decide) ?_
  refine lv_istore (lv' := [(4, .int (nI 0)), (0, .ref kx), (1, .int v), (2, .int (nI x)), (3, .int (nI c))]) hx hb dX5_partsShown_1 hl (by decide) rfl (fun ls hl => ?_)
  refine lv_iconst (v := nI 0) hx hb dX5_partsShown_3 (by decide) ?_
  refine lv_istore (lv' := [(5, .int (nI 0)), (4, .int (nI 0)), (0, .ref kx), (1, .int v), (2, .int (nI x)), (3, .int (nI c))]) hx hb dX5_partsShown_4 hl (by decide) rfl (fun ls hl => ?_)
  have hL6 : ∀ k : Nat, ∀ (i : Nat) (sh : Int32) (mk3 : Nat → Int32) (sg3 : Nat → Int32) (vw3 : Nat) (vh3 : Nat) (sl3 : Int32) (ls : Array Slot) (H : Heap) (locs : List Loc), nl - i = k → (i ≤ nl) → (sh = nI (cntF (fun l => bitB (shS w h af nc fc fl l x) c) i)) → (VOK w h la af nc fc mk3 sg3 vw3 vh3 sl3) → lv_has ls 8 [(0, .ref kx), (1, .int v), (2, .int (nI x)), (3, .int (nI c)), (4, .int sh), (5, .int (nI i))] → xP G [iA G ka 16 af, oC kb 0 [.int (nI w), .int (nI h), .int (nI la), .ref ka, .ref kc, .ref kl, .ref kn], oC kc 2 [.ref kcn, .int (nI 10), .int (nI nc)], iA G kcn (3 * 10) fc, iA G kg 160 sg3, oC kl 2 [.ref kln, .int (nI 6), .int (nI nl)], iA G kln (3 * 6) fl, iA G km 176 mk3, oC kv 4 [.ref km, .ref kg, .int (nI vw3), .int (nI vh3), .int sl3], oC kx 5 [.ref kb, .ref kim, .ref kit, .ref kv, .ref kre, .int tf, .ref ksh, .int rf, .ref kwa, .ref kta]] H → va_D (va_A (w_X5_partsShown G kx kim kit kre ksh kwa kta tf rf kb ka kc kcn kl kn w h la af nc fc kv km kg vw vh sl mk sg kln nl fl) ss.heap.size) [iA G ka 16 af, oC kb 0 [.int (nI w), .int (nI h), .int (nI la), .ref ka, .ref kc, .ref kl, .ref kn], oC kc 2 [.ref kcn, .int (nI 10), .int (nI nc)], iA G kcn (3 * 10) fc, iA G kg 160 sg3, oC kl 2 [.ref kln, .int (nI 6), .int (nI nl)], iA G kln (3 * 6) fl, iA G km 176 mk3, oC kv 4 [.ref km, .ref kg, .int (nI vw3), .int (nI vh3), .int sl3], oC kx 5 [.ref kb, .ref kim, .ref kit, .ref kv, .ref kre, .int tf, .ref ksh, .int rf, .ref kwa, .ref kta]] → va_S (va_A (w_X5_partsShown G kx kim kit kre ksh kwa kta tf rf kb ka kc kcn kl kn w h la af nc fc kv km kg vw vh sl mk sg kln nl fl) ss.heap.size) ss.heap H locs → W pp l ee ({ frames := 5, cells := 0, slots := 0, locals := 118 } : Room) ss mm ([.ref kx, .int v, .int (nI x), .int (nI c)] : List Value).toArray below mt cd H locs 0 0 (MQ below (Q_X5_partsShown G ss.heap.size kx kim kit kre ksh kwa kta tf rf kb ka kc kcn kl kn w h la af nc fc kv km kg vw vh sl mk sg kln nl fl v x c) ([.ref kx, .int v, .int (nI x), .int (nI c)] : List Value).toArray ss 0 0 (va_A (w_X5_partsShown G kx kim kit kre ksh kwa kta tf rf kb ka kc kcn kl kn w h la af nc fc kv km kg vw vh sl mk sg kln nl fl) ss.heap.size)) (F0 mm 6 ls []) := by
    intro k
    induction k using Nat.strongRecOn with
    | _ k ih6 =>
    intro i sh mk3 sg3 vw3 vh3 sl3 ls H locs hm6 hi hsh hv3 hl hP hD hS
    refine lv_iload hx hb dX5_partsShown_6 (lv_at hl 5 rfl) ?_
    refine lv_aload_n hx hb dX5_partsShown_8 rfl (lv_at hl 0 rfl) ?_
    refine va_get (D := G.1) (ci := 5) (v := .ref kb) (C := RX5) (T := TX5) (N := 10) hx hb hts hin5 hown hK.1 hP 9 rfl rfl 0 (by decide) (hts (.fieldLink RX5 10 "BackLenses" "book" "LBackLenses$Book;") (List.mem_of_getElem? (i := 1) rfl)) (fun _ h9 => h9) rfl dX5_partsShown_9 ?_
    refine va_getN (D := G.1) (ci := 0) (v := .ref kl) (C := RX0) (T := TX0) (N := 7) hx hb hts hin0 hown hK.1 hP 1 rfl rfl 5 (by decide) (va_Nw.use rfl (hK.2 (Cond.fieldLinkNest "BackLenses" (102 : Nat) "BackLenses$Book" "lenses" "LBackLenses$Rows;" "BackLenses") (List.mem_of_getElem? (i := 20) rfl))) (fun _ h9 => h9) rfl dX5_partsShown_12 ?_
    refine va_getN (D := G.1) (ci := 2) (v := .int (nI nl)) (C := RX2) (T := TX2) (N := 3) hx hb hts hin2 hown hK.1 hP 5 rfl rfl 2 (by decide) (va_Nw.use rfl (hK.2 (Cond.fieldLinkNest "BackLenses" (97 : Nat) "BackLenses$Rows" "size" "I" "BackLenses") (List.mem_of_getElem? (i := 3) rfl))) (fun _ h9 => h9) rfl dX5_partsShown_15 ?_
    refine xn_icmp_ge (tgt := 43) hx hb (by omega) (by omega) dX5_partsShown_18 rfl (fun b18 => ?_) (fun b18 => ?_)
    · skip
      have hcl := cntF_le (fun l => bitB (shS w h af nc fc fl l x) c) nl
      obtain rfl : nl = i := (by omega)
      obtain rfl := hsh
      refine lv_lconst (v := lN 1) hx hb dX5_partsShown_43 (by decide) ?_
      refine lv_lstore (lv' := [(5, .long (lN 1)), (0, .ref kx), (1, .int v), (2, .int (nI x)), (3, .int (nI c)), (4, .int (nI (cntF (fun l => bitB (shS w h af nc fc fl l x) c) nl)))]) hx hb dX5_partsShown_44 hl (by decide) rfl (fun ls hl => ?_)
      refine lv_iconst (v := nI 0) hx hb dX5_partsShown_46 (by decide) ?_
      refine lv_istore (lv' := [(7, .int (nI 0)), (5, .long (lN 1)), (0, .ref kx), (1, .int v), (2, .int (nI x)), (3, .int (nI c)), (4, .int (nI (cntF (fun l => bitB (shS w h af nc fc fl l x) c) nl)))]) hx hb dX5_partsShown_47 hl (by decide) rfl (fun ls hl => ?_)
      have hL49 : ∀ k : Nat, ∀ (j : Nat) (pr : Int64) (ls : Array Slot) (H : Heap) (locs : List Loc), 6 - j = k → (j ≤ 6) → (pr = abF v (cntF (fun l => bitB (shS w h af nc fc fl l x) c) nl) j) → lv_has ls 8 [(0, .ref kx), (1, .int v), (2, .int (nI x)), (3, .int (nI c)), (4, .int (nI (cntF (fun l => bitB (shS w h af nc fc fl l x) c) nl))), (5, .long pr), (7, .int (nI j))] → xP G [iA G ka 16 af, oC kb 0 [.int (nI w), .int (nI h), .int (nI la), .ref ka, .ref kc, .ref kl, .ref kn], oC kc 2 [.ref kcn, .int (nI 10), .int (nI nc)], iA G kcn (3 * 10) fc, iA G kg 160 sg3, oC kl 2 [.ref kln, .int (nI 6), .int (nI nl)], iA G kln (3 * 6) fl, iA G km 176 mk3, oC kv 4 [.ref km, .ref kg, .int (nI vw3), .int (nI vh3), .int sl3], oC kx 5 [.ref kb, .ref kim, .ref kit, .ref kv, .ref kre, .int tf, .ref ksh, .int rf, .ref kwa, .ref kta]] H → va_D (va_A (w_X5_partsShown G kx kim kit kre ksh kwa kta tf rf kb ka kc kcn kl kn w h la af nc fc kv km kg vw vh sl mk sg kln nl fl) ss.heap.size) [iA G ka 16 af, oC kb 0 [.int (nI w), .int (nI h), .int (nI la), .ref ka, .ref kc, .ref kl, .ref kn], oC kc 2 [.ref kcn, .int (nI 10), .int (nI nc)], iA G kcn (3 * 10) fc, iA G kg 160 sg3, oC kl 2 [.ref kln, .int (nI 6), .int (nI nl)], iA G kln (3 * 6) fl, iA G km 176 mk3, oC kv 4 [.ref km, .ref kg, .int (nI vw3), .int (nI vh3), .int sl3], oC kx 5 [.ref kb, .ref kim, .ref kit, .ref kv, .ref kre, .int tf, .ref ksh, .int rf, .ref kwa, .ref kta]] → va_S (va_A (w_X5_partsShown G kx kim kit kre ksh kwa kta tf rf kb ka kc kcn kl kn w h la af nc fc kv km kg vw vh sl mk sg kln nl fl) ss.heap.size) ss.heap H locs → W pp l ee ({ frames := 5, cells := 0, slots := 0, locals := 118 } : Room) ss mm ([.ref kx, .int v, .int (nI x), .int (nI c)] : List Value).toArray below mt cd H locs 0 0 (MQ below (Q_X5_partsShown G ss.heap.size kx kim kit kre ksh kwa kta tf rf kb ka kc kcn kl kn w h la af nc fc kv km kg vw vh sl mk sg kln nl fl v x c) ([.ref kx, .int v, .int (nI x), .int (nI c)] : List Value).toArray ss 0 0 (va_A (w_X5_partsShown G kx kim kit kre ksh kwa kta tf rf kb ka kc kcn kl kn w h la af nc fc kv km kg vw vh sl mk sg kln nl fl) ss.heap.size)) (F0 mm 49 ls []) := by
        intro k
        induction k using Nat.strongRecOn with
        | _ k ih49 =>
        intro j pr ls H locs hm49 hj hpr hl hP hD hS
        refine lv_iload hx hb dX5_partsShown_49 (lv_at hl 6 rfl) ?_
        refine lv_bipush (v := nI 6) hx hb dX5_partsShown_51 (by decide) ?_
        refine xn_icmp_ge (tgt := 82) hx hb (by omega) (by omega) dX5_partsShown_53 rfl (fun b53 => ?_) (fun b53 => ?_)
        · skip
          refine lv_ldc2 (v := lN 1000000) hx hb hown (hts (.constantLong RX5 196 (lN 1000000)) (List.mem_of_getElem? (i := 3) rfl)) dX5_partsShown_82 ?_
          refine lv_lload hx hb dX5_partsShown_85 (lv_at hl 5 rfl) ?_
          refine lv_lsub hx hb dX5_partsShown_87 ?_
          have hP := hP.sub (ws' := [oC kx 5 [.ref kb, .ref kim, .ref kit, .ref kv, .ref kre, .int tf, .ref ksh, .int rf, .ref kwa, .ref kta], oC kb 0 [.int (nI w), .int (nI h), .int (nI la), .ref ka, .ref kc, .ref kl, .ref kn], iA G ka 16 af, oC kc 2 [.ref kcn, .int (nI 10), .int (nI nc)], iA G kcn (3 * 10) fc, oC kv 4 [.ref km, .ref kg, .int (nI vw3), .int (nI vh3), .int sl3], iA G km 176 mk3, iA G kg 160 sg3, oC kl 2 [.ref kln, .int (nI 6), .int (nI nl)], iA G kln (3 * 6) fl]) [9, 1, 0, 2, 3, 8, 7, 4, 5, 6] rfl
          have hD := hD.sub (ws' := [oC kx 5 [.ref kb, .ref kim, .ref kit, .ref kv, .ref kre, .int tf, .ref ksh, .int rf, .ref kwa, .ref kta], oC kb 0 [.int (nI w), .int (nI h), .int (nI la), .ref ka, .ref kc, .ref kl, .ref kn], iA G ka 16 af, oC kc 2 [.ref kcn, .int (nI 10), .int (nI nc)], iA G kcn (3 * 10) fc, oC kv 4 [.ref km, .ref kg, .int (nI vw3), .int (nI vh3), .int sl3], iA G km 176 mk3, iA G kg 160 sg3, oC kl 2 [.ref kln, .int (nI 6), .int (nI nl)], iA G kln (3 * 6) fl]) [9, 1, 0, 2, 3, 8, 7, 4, 5, 6] (by decide) rfl
          refine W.lret (v := (lN 1000000) - pr) hx hb hr (fun t ht hW => ⟨⟨(lN 1000000) - pr, (mk3, sg3, vw3, vh3, sl3), rfl, ?_, by rw [ht]; exact hP, hD⟩, hS.F ht⟩) hS.2.2 dX5_partsShown_88
          try dsimp only
          exact ⟨by rw [hpr, show j = 6 by omega], hv3⟩
        · skip
          refine lv_lload hx hb dX5_partsShown_56 (lv_at hl 5 rfl) ?_
          refine lv_iload hx hb dX5_partsShown_58 (lv_at hl 6 rfl) ?_
          refine lv_iload hx hb dX5_partsShown_60 (lv_at hl 4 rfl) ?_
          refine xn_icmp_ge (tgt := 70) hx hb (by omega) (by omega) dX5_partsShown_62 rfl (fun b62 => ?_) (fun b62 => ?_)
          · skip
            refine lv_ldc2 (v := lN 10) hx hb hown (hts (.constantLong RX5 275 (lN 10)) (List.mem_of_getElem? (i := 2) rfl)) dX5_partsShown_70 ?_
            refine lv_lmul hx hb dX5_partsShown_73 ?_
            refine lv_lstore (lv' := [(5, .long (pr * (lN 10))), (0, .ref kx), (1, .int v), (2, .int (nI x)), (3, .int (nI c)), (4, .int (nI (cntF (fun l => bitB (shS w h af nc fc fl l x) c) nl))), (7, .int (nI j))]) hx hb dX5_partsShown_74 hl (by decide) rfl (fun ls hl => ?_)
            refine lv_iinc (k := 6) (v := nI (j + 1)) (lv' := [(7, .int (nI (j + 1))), (5, .long (pr * (lN 10))), (0, .ref kx), (1, .int v), (2, .int (nI x)), (3, .int (nI c)), (4, .int (nI (cntF (fun l => bitB (shS w h af nc fc fl l x) c) nl)))]) hx hb dX5_partsShown_76 hl rfl (xn_inc j 1) (by decide) rfl (fun ls hl => ?_)
            refine lv_goto (tgt := 49) hx hb dX5_partsShown_79 rfl ?_
            have hl := lv_sub hl (l' := [(0, .ref kx), (1, .int v), (2, .int (nI x)), (3, .int (nI c)), (4, .int (nI (cntF (fun l => bitB (shS w h af nc fc fl l x) c) nl))), (5, .long (pr * (lN 10))), (7, .int (nI (j + 1)))]) [2, 3, 4, 5, 6, 1, 0] rfl
            exact ih49 (6 - (j + 1)) (by omega) (j + 1) (pr * (lN 10)) ls H locs rfl (by omega) (by first | rw [hpr, abF, if_pos (by omega)] | rw [hpr, abF, if_neg (by omega)]) hl hP hD hS
          · skip
            refine lv_iload_n hx hb dX5_partsShown_65 rfl (lv_at hl 1 rfl) ?_
            refine xi_i2l hx hb dX5_partsShown_66 ?_
            refine lv_goto (tgt := 73) hx hb dX5_partsShown_67 rfl ?_
            refine lv_lmul hx hb dX5_partsShown_73 ?_
            refine lv_lstore (lv' := [(5, .long (pr * v.toInt64)), (0, .ref kx), (1, .int v), (2, .int (nI x)), (3, .int (nI c)), (4, .int (nI (cntF (fun l => bitB (shS w h af nc fc fl l x) c) nl))), (7, .int (nI j))]) hx hb dX5_partsShown_74 hl (by decide) rfl (fun ls hl => ?_)
            refine lv_iinc (k := 6) (v := nI (j + 1)) (lv' := [(7, .int (nI (j + 1))), (5, .long (pr * v.toInt64)), (0, .ref kx), (1, .int v), (2, .int (nI x)), (3, .int (nI c)), (4, .int (nI (cntF (fun l => bitB (shS w h af nc fc fl l x) c) nl)))]) hx hb dX5_partsShown_76 hl rfl (xn_inc j 1) (by decide) rfl (fun ls hl => ?_)
            refine lv_goto (tgt := 49) hx hb dX5_partsShown_79 rfl ?_
            have hl := lv_sub hl (l' := [(0, .ref kx), (1, .int v), (2, .int (nI x)), (3, .int (nI c)), (4, .int (nI (cntF (fun l => bitB (shS w h af nc fc fl l x) c) nl))), (5, .long (pr * v.toInt64)), (7, .int (nI (j + 1)))]) [2, 3, 4, 5, 6, 1, 0] rfl
            exact ih49 (6 - (j + 1)) (by omega) (j + 1) (pr * v.toInt64) ls H locs rfl (by omega) (by first | rw [hpr, abF, if_pos (by omega)] | rw [hpr, abF, if_neg (by omega)]) hl hP hD hS
      have hl := lv_sub hl (l' := [(0, .ref kx), (1, .int v), (2, .int (nI x)), (3, .int (nI c)), (4, .int (nI (cntF (fun l => bitB (shS w h af nc fc fl l x) c) nl))), (5, .long (lN 1)), (7, .int (nI 0))]) [2, 3, 4, 5, 6, 1, 0] rfl
      exact hL49 (6 - 0) 0 (lN 1) ls H locs rfl (by omega) (by rfl) hl hP hD hS
    · skip
      refine lv_iload hx hb dX5_partsShown_21 (lv_at hl 4 rfl) ?_
      refine lv_aload_n hx hb dX5_partsShown_23 rfl (lv_at hl 0 rfl) ?_
      refine lv_iload hx hb dX5_partsShown_24 (lv_at hl 5 rfl) ?_
      refine lv_iload_n hx hb dX5_partsShown_26 rfl (lv_at hl 2 rfl) ?_
      refine xw_i (As := [.int (nI i), .int (nI x)]) (rest := [.int sh]) (wr := []) ⟨hx, hb, hml, hown, hts⟩ (c_X5_shownBy l G H.size kx kim kit kre ksh kwa kta tf rf kb ka kc kcn kl kn w h la af nc fc kv km kg vw3 vh3 sl3 mk3 sg3 kln nl fl i x (by first | assumption | omega) (by first | assumption | omega) (by first | assumption | omega) (by first | assumption | omega) (by first | assumption | omega) (by first | assumption | omega) (by first | assumption | omega) (by first | assumption | omega) (by first | assumption | omega) (by first | assumption | omega) (by first | assumption | omega) (by first | assumption | omega)) (cwV 2 hts gX5_partsShown_X5_shownBy rfl rfl rfl (by decide +kernel) ⟨Nat.le_of_ble_eq_true rfl, Nat.le_of_ble_eq_true rfl⟩) hK hP hD hS hA [9, 1, 0, 2, 3, 8, 7, 4, 5, 6] [] rfl rfl (by decide) (by decide) (by decide) rfl rfl rfl hl.1 rfl (Nat.le_of_ble_eq_true rfl) dX5_partsShown_27 ⟨Nat.le_of_ble_eq_true rfl, Nat.le_of_ble_eq_true rfl⟩ (fun r27 u H locs hp27 hP hD hS => ?_)
      obtain ⟨mk2_27, sg2_27, vw2_27, vh2_27, sl2_27⟩ := u
      try dsimp only at hp27 hP hD
      obtain ⟨rfl, he27⟩ := hp27
      replace hP : xP G [oC kx 5 [.ref kb, .ref kim, .ref kit, .ref kv, .ref kre, .int tf, .ref ksh, .int rf, .ref kwa, .ref kta], oC kb 0 [.int (nI w), .int (nI h), .int (nI la), .ref ka, .ref kc, .ref kl, .ref kn], iA G ka 16 af, oC kc 2 [.ref kcn, .int (nI 10), .int (nI nc)], iA G kcn (3 * 10) fc, oC kv 4 [.ref km, .ref kg, .int (nI vw2_27), .int (nI vh2_27), .int sl2_27], iA G km 176 mk2_27, iA G kg 160 sg2_27, oC kl 2 [.ref kln, .int (nI 6), .int (nI nl)], iA G kln (3 * 6) fl] H := hP
      replace hD : va_D (va_A (w_X5_partsShown G kx kim kit kre ksh kwa kta tf rf kb ka kc kcn kl kn w h la af nc fc kv km kg vw vh sl mk sg kln nl fl) ss.heap.size) [oC kx 5 [.ref kb, .ref kim, .ref kit, .ref kv, .ref kre, .int tf, .ref ksh, .int rf, .ref kwa, .ref kta], oC kb 0 [.int (nI w), .int (nI h), .int (nI la), .ref ka, .ref kc, .ref kl, .ref kn], iA G ka 16 af, oC kc 2 [.ref kcn, .int (nI 10), .int (nI nc)], iA G kcn (3 * 10) fc, oC kv 4 [.ref km, .ref kg, .int (nI vw2_27), .int (nI vh2_27), .int sl2_27], iA G km 176 mk2_27, iA G kg 160 sg2_27, oC kl 2 [.ref kln, .int (nI 6), .int (nI nl)], iA G kln (3 * 6) fl] := hD
      refine lv_iload_n hx hb dX5_partsShown_30 rfl (lv_at hl 3 rfl) ?_
      refine lv_ishr hx hb dX5_partsShown_31 ?_
      refine lv_iconst (v := nI 1) hx hb dX5_partsShown_32 (by decide) ?_
      refine lv_iand hx hb dX5_partsShown_33 ?_
      refine lv_iadd hx hb dX5_partsShown_34 ?_
      refine lv_istore (lv' := [(4, .int (sh + (((shS w h af nc fc fl i x) >>> ((nI c) &&& 31)) &&& (nI 1)))), (0, .ref kx), (1, .int v), (2, .int (nI x)), (3, .int (nI c)), (5, .int (nI i))]) hx hb dX5_partsShown_35 hl (by decide) rfl (fun ls hl => ?_)
      refine lv_iinc (k := 5) (v := nI (i + 1)) (lv' := [(5, .int (nI (i + 1))), (4, .int (sh + (((shS w h af nc fc fl i x) >>> ((nI c) &&& 31)) &&& (nI 1)))), (0, .ref kx), (1, .int v), (2, .int (nI x)), (3, .int (nI c))]) hx hb dX5_partsShown_37 hl rfl (xn_inc i 1) (by decide) rfl (fun ls hl => ?_)
      refine lv_goto (tgt := 6) hx hb dX5_partsShown_40 rfl ?_
      have hl := lv_sub hl (l' := [(0, .ref kx), (1, .int v), (2, .int (nI x)), (3, .int (nI c)), (4, .int (sh + (((shS w h af nc fc fl i x) >>> ((nI c) &&& 31)) &&& (nI 1)))), (5, .int (nI (i + 1)))]) [2, 3, 4, 5, 1, 0] rfl
      have hP := hP.sub (ws' := [iA G ka 16 af, oC kb 0 [.int (nI w), .int (nI h), .int (nI la), .ref ka, .ref kc, .ref kl, .ref kn], oC kc 2 [.ref kcn, .int (nI 10), .int (nI nc)], iA G kcn (3 * 10) fc, iA G kg 160 sg2_27, oC kl 2 [.ref kln, .int (nI 6), .int (nI nl)], iA G kln (3 * 6) fl, iA G km 176 mk2_27, oC kv 4 [.ref km, .ref kg, .int (nI vw2_27), .int (nI vh2_27), .int sl2_27], oC kx 5 [.ref kb, .ref kim, .ref kit, .ref kv, .ref kre, .int tf, .ref ksh, .int rf, .ref kwa, .ref kta]]) [2, 1, 3, 4, 7, 8, 9, 6, 5, 0] rfl
      have hD := hD.sub (ws' := [iA G ka 16 af, oC kb 0 [.int (nI w), .int (nI h), .int (nI la), .ref ka, .ref kc, .ref kl, .ref kn], oC kc 2 [.ref kcn, .int (nI 10), .int (nI nc)], iA G kcn (3 * 10) fc, iA G kg 160 sg2_27, oC kl 2 [.ref kln, .int (nI 6), .int (nI nl)], iA G kln (3 * 6) fl, iA G km 176 mk2_27, oC kv 4 [.ref km, .ref kg, .int (nI vw2_27), .int (nI vh2_27), .int sl2_27], oC kx 5 [.ref kb, .ref kim, .ref kit, .ref kv, .ref kre, .int tf, .ref ksh, .int rf, .ref kwa, .ref kta]]) [2, 1, 3, 4, 7, 8, 9, 6, 5, 0] (by decide) rfl
      exact ih6 (nl - (i + 1)) (by omega) (i + 1) (sh + (((shS w h af nc fc fl i x) >>> ((nI c) &&& 31)) &&& (nI 1))) mk2_27 sg2_27 vw2_27 vh2_27 sl2_27 ls H locs rfl (by omega) (by rw [hsh]; exact cnt_and rfl) (by assumption) hl hP hD hS
  have hl := lv_sub hl (l' := [(0, .ref kx), (1, .int v), (2, .int (nI x)), (3, .int (nI c)), (4, .int (nI 0)), (5, .int (nI 0))]) [2, 3, 4, 5, 1, 0] rfl
  have hP := hP.sub (ws' := [iA G ka 16 af, oC kb 0 [.int (nI w), .int (nI h), .int (nI la), .ref ka, .ref kc, .ref kl, .ref kn], oC kc 2 [.ref kcn, .int (nI 10), .int (nI nc)], iA G kcn (3 * 10) fc, iA G kg 160 sg, oC kl 2 [.ref kln, .int (nI 6), .int (nI nl)], iA G kln (3 * 6) fl, iA G km 176 mk, oC kv 4 [.ref km, .ref kg, .int (nI vw), .int (nI vh), .int sl], oC kx 5 [.ref kb, .ref kim, .ref kit, .ref kv, .ref kre, .int tf, .ref ksh, .int rf, .ref kwa, .ref kta]]) [2, 1, 3, 4, 7, 8, 9, 6, 5, 0] rfl
  have hD := hD.sub (ws' := [iA G ka 16 af, oC kb 0 [.int (nI w), .int (nI h), .int (nI la), .ref ka, .ref kc, .ref kl, .ref kn], oC kc 2 [.ref kcn, .int (nI 10), .int (nI nc)], iA G kcn (3 * 10) fc, iA G kg 160 sg, oC kl 2 [.ref kln, .int (nI 6), .int (nI nl)], iA G kln (3 * 6) fl, iA G km 176 mk, oC kv 4 [.ref km, .ref kg, .int (nI vw), .int (nI vh), .int sl], oC kx 5 [.ref kb, .ref kim, .ref kit, .ref kv, .ref kre, .int tf, .ref ksh, .int rf, .ref kwa, .ref kta]]) [2, 1, 3, 4, 7, 8, 9, 6, 5, 0] (by decide) rfl
  exact hL6 (nl - 0) 0 (nI 0) mk sg vw vh sl ls ss.heap [] rfl (by omega) (by rfl) (by assumption) hl hP hD hS

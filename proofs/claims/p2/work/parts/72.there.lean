abbrev w_X1_allIsThere (G : XG) (kre kbt kby : Nat) (rl nx kd sr : Nat) (vl fo pl li hto lto ct : Int32) (ka kc kl kn : Nat) (w h la : Nat) (kcn kln nc nl : Nat) (fc fl : Nat → Int32) : va_W := [oC kre 1 [.ref kbt, .ref kby, .int (nI rl), .int (nI nx), .int (nI kd), .int (nI sr), .int vl, .int fo, .int pl, .int li, .int hto, .int lto, .int ct], oC kbt 0 [.int (nI w), .int (nI h), .int (nI la), .ref ka, .ref kc, .ref kl, .ref kn], oC kc 2 [.ref kcn, .int (nI 10), .int (nI nc)], iA G kcn (3 * 10) fc, oC kl 2 [.ref kln, .int (nI 6), .int (nI nl)], iA G kln (3 * 6) fl]
abbrev Q_X1_allIsThere (G : XG) (kre kbt kby : Nat) (rl nx kd sr : Nat) (vl fo pl li hto lto ct : Int32) (ka kc kl kn : Nat) (w h la : Nat) (kcn kln nc nl : Nat) (fc fl : Nat → Int32) : Array Value → State → Outcome → State → Prop := (xRi (fun r => (r = xb ((∀ i, i < nc → inR (fc (3 * i + 0)) (la + 1) ∧ inR (fc (3 * i + 1)) (w * h)) ∧ (∀ i, i < nl → inR (fl (3 * i + 0)) (la + 1) ∧ xu (fl (3 * i + 1)) (nI (w * h)) = nI 0) ∧ xu ct (nI (w * h)) = nI 0))))
set_option maxHeartbeats 4000000 in
set_option maxRecDepth 100000 in
theorem c_X1_allIsThere (l : Launch) (G : XG) (kre kbt kby : Nat) (rl nx kd sr : Nat) (vl fo pl li hto lto ct : Int32) (ka kc kl kn : Nat) (w h la : Nat) (kcn kln nc nl : Nat) (fc fl : Nat → Int32) (hnc : nc ≤ 10) (hnl : nl ≤ 6) (hwh : w * h ≤ 16) (hla : la ≤ 9) : Met l yX1_allIsThere wsX1_allIsThere ({ frames := 1, cells := 0, slots := 0, locals := 22 } : Room) (va_Pc [.ref kre] (xRp G (w_X1_allIsThere G kre kbt kby rl nx kd sr vl fo pl li hto lto ct ka kc kl kn w h la kcn kln nc nl fc fl))) (Q_X1_allIsThere G kre kbt kby rl nx kd sr vl fo pl li hto lto ct ka kc kl kn w h la kcn kln nc nl fc fl) 0 0 (fun _ => False) := by
  refine Met.ofW (cc := cX1_allIsThere) (maxL := 3) (ret := (some .boolean)) (by decide) rfl ?_
  intro pp ee ss mm aa below mt cd s₁ BB hml hv
  obtain ⟨rfl, hP, hK⟩ := hv
  have hx := BB.exec
  have hb := BB.bytes
  have hr := BB.returns
  have hts := atoms_spec (ws := wsX1_allIsThere) BB.pre
  have hown : ss.vm.findClass RX1 = some mm.cls := findClass_of_methodNamed BB.named
  have hlocks := BB.notSynchronized
  have hS : va_S (fun _ => False) ss.heap ss.heap [] := va_S.rf
  replace hP : xP G [oC kre 1 [.ref kbt, .ref kby, .int (nI rl), .int (nI nx), .int (nI kd), .int (nI sr), .int vl, .int fo, .int pl, .int li, .int hto, .int lto, .int ct], oC kbt 0 [.int (nI w), .int (nI h), .int (nI la), .ref ka, .ref kc, .ref kl, .ref kn], oC kc 2 [.ref kcn, .int (nI 10), .int (nI nc)], iA G kcn (3 * 10) fc, oC kl 2 [.ref kln, .int (nI 6), .int (nI nl)], iA G kln (3 * 6) fl] ss.heap := hP
  have hin0 : ∀ w ∈ u_ws RX0 TX0 7, w ∈ wsX1_allIsThere := fun w h => List.mem_cons_of_mem _ (List.mem_append_left _ (List.mem_append_right _ h))
  have hin1 : ∀ w ∈ u_ws RX1 TX1 13, w ∈ wsX1_allIsThere := fun w h => List.mem_cons_of_mem _ (List.mem_append_left _ (List.mem_append_left _ (List.mem_append_right _ h)))
  have hin2 : ∀ w ∈ u_ws RX2 TX2 3, w ∈ wsX1_allIsThere := fun w h => List.mem_cons_of_mem _ (List.mem_append_right _ h)
  have hl := lv_entry ([.ref kre]) (n := 3) (Nat.le_of_ble_eq_true rfl)
  rw [lg_entry_eq]
  generalize (lg_sl ([.ref kre]) ++ List.replicate (3 - (lg_sl ([.ref kre])).length) Slot.unset).toArray = ls at hl ⊢
  replace hl : lv_has ls 3 [(0, .ref kre)] := hl
  refine lv_aload_n hx hb dX1_allIsThere_0 rfl (lv_at hl 0 rfl) ?_
  refine va_get (D := G.1) (ci := 1) (v := .ref kbt) (C := RX1) (T := TX1) (N := 13) hx hb hts hin1 hown hK.1 hP 0 rfl rfl 0 (by decide) (hts (.fieldLink RX1 12 "BackLenses$Reader" "target" "LBackLenses$Book;") (List.mem_of_getElem? (i := 1) rfl)) (fun _ h9 => h9) rfl dX1_allIsThere_1 ?_
  refine xr_i (As := []) (rest := []) ⟨hx, hb, hml, hown, hts⟩ (c_X0_cells l G kbt ka kc kl kn w h la ) (cwV 0 hts gX1_allIsThere_X0_cells rfl rfl rfl (by decide +kernel) ⟨Nat.le_of_ble_eq_true rfl, Nat.le_of_ble_eq_true rfl⟩) hK hP hS [1] rfl rfl rfl rfl hl.1 rfl (Nat.le_of_ble_eq_true rfl) dX1_allIsThere_4 ⟨Nat.zero_le _, Nat.zero_le _⟩ (fun r4 H locs hp4 hP hS => ?_)
  rw [show r4 = _ from hp4]
  refine lv_istore_n (lv' := [(1, .int (nI (w * h))), (0, .ref kre)]) hx hb dX1_allIsThere_7 rfl hl (by decide) rfl (fun ls hl => ?_)
  refine lv_iconst (v := nI 0) hx hb dX1_allIsThere_8 (by decide) ?_
  refine lv_istore_n (lv' := [(2, .int (nI 0)), (1, .int (nI (w * h))), (0, .ref kre)]) hx hb dX1_allIsThere_9 rfl hl (by decide) rfl (fun ls hl => ?_)
  have hL10 : ∀ k : Nat, ∀ (i : Nat) (ls : Array Slot) (H : Heap) (locs : List Loc), nc - i = k → (i ≤ nc) → (∀ j, j < i → inR (fc (3 * j + 0)) (la + 1) ∧ inR (fc (3 * j + 1)) (w * h)) → lv_has ls 3 [(0, .ref kre), (1, .int (nI (w * h))), (2, .int (nI i))] → xP G [oC kbt 0 [.int (nI w), .int (nI h), .int (nI la), .ref ka, .ref kc, .ref kl, .ref kn], oC kc 2 [.ref kcn, .int (nI 10), .int (nI nc)], iA G kcn (3 * 10) fc, oC kl 2 [.ref kln, .int (nI 6), .int (nI nl)], iA G kln (3 * 6) fl, oC kre 1 [.ref kbt, .ref kby, .int (nI rl), .int (nI nx), .int (nI kd), .int (nI sr), .int vl, .int fo, .int pl, .int li, .int hto, .int lto, .int ct]] H → va_S (fun _ => False) ss.heap H locs → W pp l ee ({ frames := 1, cells := 0, slots := 0, locals := 22 } : Room) ss mm ([.ref kre] : List Value).toArray below mt cd H locs 0 0 (MQ below (Q_X1_allIsThere G kre kbt kby rl nx kd sr vl fo pl li hto lto ct ka kc kl kn w h la kcn kln nc nl fc fl) ([.ref kre] : List Value).toArray ss 0 0 (fun _ => False)) (F0 mm 10 ls []) := by
    intro k
    induction k using Nat.strongRecOn with
    | _ k ih10 =>
    intro i ls H locs hm10 hi hT hl hP hS
    refine lv_iload_n hx hb dX1_allIsThere_10 rfl (lv_at hl 2 rfl) ?_
    refine lv_aload_n hx hb dX1_allIsThere_11 rfl (lv_at hl 0 rfl) ?_
    refine va_get (D := G.1) (ci := 1) (v := .ref kbt) (C := RX1) (T := TX1) (N := 13) hx hb hts hin1 hown hK.1 hP 5 rfl rfl 0 (by decide) (hts (.fieldLink RX1 12 "BackLenses$Reader" "target" "LBackLenses$Book;") (List.mem_of_getElem? (i := 1) rfl)) (fun _ h9 => h9) rfl dX1_allIsThere_12 ?_
    refine va_getN (D := G.1) (ci := 0) (v := .ref kc) (C := RX0) (T := TX0) (N := 7) hx hb hts hin0 hown hK.1 hP 0 rfl rfl 4 (by decide) (va_Nw.use rfl (hK.2 (Cond.fieldLinkNest "BackLenses$Reader" (72 : Nat) "BackLenses$Book" "changes" "LBackLenses$Rows;" "BackLenses") (List.mem_of_getElem? (i := 17) rfl))) (fun _ h9 => h9) rfl dX1_allIsThere_15 ?_
    refine va_getN (D := G.1) (ci := 2) (v := .int (nI nc)) (C := RX2) (T := TX2) (N := 3) hx hb hts hin2 hown hK.1 hP 1 rfl rfl 2 (by decide) (va_Nw.use rfl (hK.2 (Cond.fieldLinkNest "BackLenses$Reader" (76 : Nat) "BackLenses$Rows" "size" "I" "BackLenses") (List.mem_of_getElem? (i := 2) rfl))) (fun _ h9 => h9) rfl dX1_allIsThere_18 ?_
    refine xn_icmp_ge (tgt := 76) hx hb (by omega) (by omega) dX1_allIsThere_21 rfl (fun b21 => ?_) (fun b21 => ?_)
    · skip
      have hC : ∀ j, j < nc → inR (fc (3 * j + 0)) (la + 1) ∧ inR (fc (3 * j + 1)) (w * h) := fun j hj => hT j (by omega)
      refine lv_iconst (v := nI 0) hx hb dX1_allIsThere_76 (by decide) ?_
      refine lv_istore_n (lv' := [(2, .int (nI 0)), (0, .ref kre), (1, .int (nI (w * h)))]) hx hb dX1_allIsThere_77 rfl hl (by decide) rfl (fun ls hl => ?_)
      have hL78 : ∀ k : Nat, ∀ (i : Nat) (ls : Array Slot) (H : Heap) (locs : List Loc), nl - i = k → (i ≤ nl) → (∀ j, j < i → inR (fl (3 * j + 0)) (la + 1) ∧ xu (fl (3 * j + 1)) (nI (w * h)) = nI 0) → lv_has ls 3 [(0, .ref kre), (1, .int (nI (w * h))), (2, .int (nI i))] → xP G [oC kbt 0 [.int (nI w), .int (nI h), .int (nI la), .ref ka, .ref kc, .ref kl, .ref kn], oC kc 2 [.ref kcn, .int (nI 10), .int (nI nc)], iA G kcn (3 * 10) fc, oC kl 2 [.ref kln, .int (nI 6), .int (nI nl)], iA G kln (3 * 6) fl, oC kre 1 [.ref kbt, .ref kby, .int (nI rl), .int (nI nx), .int (nI kd), .int (nI sr), .int vl, .int fo, .int pl, .int li, .int hto, .int lto, .int ct]] H → va_S (fun _ => False) ss.heap H locs → W pp l ee ({ frames := 1, cells := 0, slots := 0, locals := 22 } : Room) ss mm ([.ref kre] : List Value).toArray below mt cd H locs 0 0 (MQ below (Q_X1_allIsThere G kre kbt kby rl nx kd sr vl fo pl li hto lto ct ka kc kl kn w h la kcn kln nc nl fc fl) ([.ref kre] : List Value).toArray ss 0 0 (fun _ => False)) (F0 mm 78 ls []) := by
        intro k
        induction k using Nat.strongRecOn with
        | _ k ih78 =>
        intro i ls H locs hm78 hi2 hU hl hP hS
        refine lv_iload_n hx hb dX1_allIsThere_78 rfl (lv_at hl 2 rfl) ?_
        refine lv_aload_n hx hb dX1_allIsThere_79 rfl (lv_at hl 0 rfl) ?_
        refine va_get (D := G.1) (ci := 1) (v := .ref kbt) (C := RX1) (T := TX1) (N := 13) hx hb hts hin1 hown hK.1 hP 5 rfl rfl 0 (by decide) (hts (.fieldLink RX1 12 "BackLenses$Reader" "target" "LBackLenses$Book;") (List.mem_of_getElem? (i := 1) rfl)) (fun _ h9 => h9) rfl dX1_allIsThere_80 ?_
        refine va_getN (D := G.1) (ci := 0) (v := .ref kl) (C := RX0) (T := TX0) (N := 7) hx hb hts hin0 hown hK.1 hP 0 rfl rfl 5 (by decide) (va_Nw.use rfl (hK.2 (Cond.fieldLinkNest "BackLenses$Reader" (92 : Nat) "BackLenses$Book" "lenses" "LBackLenses$Rows;" "BackLenses") (List.mem_of_getElem? (i := 19) rfl))) (fun _ h9 => h9) rfl dX1_allIsThere_83 ?_
        refine va_getN (D := G.1) (ci := 2) (v := .int (nI nl)) (C := RX2) (T := TX2) (N := 3) hx hb hts hin2 hown hK.1 hP 3 rfl rfl 2 (by decide) (va_Nw.use rfl (hK.2 (Cond.fieldLinkNest "BackLenses$Reader" (76 : Nat) "BackLenses$Rows" "size" "I" "BackLenses") (List.mem_of_getElem? (i := 2) rfl))) (fun _ h9 => h9) rfl dX1_allIsThere_86 ?_
        refine xn_icmp_ge (tgt := 139) hx hb (by omega) (by omega) dX1_allIsThere_89 rfl (fun b89 => ?_) (fun b89 => ?_)
        · skip
          have hV : ∀ j, j < nl → inR (fl (3 * j + 0)) (la + 1) ∧ xu (fl (3 * j + 1)) (nI (w * h)) = nI 0 := fun j hj => hU j (by omega)
          refine lv_aload_n hx hb dX1_allIsThere_139 rfl (lv_at hl 0 rfl) ?_
          refine va_get (D := G.1) (ci := 1) (v := .int ct) (C := RX1) (T := TX1) (N := 13) hx hb hts hin1 hown hK.1 hP 5 rfl rfl 12 (by decide) (hts (.fieldLink RX1 45 "BackLenses$Reader" "cellsTold" "I") (List.mem_of_getElem? (i := 2) rfl)) (fun _ h9 => h9) rfl dX1_allIsThere_140 ?_
          refine lv_iload_n hx hb dX1_allIsThere_143 rfl (lv_at hl 1 rfl) ?_
          refine lv_iushr (v := xu ct (nI (w * h))) hx hb dX1_allIsThere_144 rfl ?_
          refine lv_if_ne (tgt := 152) hx hb dX1_allIsThere_145 rfl (fun b145 => ?_) (fun b145 => ?_)
          · skip
            refine lv_iconst (v := nI 0) hx hb dX1_allIsThere_152 (by decide) ?_
            refine W.zret (v := nI 0) (ty := .boolean) hx hb hr (by decide) (fun t ht hW => ⟨⟨nI 0, (), rfl, ?_, trivial⟩, hS.F ht⟩) hS.2.2 dX1_allIsThere_153
            first | exact (xb_t ⟨hC, hV, b145⟩).symm | exact (xb_f (fun q => b145 q.2.2)).symm
          · skip
            refine lv_iconst (v := nI 1) hx hb dX1_allIsThere_148 (by decide) ?_
            refine lv_goto (tgt := 153) hx hb dX1_allIsThere_149 rfl ?_
            refine W.zret (v := nI 1) (ty := .boolean) hx hb hr (by decide) (fun t ht hW => ⟨⟨nI 1, (), rfl, ?_, trivial⟩, hS.F ht⟩) hS.2.2 dX1_allIsThere_153
            first | exact (xb_t ⟨hC, hV, b145⟩).symm | exact (xb_f (fun q => b145 q.2.2)).symm
        · skip
          refine lv_aload_n hx hb dX1_allIsThere_92 rfl (lv_at hl 0 rfl) ?_
          refine va_get (D := G.1) (ci := 1) (v := .ref kbt) (C := RX1) (T := TX1) (N := 13) hx hb hts hin1 hown hK.1 hP 5 rfl rfl 0 (by decide) (hts (.fieldLink RX1 12 "BackLenses$Reader" "target" "LBackLenses$Book;") (List.mem_of_getElem? (i := 1) rfl)) (fun _ h9 => h9) rfl dX1_allIsThere_93 ?_
          refine lv_aload_n hx hb dX1_allIsThere_96 rfl (lv_at hl 0 rfl) ?_
          refine va_get (D := G.1) (ci := 1) (v := .ref kbt) (C := RX1) (T := TX1) (N := 13) hx hb hts hin1 hown hK.1 hP 5 rfl rfl 0 (by decide) (hts (.fieldLink RX1 12 "BackLenses$Reader" "target" "LBackLenses$Book;") (List.mem_of_getElem? (i := 1) rfl)) (fun _ h9 => h9) rfl dX1_allIsThere_97 ?_
          refine va_getN (D := G.1) (ci := 0) (v := .ref kl) (C := RX0) (T := TX0) (N := 7) hx hb hts hin0 hown hK.1 hP 0 rfl rfl 5 (by decide) (va_Nw.use rfl (hK.2 (Cond.fieldLinkNest "BackLenses$Reader" (92 : Nat) "BackLenses$Book" "lenses" "LBackLenses$Rows;" "BackLenses") (List.mem_of_getElem? (i := 19) rfl))) (fun _ h9 => h9) rfl dX1_allIsThere_100 ?_
          refine lv_iload_n hx hb dX1_allIsThere_103 rfl (lv_at hl 2 rfl) ?_
          refine lv_iconst (v := nI 0) hx hb dX1_allIsThere_104 (by decide) ?_
          refine xr_i (As := [.int (nI i), .int (nI 0)]) (rest := [.ref kbt]) ⟨hx, hb, hml, hown, hts⟩ (c_X2_number l G kl kln 6 nl fl i 0 (by first | assumption | omega) (by first | assumption | omega)) (cwV 2 hts gX1_allIsThere_X2_number rfl rfl rfl (by decide +kernel) ⟨Nat.le_of_ble_eq_true rfl, Nat.le_of_ble_eq_true rfl⟩) hK hP hS [3, 4] rfl rfl rfl rfl hl.1 rfl (Nat.le_of_ble_eq_true rfl) dX1_allIsThere_105 ⟨Nat.zero_le _, Nat.zero_le _⟩ (fun r105 H locs hp105 hP hS => ?_)
          rw [show r105 = _ from hp105]
          refine xr_i (As := [.int (fl (3 * i + 0))]) (rest := []) ⟨hx, hb, hml, hown, hts⟩ (c_X0_hasDay l G kbt ka kc kl kn w h la (fl (3 * i + 0)) (by first | assumption | omega)) (cwV 1 hts gX1_allIsThere_X0_hasDay rfl rfl rfl (by decide +kernel) ⟨Nat.le_of_ble_eq_true rfl, Nat.le_of_ble_eq_true rfl⟩) hK hP hS [0] rfl rfl rfl rfl hl.1 rfl (Nat.le_of_ble_eq_true rfl) dX1_allIsThere_108 ⟨Nat.zero_le _, Nat.zero_le _⟩ (fun r108 H locs hp108 hP hS => ?_)
          rw [show r108 = _ from hp108]
          refine xb_if_eq (tgt := 131) hx hb dX1_allIsThere_111 rfl (fun b111 => ?_) (fun b111 => ?_)
          · skip
            refine lv_iconst (v := nI 0) hx hb dX1_allIsThere_131 (by decide) ?_
            refine W.zret (v := nI 0) (ty := .boolean) hx hb hr (by decide) (fun t ht hW => ⟨⟨nI 0, (), rfl, ?_, trivial⟩, hS.F ht⟩) hS.2.2 dX1_allIsThere_132
            first | exact (xb_f (fun q => b111 (q.2.1 i (by omega)).1)).symm | exact (xb_f (fun q => b128 (q.2.1 i (by omega)).2)).symm
          · skip
            refine lv_aload_n hx hb dX1_allIsThere_114 rfl (lv_at hl 0 rfl) ?_
            refine va_get (D := G.1) (ci := 1) (v := .ref kbt) (C := RX1) (T := TX1) (N := 13) hx hb hts hin1 hown hK.1 hP 5 rfl rfl 0 (by decide) (hts (.fieldLink RX1 12 "BackLenses$Reader" "target" "LBackLenses$Book;") (List.mem_of_getElem? (i := 1) rfl)) (fun _ h9 => h9) rfl dX1_allIsThere_115 ?_
            refine va_getN (D := G.1) (ci := 0) (v := .ref kl) (C := RX0) (T := TX0) (N := 7) hx hb hts hin0 hown hK.1 hP 0 rfl rfl 5 (by decide) (va_Nw.use rfl (hK.2 (Cond.fieldLinkNest "BackLenses$Reader" (92 : Nat) "BackLenses$Book" "lenses" "LBackLenses$Rows;" "BackLenses") (List.mem_of_getElem? (i := 19) rfl))) (fun _ h9 => h9) rfl dX1_allIsThere_118 ?_
            refine lv_iload_n hx hb dX1_allIsThere_121 rfl (lv_at hl 2 rfl) ?_
            refine lv_iconst (v := nI 1) hx hb dX1_allIsThere_122 (by decide) ?_
            refine xr_i (As := [.int (nI i), .int (nI 1)]) (rest := []) ⟨hx, hb, hml, hown, hts⟩ (c_X2_number l G kl kln 6 nl fl i 1 (by first | assumption | omega) (by first | assumption | omega)) (cwV 2 hts gX1_allIsThere_X2_number rfl rfl rfl (by decide +kernel) ⟨Nat.le_of_ble_eq_true rfl, Nat.le_of_ble_eq_true rfl⟩) hK hP hS [3, 4] rfl rfl rfl rfl hl.1 rfl (Nat.le_of_ble_eq_true rfl) dX1_allIsThere_123 ⟨Nat.zero_le _, Nat.zero_le _⟩ (fun r123 H locs hp123 hP hS => ?_)
            rw [show r123 = _ from hp123]
            refine lv_iload_n hx hb dX1_allIsThere_126 rfl (lv_at hl 1 rfl) ?_
            refine lv_iushr (v := xu (fl (3 * i + 1)) (nI (w * h))) hx hb dX1_allIsThere_127 rfl ?_
            refine lv_if_eq (tgt := 133) hx hb dX1_allIsThere_128 rfl (fun b128 => ?_) (fun b128 => ?_)
            · skip
              refine lv_iinc (k := 2) (v := nI (i + 1)) (lv' := [(2, .int (nI (i + 1))), (0, .ref kre), (1, .int (nI (w * h)))]) hx hb dX1_allIsThere_133 hl rfl (xn_inc i 1) (by decide) rfl (fun ls hl => ?_)
              refine lv_goto (tgt := 78) hx hb dX1_allIsThere_136 rfl ?_
              have hl := lv_sub hl (l' := [(0, .ref kre), (1, .int (nI (w * h))), (2, .int (nI (i + 1)))]) [1, 2, 0] rfl
              exact ih78 (nl - (i + 1)) (by omega) (i + 1) ls H locs rfl (by omega) (by intro j hj; by_cases hq : j = i; (rw [hq]; exact ⟨b111, b128⟩); exact hU j (by omega)) hl hP hS
            · skip
              refine lv_iconst (v := nI 0) hx hb dX1_allIsThere_131 (by decide) ?_
              refine W.zret (v := nI 0) (ty := .boolean) hx hb hr (by decide) (fun t ht hW => ⟨⟨nI 0, (), rfl, ?_, trivial⟩, hS.F ht⟩) hS.2.2 dX1_allIsThere_132
              first | exact (xb_f (fun q => b111 (q.2.1 i (by omega)).1)).symm | exact (xb_f (fun q => b128 (q.2.1 i (by omega)).2)).symm
      have hl := lv_sub hl (l' := [(0, .ref kre), (1, .int (nI (w * h))), (2, .int (nI 0))]) [1, 2, 0] rfl
      exact hL78 (nl - 0) 0 ls H locs rfl (by omega) (by intro j hj; omega) hl hP hS
    · skip
      refine lv_aload_n hx hb dX1_allIsThere_24 rfl (lv_at hl 0 rfl) ?_
      refine va_get (D := G.1) (ci := 1) (v := .ref kbt) (C := RX1) (T := TX1) (N := 13) hx hb hts hin1 hown hK.1 hP 5 rfl rfl 0 (by decide) (hts (.fieldLink RX1 12 "BackLenses$Reader" "target" "LBackLenses$Book;") (List.mem_of_getElem? (i := 1) rfl)) (fun _ h9 => h9) rfl dX1_allIsThere_25 ?_
      refine lv_aload_n hx hb dX1_allIsThere_28 rfl (lv_at hl 0 rfl) ?_
      refine va_get (D := G.1) (ci := 1) (v := .ref kbt) (C := RX1) (T := TX1) (N := 13) hx hb hts hin1 hown hK.1 hP 5 rfl rfl 0 (by decide) (hts (.fieldLink RX1 12 "BackLenses$Reader" "target" "LBackLenses$Book;") (List.mem_of_getElem? (i := 1) rfl)) (fun _ h9 => h9) rfl dX1_allIsThere_29 ?_
      refine va_getN (D := G.1) (ci := 0) (v := .ref kc) (C := RX0) (T := TX0) (N := 7) hx hb hts hin0 hown hK.1 hP 0 rfl rfl 4 (by decide) (va_Nw.use rfl (hK.2 (Cond.fieldLinkNest "BackLenses$Reader" (72 : Nat) "BackLenses$Book" "changes" "LBackLenses$Rows;" "BackLenses") (List.mem_of_getElem? (i := 17) rfl))) (fun _ h9 => h9) rfl dX1_allIsThere_32 ?_
      refine lv_iload_n hx hb dX1_allIsThere_35 rfl (lv_at hl 2 rfl) ?_
      refine lv_iconst (v := nI 0) hx hb dX1_allIsThere_36 (by decide) ?_
      refine xr_i (As := [.int (nI i), .int (nI 0)]) (rest := [.ref kbt]) ⟨hx, hb, hml, hown, hts⟩ (c_X2_number l G kc kcn 10 nc fc i 0 (by first | assumption | omega) (by first | assumption | omega)) (cwV 2 hts gX1_allIsThere_X2_number rfl rfl rfl (by decide +kernel) ⟨Nat.le_of_ble_eq_true rfl, Nat.le_of_ble_eq_true rfl⟩) hK hP hS [1, 2] rfl rfl rfl rfl hl.1 rfl (Nat.le_of_ble_eq_true rfl) dX1_allIsThere_37 ⟨Nat.zero_le _, Nat.zero_le _⟩ (fun r37 H locs hp37 hP hS => ?_)
      rw [show r37 = _ from hp37]
      refine xr_i (As := [.int (fc (3 * i + 0))]) (rest := []) ⟨hx, hb, hml, hown, hts⟩ (c_X0_hasDay l G kbt ka kc kl kn w h la (fc (3 * i + 0)) (by first | assumption | omega)) (cwV 1 hts gX1_allIsThere_X0_hasDay rfl rfl rfl (by decide +kernel) ⟨Nat.le_of_ble_eq_true rfl, Nat.le_of_ble_eq_true rfl⟩) hK hP hS [0] rfl rfl rfl rfl hl.1 rfl (Nat.le_of_ble_eq_true rfl) dX1_allIsThere_40 ⟨Nat.zero_le _, Nat.zero_le _⟩ (fun r40 H locs hp40 hP hS => ?_)
      rw [show r40 = _ from hp40]
      refine xb_if_eq (tgt := 68) hx hb dX1_allIsThere_43 rfl (fun b43 => ?_) (fun b43 => ?_)
      · skip
        refine lv_iconst (v := nI 0) hx hb dX1_allIsThere_68 (by decide) ?_
        refine W.zret (v := nI 0) (ty := .boolean) hx hb hr (by decide) (fun t ht hW => ⟨⟨nI 0, (), rfl, ?_, trivial⟩, hS.F ht⟩) hS.2.2 dX1_allIsThere_69
        first | exact (xb_f (fun q => b43 (q.1 i (by omega)).1)).symm | exact (xb_f (fun q => b65 (q.1 i (by omega)).2)).symm
      · skip
        refine lv_aload_n hx hb dX1_allIsThere_46 rfl (lv_at hl 0 rfl) ?_
        refine va_get (D := G.1) (ci := 1) (v := .ref kbt) (C := RX1) (T := TX1) (N := 13) hx hb hts hin1 hown hK.1 hP 5 rfl rfl 0 (by decide) (hts (.fieldLink RX1 12 "BackLenses$Reader" "target" "LBackLenses$Book;") (List.mem_of_getElem? (i := 1) rfl)) (fun _ h9 => h9) rfl dX1_allIsThere_47 ?_
        refine lv_aload_n hx hb dX1_allIsThere_50 rfl (lv_at hl 0 rfl) ?_
        refine va_get (D := G.1) (ci := 1) (v := .ref kbt) (C := RX1) (T := TX1) (N := 13) hx hb hts hin1 hown hK.1 hP 5 rfl rfl 0 (by decide) (hts (.fieldLink RX1 12 "BackLenses$Reader" "target" "LBackLenses$Book;") (List.mem_of_getElem? (i := 1) rfl)) (fun _ h9 => h9) rfl dX1_allIsThere_51 ?_
        refine va_getN (D := G.1) (ci := 0) (v := .ref kc) (C := RX0) (T := TX0) (N := 7) hx hb hts hin0 hown hK.1 hP 0 rfl rfl 4 (by decide) (va_Nw.use rfl (hK.2 (Cond.fieldLinkNest "BackLenses$Reader" (72 : Nat) "BackLenses$Book" "changes" "LBackLenses$Rows;" "BackLenses") (List.mem_of_getElem? (i := 17) rfl))) (fun _ h9 => h9) rfl dX1_allIsThere_54 ?_
        refine lv_iload_n hx hb dX1_allIsThere_57 rfl (lv_at hl 2 rfl) ?_
        refine lv_iconst (v := nI 1) hx hb dX1_allIsThere_58 (by decide) ?_
        refine xr_i (As := [.int (nI i), .int (nI 1)]) (rest := [.ref kbt]) ⟨hx, hb, hml, hown, hts⟩ (c_X2_number l G kc kcn 10 nc fc i 1 (by first | assumption | omega) (by first | assumption | omega)) (cwV 2 hts gX1_allIsThere_X2_number rfl rfl rfl (by decide +kernel) ⟨Nat.le_of_ble_eq_true rfl, Nat.le_of_ble_eq_true rfl⟩) hK hP hS [1, 2] rfl rfl rfl rfl hl.1 rfl (Nat.le_of_ble_eq_true rfl) dX1_allIsThere_59 ⟨Nat.zero_le _, Nat.zero_le _⟩ (fun r59 H locs hp59 hP hS => ?_)
        rw [show r59 = _ from hp59]
        refine xr_i (As := [.int (fc (3 * i + 1))]) (rest := []) ⟨hx, hb, hml, hown, hts⟩ (c_X0_hasCell l G kbt ka kc kl kn w h la (fc (3 * i + 1)) (by first | assumption | omega)) (cwV 1 hts gX1_allIsThere_X0_hasCell rfl rfl rfl (by decide +kernel) ⟨Nat.le_of_ble_eq_true rfl, Nat.le_of_ble_eq_true rfl⟩) hK hP hS [0] rfl rfl rfl rfl hl.1 rfl (Nat.le_of_ble_eq_true rfl) dX1_allIsThere_62 ⟨Nat.zero_le _, Nat.zero_le _⟩ (fun r62 H locs hp62 hP hS => ?_)
        rw [show r62 = _ from hp62]
        refine xb_if_ne (tgt := 70) hx hb dX1_allIsThere_65 rfl (fun b65 => ?_) (fun b65 => ?_)
        · skip
          refine lv_iinc (k := 2) (v := nI (i + 1)) (lv' := [(2, .int (nI (i + 1))), (0, .ref kre), (1, .int (nI (w * h)))]) hx hb dX1_allIsThere_70 hl rfl (xn_inc i 1) (by decide) rfl (fun ls hl => ?_)
          refine lv_goto (tgt := 10) hx hb dX1_allIsThere_73 rfl ?_
          have hl := lv_sub hl (l' := [(0, .ref kre), (1, .int (nI (w * h))), (2, .int (nI (i + 1)))]) [1, 2, 0] rfl
          exact ih10 (nc - (i + 1)) (by omega) (i + 1) ls H locs rfl (by omega) (by intro j hj; by_cases hq : j = i; (rw [hq]; exact ⟨b43, b65⟩); exact hT j (by omega)) hl hP hS
        · skip
          refine lv_iconst (v := nI 0) hx hb dX1_allIsThere_68 (by decide) ?_
          refine W.zret (v := nI 0) (ty := .boolean) hx hb hr (by decide) (fun t ht hW => ⟨⟨nI 0, (), rfl, ?_, trivial⟩, hS.F ht⟩) hS.2.2 dX1_allIsThere_69
          first | exact (xb_f (fun q => b43 (q.1 i (by omega)).1)).symm | exact (xb_f (fun q => b65 (q.1 i (by omega)).2)).symm
  have hl := lv_sub hl (l' := [(0, .ref kre), (1, .int (nI (w * h))), (2, .int (nI 0))]) [2, 1, 0] rfl
  have hP := hP.sub (ws' := [oC kbt 0 [.int (nI w), .int (nI h), .int (nI la), .ref ka, .ref kc, .ref kl, .ref kn], oC kc 2 [.ref kcn, .int (nI 10), .int (nI nc)], iA G kcn (3 * 10) fc, oC kl 2 [.ref kln, .int (nI 6), .int (nI nl)], iA G kln (3 * 6) fl, oC kre 1 [.ref kbt, .ref kby, .int (nI rl), .int (nI nx), .int (nI kd), .int (nI sr), .int vl, .int fo, .int pl, .int li, .int hto, .int lto, .int ct]]) [1, 2, 3, 4, 5, 0] rfl
  exact hL10 (nc - 0) 0 ls H locs rfl (by omega) (by intro j hj; omega) hl hP hS

abbrev w_X1_takeToken_f (G : XG) (kre kbt kby : Nat) (rl nx kd sr : Nat) (vl fo pl li ht lt ct : Int32) (tb : Nat → Int32) : va_W := [oC kre 1 [.ref kbt, .ref kby, .int (nI rl), .int (nI nx), .int (nI kd), .int (nI sr), .int vl, .int fo, .int pl, .int li, .int ht, .int lt, .int ct], bA G kby 160 tb]
abbrev Q_X1_takeToken_f (G : XG) (sz : Nat) (kre kbt kby : Nat) (rl nx kd sr : Nat) (vl fo pl li ht lt ct : Int32) (tb : Nat → Int32) : Array Value → State → Outcome → State → Prop := (va_Qi (fun (r : Int32) (u : Nat × Nat × Nat × Int32 × Int32 × Int32) => r = xb ((fTok tb rl (nx, kd, sr, vl, fo, pl)).1 = true) ∧ (u.1, u.2.1, u.2.2.1, u.2.2.2.1, u.2.2.2.2.1, u.2.2.2.2.2) = (fTok tb rl (nx, kd, sr, vl, fo, pl)).2) (xWb G sz (w_X1_takeToken_f G kre kbt kby rl nx kd sr vl fo pl li ht lt ct tb) (fun u : Nat × Nat × Nat × Int32 × Int32 × Int32 => [oC kre 1 [.ref kbt, .ref kby, .int (nI rl), .int (nI u.1), .int (nI u.2.1), .int (nI u.2.2.1), .int u.2.2.2.1, .int u.2.2.2.2.1, .int u.2.2.2.2.2, .int li, .int ht, .int lt, .int ct], bA G kby 160 tb])) (va_A (w_X1_takeToken_f G kre kbt kby rl nx kd sr vl fo pl li ht lt ct tb) sz))
set_option maxHeartbeats 4000000 in
set_option maxRecDepth 100000 in
theorem c_X1_takeToken_f (l : Launch) (G : XG) (sz : Nat) (kre kbt kby : Nat) (rl nx kd sr : Nat) (vl fo pl li ht lt ct : Int32) (tb : Nat → Int32) (hrl : rl ≤ 160) (hnx : nx ≤ rl) : Met l yX1_takeToken wsX1_takeToken ({ frames := 1, cells := 0, slots := 0, locals := 22 } : Room) (va_Pc [.ref kre] (xWp G sz (w_X1_takeToken_f G kre kbt kby rl nx kd sr vl fo pl li ht lt ct tb))) (Q_X1_takeToken_f G sz kre kbt kby rl nx kd sr vl fo pl li ht lt ct tb) 0 0 (va_A (w_X1_takeToken_f G kre kbt kby rl nx kd sr vl fo pl li ht lt ct tb) sz) := by
  refine Met.ofW (cc := cX1_takeToken) (maxL := 1) (ret := (some .boolean)) (by decide) rfl ?_
  intro pp ee ss mm aa below mt cd s₁ BB hml hv
  obtain ⟨rfl, hsz, hP, hK, hD0⟩ := hv
  have hx := BB.exec
  have hb := BB.bytes
  have hr := BB.returns
  have hts := atoms_spec (ws := wsX1_takeToken) BB.pre
  have hown : ss.vm.findClass RX1 = some mm.cls := findClass_of_methodNamed BB.named
  have hlocks := BB.notSynchronized
  subst hsz
  have hD := hD0.self (sz := ss.heap.size)
  have hA : ∀ q : Nat, ss.heap.size ≤ q → va_A (w_X1_takeToken_f G kre kbt kby rl nx kd sr vl fo pl li ht lt ct tb) ss.heap.size q := fun q h => Or.inr h
  have hS : va_S (va_A (w_X1_takeToken_f G kre kbt kby rl nx kd sr vl fo pl li ht lt ct tb) ss.heap.size) ss.heap ss.heap [] := va_S.rf
  replace hD : va_D (va_A (w_X1_takeToken_f G kre kbt kby rl nx kd sr vl fo pl li ht lt ct tb) ss.heap.size) [oC kre 1 [.ref kbt, .ref kby, .int (nI rl), .int (nI nx), .int (nI kd), .int (nI sr), .int vl, .int fo, .int pl, .int li, .int ht, .int lt, .int ct], bA G kby 160 tb] := hD
  replace hP : xP G [oC kre 1 [.ref kbt, .ref kby, .int (nI rl), .int (nI nx), .int (nI kd), .int (nI sr), .int vl, .int fo, .int pl, .int li, .int ht, .int lt, .int ct], bA G kby 160 tb] ss.heap := hP
  have hin1 : ∀ w ∈ u_ws RX1 TX1 13, w ∈ wsX1_takeToken := fun w h => List.mem_cons_of_mem _ (List.mem_append_right _ h)
  have hl := lv_entry ([.ref kre]) (n := 1) (Nat.le_of_ble_eq_true rfl)
  rw [lg_entry_eq]
  generalize (lg_sl ([.ref kre]) ++ List.replicate (1 - (lg_sl ([.ref kre])).length) Slot.unset).toArray = ls at hl ⊢
  replace hl : lv_has ls 1 [(0, .ref kre)] := hl
  have hL38 : ∀ (p : Nat) (ls : Array Slot) (H : Heap) (locs : List Loc), (nx ≤ p) → (p ≤ rl) → ((ruE isSp tb rl nx) = p) → lv_has ls 1 [(0, .ref kre)] → xP G [bA G kby 160 tb, oC kre 1 [.ref kbt, .ref kby, .int (nI rl), .int (nI p), .int (nI kd), .int (nI sr), .int vl, .int fo, .int pl, .int li, .int ht, .int lt, .int ct]] H → va_D (va_A (w_X1_takeToken_f G kre kbt kby rl nx kd sr vl fo pl li ht lt ct tb) ss.heap.size) [bA G kby 160 tb, oC kre 1 [.ref kbt, .ref kby, .int (nI rl), .int (nI p), .int (nI kd), .int (nI sr), .int vl, .int fo, .int pl, .int li, .int ht, .int lt, .int ct]] → va_S (va_A (w_X1_takeToken_f G kre kbt kby rl nx kd sr vl fo pl li ht lt ct tb) ss.heap.size) ss.heap H locs → W pp l ee ({ frames := 1, cells := 0, slots := 0, locals := 22 } : Room) ss mm ([.ref kre] : List Value).toArray below mt cd H locs 0 0 (MQ below (Q_X1_takeToken_f G ss.heap.size kre kbt kby rl nx kd sr vl fo pl li ht lt ct tb) ([.ref kre] : List Value).toArray ss 0 0 (va_A (w_X1_takeToken_f G kre kbt kby rl nx kd sr vl fo pl li ht lt ct tb) ss.heap.size)) (F0 mm 38 ls []) := by
    intro p ls H locs hnp hpr hq hl hP hD hS
    refine lv_aload_n hx hb dX1_takeToken_38 rfl (lv_at hl 0 rfl) ?_
    refine lv_aload_n hx hb dX1_takeToken_39 rfl (lv_at hl 0 rfl) ?_
    refine va_get (D := G.1) (ci := 1) (v := .int (nI p)) (C := RX1) (T := TX1) (N := 13) hx hb hts hin1 hown hK.1 hP 1 rfl rfl 3 (by decide) (hts (.fieldLink RX1 26 "BackLenses$Reader" "next" "I") (List.mem_of_getElem? (i := 1) rfl)) (fun _ h9 => h9) rfl dX1_takeToken_40 ?_
    refine va_put (D := G.1) (ci := 1) (v := .int (nI p)) (ty := .int) (C := RX1) (T := TX1) (N := 13) hx hb hts hin1 tyX1 tyX1_ok nmX1 hown hK.1 hP hD hS 1 rfl rfl 5 (by decide) (hts (.fieldLink RX1 95 "BackLenses$Reader" "start" "I") (List.mem_of_getElem? (i := 4) rfl)) (fun _ h9 => h9) rfl (by decide +kernel) rfl rfl (Nat.le_of_ble_eq_true rfl) dX1_takeToken_43 (fun H locs hP hD hS => ?_)
    replace hP : xP G [bA G kby 160 tb, oC kre 1 [.ref kbt, .ref kby, .int (nI rl), .int (nI p), .int (nI kd), .int (nI p), .int vl, .int fo, .int pl, .int li, .int ht, .int lt, .int ct]] H := hP
    replace hD : va_D (va_A (w_X1_takeToken_f G kre kbt kby rl nx kd sr vl fo pl li ht lt ct tb) ss.heap.size) [bA G kby 160 tb, oC kre 1 [.ref kbt, .ref kby, .int (nI rl), .int (nI p), .int (nI kd), .int (nI p), .int vl, .int fo, .int pl, .int li, .int ht, .int lt, .int ct]] := hD
    refine lv_aload_n hx hb dX1_takeToken_46 rfl (lv_at hl 0 rfl) ?_
    refine va_get (D := G.1) (ci := 1) (v := .int (nI p)) (C := RX1) (T := TX1) (N := 13) hx hb hts hin1 hown hK.1 hP 1 rfl rfl 3 (by decide) (hts (.fieldLink RX1 26 "BackLenses$Reader" "next" "I") (List.mem_of_getElem? (i := 1) rfl)) (fun _ h9 => h9) rfl dX1_takeToken_47 ?_
    refine lv_aload_n hx hb dX1_takeToken_50 rfl (lv_at hl 0 rfl) ?_
    refine va_get (D := G.1) (ci := 1) (v := .int (nI rl)) (C := RX1) (T := TX1) (N := 13) hx hb hts hin1 hown hK.1 hP 1 rfl rfl 2 (by decide) (hts (.fieldLink RX1 22 "BackLenses$Reader" "length" "I") (List.mem_of_getElem? (i := 2) rfl)) (fun _ h9 => h9) rfl dX1_takeToken_51 ?_
    refine xn_icmp_lt (tgt := 64) hx hb (by omega) (by omega) dX1_takeToken_54 rfl (fun b54 => ?_) (fun b54 => ?_)
    · skip
      refine lv_aload_n hx hb dX1_takeToken_64 rfl (lv_at hl 0 rfl) ?_
      refine va_get (D := G.1) (ci := 1) (v := .ref kby) (C := RX1) (T := TX1) (N := 13) hx hb hts hin1 hown hK.1 hP 1 rfl rfl 1 (by decide) (hts (.fieldLink RX1 18 "BackLenses$Reader" "bytes" "[B") (List.mem_of_getElem? (i := 3) rfl)) (fun _ h9 => h9) rfl dX1_takeToken_65 ?_
      refine lv_aload_n hx hb dX1_takeToken_68 rfl (lv_at hl 0 rfl) ?_
      refine va_get (D := G.1) (ci := 1) (v := .int (nI p)) (C := RX1) (T := TX1) (N := 13) hx hb hts hin1 hown hK.1 hP 1 rfl rfl 3 (by decide) (hts (.fieldLink RX1 26 "BackLenses$Reader" "next" "I") (List.mem_of_getElem? (i := 1) rfl)) (fun _ h9 => h9) rfl dX1_takeToken_69 ?_
      refine xn_bald hx hb hK hP 0 rfl (by omega) (by omega) dX1_takeToken_72 ?_
      refine lv_bipush (v := nI 59) hx hb dX1_takeToken_73 (by decide) ?_
      refine lv_icmp_ne (tgt := 95) hx hb dX1_takeToken_75 rfl (fun b75 => ?_) (fun b75 => ?_)
      · skip
        refine lv_aload_n hx hb dX1_takeToken_95 rfl (lv_at hl 0 rfl) ?_
        refine va_get (D := G.1) (ci := 1) (v := .ref kby) (C := RX1) (T := TX1) (N := 13) hx hb hts hin1 hown hK.1 hP 1 rfl rfl 1 (by decide) (hts (.fieldLink RX1 18 "BackLenses$Reader" "bytes" "[B") (List.mem_of_getElem? (i := 3) rfl)) (fun _ h9 => h9) rfl dX1_takeToken_96 ?_
        refine lv_aload_n hx hb dX1_takeToken_99 rfl (lv_at hl 0 rfl) ?_
        refine va_get (D := G.1) (ci := 1) (v := .int (nI p)) (C := RX1) (T := TX1) (N := 13) hx hb hts hin1 hown hK.1 hP 1 rfl rfl 3 (by decide) (hts (.fieldLink RX1 26 "BackLenses$Reader" "next" "I") (List.mem_of_getElem? (i := 1) rfl)) (fun _ h9 => h9) rfl dX1_takeToken_100 ?_
        refine xn_bald hx hb hK hP 0 rfl (by omega) (by omega) dX1_takeToken_103 ?_
        refine xs_i (As := [.int (tb p)]) (rest := []) ⟨hx, hb, hml, hown, hts⟩ (c_X1_isLetter l G (tb p) ) (va_cwS 1 hts gX1_takeToken_X1_isLetter rfl rfl rfl (by decide +kernel) ⟨Nat.le_of_ble_eq_true rfl, Nat.le_of_ble_eq_true rfl⟩) hP hS rfl hl.1 rfl (Nat.le_of_ble_eq_true rfl) dX1_takeToken_104 ⟨Nat.zero_le _, Nat.zero_le _⟩ (fun r104 H locs hp104 hP hS => ?_)
        rw [show r104 = _ from hp104]
        refine xb_if_eq (tgt := 156) hx hb dX1_takeToken_107 rfl (fun b107 => ?_) (fun b107 => ?_)
        · skip
          refine lv_aload_n hx hb dX1_takeToken_156 rfl (lv_at hl 0 rfl) ?_
          refine lv_iconst (v := nI 0) hx hb dX1_takeToken_157 (by decide) ?_
          refine va_put (D := G.1) (ci := 1) (v := .int (nI 0)) (ty := .int) (C := RX1) (T := TX1) (N := 13) hx hb hts hin1 tyX1 tyX1_ok nmX1 hown hK.1 hP hD hS 1 rfl rfl 6 (by decide) (hts (.fieldLink RX1 130 "BackLenses$Reader" "value" "I") (List.mem_of_getElem? (i := 6) rfl)) (fun _ h9 => h9) rfl (by decide +kernel) rfl rfl (Nat.le_of_ble_eq_true rfl) dX1_takeToken_158 (fun H locs hP hD hS => ?_)
          replace hP : xP G [bA G kby 160 tb, oC kre 1 [.ref kbt, .ref kby, .int (nI rl), .int (nI p), .int (nI kd), .int (nI p), .int (nI 0), .int fo, .int pl, .int li, .int ht, .int lt, .int ct]] H := hP
          replace hD : va_D (va_A (w_X1_takeToken_f G kre kbt kby rl nx kd sr vl fo pl li ht lt ct tb) ss.heap.size) [bA G kby 160 tb, oC kre 1 [.ref kbt, .ref kby, .int (nI rl), .int (nI p), .int (nI kd), .int (nI p), .int (nI 0), .int fo, .int pl, .int li, .int ht, .int lt, .int ct]] := hD
          have hL161 : ∀ k : Nat, ∀ (p2 : Nat) (v2 : Int32) (ls : Array Slot) (H : Heap) (locs : List Loc), rl - p2 = k → (p ≤ p2) → (p2 ≤ rl) → (ruE isD tb rl p = ruE isD tb rl p2) → (v2 = dvF tb (p2 - p) p (nI 0)) → lv_has ls 1 [(0, .ref kre)] → xP G [bA G kby 160 tb, oC kre 1 [.ref kbt, .ref kby, .int (nI rl), .int (nI p2), .int (nI kd), .int (nI p), .int v2, .int fo, .int pl, .int li, .int ht, .int lt, .int ct]] H → va_D (va_A (w_X1_takeToken_f G kre kbt kby rl nx kd sr vl fo pl li ht lt ct tb) ss.heap.size) [bA G kby 160 tb, oC kre 1 [.ref kbt, .ref kby, .int (nI rl), .int (nI p2), .int (nI kd), .int (nI p), .int v2, .int fo, .int pl, .int li, .int ht, .int lt, .int ct]] → va_S (va_A (w_X1_takeToken_f G kre kbt kby rl nx kd sr vl fo pl li ht lt ct tb) ss.heap.size) ss.heap H locs → W pp l ee ({ frames := 1, cells := 0, slots := 0, locals := 22 } : Room) ss mm ([.ref kre] : List Value).toArray below mt cd H locs 0 0 (MQ below (Q_X1_takeToken_f G ss.heap.size kre kbt kby rl nx kd sr vl fo pl li ht lt ct tb) ([.ref kre] : List Value).toArray ss 0 0 (va_A (w_X1_takeToken_f G kre kbt kby rl nx kd sr vl fo pl li ht lt ct tb) ss.heap.size)) (F0 mm 161 ls []) := by
            intro k
            induction k using Nat.strongRecOn with
            | _ k ih161 =>
            intro p2 v2 ls H locs hm161 hp2 hp3 hdr hdv hl hP hD hS
            refine lv_aload_n hx hb dX1_takeToken_161 rfl (lv_at hl 0 rfl) ?_
            refine va_get (D := G.1) (ci := 1) (v := .int (nI p2)) (C := RX1) (T := TX1) (N := 13) hx hb hts hin1 hown hK.1 hP 1 rfl rfl 3 (by decide) (hts (.fieldLink RX1 26 "BackLenses$Reader" "next" "I") (List.mem_of_getElem? (i := 1) rfl)) (fun _ h9 => h9) rfl dX1_takeToken_162 ?_
            refine lv_aload_n hx hb dX1_takeToken_165 rfl (lv_at hl 0 rfl) ?_
            refine va_get (D := G.1) (ci := 1) (v := .int (nI rl)) (C := RX1) (T := TX1) (N := 13) hx hb hts hin1 hown hK.1 hP 1 rfl rfl 2 (by decide) (hts (.fieldLink RX1 22 "BackLenses$Reader" "length" "I") (List.mem_of_getElem? (i := 2) rfl)) (fun _ h9 => h9) rfl dX1_takeToken_166 ?_
            refine xn_icmp_ge (tgt := 224) hx hb (by omega) (by omega) dX1_takeToken_169 rfl (fun b169 => ?_) (fun b169 => ?_)
            · skip
              have hle := hdr.trans (ruF_end (fun q => absurd q.1 (by omega)))
              refine lv_aload_n hx hb dX1_takeToken_224 rfl (lv_at hl 0 rfl) ?_
              refine lv_iconst (v := nI 2) hx hb dX1_takeToken_225 (by decide) ?_
              refine va_put (D := G.1) (ci := 1) (v := .int (nI 2)) (ty := .int) (C := RX1) (T := TX1) (N := 13) hx hb hts hin1 tyX1 tyX1_ok nmX1 hown hK.1 hP hD hS 1 rfl rfl 4 (by decide) (hts (.fieldLink RX1 55 "BackLenses$Reader" "kind" "I") (List.mem_of_getElem? (i := 5) rfl)) (fun _ h9 => h9) rfl (by decide +kernel) rfl rfl (Nat.le_of_ble_eq_true rfl) dX1_takeToken_226 (fun H locs hP hD hS => ?_)
              replace hP : xP G [bA G kby 160 tb, oC kre 1 [.ref kbt, .ref kby, .int (nI rl), .int (nI p2), .int (nI 2), .int (nI p), .int v2, .int fo, .int pl, .int li, .int ht, .int lt, .int ct]] H := hP
              replace hD : va_D (va_A (w_X1_takeToken_f G kre kbt kby rl nx kd sr vl fo pl li ht lt ct tb) ss.heap.size) [bA G kby 160 tb, oC kre 1 [.ref kbt, .ref kby, .int (nI rl), .int (nI p2), .int (nI 2), .int (nI p), .int v2, .int fo, .int pl, .int li, .int ht, .int lt, .int ct]] := hD
              refine lv_aload_n hx hb dX1_takeToken_229 rfl (lv_at hl 0 rfl) ?_
              refine va_get (D := G.1) (ci := 1) (v := .int (nI p2)) (C := RX1) (T := TX1) (N := 13) hx hb hts hin1 hown hK.1 hP 1 rfl rfl 3 (by decide) (hts (.fieldLink RX1 26 "BackLenses$Reader" "next" "I") (List.mem_of_getElem? (i := 1) rfl)) (fun _ h9 => h9) rfl dX1_takeToken_230 ?_
              refine lv_aload_n hx hb dX1_takeToken_233 rfl (lv_at hl 0 rfl) ?_
              refine va_get (D := G.1) (ci := 1) (v := .int (nI p)) (C := RX1) (T := TX1) (N := 13) hx hb hts hin1 hown hK.1 hP 1 rfl rfl 5 (by decide) (hts (.fieldLink RX1 95 "BackLenses$Reader" "start" "I") (List.mem_of_getElem? (i := 4) rfl)) (fun _ h9 => h9) rfl dX1_takeToken_234 ?_
              refine xn_isub hx hb (by omega) dX1_takeToken_237 ?_
              refine lv_iconst (v := nI 1) hx hb dX1_takeToken_238 (by decide) ?_
              refine xn_icmp_eq (tgt := 267) hx hb (by omega) (by omega) dX1_takeToken_239 rfl (fun b239 => ?_) (fun b239 => ?_)
              · skip
                refine lv_iconst (v := nI 1) hx hb dX1_takeToken_267 (by decide) ?_
                refine lv_goto (tgt := 272) hx hb dX1_takeToken_268 rfl ?_
                have hP := hP.sub (ws' := [oC kre 1 [.ref kbt, .ref kby, .int (nI rl), .int (nI p2), .int (nI 2), .int (nI p), .int v2, .int fo, .int pl, .int li, .int ht, .int lt, .int ct], bA G kby 160 tb]) [1, 0] rfl
                have hD := hD.sub (ws' := [oC kre 1 [.ref kbt, .ref kby, .int (nI rl), .int (nI p2), .int (nI 2), .int (nI p), .int v2, .int fo, .int pl, .int li, .int ht, .int lt, .int ct], bA G kby 160 tb]) [1, 0] (by decide) rfl
                refine W.zret (v := nI 1) (ty := .boolean) hx hb hr (by decide) (fun t ht hW => ⟨⟨nI 1, (p2, 2, p, v2, fo, pl), rfl, ?_, by rw [ht]; exact hP, hD⟩, hS.F ht⟩) hS.2.2 dX1_takeToken_272
                try dsimp only
                rw [fTok_eq hq]; obtain ⟨k1, k2, k3⟩ := lx2 (t := tb) (rl := rl) (q := p) (by omega) b75 (fun z => b107 (of_decide_eq_true z)); rw [hle] at k2 k3; rw [k1, k2, if_pos rfl, ← hdv]; first | (have k4 : okT tb rl p = true := k3.mpr (by omega); rw [if_pos k4, if_pos k4]; exact ⟨(xb_t k4).symm, rfl⟩) | (have k4 : ¬ okT tb rl p = true := (fun z => absurd (k3.mp z) (by omega)); rw [if_neg k4, if_neg k4]; exact ⟨(xb_f k4).symm, rfl⟩)
              · skip
                refine lv_aload_n hx hb dX1_takeToken_242 rfl (lv_at hl 0 rfl) ?_
                refine va_get (D := G.1) (ci := 1) (v := .int (nI p2)) (C := RX1) (T := TX1) (N := 13) hx hb hts hin1 hown hK.1 hP 1 rfl rfl 3 (by decide) (hts (.fieldLink RX1 26 "BackLenses$Reader" "next" "I") (List.mem_of_getElem? (i := 1) rfl)) (fun _ h9 => h9) rfl dX1_takeToken_243 ?_
                refine lv_aload_n hx hb dX1_takeToken_246 rfl (lv_at hl 0 rfl) ?_
                refine va_get (D := G.1) (ci := 1) (v := .int (nI p)) (C := RX1) (T := TX1) (N := 13) hx hb hts hin1 hown hK.1 hP 1 rfl rfl 5 (by decide) (hts (.fieldLink RX1 95 "BackLenses$Reader" "start" "I") (List.mem_of_getElem? (i := 4) rfl)) (fun _ h9 => h9) rfl dX1_takeToken_247 ?_
                refine xn_isub hx hb (by omega) dX1_takeToken_250 ?_
                refine lv_iconst (v := nI 2) hx hb dX1_takeToken_251 (by decide) ?_
                refine xn_icmp_eq (tgt := 267) hx hb (by omega) (by omega) dX1_takeToken_252 rfl (fun b252 => ?_) (fun b252 => ?_)
                · skip
                  refine lv_iconst (v := nI 1) hx hb dX1_takeToken_267 (by decide) ?_
                  refine lv_goto (tgt := 272) hx hb dX1_takeToken_268 rfl ?_
                  have hP := hP.sub (ws' := [oC kre 1 [.ref kbt, .ref kby, .int (nI rl), .int (nI p2), .int (nI 2), .int (nI p), .int v2, .int fo, .int pl, .int li, .int ht, .int lt, .int ct], bA G kby 160 tb]) [1, 0] rfl
                  have hD := hD.sub (ws' := [oC kre 1 [.ref kbt, .ref kby, .int (nI rl), .int (nI p2), .int (nI 2), .int (nI p), .int v2, .int fo, .int pl, .int li, .int ht, .int lt, .int ct], bA G kby 160 tb]) [1, 0] (by decide) rfl
                  refine W.zret (v := nI 1) (ty := .boolean) hx hb hr (by decide) (fun t ht hW => ⟨⟨nI 1, (p2, 2, p, v2, fo, pl), rfl, ?_, by rw [ht]; exact hP, hD⟩, hS.F ht⟩) hS.2.2 dX1_takeToken_272
                  try dsimp only
                  rw [fTok_eq hq]; obtain ⟨k1, k2, k3⟩ := lx2 (t := tb) (rl := rl) (q := p) (by omega) b75 (fun z => b107 (of_decide_eq_true z)); rw [hle] at k2 k3; rw [k1, k2, if_pos rfl, ← hdv]; first | (have k4 : okT tb rl p = true := k3.mpr (by omega); rw [if_pos k4, if_pos k4]; exact ⟨(xb_t k4).symm, rfl⟩) | (have k4 : ¬ okT tb rl p = true := (fun z => absurd (k3.mp z) (by omega)); rw [if_neg k4, if_neg k4]; exact ⟨(xb_f k4).symm, rfl⟩)
                · skip
                  refine lv_aload_n hx hb dX1_takeToken_255 rfl (lv_at hl 0 rfl) ?_
                  refine lv_iconst (v := nI 1) hx hb dX1_takeToken_256 (by decide) ?_
                  refine lv_aload_n hx hb dX1_takeToken_257 rfl (lv_at hl 0 rfl) ?_
                  refine va_get (D := G.1) (ci := 1) (v := .int (nI p)) (C := RX1) (T := TX1) (N := 13) hx hb hts hin1 hown hK.1 hP 1 rfl rfl 5 (by decide) (hts (.fieldLink RX1 95 "BackLenses$Reader" "start" "I") (List.mem_of_getElem? (i := 4) rfl)) (fun _ h9 => h9) rfl dX1_takeToken_258 ?_
                  refine xw_i (As := [.int (nI 1), .int (nI p)]) (rest := []) (wr := [bA G kby 160 tb]) ⟨hx, hb, hml, hown, hts⟩ (c_X1_refuse l G H.size kre kbt kby rl p2 2 p v2 fo pl li ht lt ct (nI 1) (nI p) ) (cwV 2 hts gX1_takeToken_X1_refuse rfl rfl rfl (by decide +kernel) ⟨Nat.le_of_ble_eq_true rfl, Nat.le_of_ble_eq_true rfl⟩) hK hP hD hS hA [1] [0] rfl rfl (by decide) (by decide) (by decide) rfl rfl rfl hl.1 rfl (Nat.le_of_ble_eq_true rfl) dX1_takeToken_261 ⟨Nat.le_of_ble_eq_true rfl, Nat.le_of_ble_eq_true rfl⟩ (fun r261 u H locs hp261 hP hD hS => ?_)
                  obtain rfl := hp261
                  replace hP : xP G [bA G kby 160 tb, oC kre 1 [.ref kbt, .ref kby, .int (nI rl), .int (nI p2), .int (nI 2), .int (nI p), .int v2, .int (nI 1), .int (nI p), .int li, .int ht, .int lt, .int ct]] H := hP
                  replace hD : va_D (va_A (w_X1_takeToken_f G kre kbt kby rl nx kd sr vl fo pl li ht lt ct tb) ss.heap.size) [bA G kby 160 tb, oC kre 1 [.ref kbt, .ref kby, .int (nI rl), .int (nI p2), .int (nI 2), .int (nI p), .int v2, .int (nI 1), .int (nI p), .int li, .int ht, .int lt, .int ct]] := hD
                  refine xn_if_eq (tgt := 271) hx hb (by omega) dX1_takeToken_264 rfl (fun _ => ?_) (fun b264 => absurd b264 (by omega))
                  refine lv_iconst (v := nI 0) hx hb dX1_takeToken_271 (by decide) ?_
                  have hP := hP.sub (ws' := [oC kre 1 [.ref kbt, .ref kby, .int (nI rl), .int (nI p2), .int (nI 2), .int (nI p), .int v2, .int (nI 1), .int (nI p), .int li, .int ht, .int lt, .int ct], bA G kby 160 tb]) [1, 0] rfl
                  have hD := hD.sub (ws' := [oC kre 1 [.ref kbt, .ref kby, .int (nI rl), .int (nI p2), .int (nI 2), .int (nI p), .int v2, .int (nI 1), .int (nI p), .int li, .int ht, .int lt, .int ct], bA G kby 160 tb]) [1, 0] (by decide) rfl
                  refine W.zret (v := nI 0) (ty := .boolean) hx hb hr (by decide) (fun t ht hW => ⟨⟨nI 0, (p2, 2, p, v2, (nI 1), (nI p)), rfl, ?_, by rw [ht]; exact hP, hD⟩, hS.F ht⟩) hS.2.2 dX1_takeToken_272
                  try dsimp only
                  rw [fTok_eq hq]; obtain ⟨k1, k2, k3⟩ := lx2 (t := tb) (rl := rl) (q := p) (by omega) b75 (fun z => b107 (of_decide_eq_true z)); rw [hle] at k2 k3; rw [k1, k2, if_pos rfl, ← hdv]; first | (have k4 : okT tb rl p = true := k3.mpr (by omega); rw [if_pos k4, if_pos k4]; exact ⟨(xb_t k4).symm, rfl⟩) | (have k4 : ¬ okT tb rl p = true := (fun z => absurd (k3.mp z) (by omega)); rw [if_neg k4, if_neg k4]; exact ⟨(xb_f k4).symm, rfl⟩)
            · skip
              refine lv_aload_n hx hb dX1_takeToken_172 rfl (lv_at hl 0 rfl) ?_
              refine va_get (D := G.1) (ci := 1) (v := .ref kby) (C := RX1) (T := TX1) (N := 13) hx hb hts hin1 hown hK.1 hP 1 rfl rfl 1 (by decide) (hts (.fieldLink RX1 18 "BackLenses$Reader" "bytes" "[B") (List.mem_of_getElem? (i := 3) rfl)) (fun _ h9 => h9) rfl dX1_takeToken_173 ?_
              refine lv_aload_n hx hb dX1_takeToken_176 rfl (lv_at hl 0 rfl) ?_
              refine va_get (D := G.1) (ci := 1) (v := .int (nI p2)) (C := RX1) (T := TX1) (N := 13) hx hb hts hin1 hown hK.1 hP 1 rfl rfl 3 (by decide) (hts (.fieldLink RX1 26 "BackLenses$Reader" "next" "I") (List.mem_of_getElem? (i := 1) rfl)) (fun _ h9 => h9) rfl dX1_takeToken_177 ?_
              refine xn_bald hx hb hK hP 0 rfl (by omega) (by omega) dX1_takeToken_180 ?_
              refine xs_i (As := [.int (tb p2)]) (rest := []) ⟨hx, hb, hml, hown, hts⟩ (c_X1_isFigure l G (tb p2) ) (va_cwS 1 hts gX1_takeToken_X1_isFigure rfl rfl rfl (by decide +kernel) ⟨Nat.le_of_ble_eq_true rfl, Nat.le_of_ble_eq_true rfl⟩) hP hS rfl hl.1 rfl (Nat.le_of_ble_eq_true rfl) dX1_takeToken_181 ⟨Nat.zero_le _, Nat.zero_le _⟩ (fun r181 H locs hp181 hP hS => ?_)
              rw [show r181 = _ from hp181]
              refine xb_if_eq (tgt := 224) hx hb dX1_takeToken_184 rfl (fun b184 => ?_) (fun b184 => ?_)
              · skip
                have hle := hdr.trans (ruF_end (fun q => b184 (of_decide_eq_true q.2)))
                refine lv_aload_n hx hb dX1_takeToken_224 rfl (lv_at hl 0 rfl) ?_
                refine lv_iconst (v := nI 2) hx hb dX1_takeToken_225 (by decide) ?_
                refine va_put (D := G.1) (ci := 1) (v := .int (nI 2)) (ty := .int) (C := RX1) (T := TX1) (N := 13) hx hb hts hin1 tyX1 tyX1_ok nmX1 hown hK.1 hP hD hS 1 rfl rfl 4 (by decide) (hts (.fieldLink RX1 55 "BackLenses$Reader" "kind" "I") (List.mem_of_getElem? (i := 5) rfl)) (fun _ h9 => h9) rfl (by decide +kernel) rfl rfl (Nat.le_of_ble_eq_true rfl) dX1_takeToken_226 (fun H locs hP hD hS => ?_)
                replace hP : xP G [bA G kby 160 tb, oC kre 1 [.ref kbt, .ref kby, .int (nI rl), .int (nI p2), .int (nI 2), .int (nI p), .int v2, .int fo, .int pl, .int li, .int ht, .int lt, .int ct]] H := hP
                replace hD : va_D (va_A (w_X1_takeToken_f G kre kbt kby rl nx kd sr vl fo pl li ht lt ct tb) ss.heap.size) [bA G kby 160 tb, oC kre 1 [.ref kbt, .ref kby, .int (nI rl), .int (nI p2), .int (nI 2), .int (nI p), .int v2, .int fo, .int pl, .int li, .int ht, .int lt, .int ct]] := hD
                refine lv_aload_n hx hb dX1_takeToken_229 rfl (lv_at hl 0 rfl) ?_
                refine va_get (D := G.1) (ci := 1) (v := .int (nI p2)) (C := RX1) (T := TX1) (N := 13) hx hb hts hin1 hown hK.1 hP 1 rfl rfl 3 (by decide) (hts (.fieldLink RX1 26 "BackLenses$Reader" "next" "I") (List.mem_of_getElem? (i := 1) rfl)) (fun _ h9 => h9) rfl dX1_takeToken_230 ?_
                refine lv_aload_n hx hb dX1_takeToken_233 rfl (lv_at hl 0 rfl) ?_
                refine va_get (D := G.1) (ci := 1) (v := .int (nI p)) (C := RX1) (T := TX1) (N := 13) hx hb hts hin1 hown hK.1 hP 1 rfl rfl 5 (by decide) (hts (.fieldLink RX1 95 "BackLenses$Reader" "start" "I") (List.mem_of_getElem? (i := 4) rfl)) (fun _ h9 => h9) rfl dX1_takeToken_234 ?_
                refine xn_isub hx hb (by omega) dX1_takeToken_237 ?_
                refine lv_iconst (v := nI 1) hx hb dX1_takeToken_238 (by decide) ?_
                refine xn_icmp_eq (tgt := 267) hx hb (by omega) (by omega) dX1_takeToken_239 rfl (fun b239 => ?_) (fun b239 => ?_)
                · skip
                  refine lv_iconst (v := nI 1) hx hb dX1_takeToken_267 (by decide) ?_
                  refine lv_goto (tgt := 272) hx hb dX1_takeToken_268 rfl ?_
                  have hP := hP.sub (ws' := [oC kre 1 [.ref kbt, .ref kby, .int (nI rl), .int (nI p2), .int (nI 2), .int (nI p), .int v2, .int fo, .int pl, .int li, .int ht, .int lt, .int ct], bA G kby 160 tb]) [1, 0] rfl
                  have hD := hD.sub (ws' := [oC kre 1 [.ref kbt, .ref kby, .int (nI rl), .int (nI p2), .int (nI 2), .int (nI p), .int v2, .int fo, .int pl, .int li, .int ht, .int lt, .int ct], bA G kby 160 tb]) [1, 0] (by decide) rfl
                  refine W.zret (v := nI 1) (ty := .boolean) hx hb hr (by decide) (fun t ht hW => ⟨⟨nI 1, (p2, 2, p, v2, fo, pl), rfl, ?_, by rw [ht]; exact hP, hD⟩, hS.F ht⟩) hS.2.2 dX1_takeToken_272
                  try dsimp only
                  rw [fTok_eq hq]; obtain ⟨k1, k2, k3⟩ := lx2 (t := tb) (rl := rl) (q := p) (by omega) b75 (fun z => b107 (of_decide_eq_true z)); rw [hle] at k2 k3; rw [k1, k2, if_pos rfl, ← hdv]; first | (have k4 : okT tb rl p = true := k3.mpr (by omega); rw [if_pos k4, if_pos k4]; exact ⟨(xb_t k4).symm, rfl⟩) | (have k4 : ¬ okT tb rl p = true := (fun z => absurd (k3.mp z) (by omega)); rw [if_neg k4, if_neg k4]; exact ⟨(xb_f k4).symm, rfl⟩)
                · skip
                  refine lv_aload_n hx hb dX1_takeToken_242 rfl (lv_at hl 0 rfl) ?_
                  refine va_get (D := G.1) (ci := 1) (v := .int (nI p2)) (C := RX1) (T := TX1) (N := 13) hx hb hts hin1 hown hK.1 hP 1 rfl rfl 3 (by decide) (hts (.fieldLink RX1 26 "BackLenses$Reader" "next" "I") (List.mem_of_getElem? (i := 1) rfl)) (fun _ h9 => h9) rfl dX1_takeToken_243 ?_
                  refine lv_aload_n hx hb dX1_takeToken_246 rfl (lv_at hl 0 rfl) ?_
                  refine va_get (D := G.1) (ci := 1) (v := .int (nI p)) (C := RX1) (T := TX1) (N := 13) hx hb hts hin1 hown hK.1 hP 1 rfl rfl 5 (by decide) (hts (.fieldLink RX1 95 "BackLenses$Reader" "start" "I") (List.mem_of_getElem? (i := 4) rfl)) (fun _ h9 => h9) rfl dX1_takeToken_247 ?_
                  refine xn_isub hx hb (by omega) dX1_takeToken_250 ?_
                  refine lv_iconst (v := nI 2) hx hb dX1_takeToken_251 (by decide) ?_
                  refine xn_icmp_eq (tgt := 267) hx hb (by omega) (by omega) dX1_takeToken_252 rfl (fun b252 => ?_) (fun b252 => ?_)
                  · skip
                    refine lv_iconst (v := nI 1) hx hb dX1_takeToken_267 (by decide) ?_
                    refine lv_goto (tgt := 272) hx hb dX1_takeToken_268 rfl ?_
                    have hP := hP.sub (ws' := [oC kre 1 [.ref kbt, .ref kby, .int (nI rl), .int (nI p2), .int (nI 2), .int (nI p), .int v2, .int fo, .int pl, .int li, .int ht, .int lt, .int ct], bA G kby 160 tb]) [1, 0] rfl
                    have hD := hD.sub (ws' := [oC kre 1 [.ref kbt, .ref kby, .int (nI rl), .int (nI p2), .int (nI 2), .int (nI p), .int v2, .int fo, .int pl, .int li, .int ht, .int lt, .int ct], bA G kby 160 tb]) [1, 0] (by decide) rfl
                    refine W.zret (v := nI 1) (ty := .boolean) hx hb hr (by decide) (fun t ht hW => ⟨⟨nI 1, (p2, 2, p, v2, fo, pl), rfl, ?_, by rw [ht]; exact hP, hD⟩, hS.F ht⟩) hS.2.2 dX1_takeToken_272
                    try dsimp only
                    rw [fTok_eq hq]; obtain ⟨k1, k2, k3⟩ := lx2 (t := tb) (rl := rl) (q := p) (by omega) b75 (fun z => b107 (of_decide_eq_true z)); rw [hle] at k2 k3; rw [k1, k2, if_pos rfl, ← hdv]; first | (have k4 : okT tb rl p = true := k3.mpr (by omega); rw [if_pos k4, if_pos k4]; exact ⟨(xb_t k4).symm, rfl⟩) | (have k4 : ¬ okT tb rl p = true := (fun z => absurd (k3.mp z) (by omega)); rw [if_neg k4, if_neg k4]; exact ⟨(xb_f k4).symm, rfl⟩)
                  · skip
                    refine lv_aload_n hx hb dX1_takeToken_255 rfl (lv_at hl 0 rfl) ?_
                    refine lv_iconst (v := nI 1) hx hb dX1_takeToken_256 (by decide) ?_
                    refine lv_aload_n hx hb dX1_takeToken_257 rfl (lv_at hl 0 rfl) ?_
                    refine va_get (D := G.1) (ci := 1) (v := .int (nI p)) (C := RX1) (T := TX1) (N := 13) hx hb hts hin1 hown hK.1 hP 1 rfl rfl 5 (by decide) (hts (.fieldLink RX1 95 "BackLenses$Reader" "start" "I") (List.mem_of_getElem? (i := 4) rfl)) (fun _ h9 => h9) rfl dX1_takeToken_258 ?_
                    refine xw_i (As := [.int (nI 1), .int (nI p)]) (rest := []) (wr := [bA G kby 160 tb]) ⟨hx, hb, hml, hown, hts⟩ (c_X1_refuse l G H.size kre kbt kby rl p2 2 p v2 fo pl li ht lt ct (nI 1) (nI p) ) (cwV 2 hts gX1_takeToken_X1_refuse rfl rfl rfl (by decide +kernel) ⟨Nat.le_of_ble_eq_true rfl, Nat.le_of_ble_eq_true rfl⟩) hK hP hD hS hA [1] [0] rfl rfl (by decide) (by decide) (by decide) rfl rfl rfl hl.1 rfl (Nat.le_of_ble_eq_true rfl) dX1_takeToken_261 ⟨Nat.le_of_ble_eq_true rfl, Nat.le_of_ble_eq_true rfl⟩ (fun r261 u H locs hp261 hP hD hS => ?_)
                    obtain rfl := hp261
                    replace hP : xP G [bA G kby 160 tb, oC kre 1 [.ref kbt, .ref kby, .int (nI rl), .int (nI p2), .int (nI 2), .int (nI p), .int v2, .int (nI 1), .int (nI p), .int li, .int ht, .int lt, .int ct]] H := hP
                    replace hD : va_D (va_A (w_X1_takeToken_f G kre kbt kby rl nx kd sr vl fo pl li ht lt ct tb) ss.heap.size) [bA G kby 160 tb, oC kre 1 [.ref kbt, .ref kby, .int (nI rl), .int (nI p2), .int (nI 2), .int (nI p), .int v2, .int (nI 1), .int (nI p), .int li, .int ht, .int lt, .int ct]] := hD
                    refine xn_if_eq (tgt := 271) hx hb (by omega) dX1_takeToken_264 rfl (fun _ => ?_) (fun b264 => absurd b264 (by omega))
                    refine lv_iconst (v := nI 0) hx hb dX1_takeToken_271 (by decide) ?_
                    have hP := hP.sub (ws' := [oC kre 1 [.ref kbt, .ref kby, .int (nI rl), .int (nI p2), .int (nI 2), .int (nI p), .int v2, .int (nI 1), .int (nI p), .int li, .int ht, .int lt, .int ct], bA G kby 160 tb]) [1, 0] rfl
                    have hD := hD.sub (ws' := [oC kre 1 [.ref kbt, .ref kby, .int (nI rl), .int (nI p2), .int (nI 2), .int (nI p), .int v2, .int (nI 1), .int (nI p), .int li, .int ht, .int lt, .int ct], bA G kby 160 tb]) [1, 0] (by decide) rfl
                    refine W.zret (v := nI 0) (ty := .boolean) hx hb hr (by decide) (fun t ht hW => ⟨⟨nI 0, (p2, 2, p, v2, (nI 1), (nI p)), rfl, ?_, by rw [ht]; exact hP, hD⟩, hS.F ht⟩) hS.2.2 dX1_takeToken_272
                    try dsimp only
                    rw [fTok_eq hq]; obtain ⟨k1, k2, k3⟩ := lx2 (t := tb) (rl := rl) (q := p) (by omega) b75 (fun z => b107 (of_decide_eq_true z)); rw [hle] at k2 k3; rw [k1, k2, if_pos rfl, ← hdv]; first | (have k4 : okT tb rl p = true := k3.mpr (by omega); rw [if_pos k4, if_pos k4]; exact ⟨(xb_t k4).symm, rfl⟩) | (have k4 : ¬ okT tb rl p = true := (fun z => absurd (k3.mp z) (by omega)); rw [if_neg k4, if_neg k4]; exact ⟨(xb_f k4).symm, rfl⟩)
              · skip
                refine lv_aload_n hx hb dX1_takeToken_187 rfl (lv_at hl 0 rfl) ?_
                refine lv_bipush (v := nI 10) hx hb dX1_takeToken_188 (by decide) ?_
                refine lv_aload_n hx hb dX1_takeToken_190 rfl (lv_at hl 0 rfl) ?_
                refine va_get (D := G.1) (ci := 1) (v := .int v2) (C := RX1) (T := TX1) (N := 13) hx hb hts hin1 hown hK.1 hP 1 rfl rfl 6 (by decide) (hts (.fieldLink RX1 130 "BackLenses$Reader" "value" "I") (List.mem_of_getElem? (i := 6) rfl)) (fun _ h9 => h9) rfl dX1_takeToken_191 ?_
                refine lv_imul hx hb dX1_takeToken_194 ?_
                refine lv_aload_n hx hb dX1_takeToken_195 rfl (lv_at hl 0 rfl) ?_
                refine va_get (D := G.1) (ci := 1) (v := .ref kby) (C := RX1) (T := TX1) (N := 13) hx hb hts hin1 hown hK.1 hP 1 rfl rfl 1 (by decide) (hts (.fieldLink RX1 18 "BackLenses$Reader" "bytes" "[B") (List.mem_of_getElem? (i := 3) rfl)) (fun _ h9 => h9) rfl dX1_takeToken_196 ?_
                refine lv_aload_n hx hb dX1_takeToken_199 rfl (lv_at hl 0 rfl) ?_
                refine va_get (D := G.1) (ci := 1) (v := .int (nI p2)) (C := RX1) (T := TX1) (N := 13) hx hb hts hin1 hown hK.1 hP 1 rfl rfl 3 (by decide) (hts (.fieldLink RX1 26 "BackLenses$Reader" "next" "I") (List.mem_of_getElem? (i := 1) rfl)) (fun _ h9 => h9) rfl dX1_takeToken_200 ?_
                refine xn_bald hx hb hK hP 0 rfl (by omega) (by omega) dX1_takeToken_203 ?_
                refine lv_iadd hx hb dX1_takeToken_204 ?_
                refine lv_bipush (v := nI 48) hx hb dX1_takeToken_205 (by decide) ?_
                refine lv_isub hx hb dX1_takeToken_207 ?_
                refine va_put (D := G.1) (ci := 1) (v := .int ((((nI 10) * v2) + (tb p2)) - (nI 48))) (ty := .int) (C := RX1) (T := TX1) (N := 13) hx hb hts hin1 tyX1 tyX1_ok nmX1 hown hK.1 hP hD hS 1 rfl rfl 6 (by decide) (hts (.fieldLink RX1 130 "BackLenses$Reader" "value" "I") (List.mem_of_getElem? (i := 6) rfl)) (fun _ h9 => h9) rfl (by decide +kernel) rfl rfl (Nat.le_of_ble_eq_true rfl) dX1_takeToken_208 (fun H locs hP hD hS => ?_)
                replace hP : xP G [bA G kby 160 tb, oC kre 1 [.ref kbt, .ref kby, .int (nI rl), .int (nI p2), .int (nI kd), .int (nI p), .int ((((nI 10) * v2) + (tb p2)) - (nI 48)), .int fo, .int pl, .int li, .int ht, .int lt, .int ct]] H := hP
                replace hD : va_D (va_A (w_X1_takeToken_f G kre kbt kby rl nx kd sr vl fo pl li ht lt ct tb) ss.heap.size) [bA G kby 160 tb, oC kre 1 [.ref kbt, .ref kby, .int (nI rl), .int (nI p2), .int (nI kd), .int (nI p), .int ((((nI 10) * v2) + (tb p2)) - (nI 48)), .int fo, .int pl, .int li, .int ht, .int lt, .int ct]] := hD
                refine lv_aload_n hx hb dX1_takeToken_211 rfl (lv_at hl 0 rfl) ?_
                refine lv_dup hx hb dX1_takeToken_212 rfl ?_
                refine va_get (D := G.1) (ci := 1) (v := .int (nI p2)) (C := RX1) (T := TX1) (N := 13) hx hb hts hin1 hown hK.1 hP 1 rfl rfl 3 (by decide) (hts (.fieldLink RX1 26 "BackLenses$Reader" "next" "I") (List.mem_of_getElem? (i := 1) rfl)) (fun _ h9 => h9) rfl dX1_takeToken_213 ?_
                refine lv_iconst (v := nI 1) hx hb dX1_takeToken_216 (by decide) ?_
                refine xn_iadd hx hb dX1_takeToken_217 ?_
                refine va_put (D := G.1) (ci := 1) (v := .int (nI (p2 + 1))) (ty := .int) (C := RX1) (T := TX1) (N := 13) hx hb hts hin1 tyX1 tyX1_ok nmX1 hown hK.1 hP hD hS 1 rfl rfl 3 (by decide) (hts (.fieldLink RX1 26 "BackLenses$Reader" "next" "I") (List.mem_of_getElem? (i := 1) rfl)) (fun _ h9 => h9) rfl (by decide +kernel) rfl rfl (Nat.le_of_ble_eq_true rfl) dX1_takeToken_218 (fun H locs hP hD hS => ?_)
                replace hP : xP G [bA G kby 160 tb, oC kre 1 [.ref kbt, .ref kby, .int (nI rl), .int (nI (p2 + 1)), .int (nI kd), .int (nI p), .int ((((nI 10) * v2) + (tb p2)) - (nI 48)), .int fo, .int pl, .int li, .int ht, .int lt, .int ct]] H := hP
                replace hD : va_D (va_A (w_X1_takeToken_f G kre kbt kby rl nx kd sr vl fo pl li ht lt ct tb) ss.heap.size) [bA G kby 160 tb, oC kre 1 [.ref kbt, .ref kby, .int (nI rl), .int (nI (p2 + 1)), .int (nI kd), .int (nI p), .int ((((nI 10) * v2) + (tb p2)) - (nI 48)), .int fo, .int pl, .int li, .int ht, .int lt, .int ct]] := hD
                refine lv_goto (tgt := 161) hx hb dX1_takeToken_221 rfl ?_
                have hl := lv_sub hl (l' := [(0, .ref kre)]) [0] rfl
                exact ih161 (rl - (p2 + 1)) (by omega) (p2 + 1) ((((nI 10) * v2) + (tb p2)) - (nI 48)) ls H locs rfl (by omega) (by omega) (by exact hdr.trans (ruF_go (by omega) (decide_eq_true b184))) (by rw [show p2 + 1 - p = (p2 - p) + 1 by omega, dvF_snoc, ← hdv, show p + (p2 - p) = p2 by omega]) hl hP hD hS
          have hl := lv_sub hl (l' := [(0, .ref kre)]) [0] rfl
          exact hL161 (rl - p) p (nI 0) ls H locs rfl (by omega) (by omega) (by rfl) (by rw [Nat.sub_self, dvF]) hl hP hD hS
        · skip
          have hL110 : ∀ k : Nat, ∀ (p2 : Nat) (ls : Array Slot) (H : Heap) (locs : List Loc), rl - p2 = k → (p ≤ p2) → (p2 ≤ rl) → (ruE isL tb rl p = ruE isL tb rl p2) → lv_has ls 1 [(0, .ref kre)] → xP G [bA G kby 160 tb, oC kre 1 [.ref kbt, .ref kby, .int (nI rl), .int (nI p2), .int (nI kd), .int (nI p), .int vl, .int fo, .int pl, .int li, .int ht, .int lt, .int ct]] H → va_D (va_A (w_X1_takeToken_f G kre kbt kby rl nx kd sr vl fo pl li ht lt ct tb) ss.heap.size) [bA G kby 160 tb, oC kre 1 [.ref kbt, .ref kby, .int (nI rl), .int (nI p2), .int (nI kd), .int (nI p), .int vl, .int fo, .int pl, .int li, .int ht, .int lt, .int ct]] → va_S (va_A (w_X1_takeToken_f G kre kbt kby rl nx kd sr vl fo pl li ht lt ct tb) ss.heap.size) ss.heap H locs → W pp l ee ({ frames := 1, cells := 0, slots := 0, locals := 22 } : Room) ss mm ([.ref kre] : List Value).toArray below mt cd H locs 0 0 (MQ below (Q_X1_takeToken_f G ss.heap.size kre kbt kby rl nx kd sr vl fo pl li ht lt ct tb) ([.ref kre] : List Value).toArray ss 0 0 (va_A (w_X1_takeToken_f G kre kbt kby rl nx kd sr vl fo pl li ht lt ct tb) ss.heap.size)) (F0 mm 110 ls []) := by
            intro k
            induction k using Nat.strongRecOn with
            | _ k ih110 =>
            intro p2 ls H locs hm110 hp2 hp3 hlr hl hP hD hS
            refine lv_aload_n hx hb dX1_takeToken_110 rfl (lv_at hl 0 rfl) ?_
            refine va_get (D := G.1) (ci := 1) (v := .int (nI p2)) (C := RX1) (T := TX1) (N := 13) hx hb hts hin1 hown hK.1 hP 1 rfl rfl 3 (by decide) (hts (.fieldLink RX1 26 "BackLenses$Reader" "next" "I") (List.mem_of_getElem? (i := 1) rfl)) (fun _ h9 => h9) rfl dX1_takeToken_111 ?_
            refine lv_aload_n hx hb dX1_takeToken_114 rfl (lv_at hl 0 rfl) ?_
            refine va_get (D := G.1) (ci := 1) (v := .int (nI rl)) (C := RX1) (T := TX1) (N := 13) hx hb hts hin1 hown hK.1 hP 1 rfl rfl 2 (by decide) (hts (.fieldLink RX1 22 "BackLenses$Reader" "length" "I") (List.mem_of_getElem? (i := 2) rfl)) (fun _ h9 => h9) rfl dX1_takeToken_115 ?_
            refine xn_icmp_ge (tgt := 149) hx hb (by omega) (by omega) dX1_takeToken_118 rfl (fun b118 => ?_) (fun b118 => ?_)
            · skip
              have hle := hlr.trans (ruF_end (fun q => absurd q.1 (by omega)))
              refine lv_aload_n hx hb dX1_takeToken_149 rfl (lv_at hl 0 rfl) ?_
              refine lv_iconst (v := nI 1) hx hb dX1_takeToken_150 (by decide) ?_
              refine va_put (D := G.1) (ci := 1) (v := .int (nI 1)) (ty := .int) (C := RX1) (T := TX1) (N := 13) hx hb hts hin1 tyX1 tyX1_ok nmX1 hown hK.1 hP hD hS 1 rfl rfl 4 (by decide) (hts (.fieldLink RX1 55 "BackLenses$Reader" "kind" "I") (List.mem_of_getElem? (i := 5) rfl)) (fun _ h9 => h9) rfl (by decide +kernel) rfl rfl (Nat.le_of_ble_eq_true rfl) dX1_takeToken_151 (fun H locs hP hD hS => ?_)
              replace hP : xP G [bA G kby 160 tb, oC kre 1 [.ref kbt, .ref kby, .int (nI rl), .int (nI p2), .int (nI 1), .int (nI p), .int vl, .int fo, .int pl, .int li, .int ht, .int lt, .int ct]] H := hP
              replace hD : va_D (va_A (w_X1_takeToken_f G kre kbt kby rl nx kd sr vl fo pl li ht lt ct tb) ss.heap.size) [bA G kby 160 tb, oC kre 1 [.ref kbt, .ref kby, .int (nI rl), .int (nI p2), .int (nI 1), .int (nI p), .int vl, .int fo, .int pl, .int li, .int ht, .int lt, .int ct]] := hD
              refine lv_iconst (v := nI 1) hx hb dX1_takeToken_154 (by decide) ?_
              have hP := hP.sub (ws' := [oC kre 1 [.ref kbt, .ref kby, .int (nI rl), .int (nI p2), .int (nI 1), .int (nI p), .int vl, .int fo, .int pl, .int li, .int ht, .int lt, .int ct], bA G kby 160 tb]) [1, 0] rfl
              have hD := hD.sub (ws' := [oC kre 1 [.ref kbt, .ref kby, .int (nI rl), .int (nI p2), .int (nI 1), .int (nI p), .int vl, .int fo, .int pl, .int li, .int ht, .int lt, .int ct], bA G kby 160 tb]) [1, 0] (by decide) rfl
              refine W.zret (v := nI 1) (ty := .boolean) hx hb hr (by decide) (fun t ht hW => ⟨⟨nI 1, (p2, 1, p, vl, fo, pl), rfl, ?_, by rw [ht]; exact hP, hD⟩, hS.F ht⟩) hS.2.2 dX1_takeToken_155
              try dsimp only
              rw [fTok_eq hq]; obtain ⟨k1, k2, k3⟩ := lx1 (t := tb) (rl := rl) (q := p) (by omega) b75 (decide_eq_true b107); rw [hle] at k2; rw [k1, k2, if_neg (by decide), if_pos k3, if_pos k3]; exact ⟨(xb_t k3).symm, rfl⟩
            · skip
              refine lv_aload_n hx hb dX1_takeToken_121 rfl (lv_at hl 0 rfl) ?_
              refine va_get (D := G.1) (ci := 1) (v := .ref kby) (C := RX1) (T := TX1) (N := 13) hx hb hts hin1 hown hK.1 hP 1 rfl rfl 1 (by decide) (hts (.fieldLink RX1 18 "BackLenses$Reader" "bytes" "[B") (List.mem_of_getElem? (i := 3) rfl)) (fun _ h9 => h9) rfl dX1_takeToken_122 ?_
              refine lv_aload_n hx hb dX1_takeToken_125 rfl (lv_at hl 0 rfl) ?_
              refine va_get (D := G.1) (ci := 1) (v := .int (nI p2)) (C := RX1) (T := TX1) (N := 13) hx hb hts hin1 hown hK.1 hP 1 rfl rfl 3 (by decide) (hts (.fieldLink RX1 26 "BackLenses$Reader" "next" "I") (List.mem_of_getElem? (i := 1) rfl)) (fun _ h9 => h9) rfl dX1_takeToken_126 ?_
              refine xn_bald hx hb hK hP 0 rfl (by omega) (by omega) dX1_takeToken_129 ?_
              refine xs_i (As := [.int (tb p2)]) (rest := []) ⟨hx, hb, hml, hown, hts⟩ (c_X1_isLetter l G (tb p2) ) (va_cwS 1 hts gX1_takeToken_X1_isLetter rfl rfl rfl (by decide +kernel) ⟨Nat.le_of_ble_eq_true rfl, Nat.le_of_ble_eq_true rfl⟩) hP hS rfl hl.1 rfl (Nat.le_of_ble_eq_true rfl) dX1_takeToken_130 ⟨Nat.zero_le _, Nat.zero_le _⟩ (fun r130 H locs hp130 hP hS => ?_)
              rw [show r130 = _ from hp130]
              refine xb_if_eq (tgt := 149) hx hb dX1_takeToken_133 rfl (fun b133 => ?_) (fun b133 => ?_)
              · skip
                have hle := hlr.trans (ruF_end (fun q => b133 (of_decide_eq_true q.2)))
                refine lv_aload_n hx hb dX1_takeToken_149 rfl (lv_at hl 0 rfl) ?_
                refine lv_iconst (v := nI 1) hx hb dX1_takeToken_150 (by decide) ?_
                refine va_put (D := G.1) (ci := 1) (v := .int (nI 1)) (ty := .int) (C := RX1) (T := TX1) (N := 13) hx hb hts hin1 tyX1 tyX1_ok nmX1 hown hK.1 hP hD hS 1 rfl rfl 4 (by decide) (hts (.fieldLink RX1 55 "BackLenses$Reader" "kind" "I") (List.mem_of_getElem? (i := 5) rfl)) (fun _ h9 => h9) rfl (by decide +kernel) rfl rfl (Nat.le_of_ble_eq_true rfl) dX1_takeToken_151 (fun H locs hP hD hS => ?_)
                replace hP : xP G [bA G kby 160 tb, oC kre 1 [.ref kbt, .ref kby, .int (nI rl), .int (nI p2), .int (nI 1), .int (nI p), .int vl, .int fo, .int pl, .int li, .int ht, .int lt, .int ct]] H := hP
                replace hD : va_D (va_A (w_X1_takeToken_f G kre kbt kby rl nx kd sr vl fo pl li ht lt ct tb) ss.heap.size) [bA G kby 160 tb, oC kre 1 [.ref kbt, .ref kby, .int (nI rl), .int (nI p2), .int (nI 1), .int (nI p), .int vl, .int fo, .int pl, .int li, .int ht, .int lt, .int ct]] := hD
                refine lv_iconst (v := nI 1) hx hb dX1_takeToken_154 (by decide) ?_
                have hP := hP.sub (ws' := [oC kre 1 [.ref kbt, .ref kby, .int (nI rl), .int (nI p2), .int (nI 1), .int (nI p), .int vl, .int fo, .int pl, .int li, .int ht, .int lt, .int ct], bA G kby 160 tb]) [1, 0] rfl
                have hD := hD.sub (ws' := [oC kre 1 [.ref kbt, .ref kby, .int (nI rl), .int (nI p2), .int (nI 1), .int (nI p), .int vl, .int fo, .int pl, .int li, .int ht, .int lt, .int ct], bA G kby 160 tb]) [1, 0] (by decide) rfl
                refine W.zret (v := nI 1) (ty := .boolean) hx hb hr (by decide) (fun t ht hW => ⟨⟨nI 1, (p2, 1, p, vl, fo, pl), rfl, ?_, by rw [ht]; exact hP, hD⟩, hS.F ht⟩) hS.2.2 dX1_takeToken_155
                try dsimp only
                rw [fTok_eq hq]; obtain ⟨k1, k2, k3⟩ := lx1 (t := tb) (rl := rl) (q := p) (by omega) b75 (decide_eq_true b107); rw [hle] at k2; rw [k1, k2, if_neg (by decide), if_pos k3, if_pos k3]; exact ⟨(xb_t k3).symm, rfl⟩
              · skip
                refine lv_aload_n hx hb dX1_takeToken_136 rfl (lv_at hl 0 rfl) ?_
                refine lv_dup hx hb dX1_takeToken_137 rfl ?_
                refine va_get (D := G.1) (ci := 1) (v := .int (nI p2)) (C := RX1) (T := TX1) (N := 13) hx hb hts hin1 hown hK.1 hP 1 rfl rfl 3 (by decide) (hts (.fieldLink RX1 26 "BackLenses$Reader" "next" "I") (List.mem_of_getElem? (i := 1) rfl)) (fun _ h9 => h9) rfl dX1_takeToken_138 ?_
                refine lv_iconst (v := nI 1) hx hb dX1_takeToken_141 (by decide) ?_
                refine xn_iadd hx hb dX1_takeToken_142 ?_
                refine va_put (D := G.1) (ci := 1) (v := .int (nI (p2 + 1))) (ty := .int) (C := RX1) (T := TX1) (N := 13) hx hb hts hin1 tyX1 tyX1_ok nmX1 hown hK.1 hP hD hS 1 rfl rfl 3 (by decide) (hts (.fieldLink RX1 26 "BackLenses$Reader" "next" "I") (List.mem_of_getElem? (i := 1) rfl)) (fun _ h9 => h9) rfl (by decide +kernel) rfl rfl (Nat.le_of_ble_eq_true rfl) dX1_takeToken_143 (fun H locs hP hD hS => ?_)
                replace hP : xP G [bA G kby 160 tb, oC kre 1 [.ref kbt, .ref kby, .int (nI rl), .int (nI (p2 + 1)), .int (nI kd), .int (nI p), .int vl, .int fo, .int pl, .int li, .int ht, .int lt, .int ct]] H := hP
                replace hD : va_D (va_A (w_X1_takeToken_f G kre kbt kby rl nx kd sr vl fo pl li ht lt ct tb) ss.heap.size) [bA G kby 160 tb, oC kre 1 [.ref kbt, .ref kby, .int (nI rl), .int (nI (p2 + 1)), .int (nI kd), .int (nI p), .int vl, .int fo, .int pl, .int li, .int ht, .int lt, .int ct]] := hD
                refine lv_goto (tgt := 110) hx hb dX1_takeToken_146 rfl ?_
                have hl := lv_sub hl (l' := [(0, .ref kre)]) [0] rfl
                exact ih110 (rl - (p2 + 1)) (by omega) (p2 + 1) ls H locs rfl (by omega) (by omega) (by exact hlr.trans (ruF_go (by omega) (decide_eq_true b133))) hl hP hD hS
          have hl := lv_sub hl (l' := [(0, .ref kre)]) [0] rfl
          exact hL110 (rl - p) p ls H locs rfl (by omega) (by omega) (by rfl) hl hP hD hS
      · skip
        refine lv_aload_n hx hb dX1_takeToken_78 rfl (lv_at hl 0 rfl) ?_
        refine lv_dup hx hb dX1_takeToken_79 rfl ?_
        refine va_get (D := G.1) (ci := 1) (v := .int (nI p)) (C := RX1) (T := TX1) (N := 13) hx hb hts hin1 hown hK.1 hP 1 rfl rfl 3 (by decide) (hts (.fieldLink RX1 26 "BackLenses$Reader" "next" "I") (List.mem_of_getElem? (i := 1) rfl)) (fun _ h9 => h9) rfl dX1_takeToken_80 ?_
        refine lv_iconst (v := nI 1) hx hb dX1_takeToken_83 (by decide) ?_
        refine xn_iadd hx hb dX1_takeToken_84 ?_
        refine va_put (D := G.1) (ci := 1) (v := .int (nI (p + 1))) (ty := .int) (C := RX1) (T := TX1) (N := 13) hx hb hts hin1 tyX1 tyX1_ok nmX1 hown hK.1 hP hD hS 1 rfl rfl 3 (by decide) (hts (.fieldLink RX1 26 "BackLenses$Reader" "next" "I") (List.mem_of_getElem? (i := 1) rfl)) (fun _ h9 => h9) rfl (by decide +kernel) rfl rfl (Nat.le_of_ble_eq_true rfl) dX1_takeToken_85 (fun H locs hP hD hS => ?_)
        replace hP : xP G [bA G kby 160 tb, oC kre 1 [.ref kbt, .ref kby, .int (nI rl), .int (nI (p + 1)), .int (nI kd), .int (nI p), .int vl, .int fo, .int pl, .int li, .int ht, .int lt, .int ct]] H := hP
        replace hD : va_D (va_A (w_X1_takeToken_f G kre kbt kby rl nx kd sr vl fo pl li ht lt ct tb) ss.heap.size) [bA G kby 160 tb, oC kre 1 [.ref kbt, .ref kby, .int (nI rl), .int (nI (p + 1)), .int (nI kd), .int (nI p), .int vl, .int fo, .int pl, .int li, .int ht, .int lt, .int ct]] := hD
        refine lv_aload_n hx hb dX1_takeToken_88 rfl (lv_at hl 0 rfl) ?_
        refine lv_iconst (v := nI 3) hx hb dX1_takeToken_89 (by decide) ?_
        refine va_put (D := G.1) (ci := 1) (v := .int (nI 3)) (ty := .int) (C := RX1) (T := TX1) (N := 13) hx hb hts hin1 tyX1 tyX1_ok nmX1 hown hK.1 hP hD hS 1 rfl rfl 4 (by decide) (hts (.fieldLink RX1 55 "BackLenses$Reader" "kind" "I") (List.mem_of_getElem? (i := 5) rfl)) (fun _ h9 => h9) rfl (by decide +kernel) rfl rfl (Nat.le_of_ble_eq_true rfl) dX1_takeToken_90 (fun H locs hP hD hS => ?_)
        replace hP : xP G [bA G kby 160 tb, oC kre 1 [.ref kbt, .ref kby, .int (nI rl), .int (nI (p + 1)), .int (nI 3), .int (nI p), .int vl, .int fo, .int pl, .int li, .int ht, .int lt, .int ct]] H := hP
        replace hD : va_D (va_A (w_X1_takeToken_f G kre kbt kby rl nx kd sr vl fo pl li ht lt ct tb) ss.heap.size) [bA G kby 160 tb, oC kre 1 [.ref kbt, .ref kby, .int (nI rl), .int (nI (p + 1)), .int (nI 3), .int (nI p), .int vl, .int fo, .int pl, .int li, .int ht, .int lt, .int ct]] := hD
        refine lv_iconst (v := nI 1) hx hb dX1_takeToken_93 (by decide) ?_
        have hP := hP.sub (ws' := [oC kre 1 [.ref kbt, .ref kby, .int (nI rl), .int (nI (p + 1)), .int (nI 3), .int (nI p), .int vl, .int fo, .int pl, .int li, .int ht, .int lt, .int ct], bA G kby 160 tb]) [1, 0] rfl
        have hD := hD.sub (ws' := [oC kre 1 [.ref kbt, .ref kby, .int (nI rl), .int (nI (p + 1)), .int (nI 3), .int (nI p), .int vl, .int fo, .int pl, .int li, .int ht, .int lt, .int ct], bA G kby 160 tb]) [1, 0] (by decide) rfl
        refine W.zret (v := nI 1) (ty := .boolean) hx hb hr (by decide) (fun t ht hW => ⟨⟨nI 1, (p + 1, 3, p, vl, fo, pl), rfl, ?_, by rw [ht]; exact hP, hD⟩, hS.F ht⟩) hS.2.2 dX1_takeToken_94
        try dsimp only
        rw [fTok_eq hq]; obtain ⟨k1, k2, k3⟩ := lx3 (t := tb) (rl := rl) (q := p) (by omega) b75; rw [k1, k2, if_neg (by decide), if_pos k3, if_pos k3]; exact ⟨(xb_t k3).symm, rfl⟩
    · skip
      refine lv_aload_n hx hb dX1_takeToken_57 rfl (lv_at hl 0 rfl) ?_
      refine lv_iconst (v := nI 0) hx hb dX1_takeToken_58 (by decide) ?_
      refine va_put (D := G.1) (ci := 1) (v := .int (nI 0)) (ty := .int) (C := RX1) (T := TX1) (N := 13) hx hb hts hin1 tyX1 tyX1_ok nmX1 hown hK.1 hP hD hS 1 rfl rfl 4 (by decide) (hts (.fieldLink RX1 55 "BackLenses$Reader" "kind" "I") (List.mem_of_getElem? (i := 5) rfl)) (fun _ h9 => h9) rfl (by decide +kernel) rfl rfl (Nat.le_of_ble_eq_true rfl) dX1_takeToken_59 (fun H locs hP hD hS => ?_)
      replace hP : xP G [bA G kby 160 tb, oC kre 1 [.ref kbt, .ref kby, .int (nI rl), .int (nI p), .int (nI 0), .int (nI p), .int vl, .int fo, .int pl, .int li, .int ht, .int lt, .int ct]] H := hP
      replace hD : va_D (va_A (w_X1_takeToken_f G kre kbt kby rl nx kd sr vl fo pl li ht lt ct tb) ss.heap.size) [bA G kby 160 tb, oC kre 1 [.ref kbt, .ref kby, .int (nI rl), .int (nI p), .int (nI 0), .int (nI p), .int vl, .int fo, .int pl, .int li, .int ht, .int lt, .int ct]] := hD
      refine lv_iconst (v := nI 1) hx hb dX1_takeToken_62 (by decide) ?_
      have hP := hP.sub (ws' := [oC kre 1 [.ref kbt, .ref kby, .int (nI rl), .int (nI p), .int (nI 0), .int (nI p), .int vl, .int fo, .int pl, .int li, .int ht, .int lt, .int ct], bA G kby 160 tb]) [1, 0] rfl
      have hD := hD.sub (ws' := [oC kre 1 [.ref kbt, .ref kby, .int (nI rl), .int (nI p), .int (nI 0), .int (nI p), .int vl, .int fo, .int pl, .int li, .int ht, .int lt, .int ct], bA G kby 160 tb]) [1, 0] (by decide) rfl
      refine W.zret (v := nI 1) (ty := .boolean) hx hb hr (by decide) (fun t ht hW => ⟨⟨nI 1, (p, 0, p, vl, fo, pl), rfl, ?_, by rw [ht]; exact hP, hD⟩, hS.F ht⟩) hS.2.2 dX1_takeToken_63
      try dsimp only
      rw [fTok_eq hq]; obtain ⟨k1, k2, k3⟩ := lx0 (t := tb) (rl := rl) (q := p) (by omega); rw [k1, k2, if_neg (by decide), if_pos k3, if_pos k3]; exact ⟨(xb_t k3).symm, rfl⟩
  have hL0 : ∀ k : Nat, ∀ (p : Nat) (ls : Array Slot) (H : Heap) (locs : List Loc), rl - p = k → (nx ≤ p) → (p ≤ rl) → ((ruE isSp tb rl nx) = ruE isSp tb rl p) → lv_has ls 1 [(0, .ref kre)] → xP G [bA G kby 160 tb, oC kre 1 [.ref kbt, .ref kby, .int (nI rl), .int (nI p), .int (nI kd), .int (nI sr), .int vl, .int fo, .int pl, .int li, .int ht, .int lt, .int ct]] H → va_D (va_A (w_X1_takeToken_f G kre kbt kby rl nx kd sr vl fo pl li ht lt ct tb) ss.heap.size) [bA G kby 160 tb, oC kre 1 [.ref kbt, .ref kby, .int (nI rl), .int (nI p), .int (nI kd), .int (nI sr), .int vl, .int fo, .int pl, .int li, .int ht, .int lt, .int ct]] → va_S (va_A (w_X1_takeToken_f G kre kbt kby rl nx kd sr vl fo pl li ht lt ct tb) ss.heap.size) ss.heap H locs → W pp l ee ({ frames := 1, cells := 0, slots := 0, locals := 22 } : Room) ss mm ([.ref kre] : List Value).toArray below mt cd H locs 0 0 (MQ below (Q_X1_takeToken_f G ss.heap.size kre kbt kby rl nx kd sr vl fo pl li ht lt ct tb) ([.ref kre] : List Value).toArray ss 0 0 (va_A (w_X1_takeToken_f G kre kbt kby rl nx kd sr vl fo pl li ht lt ct tb) ss.heap.size)) (F0 mm 0 ls []) := by
    intro k
    induction k using Nat.strongRecOn with
    | _ k ih0 =>
    intro p ls H locs hm0 hnp hpr hsp hl hP hD hS
    refine lv_aload_n hx hb dX1_takeToken_0 rfl (lv_at hl 0 rfl) ?_
    refine va_get (D := G.1) (ci := 1) (v := .int (nI p)) (C := RX1) (T := TX1) (N := 13) hx hb hts hin1 hown hK.1 hP 1 rfl rfl 3 (by decide) (hts (.fieldLink RX1 26 "BackLenses$Reader" "next" "I") (List.mem_of_getElem? (i := 1) rfl)) (fun _ h9 => h9) rfl dX1_takeToken_1 ?_
    refine lv_aload_n hx hb dX1_takeToken_4 rfl (lv_at hl 0 rfl) ?_
    refine va_get (D := G.1) (ci := 1) (v := .int (nI rl)) (C := RX1) (T := TX1) (N := 13) hx hb hts hin1 hown hK.1 hP 1 rfl rfl 2 (by decide) (hts (.fieldLink RX1 22 "BackLenses$Reader" "length" "I") (List.mem_of_getElem? (i := 2) rfl)) (fun _ h9 => h9) rfl dX1_takeToken_5 ?_
    refine xn_icmp_ge (tgt := 38) hx hb (by omega) (by omega) dX1_takeToken_8 rfl (fun b8 => ?_) (fun b8 => ?_)
    · skip
      have hl := lv_sub hl (l' := [(0, .ref kre)]) [0] rfl
      exact hL38 p ls H locs (by omega) (by omega) (by first | exact hsp.trans (ruF_end (fun q => absurd q.1 (by omega))) | exact hsp.trans (ruF_end (fun q => b22 (of_decide_eq_true q.2)))) hl hP hD hS
    · skip
      refine lv_aload_n hx hb dX1_takeToken_11 rfl (lv_at hl 0 rfl) ?_
      refine va_get (D := G.1) (ci := 1) (v := .ref kby) (C := RX1) (T := TX1) (N := 13) hx hb hts hin1 hown hK.1 hP 1 rfl rfl 1 (by decide) (hts (.fieldLink RX1 18 "BackLenses$Reader" "bytes" "[B") (List.mem_of_getElem? (i := 3) rfl)) (fun _ h9 => h9) rfl dX1_takeToken_12 ?_
      refine lv_aload_n hx hb dX1_takeToken_15 rfl (lv_at hl 0 rfl) ?_
      refine va_get (D := G.1) (ci := 1) (v := .int (nI p)) (C := RX1) (T := TX1) (N := 13) hx hb hts hin1 hown hK.1 hP 1 rfl rfl 3 (by decide) (hts (.fieldLink RX1 26 "BackLenses$Reader" "next" "I") (List.mem_of_getElem? (i := 1) rfl)) (fun _ h9 => h9) rfl dX1_takeToken_16 ?_
      refine xn_bald hx hb hK hP 0 rfl (by omega) (by omega) dX1_takeToken_19 ?_
      refine lv_bipush (v := nI 32) hx hb dX1_takeToken_20 (by decide) ?_
      refine lv_icmp_ne (tgt := 38) hx hb dX1_takeToken_22 rfl (fun b22 => ?_) (fun b22 => ?_)
      · skip
        have hl := lv_sub hl (l' := [(0, .ref kre)]) [0] rfl
        exact hL38 p ls H locs (by omega) (by omega) (by first | exact hsp.trans (ruF_end (fun q => absurd q.1 (by omega))) | exact hsp.trans (ruF_end (fun q => b22 (of_decide_eq_true q.2)))) hl hP hD hS
      · skip
        refine lv_aload_n hx hb dX1_takeToken_25 rfl (lv_at hl 0 rfl) ?_
        refine lv_dup hx hb dX1_takeToken_26 rfl ?_
        refine va_get (D := G.1) (ci := 1) (v := .int (nI p)) (C := RX1) (T := TX1) (N := 13) hx hb hts hin1 hown hK.1 hP 1 rfl rfl 3 (by decide) (hts (.fieldLink RX1 26 "BackLenses$Reader" "next" "I") (List.mem_of_getElem? (i := 1) rfl)) (fun _ h9 => h9) rfl dX1_takeToken_27 ?_
        refine lv_iconst (v := nI 1) hx hb dX1_takeToken_30 (by decide) ?_
        refine xn_iadd hx hb dX1_takeToken_31 ?_
        refine va_put (D := G.1) (ci := 1) (v := .int (nI (p + 1))) (ty := .int) (C := RX1) (T := TX1) (N := 13) hx hb hts hin1 tyX1 tyX1_ok nmX1 hown hK.1 hP hD hS 1 rfl rfl 3 (by decide) (hts (.fieldLink RX1 26 "BackLenses$Reader" "next" "I") (List.mem_of_getElem? (i := 1) rfl)) (fun _ h9 => h9) rfl (by decide +kernel) rfl rfl (Nat.le_of_ble_eq_true rfl) dX1_takeToken_32 (fun H locs hP hD hS => ?_)
        replace hP : xP G [bA G kby 160 tb, oC kre 1 [.ref kbt, .ref kby, .int (nI rl), .int (nI (p + 1)), .int (nI kd), .int (nI sr), .int vl, .int fo, .int pl, .int li, .int ht, .int lt, .int ct]] H := hP
        replace hD : va_D (va_A (w_X1_takeToken_f G kre kbt kby rl nx kd sr vl fo pl li ht lt ct tb) ss.heap.size) [bA G kby 160 tb, oC kre 1 [.ref kbt, .ref kby, .int (nI rl), .int (nI (p + 1)), .int (nI kd), .int (nI sr), .int vl, .int fo, .int pl, .int li, .int ht, .int lt, .int ct]] := hD
        refine lv_goto (tgt := 0) hx hb dX1_takeToken_35 rfl ?_
        have hl := lv_sub hl (l' := [(0, .ref kre)]) [0] rfl
        exact ih0 (rl - (p + 1)) (by omega) (p + 1) ls H locs rfl (by omega) (by omega) (by exact hsp.trans (ruF_go (by omega) (decide_eq_true b22))) hl hP hD hS
  have hl := lv_sub hl (l' := [(0, .ref kre)]) [0] rfl
  have hP := hP.sub (ws' := [bA G kby 160 tb, oC kre 1 [.ref kbt, .ref kby, .int (nI rl), .int (nI nx), .int (nI kd), .int (nI sr), .int vl, .int fo, .int pl, .int li, .int ht, .int lt, .int ct]]) [1, 0] rfl
  have hD := hD.sub (ws' := [bA G kby 160 tb, oC kre 1 [.ref kbt, .ref kby, .int (nI rl), .int (nI nx), .int (nI kd), .int (nI sr), .int vl, .int fo, .int pl, .int li, .int ht, .int lt, .int ct]]) [1, 0] (by decide) rfl
  exact hL0 (rl - nx) nx ls ss.heap [] rfl (by omega) (by omega) (by rfl) hl hP hD hS

abbrev w_X1_isNumberWithin (G : XG) (kre kbt kby : Nat) (rl nx kd sr : Nat) (vl fo pl li ht lt ct : Int32) : va_W := [oC kre 1 [.ref kbt, .ref kby, .int (nI rl), .int (nI nx), .int (nI kd), .int (nI sr), .int vl, .int fo, .int pl, .int li, .int ht, .int lt, .int ct]]
abbrev Q_X1_isNumberWithin (G : XG) (sz : Nat) (kre kbt kby : Nat) (rl nx kd sr : Nat) (vl fo pl li ht lt ct : Int32) (lo hi : Nat) : Array Value → State → Outcome → State → Prop := (va_Qi (fun (r : Int32) (u : Nat × Nat × Nat × Int32 × Int32 × Int32) => r = xb ((fWit lo hi (nx, kd, sr, vl, fo, pl)).1 = true) ∧ (u.1, u.2.1, u.2.2.1, u.2.2.2.1, u.2.2.2.2.1, u.2.2.2.2.2) = (fWit lo hi (nx, kd, sr, vl, fo, pl)).2) (xWb G sz (w_X1_isNumberWithin G kre kbt kby rl nx kd sr vl fo pl li ht lt ct) (fun u : Nat × Nat × Nat × Int32 × Int32 × Int32 => [oC kre 1 [.ref kbt, .ref kby, .int (nI rl), .int (nI u.1), .int (nI u.2.1), .int (nI u.2.2.1), .int u.2.2.2.1, .int u.2.2.2.2.1, .int u.2.2.2.2.2, .int li, .int ht, .int lt, .int ct]])) (va_A (w_X1_isNumberWithin G kre kbt kby rl nx kd sr vl fo pl li ht lt ct) sz))
set_option maxHeartbeats 4000000 in
set_option maxRecDepth 100000 in
theorem c_X1_isNumberWithin (l : Launch) (G : XG) (sz : Nat) (kre kbt kby : Nat) (rl nx kd sr : Nat) (vl fo pl li ht lt ct : Int32) (lo hi : Nat) (hhi : hi < 1000) (hlo : lo < 1000) (hkd : kd < 1000) : Met l yX1_isNumberWithin wsX1_isNumberWithin ({ frames := 1, cells := 0, slots := 0, locals := 22 } : Room) (va_Pc [.ref kre, .int (nI lo), .int (nI hi)] (xWp G sz (w_X1_isNumberWithin G kre kbt kby rl nx kd sr vl fo pl li ht lt ct))) (Q_X1_isNumberWithin G sz kre kbt kby rl nx kd sr vl fo pl li ht lt ct lo hi) 0 0 (va_A (w_X1_isNumberWithin G kre kbt kby rl nx kd sr vl fo pl li ht lt ct) sz) := by
  refine Met.ofW (cc := cX1_isNumberWithin) (maxL := 3) (ret := (some .boolean)) (by decide) rfl ?_
  intro pp ee ss mm aa below mt cd s₁ BB hml hv
  obtain ⟨rfl, hsz, hP, hK, hD0⟩ := hv
  have hx := BB.exec
  have hb := BB.bytes
  have hr := BB.returns
  have hts := atoms_spec (ws := wsX1_isNumberWithin) BB.pre
  have hown : ss.vm.findClass RX1 = some mm.cls := findClass_of_methodNamed BB.named
  have hlocks := BB.notSynchronized
  subst hsz
  have hD := hD0.self (sz := ss.heap.size)
  have hA : ∀ q : Nat, ss.heap.size ≤ q → va_A (w_X1_isNumberWithin G kre kbt kby rl nx kd sr vl fo pl li ht lt ct) ss.heap.size q := fun q h => Or.inr h
  have hS : va_S (va_A (w_X1_isNumberWithin G kre kbt kby rl nx kd sr vl fo pl li ht lt ct) ss.heap.size) ss.heap ss.heap [] := va_S.rf
  replace hD : va_D (va_A (w_X1_isNumberWithin G kre kbt kby rl nx kd sr vl fo pl li ht lt ct) ss.heap.size) [oC kre 1 [.ref kbt, .ref kby, .int (nI rl), .int (nI nx), .int (nI kd), .int (nI sr), .int vl, .int fo, .int pl, .int li, .int ht, .int lt, .int ct]] := hD
  replace hP : xP G [oC kre 1 [.ref kbt, .ref kby, .int (nI rl), .int (nI nx), .int (nI kd), .int (nI sr), .int vl, .int fo, .int pl, .int li, .int ht, .int lt, .int ct]] ss.heap := hP
  have hin1 : ∀ w ∈ u_ws RX1 TX1 13, w ∈ wsX1_isNumberWithin := fun w h => List.mem_cons_of_mem _ (List.mem_append_right _ h)
  have hl := lv_entry ([.ref kre, .int (nI lo), .int (nI hi)]) (n := 3) (Nat.le_of_ble_eq_true rfl)
  rw [lg_entry_eq]
  generalize (lg_sl ([.ref kre, .int (nI lo), .int (nI hi)]) ++ List.replicate (3 - (lg_sl ([.ref kre, .int (nI lo), .int (nI hi)])).length) Slot.unset).toArray = ls at hl ⊢
  replace hl : lv_has ls 3 [(0, .ref kre), (1, .int (nI lo)), (2, .int (nI hi))] := hl
  refine lv_aload_n hx hb dX1_isNumberWithin_0 rfl (lv_at hl 0 rfl) ?_
  refine va_get (D := G.1) (ci := 1) (v := .int (nI kd)) (C := RX1) (T := TX1) (N := 13) hx hb hts hin1 hown hK.1 hP 0 rfl rfl 4 (by decide) (hts (.fieldLink RX1 55 "BackLenses$Reader" "kind" "I") (List.mem_of_getElem? (i := 1) rfl)) (fun _ h9 => h9) rfl dX1_isNumberWithin_1 ?_
  refine lv_iconst (v := nI 2) hx hb dX1_isNumberWithin_4 (by decide) ?_
  refine xn_icmp_eq (tgt := 18) hx hb (by omega) (by omega) dX1_isNumberWithin_5 rfl (fun b5 => ?_) (fun b5 => ?_)
  · skip
    refine lv_aload_n hx hb dX1_isNumberWithin_18 rfl (lv_at hl 0 rfl) ?_
    refine va_get (D := G.1) (ci := 1) (v := .int vl) (C := RX1) (T := TX1) (N := 13) hx hb hts hin1 hown hK.1 hP 0 rfl rfl 6 (by decide) (hts (.fieldLink RX1 130 "BackLenses$Reader" "value" "I") (List.mem_of_getElem? (i := 3) rfl)) (fun _ h9 => h9) rfl dX1_isNumberWithin_19 ?_
    refine lv_iload_n hx hb dX1_isNumberWithin_22 rfl (lv_at hl 1 rfl) ?_
    refine xm_icmp_lt (tgt := 34) hx hb (by omega) dX1_isNumberWithin_23 rfl (fun b23 => ?_) (fun b23 => ?_)
    · skip
      refine lv_aload_n hx hb dX1_isNumberWithin_34 rfl (lv_at hl 0 rfl) ?_
      refine lv_iconst (v := nI 3) hx hb dX1_isNumberWithin_35 (by decide) ?_
      refine lv_aload_n hx hb dX1_isNumberWithin_36 rfl (lv_at hl 0 rfl) ?_
      refine va_get (D := G.1) (ci := 1) (v := .int (nI sr)) (C := RX1) (T := TX1) (N := 13) hx hb hts hin1 hown hK.1 hP 0 rfl rfl 5 (by decide) (hts (.fieldLink RX1 95 "BackLenses$Reader" "start" "I") (List.mem_of_getElem? (i := 2) rfl)) (fun _ h9 => h9) rfl dX1_isNumberWithin_37 ?_
      refine xw_i (As := [.int (nI 3), .int (nI sr)]) (rest := []) (wr := []) ⟨hx, hb, hml, hown, hts⟩ (c_X1_refuse l G ss.heap.size kre kbt kby rl nx kd sr vl fo pl li ht lt ct (nI 3) (nI sr) ) (cwV 2 hts gX1_isNumberWithin_X1_refuse rfl rfl rfl (by decide +kernel) ⟨Nat.le_of_ble_eq_true rfl, Nat.le_of_ble_eq_true rfl⟩) hK hP hD hS hA [0] [] rfl rfl (by decide) (by decide) (by decide) rfl rfl rfl hl.1 rfl (Nat.le_of_ble_eq_true rfl) dX1_isNumberWithin_40 ⟨Nat.le_of_ble_eq_true rfl, Nat.le_of_ble_eq_true rfl⟩ (fun r40 u H locs hp40 hP hD hS => ?_)
      obtain rfl := hp40
      replace hP : xP G [oC kre 1 [.ref kbt, .ref kby, .int (nI rl), .int (nI nx), .int (nI kd), .int (nI sr), .int vl, .int (nI 3), .int (nI sr), .int li, .int ht, .int lt, .int ct]] H := hP
      replace hD : va_D (va_A (w_X1_isNumberWithin G kre kbt kby rl nx kd sr vl fo pl li ht lt ct) ss.heap.size) [oC kre 1 [.ref kbt, .ref kby, .int (nI rl), .int (nI nx), .int (nI kd), .int (nI sr), .int vl, .int (nI 3), .int (nI sr), .int li, .int ht, .int lt, .int ct]] := hD
      refine xn_if_eq (tgt := 50) hx hb (by omega) dX1_isNumberWithin_43 rfl (fun _ => ?_) (fun b43 => absurd b43 (by omega))
      refine lv_iconst (v := nI 0) hx hb dX1_isNumberWithin_50 (by decide) ?_
      have hP := hP.sub (ws' := [oC kre 1 [.ref kbt, .ref kby, .int (nI rl), .int (nI nx), .int (nI kd), .int (nI sr), .int vl, .int (nI 3), .int (nI sr), .int li, .int ht, .int lt, .int ct]]) [0] rfl
      have hD := hD.sub (ws' := [oC kre 1 [.ref kbt, .ref kby, .int (nI rl), .int (nI nx), .int (nI kd), .int (nI sr), .int vl, .int (nI 3), .int (nI sr), .int li, .int ht, .int lt, .int ct]]) [0] (by decide) rfl
      refine W.zret (v := nI 0) (ty := .boolean) hx hb hr (by decide) (fun t ht hW => ⟨⟨nI 0, (nx, kd, sr, vl, (nI 3), (nI sr)), rfl, ?_, by rw [ht]; exact hP, hD⟩, hS.F ht⟩) hS.2.2 dX1_isNumberWithin_51
      try dsimp only
      first | (rw [fWit_0 b5]; exact ⟨(xb_f Bool.false_ne_true).symm, rfl⟩) | (rw [fWit_1 b5 (by omega)]; exact ⟨(xb_f Bool.false_ne_true).symm, rfl⟩) | (rw [fWit_2 b5 (by omega)]; exact ⟨(xb_t rfl).symm, rfl⟩)
    · skip
      refine lv_aload_n hx hb dX1_isNumberWithin_26 rfl (lv_at hl 0 rfl) ?_
      refine va_get (D := G.1) (ci := 1) (v := .int vl) (C := RX1) (T := TX1) (N := 13) hx hb hts hin1 hown hK.1 hP 0 rfl rfl 6 (by decide) (hts (.fieldLink RX1 130 "BackLenses$Reader" "value" "I") (List.mem_of_getElem? (i := 3) rfl)) (fun _ h9 => h9) rfl dX1_isNumberWithin_27 ?_
      refine lv_iload_n hx hb dX1_isNumberWithin_30 rfl (lv_at hl 2 rfl) ?_
      refine xm_icmp_le (tgt := 46) hx hb (by omega) dX1_isNumberWithin_31 rfl (fun b31 => ?_) (fun b31 => ?_)
      · skip
        refine lv_iconst (v := nI 1) hx hb dX1_isNumberWithin_46 (by decide) ?_
        refine lv_goto (tgt := 51) hx hb dX1_isNumberWithin_47 rfl ?_
        have hP := hP.sub (ws' := [oC kre 1 [.ref kbt, .ref kby, .int (nI rl), .int (nI nx), .int (nI kd), .int (nI sr), .int vl, .int fo, .int pl, .int li, .int ht, .int lt, .int ct]]) [0] rfl
        have hD := hD.sub (ws' := [oC kre 1 [.ref kbt, .ref kby, .int (nI rl), .int (nI nx), .int (nI kd), .int (nI sr), .int vl, .int fo, .int pl, .int li, .int ht, .int lt, .int ct]]) [0] (by decide) rfl
        refine W.zret (v := nI 1) (ty := .boolean) hx hb hr (by decide) (fun t ht hW => ⟨⟨nI 1, (nx, kd, sr, vl, fo, pl), rfl, ?_, by rw [ht]; exact hP, hD⟩, hS.F ht⟩) hS.2.2 dX1_isNumberWithin_51
        try dsimp only
        first | (rw [fWit_0 b5]; exact ⟨(xb_f Bool.false_ne_true).symm, rfl⟩) | (rw [fWit_1 b5 (by omega)]; exact ⟨(xb_f Bool.false_ne_true).symm, rfl⟩) | (rw [fWit_2 b5 (by omega)]; exact ⟨(xb_t rfl).symm, rfl⟩)
      · skip
        refine lv_aload_n hx hb dX1_isNumberWithin_34 rfl (lv_at hl 0 rfl) ?_
        refine lv_iconst (v := nI 3) hx hb dX1_isNumberWithin_35 (by decide) ?_
        refine lv_aload_n hx hb dX1_isNumberWithin_36 rfl (lv_at hl 0 rfl) ?_
        refine va_get (D := G.1) (ci := 1) (v := .int (nI sr)) (C := RX1) (T := TX1) (N := 13) hx hb hts hin1 hown hK.1 hP 0 rfl rfl 5 (by decide) (hts (.fieldLink RX1 95 "BackLenses$Reader" "start" "I") (List.mem_of_getElem? (i := 2) rfl)) (fun _ h9 => h9) rfl dX1_isNumberWithin_37 ?_
        refine xw_i (As := [.int (nI 3), .int (nI sr)]) (rest := []) (wr := []) ⟨hx, hb, hml, hown, hts⟩ (c_X1_refuse l G ss.heap.size kre kbt kby rl nx kd sr vl fo pl li ht lt ct (nI 3) (nI sr) ) (cwV 2 hts gX1_isNumberWithin_X1_refuse rfl rfl rfl (by decide +kernel) ⟨Nat.le_of_ble_eq_true rfl, Nat.le_of_ble_eq_true rfl⟩) hK hP hD hS hA [0] [] rfl rfl (by decide) (by decide) (by decide) rfl rfl rfl hl.1 rfl (Nat.le_of_ble_eq_true rfl) dX1_isNumberWithin_40 ⟨Nat.le_of_ble_eq_true rfl, Nat.le_of_ble_eq_true rfl⟩ (fun r40 u H locs hp40 hP hD hS => ?_)
        obtain rfl := hp40
        replace hP : xP G [oC kre 1 [.ref kbt, .ref kby, .int (nI rl), .int (nI nx), .int (nI kd), .int (nI sr), .int vl, .int (nI 3), .int (nI sr), .int li, .int ht, .int lt, .int ct]] H := hP
        replace hD : va_D (va_A (w_X1_isNumberWithin G kre kbt kby rl nx kd sr vl fo pl li ht lt ct) ss.heap.size) [oC kre 1 [.ref kbt, .ref kby, .int (nI rl), .int (nI nx), .int (nI kd), .int (nI sr), .int vl, .int (nI 3), .int (nI sr), .int li, .int ht, .int lt, .int ct]] := hD
        refine xn_if_eq (tgt := 50) hx hb (by omega) dX1_isNumberWithin_43 rfl (fun _ => ?_) (fun b43 => absurd b43 (by omega))
        refine lv_iconst (v := nI 0) hx hb dX1_isNumberWithin_50 (by decide) ?_
        have hP := hP.sub (ws' := [oC kre 1 [.ref kbt, .ref kby, .int (nI rl), .int (nI nx), .int (nI kd), .int (nI sr), .int vl, .int (nI 3), .int (nI sr), .int li, .int ht, .int lt, .int ct]]) [0] rfl
        have hD := hD.sub (ws' := [oC kre 1 [.ref kbt, .ref kby, .int (nI rl), .int (nI nx), .int (nI kd), .int (nI sr), .int vl, .int (nI 3), .int (nI sr), .int li, .int ht, .int lt, .int ct]]) [0] (by decide) rfl
        refine W.zret (v := nI 0) (ty := .boolean) hx hb hr (by decide) (fun t ht hW => ⟨⟨nI 0, (nx, kd, sr, vl, (nI 3), (nI sr)), rfl, ?_, by rw [ht]; exact hP, hD⟩, hS.F ht⟩) hS.2.2 dX1_isNumberWithin_51
        try dsimp only
        first | (rw [fWit_0 b5]; exact ⟨(xb_f Bool.false_ne_true).symm, rfl⟩) | (rw [fWit_1 b5 (by omega)]; exact ⟨(xb_f Bool.false_ne_true).symm, rfl⟩) | (rw [fWit_2 b5 (by omega)]; exact ⟨(xb_t rfl).symm, rfl⟩)
  · skip
    refine lv_aload_n hx hb dX1_isNumberWithin_8 rfl (lv_at hl 0 rfl) ?_
    refine lv_iconst (v := nI 2) hx hb dX1_isNumberWithin_9 (by decide) ?_
    refine lv_aload_n hx hb dX1_isNumberWithin_10 rfl (lv_at hl 0 rfl) ?_
    refine va_get (D := G.1) (ci := 1) (v := .int (nI sr)) (C := RX1) (T := TX1) (N := 13) hx hb hts hin1 hown hK.1 hP 0 rfl rfl 5 (by decide) (hts (.fieldLink RX1 95 "BackLenses$Reader" "start" "I") (List.mem_of_getElem? (i := 2) rfl)) (fun _ h9 => h9) rfl dX1_isNumberWithin_11 ?_
    refine xw_i (As := [.int (nI 2), .int (nI sr)]) (rest := []) (wr := []) ⟨hx, hb, hml, hown, hts⟩ (c_X1_refuse l G ss.heap.size kre kbt kby rl nx kd sr vl fo pl li ht lt ct (nI 2) (nI sr) ) (cwV 2 hts gX1_isNumberWithin_X1_refuse rfl rfl rfl (by decide +kernel) ⟨Nat.le_of_ble_eq_true rfl, Nat.le_of_ble_eq_true rfl⟩) hK hP hD hS hA [0] [] rfl rfl (by decide) (by decide) (by decide) rfl rfl rfl hl.1 rfl (Nat.le_of_ble_eq_true rfl) dX1_isNumberWithin_14 ⟨Nat.le_of_ble_eq_true rfl, Nat.le_of_ble_eq_true rfl⟩ (fun r14 u H locs hp14 hP hD hS => ?_)
    obtain rfl := hp14
    replace hP : xP G [oC kre 1 [.ref kbt, .ref kby, .int (nI rl), .int (nI nx), .int (nI kd), .int (nI sr), .int vl, .int (nI 2), .int (nI sr), .int li, .int ht, .int lt, .int ct]] H := hP
    replace hD : va_D (va_A (w_X1_isNumberWithin G kre kbt kby rl nx kd sr vl fo pl li ht lt ct) ss.heap.size) [oC kre 1 [.ref kbt, .ref kby, .int (nI rl), .int (nI nx), .int (nI kd), .int (nI sr), .int vl, .int (nI 2), .int (nI sr), .int li, .int ht, .int lt, .int ct]] := hD
    have hP := hP.sub (ws' := [oC kre 1 [.ref kbt, .ref kby, .int (nI rl), .int (nI nx), .int (nI kd), .int (nI sr), .int vl, .int (nI 2), .int (nI sr), .int li, .int ht, .int lt, .int ct]]) [0] rfl
    have hD := hD.sub (ws' := [oC kre 1 [.ref kbt, .ref kby, .int (nI rl), .int (nI nx), .int (nI kd), .int (nI sr), .int vl, .int (nI 2), .int (nI sr), .int li, .int ht, .int lt, .int ct]]) [0] (by decide) rfl
    refine W.zret (v := nI 0) (ty := .boolean) hx hb hr (by decide) (fun t ht hW => ⟨⟨nI 0, (nx, kd, sr, vl, (nI 2), (nI sr)), rfl, ?_, by rw [ht]; exact hP, hD⟩, hS.F ht⟩) hS.2.2 dX1_isNumberWithin_17
    try dsimp only
    first | (rw [fWit_0 b5]; exact ⟨(xb_f Bool.false_ne_true).symm, rfl⟩) | (rw [fWit_1 b5 (by omega)]; exact ⟨(xb_f Bool.false_ne_true).symm, rfl⟩) | (rw [fWit_2 b5 (by omega)]; exact ⟨(xb_t rfl).symm, rfl⟩)

abbrev w_X1_takeNumber (G : XG) (kre kbt kby : Nat) (rl nx kd sr : Nat) (vl fo pl li ht lt ct : Int32) (tb : Nat → Int32) : va_W := [oC kre 1 [.ref kbt, .ref kby, .int (nI rl), .int (nI nx), .int (nI kd), .int (nI sr), .int vl, .int fo, .int pl, .int li, .int ht, .int lt, .int ct], bA G kby 160 tb]
abbrev Q_X1_takeNumber (G : XG) (sz : Nat) (kre kbt kby : Nat) (rl nx kd sr : Nat) (vl fo pl li ht lt ct : Int32) (tb : Nat → Int32) (lo hi : Nat) : Array Value → State → Outcome → State → Prop := (va_Qi (fun (r : Int32) (u : Nat × Nat × Nat × Int32 × Int32 × Int32) => r = xb ((fNum tb rl lo hi (nx, kd, sr, vl, fo, pl)).1 = true) ∧ (u.1, u.2.1, u.2.2.1, u.2.2.2.1, u.2.2.2.2.1, u.2.2.2.2.2) = (fNum tb rl lo hi (nx, kd, sr, vl, fo, pl)).2) (xWb G sz (w_X1_takeNumber G kre kbt kby rl nx kd sr vl fo pl li ht lt ct tb) (fun u : Nat × Nat × Nat × Int32 × Int32 × Int32 => [oC kre 1 [.ref kbt, .ref kby, .int (nI rl), .int (nI u.1), .int (nI u.2.1), .int (nI u.2.2.1), .int u.2.2.2.1, .int u.2.2.2.2.1, .int u.2.2.2.2.2, .int li, .int ht, .int lt, .int ct], bA G kby 160 tb])) (va_A (w_X1_takeNumber G kre kbt kby rl nx kd sr vl fo pl li ht lt ct tb) sz))
set_option maxHeartbeats 4000000 in
set_option maxRecDepth 100000 in
theorem c_X1_takeNumber (l : Launch) (G : XG) (sz : Nat) (kre kbt kby : Nat) (rl nx kd sr : Nat) (vl fo pl li ht lt ct : Int32) (tb : Nat → Int32) (lo hi : Nat) (hrl : rl ≤ 160) (hnx : nx ≤ rl) (hhi : hi < 1000) (hlo : lo < 1000) : Met l yX1_takeNumber wsX1_takeNumber ({ frames := 2, cells := 0, slots := 0, locals := 44 } : Room) (va_Pc [.ref kre, .int (nI lo), .int (nI hi)] (xWp G sz (w_X1_takeNumber G kre kbt kby rl nx kd sr vl fo pl li ht lt ct tb))) (Q_X1_takeNumber G sz kre kbt kby rl nx kd sr vl fo pl li ht lt ct tb lo hi) 0 0 (va_A (w_X1_takeNumber G kre kbt kby rl nx kd sr vl fo pl li ht lt ct tb) sz) := by
  refine Met.ofW (cc := cX1_takeNumber) (maxL := 3) (ret := (some .boolean)) (by decide) rfl ?_
  intro pp ee ss mm aa below mt cd s₁ BB hml hv
  obtain ⟨rfl, hsz, hP, hK, hD0⟩ := hv
  have hx := BB.exec
  have hb := BB.bytes
  have hr := BB.returns
  have hts := atoms_spec (ws := wsX1_takeNumber) BB.pre
  have hown : ss.vm.findClass RX1 = some mm.cls := findClass_of_methodNamed BB.named
  have hlocks := BB.notSynchronized
  subst hsz
  have hD := hD0.self (sz := ss.heap.size)
  have hA : ∀ q : Nat, ss.heap.size ≤ q → va_A (w_X1_takeNumber G kre kbt kby rl nx kd sr vl fo pl li ht lt ct tb) ss.heap.size q := fun q h => Or.inr h
  have hS : va_S (va_A (w_X1_takeNumber G kre kbt kby rl nx kd sr vl fo pl li ht lt ct tb) ss.heap.size) ss.heap ss.heap [] := va_S.rf
  replace hD : va_D (va_A (w_X1_takeNumber G kre kbt kby rl nx kd sr vl fo pl li ht lt ct tb) ss.heap.size) [oC kre 1 [.ref kbt, .ref kby, .int (nI rl), .int (nI nx), .int (nI kd), .int (nI sr), .int vl, .int fo, .int pl, .int li, .int ht, .int lt, .int ct], bA G kby 160 tb] := hD
  replace hP : xP G [oC kre 1 [.ref kbt, .ref kby, .int (nI rl), .int (nI nx), .int (nI kd), .int (nI sr), .int vl, .int fo, .int pl, .int li, .int ht, .int lt, .int ct], bA G kby 160 tb] ss.heap := hP
  have hin1 : ∀ w ∈ u_ws RX1 TX1 13, w ∈ wsX1_takeNumber := fun w h => List.mem_cons_of_mem _ (List.mem_append_right _ h)
  have hl := lv_entry ([.ref kre, .int (nI lo), .int (nI hi)]) (n := 3) (Nat.le_of_ble_eq_true rfl)
  rw [lg_entry_eq]
  generalize (lg_sl ([.ref kre, .int (nI lo), .int (nI hi)]) ++ List.replicate (3 - (lg_sl ([.ref kre, .int (nI lo), .int (nI hi)])).length) Slot.unset).toArray = ls at hl ⊢
  replace hl : lv_has ls 3 [(0, .ref kre), (1, .int (nI lo)), (2, .int (nI hi))] := hl
  refine lv_aload_n hx hb dX1_takeNumber_0 rfl (lv_at hl 0 rfl) ?_
  refine xw_i (As := []) (rest := []) (wr := []) ⟨hx, hb, hml, hown, hts⟩ (c_X1_takeToken_f l G ss.heap.size kre kbt kby rl nx kd sr vl fo pl li ht lt ct tb (by first | assumption | omega) (by first | assumption | omega)) (cwV 0 hts gX1_takeNumber_X1_takeToken rfl rfl rfl (by decide +kernel) ⟨Nat.le_of_ble_eq_true rfl, Nat.le_of_ble_eq_true rfl⟩) hK hP hD hS hA [0, 1] [] rfl rfl (by decide) (by decide) (by decide) rfl rfl rfl hl.1 rfl (Nat.le_of_ble_eq_true rfl) dX1_takeNumber_1 ⟨Nat.le_of_ble_eq_true rfl, Nat.le_of_ble_eq_true rfl⟩ (fun r1 u H locs hp1 hP hD hS => ?_)
  obtain ⟨nx2_1, kd2_1, sr2_1, vl2_1, fo2_1, pl2_1⟩ := u
  try dsimp only at hp1 hP hD
  obtain ⟨rfl, he1⟩ := hp1
  replace hP : xP G [oC kre 1 [.ref kbt, .ref kby, .int (nI rl), .int (nI nx2_1), .int (nI kd2_1), .int (nI sr2_1), .int vl2_1, .int fo2_1, .int pl2_1, .int li, .int ht, .int lt, .int ct], bA G kby 160 tb] H := hP
  replace hD : va_D (va_A (w_X1_takeNumber G kre kbt kby rl nx kd sr vl fo pl li ht lt ct tb) ss.heap.size) [oC kre 1 [.ref kbt, .ref kby, .int (nI rl), .int (nI nx2_1), .int (nI kd2_1), .int (nI sr2_1), .int vl2_1, .int fo2_1, .int pl2_1, .int li, .int ht, .int lt, .int ct], bA G kby 160 tb] := hD
  refine xb_if_eq (tgt := 20) hx hb dX1_takeNumber_4 rfl (fun b4 => ?_) (fun b4 => ?_)
  · skip
    refine lv_iconst (v := nI 0) hx hb dX1_takeNumber_20 (by decide) ?_
    have hP := hP.sub (ws' := [oC kre 1 [.ref kbt, .ref kby, .int (nI rl), .int (nI nx2_1), .int (nI kd2_1), .int (nI sr2_1), .int vl2_1, .int fo2_1, .int pl2_1, .int li, .int ht, .int lt, .int ct], bA G kby 160 tb]) [0, 1] rfl
    have hD := hD.sub (ws' := [oC kre 1 [.ref kbt, .ref kby, .int (nI rl), .int (nI nx2_1), .int (nI kd2_1), .int (nI sr2_1), .int vl2_1, .int fo2_1, .int pl2_1, .int li, .int ht, .int lt, .int ct], bA G kby 160 tb]) [0, 1] (by decide) rfl
    refine W.zret (v := nI 0) (ty := .boolean) hx hb hr (by decide) (fun t ht hW => ⟨⟨nI 0, (nx2_1, kd2_1, sr2_1, vl2_1, fo2_1, pl2_1), rfl, ?_, by rw [ht]; exact hP, hD⟩, hS.F ht⟩) hS.2.2 dX1_takeNumber_21
    try dsimp only
    first | (rw [fNum_0 b4]; exact ⟨(xb_f Bool.false_ne_true).symm, he1⟩) | (rw [fNum_1 b4, ← he1]; first | exact ⟨(xb_t b13).symm, he10⟩ | exact ⟨(xb_f b13).symm, he10⟩)
  · skip
    refine lv_aload_n hx hb dX1_takeNumber_7 rfl (lv_at hl 0 rfl) ?_
    refine lv_iload_n hx hb dX1_takeNumber_8 rfl (lv_at hl 1 rfl) ?_
    refine lv_iload_n hx hb dX1_takeNumber_9 rfl (lv_at hl 2 rfl) ?_
    refine xw_i (As := [.int (nI lo), .int (nI hi)]) (rest := []) (wr := [bA G kby 160 tb]) ⟨hx, hb, hml, hown, hts⟩ (c_X1_isNumberWithin l G H.size kre kbt kby rl nx2_1 kd2_1 sr2_1 vl2_1 fo2_1 pl2_1 li ht lt ct lo hi (by first | assumption | omega) (by first | assumption | omega) (by have hk := fTok_kd (t := tb) (rl := rl) (s := (nx, kd, sr, vl, fo, pl)); rw [← he1] at hk; dsimp only at hk; omega)) (cwV 2 hts gX1_takeNumber_X1_isNumberWithin rfl rfl rfl (by decide +kernel) ⟨Nat.le_of_ble_eq_true rfl, Nat.le_of_ble_eq_true rfl⟩) hK hP hD hS hA [0] [1] rfl rfl (by decide) (by decide) (by decide) rfl rfl rfl hl.1 rfl (Nat.le_of_ble_eq_true rfl) dX1_takeNumber_10 ⟨Nat.le_of_ble_eq_true rfl, Nat.le_of_ble_eq_true rfl⟩ (fun r10 u H locs hp10 hP hD hS => ?_)
    obtain ⟨nx2_10, kd2_10, sr2_10, vl2_10, fo2_10, pl2_10⟩ := u
    try dsimp only at hp10 hP hD
    obtain ⟨rfl, he10⟩ := hp10
    replace hP : xP G [bA G kby 160 tb, oC kre 1 [.ref kbt, .ref kby, .int (nI rl), .int (nI nx2_10), .int (nI kd2_10), .int (nI sr2_10), .int vl2_10, .int fo2_10, .int pl2_10, .int li, .int ht, .int lt, .int ct]] H := hP
    replace hD : va_D (va_A (w_X1_takeNumber G kre kbt kby rl nx kd sr vl fo pl li ht lt ct tb) ss.heap.size) [bA G kby 160 tb, oC kre 1 [.ref kbt, .ref kby, .int (nI rl), .int (nI nx2_10), .int (nI kd2_10), .int (nI sr2_10), .int vl2_10, .int fo2_10, .int pl2_10, .int li, .int ht, .int lt, .int ct]] := hD
    refine xb_if_eq (tgt := 20) hx hb dX1_takeNumber_13 rfl (fun b13 => ?_) (fun b13 => ?_)
    · skip
      refine lv_iconst (v := nI 0) hx hb dX1_takeNumber_20 (by decide) ?_
      have hP := hP.sub (ws' := [oC kre 1 [.ref kbt, .ref kby, .int (nI rl), .int (nI nx2_10), .int (nI kd2_10), .int (nI sr2_10), .int vl2_10, .int fo2_10, .int pl2_10, .int li, .int ht, .int lt, .int ct], bA G kby 160 tb]) [1, 0] rfl
      have hD := hD.sub (ws' := [oC kre 1 [.ref kbt, .ref kby, .int (nI rl), .int (nI nx2_10), .int (nI kd2_10), .int (nI sr2_10), .int vl2_10, .int fo2_10, .int pl2_10, .int li, .int ht, .int lt, .int ct], bA G kby 160 tb]) [1, 0] (by decide) rfl
      refine W.zret (v := nI 0) (ty := .boolean) hx hb hr (by decide) (fun t ht hW => ⟨⟨nI 0, (nx2_10, kd2_10, sr2_10, vl2_10, fo2_10, pl2_10), rfl, ?_, by rw [ht]; exact hP, hD⟩, hS.F ht⟩) hS.2.2 dX1_takeNumber_21
      try dsimp only
      first | (rw [fNum_0 b4]; exact ⟨(xb_f Bool.false_ne_true).symm, he1⟩) | (rw [fNum_1 b4, ← he1]; first | exact ⟨(xb_t b13).symm, he10⟩ | exact ⟨(xb_f b13).symm, he10⟩)
    · skip
      refine lv_iconst (v := nI 1) hx hb dX1_takeNumber_16 (by decide) ?_
      refine lv_goto (tgt := 21) hx hb dX1_takeNumber_17 rfl ?_
      have hP := hP.sub (ws' := [oC kre 1 [.ref kbt, .ref kby, .int (nI rl), .int (nI nx2_10), .int (nI kd2_10), .int (nI sr2_10), .int vl2_10, .int fo2_10, .int pl2_10, .int li, .int ht, .int lt, .int ct], bA G kby 160 tb]) [1, 0] rfl
      have hD := hD.sub (ws' := [oC kre 1 [.ref kbt, .ref kby, .int (nI rl), .int (nI nx2_10), .int (nI kd2_10), .int (nI sr2_10), .int vl2_10, .int fo2_10, .int pl2_10, .int li, .int ht, .int lt, .int ct], bA G kby 160 tb]) [1, 0] (by decide) rfl
      refine W.zret (v := nI 1) (ty := .boolean) hx hb hr (by decide) (fun t ht hW => ⟨⟨nI 1, (nx2_10, kd2_10, sr2_10, vl2_10, fo2_10, pl2_10), rfl, ?_, by rw [ht]; exact hP, hD⟩, hS.F ht⟩) hS.2.2 dX1_takeNumber_21
      try dsimp only
      first | (rw [fNum_0 b4]; exact ⟨(xb_f Bool.false_ne_true).symm, he1⟩) | (rw [fNum_1 b4, ← he1]; first | exact ⟨(xb_t b13).symm, he10⟩ | exact ⟨(xb_f b13).symm, he10⟩)

abbrev w_X1_takeSemicolon (G : XG) (kre kbt kby : Nat) (rl nx kd sr : Nat) (vl fo pl li ht lt ct : Int32) (tb : Nat → Int32) : va_W := [oC kre 1 [.ref kbt, .ref kby, .int (nI rl), .int (nI nx), .int (nI kd), .int (nI sr), .int vl, .int fo, .int pl, .int li, .int ht, .int lt, .int ct], bA G kby 160 tb]
abbrev Q_X1_takeSemicolon (G : XG) (sz : Nat) (kre kbt kby : Nat) (rl nx kd sr : Nat) (vl fo pl li ht lt ct : Int32) (tb : Nat → Int32) : Array Value → State → Outcome → State → Prop := (va_Qi (fun (r : Int32) (u : Nat × Nat × Nat × Int32 × Int32 × Int32) => r = xb ((fSem tb rl (nx, kd, sr, vl, fo, pl)).1 = true) ∧ (u.1, u.2.1, u.2.2.1, u.2.2.2.1, u.2.2.2.2.1, u.2.2.2.2.2) = (fSem tb rl (nx, kd, sr, vl, fo, pl)).2) (xWb G sz (w_X1_takeSemicolon G kre kbt kby rl nx kd sr vl fo pl li ht lt ct tb) (fun u : Nat × Nat × Nat × Int32 × Int32 × Int32 => [oC kre 1 [.ref kbt, .ref kby, .int (nI rl), .int (nI u.1), .int (nI u.2.1), .int (nI u.2.2.1), .int u.2.2.2.1, .int u.2.2.2.2.1, .int u.2.2.2.2.2, .int li, .int ht, .int lt, .int ct], bA G kby 160 tb])) (va_A (w_X1_takeSemicolon G kre kbt kby rl nx kd sr vl fo pl li ht lt ct tb) sz))
set_option maxHeartbeats 4000000 in
set_option maxRecDepth 100000 in
theorem c_X1_takeSemicolon (l : Launch) (G : XG) (sz : Nat) (kre kbt kby : Nat) (rl nx kd sr : Nat) (vl fo pl li ht lt ct : Int32) (tb : Nat → Int32) (hrl : rl ≤ 160) (hnx : nx ≤ rl) : Met l yX1_takeSemicolon wsX1_takeSemicolon ({ frames := 2, cells := 0, slots := 0, locals := 42 } : Room) (va_Pc [.ref kre] (xWp G sz (w_X1_takeSemicolon G kre kbt kby rl nx kd sr vl fo pl li ht lt ct tb))) (Q_X1_takeSemicolon G sz kre kbt kby rl nx kd sr vl fo pl li ht lt ct tb) 0 0 (va_A (w_X1_takeSemicolon G kre kbt kby rl nx kd sr vl fo pl li ht lt ct tb) sz) := by
  refine Met.ofW (cc := cX1_takeSemicolon) (maxL := 1) (ret := (some .boolean)) (by decide) rfl ?_
  intro pp ee ss mm aa below mt cd s₁ BB hml hv
  obtain ⟨rfl, hsz, hP, hK, hD0⟩ := hv
  have hx := BB.exec
  have hb := BB.bytes
  have hr := BB.returns
  have hts := atoms_spec (ws := wsX1_takeSemicolon) BB.pre
  have hown : ss.vm.findClass RX1 = some mm.cls := findClass_of_methodNamed BB.named
  have hlocks := BB.notSynchronized
  subst hsz
  have hD := hD0.self (sz := ss.heap.size)
  have hA : ∀ q : Nat, ss.heap.size ≤ q → va_A (w_X1_takeSemicolon G kre kbt kby rl nx kd sr vl fo pl li ht lt ct tb) ss.heap.size q := fun q h => Or.inr h
  have hS : va_S (va_A (w_X1_takeSemicolon G kre kbt kby rl nx kd sr vl fo pl li ht lt ct tb) ss.heap.size) ss.heap ss.heap [] := va_S.rf
  replace hD : va_D (va_A (w_X1_takeSemicolon G kre kbt kby rl nx kd sr vl fo pl li ht lt ct tb) ss.heap.size) [oC kre 1 [.ref kbt, .ref kby, .int (nI rl), .int (nI nx), .int (nI kd), .int (nI sr), .int vl, .int fo, .int pl, .int li, .int ht, .int lt, .int ct], bA G kby 160 tb] := hD
  replace hP : xP G [oC kre 1 [.ref kbt, .ref kby, .int (nI rl), .int (nI nx), .int (nI kd), .int (nI sr), .int vl, .int fo, .int pl, .int li, .int ht, .int lt, .int ct], bA G kby 160 tb] ss.heap := hP
  have hin1 : ∀ w ∈ u_ws RX1 TX1 13, w ∈ wsX1_takeSemicolon := fun w h => List.mem_cons_of_mem _ (List.mem_append_right _ h)
  have hl := lv_entry ([.ref kre]) (n := 1) (Nat.le_of_ble_eq_true rfl)
  rw [lg_entry_eq]
  generalize (lg_sl ([.ref kre]) ++ List.replicate (1 - (lg_sl ([.ref kre])).length) Slot.unset).toArray = ls at hl ⊢
  replace hl : lv_has ls 1 [(0, .ref kre)] := hl
  refine lv_aload_n hx hb dX1_takeSemicolon_0 rfl (lv_at hl 0 rfl) ?_
  refine xw_i (As := []) (rest := []) (wr := []) ⟨hx, hb, hml, hown, hts⟩ (c_X1_takeToken_f l G ss.heap.size kre kbt kby rl nx kd sr vl fo pl li ht lt ct tb (by first | assumption | omega) (by first | assumption | omega)) (cwV 0 hts gX1_takeSemicolon_X1_takeToken rfl rfl rfl (by decide +kernel) ⟨Nat.le_of_ble_eq_true rfl, Nat.le_of_ble_eq_true rfl⟩) hK hP hD hS hA [0, 1] [] rfl rfl (by decide) (by decide) (by decide) rfl rfl rfl hl.1 rfl (Nat.le_of_ble_eq_true rfl) dX1_takeSemicolon_1 ⟨Nat.le_of_ble_eq_true rfl, Nat.le_of_ble_eq_true rfl⟩ (fun r1 u H locs hp1 hP hD hS => ?_)
  obtain ⟨nx2_1, kd2_1, sr2_1, vl2_1, fo2_1, pl2_1⟩ := u
  try dsimp only at hp1 hP hD
  obtain ⟨rfl, he1⟩ := hp1
  replace hP : xP G [oC kre 1 [.ref kbt, .ref kby, .int (nI rl), .int (nI nx2_1), .int (nI kd2_1), .int (nI sr2_1), .int vl2_1, .int fo2_1, .int pl2_1, .int li, .int ht, .int lt, .int ct], bA G kby 160 tb] H := hP
  replace hD : va_D (va_A (w_X1_takeSemicolon G kre kbt kby rl nx kd sr vl fo pl li ht lt ct tb) ss.heap.size) [oC kre 1 [.ref kbt, .ref kby, .int (nI rl), .int (nI nx2_1), .int (nI kd2_1), .int (nI sr2_1), .int vl2_1, .int fo2_1, .int pl2_1, .int li, .int ht, .int lt, .int ct], bA G kby 160 tb] := hD
  refine xb_if_eq (tgt := 31) hx hb dX1_takeSemicolon_4 rfl (fun b4 => ?_) (fun b4 => ?_)
  · skip
    refine lv_iconst (v := nI 0) hx hb dX1_takeSemicolon_31 (by decide) ?_
    have hP := hP.sub (ws' := [oC kre 1 [.ref kbt, .ref kby, .int (nI rl), .int (nI nx2_1), .int (nI kd2_1), .int (nI sr2_1), .int vl2_1, .int fo2_1, .int pl2_1, .int li, .int ht, .int lt, .int ct], bA G kby 160 tb]) [0, 1] rfl
    have hD := hD.sub (ws' := [oC kre 1 [.ref kbt, .ref kby, .int (nI rl), .int (nI nx2_1), .int (nI kd2_1), .int (nI sr2_1), .int vl2_1, .int fo2_1, .int pl2_1, .int li, .int ht, .int lt, .int ct], bA G kby 160 tb]) [0, 1] (by decide) rfl
    refine W.zret (v := nI 0) (ty := .boolean) hx hb hr (by decide) (fun t ht hW => ⟨⟨nI 0, (nx2_1, kd2_1, sr2_1, vl2_1, fo2_1, pl2_1), rfl, ?_, by rw [ht]; exact hP, hD⟩, hS.F ht⟩) hS.2.2 dX1_takeSemicolon_32
    try dsimp only
    first | (rw [fSem_0 b4]; exact ⟨(xb_f Bool.false_ne_true).symm, he1⟩) | (rw [fSem_1 b4 he1 b12]; exact ⟨(xb_t rfl).symm, rfl⟩) | (rw [fSem_2 b4 he1 b12]; exact ⟨(xb_f Bool.false_ne_true).symm, rfl⟩)
  · skip
    refine lv_aload_n hx hb dX1_takeSemicolon_7 rfl (lv_at hl 0 rfl) ?_
    have hk := fTok_kd (t := tb) (rl := rl) (s := (nx, kd, sr, vl, fo, pl))
    rw [← he1] at hk
    dsimp only at hk
    refine va_get (D := G.1) (ci := 1) (v := .int (nI kd2_1)) (C := RX1) (T := TX1) (N := 13) hx hb hts hin1 hown hK.1 hP 0 rfl rfl 4 (by decide) (hts (.fieldLink RX1 55 "BackLenses$Reader" "kind" "I") (List.mem_of_getElem? (i := 1) rfl)) (fun _ h9 => h9) rfl dX1_takeSemicolon_8 ?_
    refine lv_iconst (v := nI 3) hx hb dX1_takeSemicolon_11 (by decide) ?_
    refine xn_icmp_eq (tgt := 27) hx hb (by omega) (by omega) dX1_takeSemicolon_12 rfl (fun b12 => ?_) (fun b12 => ?_)
    · skip
      refine lv_iconst (v := nI 1) hx hb dX1_takeSemicolon_27 (by decide) ?_
      refine lv_goto (tgt := 32) hx hb dX1_takeSemicolon_28 rfl ?_
      have hP := hP.sub (ws' := [oC kre 1 [.ref kbt, .ref kby, .int (nI rl), .int (nI nx2_1), .int (nI kd2_1), .int (nI sr2_1), .int vl2_1, .int fo2_1, .int pl2_1, .int li, .int ht, .int lt, .int ct], bA G kby 160 tb]) [0, 1] rfl
      have hD := hD.sub (ws' := [oC kre 1 [.ref kbt, .ref kby, .int (nI rl), .int (nI nx2_1), .int (nI kd2_1), .int (nI sr2_1), .int vl2_1, .int fo2_1, .int pl2_1, .int li, .int ht, .int lt, .int ct], bA G kby 160 tb]) [0, 1] (by decide) rfl
      refine W.zret (v := nI 1) (ty := .boolean) hx hb hr (by decide) (fun t ht hW => ⟨⟨nI 1, (nx2_1, kd2_1, sr2_1, vl2_1, fo2_1, pl2_1), rfl, ?_, by rw [ht]; exact hP, hD⟩, hS.F ht⟩) hS.2.2 dX1_takeSemicolon_32
      try dsimp only
      first | (rw [fSem_0 b4]; exact ⟨(xb_f Bool.false_ne_true).symm, he1⟩) | (rw [fSem_1 b4 he1 b12]; exact ⟨(xb_t rfl).symm, rfl⟩) | (rw [fSem_2 b4 he1 b12]; exact ⟨(xb_f Bool.false_ne_true).symm, rfl⟩)
    · skip
      refine lv_aload_n hx hb dX1_takeSemicolon_15 rfl (lv_at hl 0 rfl) ?_
      refine lv_iconst (v := nI 2) hx hb dX1_takeSemicolon_16 (by decide) ?_
      refine lv_aload_n hx hb dX1_takeSemicolon_17 rfl (lv_at hl 0 rfl) ?_
      refine va_get (D := G.1) (ci := 1) (v := .int (nI sr2_1)) (C := RX1) (T := TX1) (N := 13) hx hb hts hin1 hown hK.1 hP 0 rfl rfl 5 (by decide) (hts (.fieldLink RX1 95 "BackLenses$Reader" "start" "I") (List.mem_of_getElem? (i := 2) rfl)) (fun _ h9 => h9) rfl dX1_takeSemicolon_18 ?_
      refine xw_i (As := [.int (nI 2), .int (nI sr2_1)]) (rest := []) (wr := [bA G kby 160 tb]) ⟨hx, hb, hml, hown, hts⟩ (c_X1_refuse l G H.size kre kbt kby rl nx2_1 kd2_1 sr2_1 vl2_1 fo2_1 pl2_1 li ht lt ct (nI 2) (nI sr2_1) ) (cwV 2 hts gX1_takeSemicolon_X1_refuse rfl rfl rfl (by decide +kernel) ⟨Nat.le_of_ble_eq_true rfl, Nat.le_of_ble_eq_true rfl⟩) hK hP hD hS hA [0] [1] rfl rfl (by decide) (by decide) (by decide) rfl rfl rfl hl.1 rfl (Nat.le_of_ble_eq_true rfl) dX1_takeSemicolon_21 ⟨Nat.le_of_ble_eq_true rfl, Nat.le_of_ble_eq_true rfl⟩ (fun r21 u H locs hp21 hP hD hS => ?_)
      obtain rfl := hp21
      replace hP : xP G [bA G kby 160 tb, oC kre 1 [.ref kbt, .ref kby, .int (nI rl), .int (nI nx2_1), .int (nI kd2_1), .int (nI sr2_1), .int vl2_1, .int (nI 2), .int (nI sr2_1), .int li, .int ht, .int lt, .int ct]] H := hP
      replace hD : va_D (va_A (w_X1_takeSemicolon G kre kbt kby rl nx kd sr vl fo pl li ht lt ct tb) ss.heap.size) [bA G kby 160 tb, oC kre 1 [.ref kbt, .ref kby, .int (nI rl), .int (nI nx2_1), .int (nI kd2_1), .int (nI sr2_1), .int vl2_1, .int (nI 2), .int (nI sr2_1), .int li, .int ht, .int lt, .int ct]] := hD
      refine xn_if_eq (tgt := 31) hx hb (by omega) dX1_takeSemicolon_24 rfl (fun _ => ?_) (fun b24 => absurd b24 (by omega))
      refine lv_iconst (v := nI 0) hx hb dX1_takeSemicolon_31 (by decide) ?_
      have hP := hP.sub (ws' := [oC kre 1 [.ref kbt, .ref kby, .int (nI rl), .int (nI nx2_1), .int (nI kd2_1), .int (nI sr2_1), .int vl2_1, .int (nI 2), .int (nI sr2_1), .int li, .int ht, .int lt, .int ct], bA G kby 160 tb]) [1, 0] rfl
      have hD := hD.sub (ws' := [oC kre 1 [.ref kbt, .ref kby, .int (nI rl), .int (nI nx2_1), .int (nI kd2_1), .int (nI sr2_1), .int vl2_1, .int (nI 2), .int (nI sr2_1), .int li, .int ht, .int lt, .int ct], bA G kby 160 tb]) [1, 0] (by decide) rfl
      refine W.zret (v := nI 0) (ty := .boolean) hx hb hr (by decide) (fun t ht hW => ⟨⟨nI 0, (nx2_1, kd2_1, sr2_1, vl2_1, (nI 2), (nI sr2_1)), rfl, ?_, by rw [ht]; exact hP, hD⟩, hS.F ht⟩) hS.2.2 dX1_takeSemicolon_32
      try dsimp only
      first | (rw [fSem_0 b4]; exact ⟨(xb_f Bool.false_ne_true).symm, he1⟩) | (rw [fSem_1 b4 he1 b12]; exact ⟨(xb_t rfl).symm, rfl⟩) | (rw [fSem_2 b4 he1 b12]; exact ⟨(xb_f Bool.false_ne_true).symm, rfl⟩)

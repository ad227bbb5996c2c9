abbrev w_J7_fill_53178 (G : XG) (a : Nat) (n : Nat) (f : Nat → Int32) : va_W := [iA G a n f]
abbrev Q_J7_fill_53178 (G : XG) (sz : Nat) (a : Nat) (n : Nat) (f : Nat → Int32) (v : Int32) : Array Value → State → Outcome → State → Prop := (va_Qv (fun (u : (Nat → Int32)) => (∀ j, j < n → u j = v)) (xWb G sz (w_J7_fill_53178 G a n f) (fun u : (Nat → Int32) => [iA G a n u])) (va_A (w_J7_fill_53178 G a n f) sz))
set_option maxHeartbeats 4000000 in
set_option maxRecDepth 100000 in
theorem c_J7_fill_53178 (l : Launch) (G : XG) (sz : Nat) (a : Nat) (n : Nat) (f : Nat → Int32) (v : Int32) (hn : n ≤ 1000) : Met l yJ7_fill_53178 wsJ7_fill_53178 ({ frames := 0, cells := 0, slots := 0, locals := 0 } : Room) (va_Pc [.ref a, .int v] (xWp G sz (w_J7_fill_53178 G a n f))) (Q_J7_fill_53178 G sz a n f v) 0 0 (va_A (w_J7_fill_53178 G a n f) sz) := by
  refine Met.ofW (cc := cJ7_fill_53178) (maxL := 4) (ret := none) (by decide) rfl ?_
  intro pp ee ss mm aa below mt cd s₁ BB hml hv
  obtain ⟨rfl, hsz, hP, hK, hD0⟩ := hv
  have hx := BB.exec
  have hb := BB.bytes
  have hr := BB.returns
  have hts := atoms_spec (ws := wsJ7_fill_53178) BB.pre
  have hown : ss.vm.findClass RJ7 = some mm.cls := findClass_of_methodNamed BB.named
  have hlocks := BB.notSynchronized
  subst hsz
  have hD := hD0.self (sz := ss.heap.size)
  have hA : ∀ q : Nat, ss.heap.size ≤ q → va_A (w_J7_fill_53178 G a n f) ss.heap.size q := fun q h => Or.inr h
  have hS : va_S (va_A (w_J7_fill_53178 G a n f) ss.heap.size) ss.heap ss.heap [] := va_S.rf
  replace hD : va_D (va_A (w_J7_fill_53178 G a n f) ss.heap.size) [iA G a n f] := hD
  replace hP : xP G [iA G a n f] ss.heap := hP
  have hl := lv_entry ([.ref a, .int v]) (n := 4) (Nat.le_of_ble_eq_true rfl)
  rw [lg_entry_eq]
  generalize (lg_sl ([.ref a, .int v]) ++ List.replicate (4 - (lg_sl ([.ref a, .int v])).length) Slot.unset).toArray = ls at hl ⊢
  replace hl : lv_has ls 4 [(0, .ref a), (1, .int v)] := hl
  refine lv_iconst (v := nI 0) hx hb dJ7_fill_53178_0 (by decide) ?_
  refine lv_istore_n (lv' := [(2, .int (nI 0)), (0, .ref a), (1, .int v)]) hx hb dJ7_fill_53178_1 rfl hl (by decide) rfl (fun ls hl => ?_)
  refine lv_aload_n hx hb dJ7_fill_53178_2 rfl (lv_at hl 1 rfl) ?_
  refine xn_alen hx hb hK hP 0 rfl dJ7_fill_53178_3 ?_
  refine lv_istore_n (lv' := [(3, .int (nI n)), (2, .int (nI 0)), (0, .ref a), (1, .int v)]) hx hb dJ7_fill_53178_4 rfl hl (by decide) rfl (fun ls hl => ?_)
  have hL5 : ∀ k : Nat, ∀ (i : Nat) (f2 : Nat → Int32) (ls : Array Slot) (H : Heap) (locs : List Loc), n - i = k → (i ≤ n) → (∀ j, j < i → f2 j = v) → lv_has ls 4 [(0, .ref a), (1, .int v), (2, .int (nI i)), (3, .int (nI n))] → xP G [iA G a n f2] H → va_D (va_A (w_J7_fill_53178 G a n f) ss.heap.size) [iA G a n f2] → va_S (va_A (w_J7_fill_53178 G a n f) ss.heap.size) ss.heap H locs → W pp l ee ({ frames := 0, cells := 0, slots := 0, locals := 0 } : Room) ss mm ([.ref a, .int v] : List Value).toArray below mt cd H locs 0 0 (MQ below (Q_J7_fill_53178 G ss.heap.size a n f v) ([.ref a, .int v] : List Value).toArray ss 0 0 (va_A (w_J7_fill_53178 G a n f) ss.heap.size)) (F0 mm 5 ls []) := by
    intro k
    induction k using Nat.strongRecOn with
    | _ k ih5 =>
    intro i f2 ls H locs hm5 hi hf hl hP hD hS
    refine lv_iload_n hx hb dJ7_fill_53178_5 rfl (lv_at hl 2 rfl) ?_
    refine lv_iload_n hx hb dJ7_fill_53178_6 rfl (lv_at hl 3 rfl) ?_
    refine xn_icmp_ge (tgt := 20) hx hb (by omega) (by omega) dJ7_fill_53178_7 rfl (fun b7 => ?_) (fun b7 => ?_)
    · skip
      have hP := hP.sub (ws' := [iA G a n f2]) [0] rfl
      have hD := hD.sub (ws' := [iA G a n f2]) [0] (by decide) rfl
      refine W.vret hx hb hr (fun t ht hW => ⟨⟨(f2), rfl, ?_, by rw [ht]; exact hP, hD⟩, hS.F ht⟩) hS.2.2 dJ7_fill_53178_20
      intro j hj; exact hf j (by omega)
    · skip
      refine lv_aload_n hx hb dJ7_fill_53178_10 rfl (lv_at hl 0 rfl) ?_
      refine lv_iload_n hx hb dJ7_fill_53178_11 rfl (lv_at hl 2 rfl) ?_
      refine lv_iload_n hx hb dJ7_fill_53178_12 rfl (lv_at hl 1 rfl) ?_
      refine xn_iast hx hb hK hP hD hS 0 rfl (by omega) (by omega) dJ7_fill_53178_13 (fun H locs hP hD hS => ?_)
      replace hP : xP G [iA G a n (upd f2 i v)] H := hP
      replace hD : va_D (va_A (w_J7_fill_53178 G a n f) ss.heap.size) [iA G a n (upd f2 i v)] := hD
      refine lv_iinc (k := 2) (v := nI (i + 1)) (lv' := [(2, .int (nI (i + 1))), (0, .ref a), (1, .int v), (3, .int (nI n))]) hx hb dJ7_fill_53178_14 hl rfl (xn_inc i 1) (by decide) rfl (fun ls hl => ?_)
      refine lv_goto (tgt := 5) hx hb dJ7_fill_53178_17 rfl ?_
      have hl := lv_sub hl (l' := [(0, .ref a), (1, .int v), (2, .int (nI (i + 1))), (3, .int (nI n))]) [1, 2, 0, 3] rfl
      exact ih5 (n - (i + 1)) (by omega) (i + 1) (upd f2 i v) ls H locs rfl (by omega) (by intro j hj; unfold upd; split; rfl; exact hf j (by omega)) hl hP hD hS
  have hl := lv_sub hl (l' := [(0, .ref a), (1, .int v), (2, .int (nI 0)), (3, .int (nI n))]) [2, 3, 1, 0] rfl
  exact hL5 (n - 0) 0 f ls ss.heap [] rfl (by omega) (by intro j hj; omega) hl hP hD hS

abbrev w_X0_hasCell (G : XG) (kb ka kc kl kn : Nat) (w h la : Nat) : va_W := [oC kb 0 [.int (nI w), .int (nI h), .int (nI la), .ref ka, .ref kc, .ref kl, .ref kn]]
abbrev Q_X0_hasCell (G : XG) (kb ka kc kl kn : Nat) (w h la : Nat) (c : Int32) : Array Value → State → Outcome → State → Prop := (xRi (fun r => r = xb (inR c (w * h))))
set_option maxHeartbeats 4000000 in
set_option maxRecDepth 100000 in
theorem c_X0_hasCell (l : Launch) (G : XG) (kb ka kc kl kn : Nat) (w h la : Nat) (c : Int32) (hwh : w * h ≤ 16) : Met l yX0_hasCell wsX0_hasCell ({ frames := 0, cells := 0, slots := 0, locals := 0 } : Room) (va_Pc [.ref kb, .int c] (xRp G (w_X0_hasCell G kb ka kc kl kn w h la))) (Q_X0_hasCell G kb ka kc kl kn w h la c) 0 0 (fun _ => False) := by
  refine Met.ofW (cc := cX0_hasCell) (maxL := 2) (ret := (some .boolean)) (by decide) rfl ?_
  intro pp ee ss mm aa below mt cd s₁ BB hml hv
  obtain ⟨rfl, hP, hK⟩ := hv
  have hx := BB.exec
  have hb := BB.bytes
  have hr := BB.returns
  have hts := atoms_spec (ws := wsX0_hasCell) BB.pre
  have hown : ss.vm.findClass RX0 = some mm.cls := findClass_of_methodNamed BB.named
  have hlocks := BB.notSynchronized
  have hS : va_S (fun _ => False) ss.heap ss.heap [] := va_S.rf
  replace hP : xP G [oC kb 0 [.int (nI w), .int (nI h), .int (nI la), .ref ka, .ref kc, .ref kl, .ref kn]] ss.heap := hP
  have hin0 : ∀ w ∈ u_ws RX0 TX0 7, w ∈ wsX0_hasCell := fun w h => List.mem_cons_of_mem _ (List.mem_append_right _ h)
  have hl := lv_entry ([.ref kb, .int c]) (n := 2) (Nat.le_of_ble_eq_true rfl)
  rw [lg_entry_eq]
  generalize (lg_sl ([.ref kb, .int c]) ++ List.replicate (2 - (lg_sl ([.ref kb, .int c])).length) Slot.unset).toArray = ls at hl ⊢
  replace hl : lv_has ls 2 [(0, .ref kb), (1, .int c)] := hl
  refine lv_iload_n hx hb dX0_hasCell_0 rfl (lv_at hl 1 rfl) ?_
  refine xi_if_lt (tgt := 21) hx hb dX0_hasCell_1 rfl (fun b1 => ?_) (fun b1 => ?_)
  · skip
    refine lv_iconst (v := nI 0) hx hb dX0_hasCell_21 (by decide) ?_
    refine W.zret (v := nI 0) (ty := .boolean) hx hb hr (by decide) (fun t ht hW => ⟨⟨nI 0, (), rfl, ?_, trivial⟩, hS.F ht⟩) hS.2.2 dX0_hasCell_22
    first | exact (xb_t (by unfold inR; omega)).symm | exact (xb_f (by unfold inR; omega)).symm
  · skip
    refine lv_iload_n hx hb dX0_hasCell_4 rfl (lv_at hl 1 rfl) ?_
    refine lv_aload_n hx hb dX0_hasCell_5 rfl (lv_at hl 0 rfl) ?_
    refine va_get (D := G.1) (ci := 0) (v := .int (nI w)) (C := RX0) (T := TX0) (N := 7) hx hb hts hin0 hown hK.1 hP 0 rfl rfl 0 (by decide) (hts (.fieldLink RX0 9 "BackLenses$Book" "wide" "I") (List.mem_of_getElem? (i := 1) rfl)) (fun _ h9 => h9) rfl dX0_hasCell_6 ?_
    refine lv_aload_n hx hb dX0_hasCell_9 rfl (lv_at hl 0 rfl) ?_
    refine va_get (D := G.1) (ci := 0) (v := .int (nI h)) (C := RX0) (T := TX0) (N := 7) hx hb hts hin0 hown hK.1 hP 0 rfl rfl 1 (by decide) (hts (.fieldLink RX0 15 "BackLenses$Book" "high" "I") (List.mem_of_getElem? (i := 2) rfl)) (fun _ h9 => h9) rfl dX0_hasCell_10 ?_
    refine xn_imul hx hb dX0_hasCell_13 ?_
    refine xm_icmp_ge (tgt := 21) hx hb (by omega) dX0_hasCell_14 rfl (fun b14 => ?_) (fun b14 => ?_)
    · skip
      refine lv_iconst (v := nI 0) hx hb dX0_hasCell_21 (by decide) ?_
      refine W.zret (v := nI 0) (ty := .boolean) hx hb hr (by decide) (fun t ht hW => ⟨⟨nI 0, (), rfl, ?_, trivial⟩, hS.F ht⟩) hS.2.2 dX0_hasCell_22
      first | exact (xb_t (by unfold inR; omega)).symm | exact (xb_f (by unfold inR; omega)).symm
    · skip
      refine lv_iconst (v := nI 1) hx hb dX0_hasCell_17 (by decide) ?_
      refine lv_goto (tgt := 22) hx hb dX0_hasCell_18 rfl ?_
      refine W.zret (v := nI 1) (ty := .boolean) hx hb hr (by decide) (fun t ht hW => ⟨⟨nI 1, (), rfl, ?_, trivial⟩, hS.F ht⟩) hS.2.2 dX0_hasCell_22
      first | exact (xb_t (by unfold inR; omega)).symm | exact (xb_f (by unfold inR; omega)).symm

abbrev w_X0_hasDay (G : XG) (kb ka kc kl kn : Nat) (w h la : Nat) : va_W := [oC kb 0 [.int (nI w), .int (nI h), .int (nI la), .ref ka, .ref kc, .ref kl, .ref kn]]
abbrev Q_X0_hasDay (G : XG) (kb ka kc kl kn : Nat) (w h la : Nat) (d : Int32) : Array Value → State → Outcome → State → Prop := (xRi (fun r => r = xb (inR d (la + 1))))
set_option maxHeartbeats 4000000 in
set_option maxRecDepth 100000 in
theorem c_X0_hasDay (l : Launch) (G : XG) (kb ka kc kl kn : Nat) (w h la : Nat) (d : Int32) (hla : la ≤ 9) : Met l yX0_hasDay wsX0_hasDay ({ frames := 0, cells := 0, slots := 0, locals := 0 } : Room) (va_Pc [.ref kb, .int d] (xRp G (w_X0_hasDay G kb ka kc kl kn w h la))) (Q_X0_hasDay G kb ka kc kl kn w h la d) 0 0 (fun _ => False) := by
  refine Met.ofW (cc := cX0_hasDay) (maxL := 2) (ret := (some .boolean)) (by decide) rfl ?_
  intro pp ee ss mm aa below mt cd s₁ BB hml hv
  obtain ⟨rfl, hP, hK⟩ := hv
  have hx := BB.exec
  have hb := BB.bytes
  have hr := BB.returns
  have hts := atoms_spec (ws := wsX0_hasDay) BB.pre
  have hown : ss.vm.findClass RX0 = some mm.cls := findClass_of_methodNamed BB.named
  have hlocks := BB.notSynchronized
  have hS : va_S (fun _ => False) ss.heap ss.heap [] := va_S.rf
  replace hP : xP G [oC kb 0 [.int (nI w), .int (nI h), .int (nI la), .ref ka, .ref kc, .ref kl, .ref kn]] ss.heap := hP
  have hin0 : ∀ w ∈ u_ws RX0 TX0 7, w ∈ wsX0_hasDay := fun w h => List.mem_cons_of_mem _ (List.mem_append_right _ h)
  have hl := lv_entry ([.ref kb, .int d]) (n := 2) (Nat.le_of_ble_eq_true rfl)
  rw [lg_entry_eq]
  generalize (lg_sl ([.ref kb, .int d]) ++ List.replicate (2 - (lg_sl ([.ref kb, .int d])).length) Slot.unset).toArray = ls at hl ⊢
  replace hl : lv_has ls 2 [(0, .ref kb), (1, .int d)] := hl
  refine lv_iload_n hx hb dX0_hasDay_0 rfl (lv_at hl 1 rfl) ?_
  refine xi_if_lt (tgt := 16) hx hb dX0_hasDay_1 rfl (fun b1 => ?_) (fun b1 => ?_)
  · skip
    refine lv_iconst (v := nI 0) hx hb dX0_hasDay_16 (by decide) ?_
    refine W.zret (v := nI 0) (ty := .boolean) hx hb hr (by decide) (fun t ht hW => ⟨⟨nI 0, (), rfl, ?_, trivial⟩, hS.F ht⟩) hS.2.2 dX0_hasDay_17
    first | exact (xb_t (by unfold inR; omega)).symm | exact (xb_f (by unfold inR; omega)).symm
  · skip
    refine lv_iload_n hx hb dX0_hasDay_4 rfl (lv_at hl 1 rfl) ?_
    refine lv_aload_n hx hb dX0_hasDay_5 rfl (lv_at hl 0 rfl) ?_
    refine va_get (D := G.1) (ci := 0) (v := .int (nI la)) (C := RX0) (T := TX0) (N := 7) hx hb hts hin0 hown hK.1 hP 0 rfl rfl 2 (by decide) (hts (.fieldLink RX0 18 "BackLenses$Book" "last" "I") (List.mem_of_getElem? (i := 1) rfl)) (fun _ h9 => h9) rfl dX0_hasDay_6 ?_
    refine xm_icmp_gt (tgt := 16) hx hb (by omega) dX0_hasDay_9 rfl (fun b9 => ?_) (fun b9 => ?_)
    · skip
      refine lv_iconst (v := nI 0) hx hb dX0_hasDay_16 (by decide) ?_
      refine W.zret (v := nI 0) (ty := .boolean) hx hb hr (by decide) (fun t ht hW => ⟨⟨nI 0, (), rfl, ?_, trivial⟩, hS.F ht⟩) hS.2.2 dX0_hasDay_17
      first | exact (xb_t (by unfold inR; omega)).symm | exact (xb_f (by unfold inR; omega)).symm
    · skip
      refine lv_iconst (v := nI 1) hx hb dX0_hasDay_12 (by decide) ?_
      refine lv_goto (tgt := 17) hx hb dX0_hasDay_13 rfl ?_
      refine W.zret (v := nI 1) (ty := .boolean) hx hb hr (by decide) (fun t ht hW => ⟨⟨nI 1, (), rfl, ?_, trivial⟩, hS.F ht⟩) hS.2.2 dX0_hasDay_17
      first | exact (xb_t (by unfold inR; omega)).symm | exact (xb_f (by unfold inR; omega)).symm

abbrev w_X0_cells (G : XG) (kb ka kc kl kn : Nat) (w h la : Nat) : va_W := [oC kb 0 [.int (nI w), .int (nI h), .int (nI la), .ref ka, .ref kc, .ref kl, .ref kn]]
abbrev Q_X0_cells (G : XG) (kb ka kc kl kn : Nat) (w h la : Nat) : Array Value → State → Outcome → State → Prop := (xRi (fun r => r = nI (w * h)))
set_option maxHeartbeats 4000000 in
set_option maxRecDepth 100000 in
theorem c_X0_cells (l : Launch) (G : XG) (kb ka kc kl kn : Nat) (w h la : Nat)  : Met l yX0_cells wsX0_cells ({ frames := 0, cells := 0, slots := 0, locals := 0 } : Room) (va_Pc [.ref kb] (xRp G (w_X0_cells G kb ka kc kl kn w h la))) (Q_X0_cells G kb ka kc kl kn w h la) 0 0 (fun _ => False) := by
  refine Met.ofW (cc := cX0_cells) (maxL := 1) (ret := (some .int)) (by decide) rfl ?_
  intro pp ee ss mm aa below mt cd s₁ BB hml hv
  obtain ⟨rfl, hP, hK⟩ := hv
  have hx := BB.exec
  have hb := BB.bytes
  have hr := BB.returns
  have hts := atoms_spec (ws := wsX0_cells) BB.pre
  have hown : ss.vm.findClass RX0 = some mm.cls := findClass_of_methodNamed BB.named
  have hlocks := BB.notSynchronized
  have hS : va_S (fun _ => False) ss.heap ss.heap [] := va_S.rf
  replace hP : xP G [oC kb 0 [.int (nI w), .int (nI h), .int (nI la), .ref ka, .ref kc, .ref kl, .ref kn]] ss.heap := hP
  have hin0 : ∀ w ∈ u_ws RX0 TX0 7, w ∈ wsX0_cells := fun w h => List.mem_cons_of_mem _ (List.mem_append_right _ h)
  have hl := lv_entry ([.ref kb]) (n := 1) (Nat.le_of_ble_eq_true rfl)
  rw [lg_entry_eq]
  generalize (lg_sl ([.ref kb]) ++ List.replicate (1 - (lg_sl ([.ref kb])).length) Slot.unset).toArray = ls at hl ⊢
  replace hl : lv_has ls 1 [(0, .ref kb)] := hl
  refine lv_aload_n hx hb dX0_cells_0 rfl (lv_at hl 0 rfl) ?_
  refine va_get (D := G.1) (ci := 0) (v := .int (nI w)) (C := RX0) (T := TX0) (N := 7) hx hb hts hin0 hown hK.1 hP 0 rfl rfl 0 (by decide) (hts (.fieldLink RX0 9 "BackLenses$Book" "wide" "I") (List.mem_of_getElem? (i := 1) rfl)) (fun _ h9 => h9) rfl dX0_cells_1 ?_
  refine lv_aload_n hx hb dX0_cells_4 rfl (lv_at hl 0 rfl) ?_
  refine va_get (D := G.1) (ci := 0) (v := .int (nI h)) (C := RX0) (T := TX0) (N := 7) hx hb hts hin0 hown hK.1 hP 0 rfl rfl 1 (by decide) (hts (.fieldLink RX0 15 "BackLenses$Book" "high" "I") (List.mem_of_getElem? (i := 2) rfl)) (fun _ h9 => h9) rfl dX0_cells_5 ?_
  refine xn_imul hx hb dX0_cells_8 ?_
  refine W.iret (v := nI (w * h)) hx hb hr (fun t ht hW => ⟨⟨nI (w * h), (), rfl, ?_, trivial⟩, hS.F ht⟩) hS.2.2 dX0_cells_9
  rfl

abbrev w_X0_takeChange (G : XG) (kb ka kc kcn kl kn : Nat) (w h la nc : Nat) (fc : Nat → Int32) : va_W := [oC kb 0 [.int (nI w), .int (nI h), .int (nI la), .ref ka, .ref kc, .ref kl, .ref kn], oC kc 2 [.ref kcn, .int (nI 10), .int (nI nc)], iA G kcn (3 * 10) fc]
abbrev Q_X0_takeChange (G : XG) (sz : Nat) (kb ka kc kcn kl kn : Nat) (w h la nc : Nat) (fc : Nat → Int32) (d c m : Int32) : Array Value → State → Outcome → State → Prop := (va_Qi (fun (r : Int32) (u : Nat × (Nat → Int32)) => r = (if inR d (la + 1) ∧ inR c (w * h) ∧ inR m 6 then (if nc < 10 then nI (nc + 1) else (-3)) else (-1)) ∧ u.1 = (if (inR d (la + 1) ∧ inR c (w * h) ∧ inR m 6 ∧ nc < 10) then nc + 1 else nc) ∧ u.2 = (if (inR d (la + 1) ∧ inR c (w * h) ∧ inR m 6 ∧ nc < 10) then upd (upd (upd fc (3 * nc) d) (3 * nc + 1) c) (3 * nc + 2) m else fc)) (xWb G sz (w_X0_takeChange G kb ka kc kcn kl kn w h la nc fc) (fun u : Nat × (Nat → Int32) => [oC kb 0 [.int (nI w), .int (nI h), .int (nI la), .ref ka, .ref kc, .ref kl, .ref kn], oC kc 2 [.ref kcn, .int (nI 10), .int (nI u.1)], iA G kcn (3 * 10) u.2])) (va_A (w_X0_takeChange G kb ka kc kcn kl kn w h la nc fc) sz))
set_option maxHeartbeats 4000000 in
set_option maxRecDepth 100000 in
theorem c_X0_takeChange (l : Launch) (G : XG) (sz : Nat) (kb ka kc kcn kl kn : Nat) (w h la nc : Nat) (fc : Nat → Int32) (d c m : Int32) (hwh : w * h ≤ 16) (hla : la ≤ 9) (hnc : nc ≤ 10) : Met l yX0_takeChange wsX0_takeChange ({ frames := 1, cells := 0, slots := 0, locals := 23 } : Room) (va_Pc [.ref kb, .int d, .int c, .int m] (xWp G sz (w_X0_takeChange G kb ka kc kcn kl kn w h la nc fc))) (Q_X0_takeChange G sz kb ka kc kcn kl kn w h la nc fc d c m) 0 0 (va_A (w_X0_takeChange G kb ka kc kcn kl kn w h la nc fc) sz) := by
  refine Met.ofW (cc := cX0_takeChange) (maxL := 4) (ret := (some .int)) (by decide) rfl ?_
  intro pp ee ss mm aa below mt cd s₁ BB hml hv
  obtain ⟨rfl, hsz, hP, hK, hD0⟩ := hv
  have hx := BB.exec
  have hb := BB.bytes
  have hr := BB.returns
  have hts := atoms_spec (ws := wsX0_takeChange) BB.pre
  have hown : ss.vm.findClass RX0 = some mm.cls := findClass_of_methodNamed BB.named
  have hlocks := BB.notSynchronized
  subst hsz
  have hD := hD0.self (sz := ss.heap.size)
  have hA : ∀ q : Nat, ss.heap.size ≤ q → va_A (w_X0_takeChange G kb ka kc kcn kl kn w h la nc fc) ss.heap.size q := fun q h => Or.inr h
  have hS : va_S (va_A (w_X0_takeChange G kb ka kc kcn kl kn w h la nc fc) ss.heap.size) ss.heap ss.heap [] := va_S.rf
  replace hD : va_D (va_A (w_X0_takeChange G kb ka kc kcn kl kn w h la nc fc) ss.heap.size) [oC kb 0 [.int (nI w), .int (nI h), .int (nI la), .ref ka, .ref kc, .ref kl, .ref kn], oC kc 2 [.ref kcn, .int (nI 10), .int (nI nc)], iA G kcn (3 * 10) fc] := hD
  replace hP : xP G [oC kb 0 [.int (nI w), .int (nI h), .int (nI la), .ref ka, .ref kc, .ref kl, .ref kn], oC kc 2 [.ref kcn, .int (nI 10), .int (nI nc)], iA G kcn (3 * 10) fc] ss.heap := hP
  have hin0 : ∀ w ∈ u_ws RX0 TX0 7, w ∈ wsX0_takeChange := fun w h => List.mem_cons_of_mem _ (List.mem_append_left _ (List.mem_append_right _ h))
  have hin2 : ∀ w ∈ u_ws RX2 TX2 3, w ∈ wsX0_takeChange := fun w h => List.mem_cons_of_mem _ (List.mem_append_right _ h)
  have hl := lv_entry ([.ref kb, .int d, .int c, .int m]) (n := 4) (Nat.le_of_ble_eq_true rfl)
  rw [lg_entry_eq]
  generalize (lg_sl ([.ref kb, .int d, .int c, .int m]) ++ List.replicate (4 - (lg_sl ([.ref kb, .int d, .int c, .int m])).length) Slot.unset).toArray = ls at hl ⊢
  replace hl : lv_has ls 4 [(0, .ref kb), (1, .int d), (2, .int c), (3, .int m)] := hl
  refine lv_aload_n hx hb dX0_takeChange_0 rfl (lv_at hl 0 rfl) ?_
  refine lv_iload_n hx hb dX0_takeChange_1 rfl (lv_at hl 1 rfl) ?_
  refine xr_i (As := [.int d]) (rest := []) ⟨hx, hb, hml, hown, hts⟩ (c_X0_hasDay l G kb ka kc kl kn w h la d (by first | assumption | omega)) (cwV 1 hts gX0_takeChange_X0_hasDay rfl rfl rfl (by decide +kernel) ⟨Nat.le_of_ble_eq_true rfl, Nat.le_of_ble_eq_true rfl⟩) hK hP hS [0] rfl rfl rfl rfl hl.1 rfl (Nat.le_of_ble_eq_true rfl) dX0_takeChange_2 ⟨Nat.zero_le _, Nat.zero_le _⟩ (fun r2 H locs hp2 hP hS => ?_)
  obtain rfl : r2 = xb (inR d (la + 1)) := hp2
  refine xb_if_eq (tgt := 23) hx hb dX0_takeChange_5 rfl (fun b5 => ?_) (fun b5 => ?_)
  · skip
    refine lv_iconst (v := (-1)) hx hb dX0_takeChange_23 (by decide) ?_
    have hP := hP.sub (ws' := [oC kb 0 [.int (nI w), .int (nI h), .int (nI la), .ref ka, .ref kc, .ref kl, .ref kn], oC kc 2 [.ref kcn, .int (nI 10), .int (nI nc)], iA G kcn (3 * 10) fc]) [0, 1, 2] rfl
    have hD := hD.sub (ws' := [oC kb 0 [.int (nI w), .int (nI h), .int (nI la), .ref ka, .ref kc, .ref kl, .ref kn], oC kc 2 [.ref kcn, .int (nI 10), .int (nI nc)], iA G kcn (3 * 10) fc]) [0, 1, 2] (by decide) rfl
    refine W.iret (v := (-1)) hx hb hr (fun t ht hW => ⟨⟨(-1), (nc, fc), rfl, ?_, by rw [ht]; exact hP, hD⟩, hS.F ht⟩) hS.2.2 dX0_takeChange_24
    try dsimp only
    first | exact ⟨(if_neg (fun q => b5 q.1)).symm, (if_neg (fun q => b5 q.1)).symm, (if_neg (fun q => b5 q.1)).symm⟩ | exact ⟨(if_neg (fun q => b13 q.2.1)).symm, (if_neg (fun q => b13 q.2.1)).symm, (if_neg (fun q => b13 q.2.1)).symm⟩ | exact ⟨(if_neg (fun q => b20 q.2.2)).symm, (if_neg (fun q => b20 q.2.2.1)).symm, (if_neg (fun q => b20 q.2.2.1)).symm⟩ | exact ⟨(if_pos ⟨b5, b13, b20⟩).symm, (by by_cases hq : nc < 10; (rw [if_pos hq]; exact (if_pos ⟨b5, b13, b20, hq⟩).symm); (rw [if_neg hq]; exact (if_neg (fun q => hq q.2.2.2)).symm)), (by by_cases hq : nc < 10; (rw [if_pos hq]; exact (if_pos ⟨b5, b13, b20, hq⟩).symm); (rw [if_neg hq]; exact (if_neg (fun q => hq q.2.2.2)).symm))⟩
  · skip
    refine lv_aload_n hx hb dX0_takeChange_8 rfl (lv_at hl 0 rfl) ?_
    refine lv_iload_n hx hb dX0_takeChange_9 rfl (lv_at hl 2 rfl) ?_
    refine xr_i (As := [.int c]) (rest := []) ⟨hx, hb, hml, hown, hts⟩ (c_X0_hasCell l G kb ka kc kl kn w h la c (by first | assumption | omega)) (cwV 1 hts gX0_takeChange_X0_hasCell rfl rfl rfl (by decide +kernel) ⟨Nat.le_of_ble_eq_true rfl, Nat.le_of_ble_eq_true rfl⟩) hK hP hS [0] rfl rfl rfl rfl hl.1 rfl (Nat.le_of_ble_eq_true rfl) dX0_takeChange_10 ⟨Nat.zero_le _, Nat.zero_le _⟩ (fun r10 H locs hp10 hP hS => ?_)
    obtain rfl : r10 = xb (inR c (w * h)) := hp10
    refine xb_if_eq (tgt := 23) hx hb dX0_takeChange_13 rfl (fun b13 => ?_) (fun b13 => ?_)
    · skip
      refine lv_iconst (v := (-1)) hx hb dX0_takeChange_23 (by decide) ?_
      have hP := hP.sub (ws' := [oC kb 0 [.int (nI w), .int (nI h), .int (nI la), .ref ka, .ref kc, .ref kl, .ref kn], oC kc 2 [.ref kcn, .int (nI 10), .int (nI nc)], iA G kcn (3 * 10) fc]) [0, 1, 2] rfl
      have hD := hD.sub (ws' := [oC kb 0 [.int (nI w), .int (nI h), .int (nI la), .ref ka, .ref kc, .ref kl, .ref kn], oC kc 2 [.ref kcn, .int (nI 10), .int (nI nc)], iA G kcn (3 * 10) fc]) [0, 1, 2] (by decide) rfl
      refine W.iret (v := (-1)) hx hb hr (fun t ht hW => ⟨⟨(-1), (nc, fc), rfl, ?_, by rw [ht]; exact hP, hD⟩, hS.F ht⟩) hS.2.2 dX0_takeChange_24
      try dsimp only
      first | exact ⟨(if_neg (fun q => b5 q.1)).symm, (if_neg (fun q => b5 q.1)).symm, (if_neg (fun q => b5 q.1)).symm⟩ | exact ⟨(if_neg (fun q => b13 q.2.1)).symm, (if_neg (fun q => b13 q.2.1)).symm, (if_neg (fun q => b13 q.2.1)).symm⟩ | exact ⟨(if_neg (fun q => b20 q.2.2)).symm, (if_neg (fun q => b20 q.2.2.1)).symm, (if_neg (fun q => b20 q.2.2.1)).symm⟩ | exact ⟨(if_pos ⟨b5, b13, b20⟩).symm, (by by_cases hq : nc < 10; (rw [if_pos hq]; exact (if_pos ⟨b5, b13, b20, hq⟩).symm); (rw [if_neg hq]; exact (if_neg (fun q => hq q.2.2.2)).symm)), (by by_cases hq : nc < 10; (rw [if_pos hq]; exact (if_pos ⟨b5, b13, b20, hq⟩).symm); (rw [if_neg hq]; exact (if_neg (fun q => hq q.2.2.2)).symm))⟩
    · skip
      refine lv_iload_n hx hb dX0_takeChange_16 rfl (lv_at hl 3 rfl) ?_
      refine xsn_i (As := [.int m]) (rest := []) ⟨hx, hb, hml, hown, hts⟩ (c_X5_isMark l G m ) ⟨va_cnB 1 hts gX0_takeChange_X5_isMark_n66 rfl rfl rfl (hK.2 (Cond.methodLinkNest "BackLenses$Book" (66 : Nat) ({ cls := "BackLenses", name := "isMark", desc := "(I)Z" } : MethodName) "BackLenses") (List.mem_of_getElem? (i := 29) rfl)) (hts (.initialized RX5) (List.mem_of_getElem? (i := 15) rfl)) (by decide +kernel) ⟨Nat.le_of_ble_eq_true rfl, Nat.le_of_ble_eq_true rfl⟩, (hts (.static yX5_isMark) (List.mem_of_getElem? (i := 14) rfl)), trivial⟩ hP hS rfl hl.1 rfl (Nat.le_of_ble_eq_true rfl) dX0_takeChange_17 ⟨Nat.zero_le _, Nat.zero_le _⟩ (fun r17 H locs hp17 hP hS => ?_)
      obtain rfl : r17 = xb (inR m 6) := hp17
      refine xb_if_ne (tgt := 25) hx hb dX0_takeChange_20 rfl (fun b20 => ?_) (fun b20 => ?_)
      · skip
        refine lv_aload_n hx hb dX0_takeChange_25 rfl (lv_at hl 0 rfl) ?_
        refine va_get (D := G.1) (ci := 0) (v := .ref kc) (C := RX0) (T := TX0) (N := 7) hx hb hts hin0 hown hK.1 hP 0 rfl rfl 4 (by decide) (hts (.fieldLink RX0 30 "BackLenses$Book" "changes" "LBackLenses$Rows;") (List.mem_of_getElem? (i := 1) rfl)) (fun _ h9 => h9) rfl dX0_takeChange_26 ?_
        refine lv_iload_n hx hb dX0_takeChange_29 rfl (lv_at hl 1 rfl) ?_
        refine lv_iload_n hx hb dX0_takeChange_30 rfl (lv_at hl 2 rfl) ?_
        refine lv_iload_n hx hb dX0_takeChange_31 rfl (lv_at hl 3 rfl) ?_
        refine xw_i (As := [.int d, .int c, .int m]) (rest := []) (wr := [oC kb 0 [.int (nI w), .int (nI h), .int (nI la), .ref ka, .ref kc, .ref kl, .ref kn]]) ⟨hx, hb, hml, hown, hts⟩ (c_X2_add l G H.size kc kcn 10 nc fc d c m (by first | assumption | omega) (by first | assumption | omega)) (cwV 3 hts gX0_takeChange_X2_add rfl rfl rfl (by decide +kernel) ⟨Nat.le_of_ble_eq_true rfl, Nat.le_of_ble_eq_true rfl⟩) hK hP hD hS hA [1, 2] [0] rfl rfl (by decide) (by decide) (by decide) rfl rfl rfl hl.1 rfl (Nat.le_of_ble_eq_true rfl) dX0_takeChange_32 ⟨Nat.le_of_ble_eq_true rfl, Nat.le_of_ble_eq_true rfl⟩ (fun r32 u H locs hp32 hP hD hS => ?_)
        obtain ⟨u0_32, u1_32⟩ := u
        try dsimp only at hp32 hP hD
        obtain ⟨rfl, rfl, rfl⟩ := hp32
        replace hP : xP G [oC kb 0 [.int (nI w), .int (nI h), .int (nI la), .ref ka, .ref kc, .ref kl, .ref kn], oC kc 2 [.ref kcn, .int (nI 10), .int (nI (if nc < 10 then nc + 1 else nc))], iA G kcn (3 * 10) (if nc < 10 then upd (upd (upd fc (3 * nc) d) (3 * nc + 1) c) (3 * nc + 2) m else fc)] H := hP
        replace hD : va_D (va_A (w_X0_takeChange G kb ka kc kcn kl kn w h la nc fc) ss.heap.size) [oC kb 0 [.int (nI w), .int (nI h), .int (nI la), .ref ka, .ref kc, .ref kl, .ref kn], oC kc 2 [.ref kcn, .int (nI 10), .int (nI (if nc < 10 then nc + 1 else nc))], iA G kcn (3 * 10) (if nc < 10 then upd (upd (upd fc (3 * nc) d) (3 * nc + 1) c) (3 * nc + 2) m else fc)] := hD
        have hP := hP.sub (ws' := [oC kb 0 [.int (nI w), .int (nI h), .int (nI la), .ref ka, .ref kc, .ref kl, .ref kn], oC kc 2 [.ref kcn, .int (nI 10), .int (nI (if nc < 10 then nc + 1 else nc))], iA G kcn (3 * 10) (if nc < 10 then upd (upd (upd fc (3 * nc) d) (3 * nc + 1) c) (3 * nc + 2) m else fc)]) [0, 1, 2] rfl
        have hD := hD.sub (ws' := [oC kb 0 [.int (nI w), .int (nI h), .int (nI la), .ref ka, .ref kc, .ref kl, .ref kn], oC kc 2 [.ref kcn, .int (nI 10), .int (nI (if nc < 10 then nc + 1 else nc))], iA G kcn (3 * 10) (if nc < 10 then upd (upd (upd fc (3 * nc) d) (3 * nc + 1) c) (3 * nc + 2) m else fc)]) [0, 1, 2] (by decide) rfl
        refine W.iret (v := (if nc < 10 then nI (nc + 1) else (-3))) hx hb hr (fun t ht hW => ⟨⟨(if nc < 10 then nI (nc + 1) else (-3)), ((if nc < 10 then nc + 1 else nc), (if nc < 10 then upd (upd (upd fc (3 * nc) d) (3 * nc + 1) c) (3 * nc + 2) m else fc)), rfl, ?_, by rw [ht]; exact hP, hD⟩, hS.F ht⟩) hS.2.2 dX0_takeChange_35
        try dsimp only
        first | exact ⟨(if_neg (fun q => b5 q.1)).symm, (if_neg (fun q => b5 q.1)).symm, (if_neg (fun q => b5 q.1)).symm⟩ | exact ⟨(if_neg (fun q => b13 q.2.1)).symm, (if_neg (fun q => b13 q.2.1)).symm, (if_neg (fun q => b13 q.2.1)).symm⟩ | exact ⟨(if_neg (fun q => b20 q.2.2)).symm, (if_neg (fun q => b20 q.2.2.1)).symm, (if_neg (fun q => b20 q.2.2.1)).symm⟩ | exact ⟨(if_pos ⟨b5, b13, b20⟩).symm, (by by_cases hq : nc < 10; (rw [if_pos hq]; exact (if_pos ⟨b5, b13, b20, hq⟩).symm); (rw [if_neg hq]; exact (if_neg (fun q => hq q.2.2.2)).symm)), (by by_cases hq : nc < 10; (rw [if_pos hq]; exact (if_pos ⟨b5, b13, b20, hq⟩).symm); (rw [if_neg hq]; exact (if_neg (fun q => hq q.2.2.2)).symm))⟩
      · skip
        refine lv_iconst (v := (-1)) hx hb dX0_takeChange_23 (by decide) ?_
        have hP := hP.sub (ws' := [oC kb 0 [.int (nI w), .int (nI h), .int (nI la), .ref ka, .ref kc, .ref kl, .ref kn], oC kc 2 [.ref kcn, .int (nI 10), .int (nI nc)], iA G kcn (3 * 10) fc]) [0, 1, 2] rfl
        have hD := hD.sub (ws' := [oC kb 0 [.int (nI w), .int (nI h), .int (nI la), .ref ka, .ref kc, .ref kl, .ref kn], oC kc 2 [.ref kcn, .int (nI 10), .int (nI nc)], iA G kcn (3 * 10) fc]) [0, 1, 2] (by decide) rfl
        refine W.iret (v := (-1)) hx hb hr (fun t ht hW => ⟨⟨(-1), (nc, fc), rfl, ?_, by rw [ht]; exact hP, hD⟩, hS.F ht⟩) hS.2.2 dX0_takeChange_24
        try dsimp only
        first | exact ⟨(if_neg (fun q => b5 q.1)).symm, (if_neg (fun q => b5 q.1)).symm, (if_neg (fun q => b5 q.1)).symm⟩ | exact ⟨(if_neg (fun q => b13 q.2.1)).symm, (if_neg (fun q => b13 q.2.1)).symm, (if_neg (fun q => b13 q.2.1)).symm⟩ | exact ⟨(if_neg (fun q => b20 q.2.2)).symm, (if_neg (fun q => b20 q.2.2.1)).symm, (if_neg (fun q => b20 q.2.2.1)).symm⟩ | exact ⟨(if_pos ⟨b5, b13, b20⟩).symm, (by by_cases hq : nc < 10; (rw [if_pos hq]; exact (if_pos ⟨b5, b13, b20, hq⟩).symm); (rw [if_neg hq]; exact (if_neg (fun q => hq q.2.2.2)).symm)), (by by_cases hq : nc < 10; (rw [if_pos hq]; exact (if_pos ⟨b5, b13, b20, hq⟩).symm); (rw [if_neg hq]; exact (if_neg (fun q => hq q.2.2.2)).symm))⟩

abbrev w_X0_become (G : XG) (kb ka kc kcn kl kln kn knn : Nat) (w h la : Nat) (af : Nat → Int32) (nc : Nat) (fc : Nat → Int32) (nl : Nat) (fl : Nat → Int32) (ns : Nat) (fs : Nat → Int32) (kbq kaq kcq kcnq klq klnq knq knnq : Nat) (wq hq laq : Nat) (afq : Nat → Int32) (ncq : Nat) (fcq : Nat → Int32) (nlq : Nat) (flq : Nat → Int32) (nsq : Nat) (fsq : Nat → Int32) : va_W := [oC kb 0 [.int (nI w), .int (nI h), .int (nI la), .ref ka, .ref kc, .ref kl, .ref kn], iA G ka 16 af, oC kc 2 [.ref kcn, .int (nI 10), .int (nI nc)], iA G kcn (3 * 10) fc, oC kl 2 [.ref kln, .int (nI 6), .int (nI nl)], iA G kln (3 * 6) fl, oC kn 2 [.ref knn, .int (nI 8), .int (nI ns)], iA G knn (3 * 8) fs, oC kbq 0 [.int (nI wq), .int (nI hq), .int (nI laq), .ref kaq, .ref kcq, .ref klq, .ref knq], iA G kaq 16 afq, oC kcq 2 [.ref kcnq, .int (nI 10), .int (nI ncq)], iA G kcnq (3 * 10) fcq, oC klq 2 [.ref klnq, .int (nI 6), .int (nI nlq)], iA G klnq (3 * 6) flq, oC knq 2 [.ref knnq, .int (nI 8), .int (nI nsq)], iA G knnq (3 * 8) fsq]
abbrev Q_X0_become (G : XG) (sz : Nat) (kb ka kc kcn kl kln kn knn : Nat) (w h la : Nat) (af : Nat → Int32) (nc : Nat) (fc : Nat → Int32) (nl : Nat) (fl : Nat → Int32) (ns : Nat) (fs : Nat → Int32) (kbq kaq kcq kcnq klq klnq knq knnq : Nat) (wq hq laq : Nat) (afq : Nat → Int32) (ncq : Nat) (fcq : Nat → Int32) (nlq : Nat) (flq : Nat → Int32) (nsq : Nat) (fsq : Nat → Int32) : Array Value → State → Outcome → State → Prop := (va_Qv (fun (u : (Nat → Int32) × (Nat → Int32) × (Nat → Int32) × (Nat → Int32)) => u.1 = va_cpy afq af 0 0 16 ∧ u.2.1 = va_cpy fcq fc 0 0 (3 * 10) ∧ u.2.2.1 = va_cpy flq fl 0 0 (3 * 6) ∧ u.2.2.2 = va_cpy fsq fs 0 0 (3 * 8)) (xWb G sz (w_X0_become G kb ka kc kcn kl kln kn knn w h la af nc fc nl fl ns fs kbq kaq kcq kcnq klq klnq knq knnq wq hq laq afq ncq fcq nlq flq nsq fsq) (fun u : (Nat → Int32) × (Nat → Int32) × (Nat → Int32) × (Nat → Int32) => [oC kb 0 [.int (nI wq), .int (nI hq), .int (nI laq), .ref ka, .ref kc, .ref kl, .ref kn], iA G ka 16 u.1, oC kc 2 [.ref kcn, .int (nI 10), .int (nI ncq)], iA G kcn (3 * 10) u.2.1, oC kl 2 [.ref kln, .int (nI 6), .int (nI nlq)], iA G kln (3 * 6) u.2.2.1, oC kn 2 [.ref knn, .int (nI 8), .int (nI nsq)], iA G knn (3 * 8) u.2.2.2, oC kbq 0 [.int (nI wq), .int (nI hq), .int (nI laq), .ref kaq, .ref kcq, .ref klq, .ref knq], iA G kaq 16 afq, oC kcq 2 [.ref kcnq, .int (nI 10), .int (nI ncq)], iA G kcnq (3 * 10) fcq, oC klq 2 [.ref klnq, .int (nI 6), .int (nI nlq)], iA G klnq (3 * 6) flq, oC knq 2 [.ref knnq, .int (nI 8), .int (nI nsq)], iA G knnq (3 * 8) fsq])) (va_A (w_X0_become G kb ka kc kcn kl kln kn knn w h la af nc fc nl fl ns fs kbq kaq kcq kcnq klq klnq knq knnq wq hq laq afq ncq fcq nlq flq nsq fsq) sz))
set_option maxHeartbeats 4000000 in
set_option maxRecDepth 100000 in
theorem c_X0_become (l : Launch) (G : XG) (sz : Nat) (kb ka kc kcn kl kln kn knn : Nat) (w h la : Nat) (af : Nat → Int32) (nc : Nat) (fc : Nat → Int32) (nl : Nat) (fl : Nat → Int32) (ns : Nat) (fs : Nat → Int32) (kbq kaq kcq kcnq klq klnq knq knnq : Nat) (wq hq laq : Nat) (afq : Nat → Int32) (ncq : Nat) (fcq : Nat → Int32) (nlq : Nat) (flq : Nat → Int32) (nsq : Nat) (fsq : Nat → Int32)  : Met l yX0_become wsX0_become ({ frames := 2, cells := 0, slots := 0, locals := 39 } : Room) (va_Pc [.ref kb, .ref kbq] (xWp G sz (w_X0_become G kb ka kc kcn kl kln kn knn w h la af nc fc nl fl ns fs kbq kaq kcq kcnq klq klnq knq knnq wq hq laq afq ncq fcq nlq flq nsq fsq))) (Q_X0_become G sz kb ka kc kcn kl kln kn knn w h la af nc fc nl fl ns fs kbq kaq kcq kcnq klq klnq knq knnq wq hq laq afq ncq fcq nlq flq nsq fsq) 0 0 (va_A (w_X0_become G kb ka kc kcn kl kln kn knn w h la af nc fc nl fl ns fs kbq kaq kcq kcnq klq klnq knq knnq wq hq laq afq ncq fcq nlq flq nsq fsq) sz) := by
  refine Met.ofW (cc := cX0_become) (maxL := 2) (ret := none) (by decide) rfl ?_
  intro pp ee ss mm aa below mt cd s₁ BB hml hv
  obtain ⟨rfl, hsz, hP, hK, hD0⟩ := hv
  have hx := BB.exec
  have hb := BB.bytes
  have hr := BB.returns
  have hts := atoms_spec (ws := wsX0_become) BB.pre
  have hown : ss.vm.findClass RX0 = some mm.cls := findClass_of_methodNamed BB.named
  have hlocks := BB.notSynchronized
  subst hsz
  have hD := hD0.self (sz := ss.heap.size)
  have hA : ∀ q : Nat, ss.heap.size ≤ q → va_A (w_X0_become G kb ka kc kcn kl kln kn knn w h la af nc fc nl fl ns fs kbq kaq kcq kcnq klq klnq knq knnq wq hq laq afq ncq fcq nlq flq nsq fsq) ss.heap.size q := fun q h => Or.inr h
  have hS : va_S (va_A (w_X0_become G kb ka kc kcn kl kln kn knn w h la af nc fc nl fl ns fs kbq kaq kcq kcnq klq klnq knq knnq wq hq laq afq ncq fcq nlq flq nsq fsq) ss.heap.size) ss.heap ss.heap [] := va_S.rf
  replace hD : va_D (va_A (w_X0_become G kb ka kc kcn kl kln kn knn w h la af nc fc nl fl ns fs kbq kaq kcq kcnq klq klnq knq knnq wq hq laq afq ncq fcq nlq flq nsq fsq) ss.heap.size) [oC kb 0 [.int (nI w), .int (nI h), .int (nI la), .ref ka, .ref kc, .ref kl, .ref kn], iA G ka 16 af, oC kc 2 [.ref kcn, .int (nI 10), .int (nI nc)], iA G kcn (3 * 10) fc, oC kl 2 [.ref kln, .int (nI 6), .int (nI nl)], iA G kln (3 * 6) fl, oC kn 2 [.ref knn, .int (nI 8), .int (nI ns)], iA G knn (3 * 8) fs, oC kbq 0 [.int (nI wq), .int (nI hq), .int (nI laq), .ref kaq, .ref kcq, .ref klq, .ref knq], iA G kaq 16 afq, oC kcq 2 [.ref kcnq, .int (nI 10), .int (nI ncq)], iA G kcnq (3 * 10) fcq, oC klq 2 [.ref klnq, .int (nI 6), .int (nI nlq)], iA G klnq (3 * 6) flq, oC knq 2 [.ref knnq, .int (nI 8), .int (nI nsq)], iA G knnq (3 * 8) fsq] := hD
  replace hP : xP G [oC kb 0 [.int (nI w), .int (nI h), .int (nI la), .ref ka, .ref kc, .ref kl, .ref kn], iA G ka 16 af, oC kc 2 [.ref kcn, .int (nI 10), .int (nI nc)], iA G kcn (3 * 10) fc, oC kl 2 [.ref kln, .int (nI 6), .int (nI nl)], iA G kln (3 * 6) fl, oC kn 2 [.ref knn, .int (nI 8), .int (nI ns)], iA G knn (3 * 8) fs, oC kbq 0 [.int (nI wq), .int (nI hq), .int (nI laq), .ref kaq, .ref kcq, .ref klq, .ref knq], iA G kaq 16 afq, oC kcq 2 [.ref kcnq, .int (nI 10), .int (nI ncq)], iA G kcnq (3 * 10) fcq, oC klq 2 [.ref klnq, .int (nI 6), .int (nI nlq)], iA G klnq (3 * 6) flq, oC knq 2 [.ref knnq, .int (nI 8), .int (nI nsq)], iA G knnq (3 * 8) fsq] ss.heap := hP
  have hin0 : ∀ w ∈ u_ws RX0 TX0 7, w ∈ wsX0_become := fun w h => List.mem_cons_of_mem _ (List.mem_append_left _ (List.mem_append_right _ h))
  have hin2 : ∀ w ∈ u_ws RX2 TX2 3, w ∈ wsX0_become := fun w h => List.mem_cons_of_mem _ (List.mem_append_right _ h)
  have hl := lv_entry ([.ref kb, .ref kbq]) (n := 2) (Nat.le_of_ble_eq_true rfl)
  rw [lg_entry_eq]
  generalize (lg_sl ([.ref kb, .ref kbq]) ++ List.replicate (2 - (lg_sl ([.ref kb, .ref kbq])).length) Slot.unset).toArray = ls at hl ⊢
  replace hl : lv_has ls 2 [(0, .ref kb), (1, .ref kbq)] := hl
  refine lv_aload_n hx hb dX0_become_0 rfl (lv_at hl 0 rfl) ?_
  refine lv_aload_n hx hb dX0_become_1 rfl (lv_at hl 1 rfl) ?_
  refine va_get (D := G.1) (ci := 0) (v := .int (nI wq)) (C := RX0) (T := TX0) (N := 7) hx hb hts hin0 hown hK.1 hP 8 rfl rfl 0 (by decide) (hts (.fieldLink RX0 9 "BackLenses$Book" "wide" "I") (List.mem_of_getElem? (i := 1) rfl)) (fun _ h9 => h9) rfl dX0_become_2 ?_
  refine va_put (D := G.1) (ci := 0) (v := .int (nI wq)) (ty := .int) (C := RX0) (T := TX0) (N := 7) hx hb hts hin0 tyX0 tyX0_ok nmX0 hown hK.1 hP hD hS 0 rfl rfl 0 (by decide) (hts (.fieldLink RX0 9 "BackLenses$Book" "wide" "I") (List.mem_of_getElem? (i := 1) rfl)) (fun _ h9 => h9) rfl (by decide +kernel) rfl rfl (Nat.le_of_ble_eq_true rfl) dX0_become_5 (fun H locs hP hD hS => ?_)
  replace hP : xP G [oC kb 0 [.int (nI wq), .int (nI h), .int (nI la), .ref ka, .ref kc, .ref kl, .ref kn], iA G ka 16 af, oC kc 2 [.ref kcn, .int (nI 10), .int (nI nc)], iA G kcn (3 * 10) fc, oC kl 2 [.ref kln, .int (nI 6), .int (nI nl)], iA G kln (3 * 6) fl, oC kn 2 [.ref knn, .int (nI 8), .int (nI ns)], iA G knn (3 * 8) fs, oC kbq 0 [.int (nI wq), .int (nI hq), .int (nI laq), .ref kaq, .ref kcq, .ref klq, .ref knq], iA G kaq 16 afq, oC kcq 2 [.ref kcnq, .int (nI 10), .int (nI ncq)], iA G kcnq (3 * 10) fcq, oC klq 2 [.ref klnq, .int (nI 6), .int (nI nlq)], iA G klnq (3 * 6) flq, oC knq 2 [.ref knnq, .int (nI 8), .int (nI nsq)], iA G knnq (3 * 8) fsq] H := hP
  replace hD : va_D (va_A (w_X0_become G kb ka kc kcn kl kln kn knn w h la af nc fc nl fl ns fs kbq kaq kcq kcnq klq klnq knq knnq wq hq laq afq ncq fcq nlq flq nsq fsq) ss.heap.size) [oC kb 0 [.int (nI wq), .int (nI h), .int (nI la), .ref ka, .ref kc, .ref kl, .ref kn], iA G ka 16 af, oC kc 2 [.ref kcn, .int (nI 10), .int (nI nc)], iA G kcn (3 * 10) fc, oC kl 2 [.ref kln, .int (nI 6), .int (nI nl)], iA G kln (3 * 6) fl, oC kn 2 [.ref knn, .int (nI 8), .int (nI ns)], iA G knn (3 * 8) fs, oC kbq 0 [.int (nI wq), .int (nI hq), .int (nI laq), .ref kaq, .ref kcq, .ref klq, .ref knq], iA G kaq 16 afq, oC kcq 2 [.ref kcnq, .int (nI 10), .int (nI ncq)], iA G kcnq (3 * 10) fcq, oC klq 2 [.ref klnq, .int (nI 6), .int (nI nlq)], iA G klnq (3 * 6) flq, oC knq 2 [.ref knnq, .int (nI 8), .int (nI nsq)], iA G knnq (3 * 8) fsq] := hD
  refine lv_aload_n hx hb dX0_become_8 rfl (lv_at hl 0 rfl) ?_
  refine lv_aload_n hx hb dX0_become_9 rfl (lv_at hl 1 rfl) ?_
  refine va_get (D := G.1) (ci := 0) (v := .int (nI hq)) (C := RX0) (T := TX0) (N := 7) hx hb hts hin0 hown hK.1 hP 8 rfl rfl 1 (by decide) (hts (.fieldLink RX0 15 "BackLenses$Book" "high" "I") (List.mem_of_getElem? (i := 2) rfl)) (fun _ h9 => h9) rfl dX0_become_10 ?_
  refine va_put (D := G.1) (ci := 0) (v := .int (nI hq)) (ty := .int) (C := RX0) (T := TX0) (N := 7) hx hb hts hin0 tyX0 tyX0_ok nmX0 hown hK.1 hP hD hS 0 rfl rfl 1 (by decide) (hts (.fieldLink RX0 15 "BackLenses$Book" "high" "I") (List.mem_of_getElem? (i := 2) rfl)) (fun _ h9 => h9) rfl (by decide +kernel) rfl rfl (Nat.le_of_ble_eq_true rfl) dX0_become_13 (fun H locs hP hD hS => ?_)
  replace hP : xP G [oC kb 0 [.int (nI wq), .int (nI hq), .int (nI la), .ref ka, .ref kc, .ref kl, .ref kn], iA G ka 16 af, oC kc 2 [.ref kcn, .int (nI 10), .int (nI nc)], iA G kcn (3 * 10) fc, oC kl 2 [.ref kln, .int (nI 6), .int (nI nl)], iA G kln (3 * 6) fl, oC kn 2 [.ref knn, .int (nI 8), .int (nI ns)], iA G knn (3 * 8) fs, oC kbq 0 [.int (nI wq), .int (nI hq), .int (nI laq), .ref kaq, .ref kcq, .ref klq, .ref knq], iA G kaq 16 afq, oC kcq 2 [.ref kcnq, .int (nI 10), .int (nI ncq)], iA G kcnq (3 * 10) fcq, oC klq 2 [.ref klnq, .int (nI 6), .int (nI nlq)], iA G klnq (3 * 6) flq, oC knq 2 [.ref knnq, .int (nI 8), .int (nI nsq)], iA G knnq (3 * 8) fsq] H := hP
  replace hD : va_D (va_A (w_X0_become G kb ka kc kcn kl kln kn knn w h la af nc fc nl fl ns fs kbq kaq kcq kcnq klq klnq knq knnq wq hq laq afq ncq fcq nlq flq nsq fsq) ss.heap.size) [oC kb 0 [.int (nI wq), .int (nI hq), .int (nI la), .ref ka, .ref kc, .ref kl, .ref kn], iA G ka 16 af, oC kc 2 [.ref kcn, .int (nI 10), .int (nI nc)], iA G kcn (3 * 10) fc, oC kl 2 [.ref kln, .int (nI 6), .int (nI nl)], iA G kln (3 * 6) fl, oC kn 2 [.ref knn, .int (nI 8), .int (nI ns)], iA G knn (3 * 8) fs, oC kbq 0 [.int (nI wq), .int (nI hq), .int (nI laq), .ref kaq, .ref kcq, .ref klq, .ref knq], iA G kaq 16 afq, oC kcq 2 [.ref kcnq, .int (nI 10), .int (nI ncq)], iA G kcnq (3 * 10) fcq, oC klq 2 [.ref klnq, .int (nI 6), .int (nI nlq)], iA G klnq (3 * 6) flq, oC knq 2 [.ref knnq, .int (nI 8), .int (nI nsq)], iA G knnq (3 * 8) fsq] := hD
  refine lv_aload_n hx hb dX0_become_16 rfl (lv_at hl 0 rfl) ?_
  refine lv_aload_n hx hb dX0_become_17 rfl (lv_at hl 1 rfl) ?_
  refine va_get (D := G.1) (ci := 0) (v := .int (nI laq)) (C := RX0) (T := TX0) (N := 7) hx hb hts hin0 hown hK.1 hP 8 rfl rfl 2 (by decide) (hts (.fieldLink RX0 18 "BackLenses$Book" "last" "I") (List.mem_of_getElem? (i := 3) rfl)) (fun _ h9 => h9) rfl dX0_become_18 ?_
  refine va_put (D := G.1) (ci := 0) (v := .int (nI laq)) (ty := .int) (C := RX0) (T := TX0) (N := 7) hx hb hts hin0 tyX0 tyX0_ok nmX0 hown hK.1 hP hD hS 0 rfl rfl 2 (by decide) (hts (.fieldLink RX0 18 "BackLenses$Book" "last" "I") (List.mem_of_getElem? (i := 3) rfl)) (fun _ h9 => h9) rfl (by decide +kernel) rfl rfl (Nat.le_of_ble_eq_true rfl) dX0_become_21 (fun H locs hP hD hS => ?_)
  replace hP : xP G [oC kb 0 [.int (nI wq), .int (nI hq), .int (nI laq), .ref ka, .ref kc, .ref kl, .ref kn], iA G ka 16 af, oC kc 2 [.ref kcn, .int (nI 10), .int (nI nc)], iA G kcn (3 * 10) fc, oC kl 2 [.ref kln, .int (nI 6), .int (nI nl)], iA G kln (3 * 6) fl, oC kn 2 [.ref knn, .int (nI 8), .int (nI ns)], iA G knn (3 * 8) fs, oC kbq 0 [.int (nI wq), .int (nI hq), .int (nI laq), .ref kaq, .ref kcq, .ref klq, .ref knq], iA G kaq 16 afq, oC kcq 2 [.ref kcnq, .int (nI 10), .int (nI ncq)], iA G kcnq (3 * 10) fcq, oC klq 2 [.ref klnq, .int (nI 6), .int (nI nlq)], iA G klnq (3 * 6) flq, oC knq 2 [.ref knnq, .int (nI 8), .int (nI nsq)], iA G knnq (3 * 8) fsq] H := hP
  replace hD : va_D (va_A (w_X0_become G kb ka kc kcn kl kln kn knn w h la af nc fc nl fl ns fs kbq kaq kcq kcnq klq klnq knq knnq wq hq laq afq ncq fcq nlq flq nsq fsq) ss.heap.size) [oC kb 0 [.int (nI wq), .int (nI hq), .int (nI laq), .ref ka, .ref kc, .ref kl, .ref kn], iA G ka 16 af, oC kc 2 [.ref kcn, .int (nI 10), .int (nI nc)], iA G kcn (3 * 10) fc, oC kl 2 [.ref kln, .int (nI 6), .int (nI nl)], iA G kln (3 * 6) fl, oC kn 2 [.ref knn, .int (nI 8), .int (nI ns)], iA G knn (3 * 8) fs, oC kbq 0 [.int (nI wq), .int (nI hq), .int (nI laq), .ref kaq, .ref kcq, .ref klq, .ref knq], iA G kaq 16 afq, oC kcq 2 [.ref kcnq, .int (nI 10), .int (nI ncq)], iA G kcnq (3 * 10) fcq, oC klq 2 [.ref klnq, .int (nI 6), .int (nI nlq)], iA G klnq (3 * 6) flq, oC knq 2 [.ref knnq, .int (nI 8), .int (nI nsq)], iA G knnq (3 * 8) fsq] := hD
  refine lv_aload_n hx hb dX0_become_24 rfl (lv_at hl 1 rfl) ?_
  refine va_get (D := G.1) (ci := 0) (v := .ref kaq) (C := RX0) (T := TX0) (N := 7) hx hb hts hin0 hown hK.1 hP 8 rfl rfl 3 (by decide) (hts (.fieldLink RX0 21 "BackLenses$Book" "atFirst" "[I") (List.mem_of_getElem? (i := 4) rfl)) (fun _ h9 => h9) rfl dX0_become_25 ?_
  refine lv_iconst (v := nI 0) hx hb dX0_become_28 (by decide) ?_
  refine lv_aload_n hx hb dX0_become_29 rfl (lv_at hl 0 rfl) ?_
  refine va_get (D := G.1) (ci := 0) (v := .ref ka) (C := RX0) (T := TX0) (N := 7) hx hb hts hin0 hown hK.1 hP 0 rfl rfl 3 (by decide) (hts (.fieldLink RX0 21 "BackLenses$Book" "atFirst" "[I") (List.mem_of_getElem? (i := 4) rfl)) (fun _ h9 => h9) rfl dX0_become_30 ?_
  refine lv_iconst (v := nI 0) hx hb dX0_become_33 (by decide) ?_
  refine lv_bipush (v := nI 16) hx hb dX0_become_34 (by decide) ?_
  refine xn_copyi (n := 16) (sp := 0) (dp := 0) hx hb (by rw [hml]; exact hl.1.symm) hown (hts (.methodLink RX0 49 arraycopyName) (List.mem_of_getElem? (i := 5) rfl)) (hts (.native arraycopyName) (List.mem_of_getElem? (i := 6) rfl)) (hts (.static arraycopyName) (List.mem_of_getElem? (i := 7) rfl)) (hts (.initialized "java/lang/System") (List.mem_of_getElem? (i := 8) rfl)) hK hP hD hS 9 1 rfl rfl (by omega) (by omega) (by omega) (by omega) (Nat.le_of_ble_eq_true rfl) (Nat.le_of_ble_eq_true rfl) dX0_become_36 (fun H locs hP hD hS => ?_)
  replace hP : xP G [oC kb 0 [.int (nI wq), .int (nI hq), .int (nI laq), .ref ka, .ref kc, .ref kl, .ref kn], iA G ka 16 (va_cpy afq af 0 0 16), oC kc 2 [.ref kcn, .int (nI 10), .int (nI nc)], iA G kcn (3 * 10) fc, oC kl 2 [.ref kln, .int (nI 6), .int (nI nl)], iA G kln (3 * 6) fl, oC kn 2 [.ref knn, .int (nI 8), .int (nI ns)], iA G knn (3 * 8) fs, oC kbq 0 [.int (nI wq), .int (nI hq), .int (nI laq), .ref kaq, .ref kcq, .ref klq, .ref knq], iA G kaq 16 afq, oC kcq 2 [.ref kcnq, .int (nI 10), .int (nI ncq)], iA G kcnq (3 * 10) fcq, oC klq 2 [.ref klnq, .int (nI 6), .int (nI nlq)], iA G klnq (3 * 6) flq, oC knq 2 [.ref knnq, .int (nI 8), .int (nI nsq)], iA G knnq (3 * 8) fsq] H := hP
  replace hD : va_D (va_A (w_X0_become G kb ka kc kcn kl kln kn knn w h la af nc fc nl fl ns fs kbq kaq kcq kcnq klq klnq knq knnq wq hq laq afq ncq fcq nlq flq nsq fsq) ss.heap.size) [oC kb 0 [.int (nI wq), .int (nI hq), .int (nI laq), .ref ka, .ref kc, .ref kl, .ref kn], iA G ka 16 (va_cpy afq af 0 0 16), oC kc 2 [.ref kcn, .int (nI 10), .int (nI nc)], iA G kcn (3 * 10) fc, oC kl 2 [.ref kln, .int (nI 6), .int (nI nl)], iA G kln (3 * 6) fl, oC kn 2 [.ref knn, .int (nI 8), .int (nI ns)], iA G knn (3 * 8) fs, oC kbq 0 [.int (nI wq), .int (nI hq), .int (nI laq), .ref kaq, .ref kcq, .ref klq, .ref knq], iA G kaq 16 afq, oC kcq 2 [.ref kcnq, .int (nI 10), .int (nI ncq)], iA G kcnq (3 * 10) fcq, oC klq 2 [.ref klnq, .int (nI 6), .int (nI nlq)], iA G klnq (3 * 6) flq, oC knq 2 [.ref knnq, .int (nI 8), .int (nI nsq)], iA G knnq (3 * 8) fsq] := hD
  refine lv_aload_n hx hb dX0_become_39 rfl (lv_at hl 0 rfl) ?_
  refine va_get (D := G.1) (ci := 0) (v := .ref kc) (C := RX0) (T := TX0) (N := 7) hx hb hts hin0 hown hK.1 hP 0 rfl rfl 4 (by decide) (hts (.fieldLink RX0 30 "BackLenses$Book" "changes" "LBackLenses$Rows;") (List.mem_of_getElem? (i := 9) rfl)) (fun _ h9 => h9) rfl dX0_become_40 ?_
  refine lv_aload_n hx hb dX0_become_43 rfl (lv_at hl 1 rfl) ?_
  refine va_get (D := G.1) (ci := 0) (v := .ref kcq) (C := RX0) (T := TX0) (N := 7) hx hb hts hin0 hown hK.1 hP 8 rfl rfl 4 (by decide) (hts (.fieldLink RX0 30 "BackLenses$Book" "changes" "LBackLenses$Rows;") (List.mem_of_getElem? (i := 9) rfl)) (fun _ h9 => h9) rfl dX0_become_44 ?_
  refine xw_v (As := [.ref kcq]) (rest := []) (wr := [oC kb 0 [.int (nI wq), .int (nI hq), .int (nI laq), .ref ka, .ref kc, .ref kl, .ref kn], iA G ka 16 (va_cpy afq af 0 0 16), oC kl 2 [.ref kln, .int (nI 6), .int (nI nl)], iA G kln (3 * 6) fl, oC kn 2 [.ref knn, .int (nI 8), .int (nI ns)], iA G knn (3 * 8) fs, oC kbq 0 [.int (nI wq), .int (nI hq), .int (nI laq), .ref kaq, .ref kcq, .ref klq, .ref knq], iA G kaq 16 afq, oC klq 2 [.ref klnq, .int (nI 6), .int (nI nlq)], iA G klnq (3 * 6) flq, oC knq 2 [.ref knnq, .int (nI 8), .int (nI nsq)], iA G knnq (3 * 8) fsq]) ⟨hx, hb, hml, hown, hts⟩ (c_X2_become l G H.size kc kcn 10 nc fc kcq kcnq ncq fcq (by first | assumption | omega)) (cwV 1 hts gX0_become_X2_become rfl rfl rfl (by decide +kernel) ⟨Nat.le_of_ble_eq_true rfl, Nat.le_of_ble_eq_true rfl⟩) hK hP hD hS hA [2, 3, 10, 11] [0, 1, 4, 5, 6, 7, 8, 9, 12, 13, 14, 15] rfl rfl (by decide) (by decide) (by decide) rfl rfl rfl hl.1 rfl (Nat.le_of_ble_eq_true rfl) dX0_become_47 ⟨Nat.le_of_ble_eq_true rfl, Nat.le_of_ble_eq_true rfl⟩ (fun u H locs hp47 hP hD hS => ?_)
  obtain ⟨u0_47, rfl⟩ : ∃ z, z = u := ⟨_, rfl⟩
  try dsimp only at hp47 hP hD
  obtain rfl := hp47
  replace hP : xP G [oC kb 0 [.int (nI wq), .int (nI hq), .int (nI laq), .ref ka, .ref kc, .ref kl, .ref kn], iA G ka 16 (va_cpy afq af 0 0 16), oC kl 2 [.ref kln, .int (nI 6), .int (nI nl)], iA G kln (3 * 6) fl, oC kn 2 [.ref knn, .int (nI 8), .int (nI ns)], iA G knn (3 * 8) fs, oC kbq 0 [.int (nI wq), .int (nI hq), .int (nI laq), .ref kaq, .ref kcq, .ref klq, .ref knq], iA G kaq 16 afq, oC klq 2 [.ref klnq, .int (nI 6), .int (nI nlq)], iA G klnq (3 * 6) flq, oC knq 2 [.ref knnq, .int (nI 8), .int (nI nsq)], iA G knnq (3 * 8) fsq, oC kc 2 [.ref kcn, .int (nI 10), .int (nI ncq)], iA G kcn (3 * 10) (va_cpy fcq fc 0 0 (3 * 10)), oC kcq 2 [.ref kcnq, .int (nI 10), .int (nI ncq)], iA G kcnq (3 * 10) fcq] H := hP
  replace hD : va_D (va_A (w_X0_become G kb ka kc kcn kl kln kn knn w h la af nc fc nl fl ns fs kbq kaq kcq kcnq klq klnq knq knnq wq hq laq afq ncq fcq nlq flq nsq fsq) ss.heap.size) [oC kb 0 [.int (nI wq), .int (nI hq), .int (nI laq), .ref ka, .ref kc, .ref kl, .ref kn], iA G ka 16 (va_cpy afq af 0 0 16), oC kl 2 [.ref kln, .int (nI 6), .int (nI nl)], iA G kln (3 * 6) fl, oC kn 2 [.ref knn, .int (nI 8), .int (nI ns)], iA G knn (3 * 8) fs, oC kbq 0 [.int (nI wq), .int (nI hq), .int (nI laq), .ref kaq, .ref kcq, .ref klq, .ref knq], iA G kaq 16 afq, oC klq 2 [.ref klnq, .int (nI 6), .int (nI nlq)], iA G klnq (3 * 6) flq, oC knq 2 [.ref knnq, .int (nI 8), .int (nI nsq)], iA G knnq (3 * 8) fsq, oC kc 2 [.ref kcn, .int (nI 10), .int (nI ncq)], iA G kcn (3 * 10) (va_cpy fcq fc 0 0 (3 * 10)), oC kcq 2 [.ref kcnq, .int (nI 10), .int (nI ncq)], iA G kcnq (3 * 10) fcq] := hD
  refine lv_aload_n hx hb dX0_become_50 rfl (lv_at hl 0 rfl) ?_
  refine va_get (D := G.1) (ci := 0) (v := .ref kl) (C := RX0) (T := TX0) (N := 7) hx hb hts hin0 hown hK.1 hP 0 rfl rfl 5 (by decide) (hts (.fieldLink RX0 34 "BackLenses$Book" "lenses" "LBackLenses$Rows;") (List.mem_of_getElem? (i := 10) rfl)) (fun _ h9 => h9) rfl dX0_become_51 ?_
  refine lv_aload_n hx hb dX0_become_54 rfl (lv_at hl 1 rfl) ?_
  refine va_get (D := G.1) (ci := 0) (v := .ref klq) (C := RX0) (T := TX0) (N := 7) hx hb hts hin0 hown hK.1 hP 6 rfl rfl 5 (by decide) (hts (.fieldLink RX0 34 "BackLenses$Book" "lenses" "LBackLenses$Rows;") (List.mem_of_getElem? (i := 10) rfl)) (fun _ h9 => h9) rfl dX0_become_55 ?_
  refine xw_v (As := [.ref klq]) (rest := []) (wr := [oC kb 0 [.int (nI wq), .int (nI hq), .int (nI laq), .ref ka, .ref kc, .ref kl, .ref kn], iA G ka 16 (va_cpy afq af 0 0 16), oC kn 2 [.ref knn, .int (nI 8), .int (nI ns)], iA G knn (3 * 8) fs, oC kbq 0 [.int (nI wq), .int (nI hq), .int (nI laq), .ref kaq, .ref kcq, .ref klq, .ref knq], iA G kaq 16 afq, oC knq 2 [.ref knnq, .int (nI 8), .int (nI nsq)], iA G knnq (3 * 8) fsq, oC kc 2 [.ref kcn, .int (nI 10), .int (nI ncq)], iA G kcn (3 * 10) (va_cpy fcq fc 0 0 (3 * 10)), oC kcq 2 [.ref kcnq, .int (nI 10), .int (nI ncq)], iA G kcnq (3 * 10) fcq]) ⟨hx, hb, hml, hown, hts⟩ (c_X2_become l G H.size kl kln 6 nl fl klq klnq nlq flq (by first | assumption | omega)) (cwV 1 hts gX0_become_X2_become rfl rfl rfl (by decide +kernel) ⟨Nat.le_of_ble_eq_true rfl, Nat.le_of_ble_eq_true rfl⟩) hK hP hD hS hA [2, 3, 8, 9] [0, 1, 4, 5, 6, 7, 10, 11, 12, 13, 14, 15] rfl rfl (by decide) (by decide) (by decide) rfl rfl rfl hl.1 rfl (Nat.le_of_ble_eq_true rfl) dX0_become_58 ⟨Nat.le_of_ble_eq_true rfl, Nat.le_of_ble_eq_true rfl⟩ (fun u H locs hp58 hP hD hS => ?_)
  obtain ⟨u0_58, rfl⟩ : ∃ z, z = u := ⟨_, rfl⟩
  try dsimp only at hp58 hP hD
  obtain rfl := hp58
  replace hP : xP G [oC kb 0 [.int (nI wq), .int (nI hq), .int (nI laq), .ref ka, .ref kc, .ref kl, .ref kn], iA G ka 16 (va_cpy afq af 0 0 16), oC kn 2 [.ref knn, .int (nI 8), .int (nI ns)], iA G knn (3 * 8) fs, oC kbq 0 [.int (nI wq), .int (nI hq), .int (nI laq), .ref kaq, .ref kcq, .ref klq, .ref knq], iA G kaq 16 afq, oC knq 2 [.ref knnq, .int (nI 8), .int (nI nsq)], iA G knnq (3 * 8) fsq, oC kc 2 [.ref kcn, .int (nI 10), .int (nI ncq)], iA G kcn (3 * 10) (va_cpy fcq fc 0 0 (3 * 10)), oC kcq 2 [.ref kcnq, .int (nI 10), .int (nI ncq)], iA G kcnq (3 * 10) fcq, oC kl 2 [.ref kln, .int (nI 6), .int (nI nlq)], iA G kln (3 * 6) (va_cpy flq fl 0 0 (3 * 6)), oC klq 2 [.ref klnq, .int (nI 6), .int (nI nlq)], iA G klnq (3 * 6) flq] H := hP
  replace hD : va_D (va_A (w_X0_become G kb ka kc kcn kl kln kn knn w h la af nc fc nl fl ns fs kbq kaq kcq kcnq klq klnq knq knnq wq hq laq afq ncq fcq nlq flq nsq fsq) ss.heap.size) [oC kb 0 [.int (nI wq), .int (nI hq), .int (nI laq), .ref ka, .ref kc, .ref kl, .ref kn], iA G ka 16 (va_cpy afq af 0 0 16), oC kn 2 [.ref knn, .int (nI 8), .int (nI ns)], iA G knn (3 * 8) fs, oC kbq 0 [.int (nI wq), .int (nI hq), .int (nI laq), .ref kaq, .ref kcq, .ref klq, .ref knq], iA G kaq 16 afq, oC knq 2 [.ref knnq, .int (nI 8), .int (nI nsq)], iA G knnq (3 * 8) fsq, oC kc 2 [.ref kcn, .int (nI 10), .int (nI ncq)], iA G kcn (3 * 10) (va_cpy fcq fc 0 0 (3 * 10)), oC kcq 2 [.ref kcnq, .int (nI 10), .int (nI ncq)], iA G kcnq (3 * 10) fcq, oC kl 2 [.ref kln, .int (nI 6), .int (nI nlq)], iA G kln (3 * 6) (va_cpy flq fl 0 0 (3 * 6)), oC klq 2 [.ref klnq, .int (nI 6), .int (nI nlq)], iA G klnq (3 * 6) flq] := hD
  refine lv_aload_n hx hb dX0_become_61 rfl (lv_at hl 0 rfl) ?_
  refine va_get (D := G.1) (ci := 0) (v := .ref kn) (C := RX0) (T := TX0) (N := 7) hx hb hts hin0 hown hK.1 hP 0 rfl rfl 6 (by decide) (hts (.fieldLink RX0 37 "BackLenses$Book" "shown" "LBackLenses$Rows;") (List.mem_of_getElem? (i := 11) rfl)) (fun _ h9 => h9) rfl dX0_become_62 ?_
  refine lv_aload_n hx hb dX0_become_65 rfl (lv_at hl 1 rfl) ?_
  refine va_get (D := G.1) (ci := 0) (v := .ref knq) (C := RX0) (T := TX0) (N := 7) hx hb hts hin0 hown hK.1 hP 4 rfl rfl 6 (by decide) (hts (.fieldLink RX0 37 "BackLenses$Book" "shown" "LBackLenses$Rows;") (List.mem_of_getElem? (i := 11) rfl)) (fun _ h9 => h9) rfl dX0_become_66 ?_
  refine xw_v (As := [.ref knq]) (rest := []) (wr := [oC kb 0 [.int (nI wq), .int (nI hq), .int (nI laq), .ref ka, .ref kc, .ref kl, .ref kn], iA G ka 16 (va_cpy afq af 0 0 16), oC kbq 0 [.int (nI wq), .int (nI hq), .int (nI laq), .ref kaq, .ref kcq, .ref klq, .ref knq], iA G kaq 16 afq, oC kc 2 [.ref kcn, .int (nI 10), .int (nI ncq)], iA G kcn (3 * 10) (va_cpy fcq fc 0 0 (3 * 10)), oC kcq 2 [.ref kcnq, .int (nI 10), .int (nI ncq)], iA G kcnq (3 * 10) fcq, oC kl 2 [.ref kln, .int (nI 6), .int (nI nlq)], iA G kln (3 * 6) (va_cpy flq fl 0 0 (3 * 6)), oC klq 2 [.ref klnq, .int (nI 6), .int (nI nlq)], iA G klnq (3 * 6) flq]) ⟨hx, hb, hml, hown, hts⟩ (c_X2_become l G H.size kn knn 8 ns fs knq knnq nsq fsq (by first | assumption | omega)) (cwV 1 hts gX0_become_X2_become rfl rfl rfl (by decide +kernel) ⟨Nat.le_of_ble_eq_true rfl, Nat.le_of_ble_eq_true rfl⟩) hK hP hD hS hA [2, 3, 6, 7] [0, 1, 4, 5, 8, 9, 10, 11, 12, 13, 14, 15] rfl rfl (by decide) (by decide) (by decide) rfl rfl rfl hl.1 rfl (Nat.le_of_ble_eq_true rfl) dX0_become_69 ⟨Nat.le_of_ble_eq_true rfl, Nat.le_of_ble_eq_true rfl⟩ (fun u H locs hp69 hP hD hS => ?_)
  obtain ⟨u0_69, rfl⟩ : ∃ z, z = u := ⟨_, rfl⟩
  try dsimp only at hp69 hP hD
  obtain rfl := hp69
  replace hP : xP G [oC kb 0 [.int (nI wq), .int (nI hq), .int (nI laq), .ref ka, .ref kc, .ref kl, .ref kn], iA G ka 16 (va_cpy afq af 0 0 16), oC kbq 0 [.int (nI wq), .int (nI hq), .int (nI laq), .ref kaq, .ref kcq, .ref klq, .ref knq], iA G kaq 16 afq, oC kc 2 [.ref kcn, .int (nI 10), .int (nI ncq)], iA G kcn (3 * 10) (va_cpy fcq fc 0 0 (3 * 10)), oC kcq 2 [.ref kcnq, .int (nI 10), .int (nI ncq)], iA G kcnq (3 * 10) fcq, oC kl 2 [.ref kln, .int (nI 6), .int (nI nlq)], iA G kln (3 * 6) (va_cpy flq fl 0 0 (3 * 6)), oC klq 2 [.ref klnq, .int (nI 6), .int (nI nlq)], iA G klnq (3 * 6) flq, oC kn 2 [.ref knn, .int (nI 8), .int (nI nsq)], iA G knn (3 * 8) (va_cpy fsq fs 0 0 (3 * 8)), oC knq 2 [.ref knnq, .int (nI 8), .int (nI nsq)], iA G knnq (3 * 8) fsq] H := hP
  replace hD : va_D (va_A (w_X0_become G kb ka kc kcn kl kln kn knn w h la af nc fc nl fl ns fs kbq kaq kcq kcnq klq klnq knq knnq wq hq laq afq ncq fcq nlq flq nsq fsq) ss.heap.size) [oC kb 0 [.int (nI wq), .int (nI hq), .int (nI laq), .ref ka, .ref kc, .ref kl, .ref kn], iA G ka 16 (va_cpy afq af 0 0 16), oC kbq 0 [.int (nI wq), .int (nI hq), .int (nI laq), .ref kaq, .ref kcq, .ref klq, .ref knq], iA G kaq 16 afq, oC kc 2 [.ref kcn, .int (nI 10), .int (nI ncq)], iA G kcn (3 * 10) (va_cpy fcq fc 0 0 (3 * 10)), oC kcq 2 [.ref kcnq, .int (nI 10), .int (nI ncq)], iA G kcnq (3 * 10) fcq, oC kl 2 [.ref kln, .int (nI 6), .int (nI nlq)], iA G kln (3 * 6) (va_cpy flq fl 0 0 (3 * 6)), oC klq 2 [.ref klnq, .int (nI 6), .int (nI nlq)], iA G klnq (3 * 6) flq, oC kn 2 [.ref knn, .int (nI 8), .int (nI nsq)], iA G knn (3 * 8) (va_cpy fsq fs 0 0 (3 * 8)), oC knq 2 [.ref knnq, .int (nI 8), .int (nI nsq)], iA G knnq (3 * 8) fsq] := hD
  have hP := hP.sub (ws' := [oC kb 0 [.int (nI wq), .int (nI hq), .int (nI laq), .ref ka, .ref kc, .ref kl, .ref kn], iA G ka 16 (va_cpy afq af 0 0 16), oC kc 2 [.ref kcn, .int (nI 10), .int (nI ncq)], iA G kcn (3 * 10) (va_cpy fcq fc 0 0 (3 * 10)), oC kl 2 [.ref kln, .int (nI 6), .int (nI nlq)], iA G kln (3 * 6) (va_cpy flq fl 0 0 (3 * 6)), oC kn 2 [.ref knn, .int (nI 8), .int (nI nsq)], iA G knn (3 * 8) (va_cpy fsq fs 0 0 (3 * 8)), oC kbq 0 [.int (nI wq), .int (nI hq), .int (nI laq), .ref kaq, .ref kcq, .ref klq, .ref knq], iA G kaq 16 afq, oC kcq 2 [.ref kcnq, .int (nI 10), .int (nI ncq)], iA G kcnq (3 * 10) fcq, oC klq 2 [.ref klnq, .int (nI 6), .int (nI nlq)], iA G klnq (3 * 6) flq, oC knq 2 [.ref knnq, .int (nI 8), .int (nI nsq)], iA G knnq (3 * 8) fsq]) [0, 1, 4, 5, 8, 9, 12, 13, 2, 3, 6, 7, 10, 11, 14, 15] rfl
  have hD := hD.sub (ws' := [oC kb 0 [.int (nI wq), .int (nI hq), .int (nI laq), .ref ka, .ref kc, .ref kl, .ref kn], iA G ka 16 (va_cpy afq af 0 0 16), oC kc 2 [.ref kcn, .int (nI 10), .int (nI ncq)], iA G kcn (3 * 10) (va_cpy fcq fc 0 0 (3 * 10)), oC kl 2 [.ref kln, .int (nI 6), .int (nI nlq)], iA G kln (3 * 6) (va_cpy flq fl 0 0 (3 * 6)), oC kn 2 [.ref knn, .int (nI 8), .int (nI nsq)], iA G knn (3 * 8) (va_cpy fsq fs 0 0 (3 * 8)), oC kbq 0 [.int (nI wq), .int (nI hq), .int (nI laq), .ref kaq, .ref kcq, .ref klq, .ref knq], iA G kaq 16 afq, oC kcq 2 [.ref kcnq, .int (nI 10), .int (nI ncq)], iA G kcnq (3 * 10) fcq, oC klq 2 [.ref klnq, .int (nI 6), .int (nI nlq)], iA G klnq (3 * 6) flq, oC knq 2 [.ref knnq, .int (nI 8), .int (nI nsq)], iA G knnq (3 * 8) fsq]) [0, 1, 4, 5, 8, 9, 12, 13, 2, 3, 6, 7, 10, 11, 14, 15] (by decide) rfl
  refine W.vret hx hb hr (fun t ht hW => ⟨⟨(va_cpy afq af 0 0 16, (va_cpy fcq fc 0 0 (3 * 10)), (va_cpy flq fl 0 0 (3 * 6)), (va_cpy fsq fs 0 0 (3 * 8))), rfl, ?_, by rw [ht]; exact hP, hD⟩, hS.F ht⟩) hS.2.2 dX0_become_72
  try dsimp only
  exact ⟨rfl, rfl, rfl, rfl⟩

abbrev w_X0_empty (G : XG) (kb ka kc kcn kl kln kn knn : Nat) (w h la : Nat) (af : Nat → Int32) (nc : Nat) (fc : Nat → Int32) (nl : Nat) (fl : Nat → Int32) (ns : Nat) (fs : Nat → Int32) : va_W := [oC kb 0 [.int (nI w), .int (nI h), .int (nI la), .ref ka, .ref kc, .ref kl, .ref kn], iA G ka 16 af, oC kc 2 [.ref kcn, .int (nI 10), .int (nI nc)], iA G kcn (3 * 10) fc, oC kl 2 [.ref kln, .int (nI 6), .int (nI nl)], iA G kln (3 * 6) fl, oC kn 2 [.ref knn, .int (nI 8), .int (nI ns)], iA G knn (3 * 8) fs]
abbrev Q_X0_empty (G : XG) (sz : Nat) (kb ka kc kcn kl kln kn knn : Nat) (w h la : Nat) (af : Nat → Int32) (nc : Nat) (fc : Nat → Int32) (nl : Nat) (fl : Nat → Int32) (ns : Nat) (fs : Nat → Int32) : Array Value → State → Outcome → State → Prop := (va_Qv (fun (u : (Nat → Int32)) => (∀ j, j < 16 → u j = nI 0)) (xWb G sz (w_X0_empty G kb ka kc kcn kl kln kn knn w h la af nc fc nl fl ns fs) (fun u : (Nat → Int32) => [oC kb 0 [.int (nI 3), .int (nI 3), .int (nI 9), .ref ka, .ref kc, .ref kl, .ref kn], iA G ka 16 u, oC kc 2 [.ref kcn, .int (nI 10), .int (nI 0)], iA G kcn (3 * 10) fc, oC kl 2 [.ref kln, .int (nI 6), .int (nI 0)], iA G kln (3 * 6) fl, oC kn 2 [.ref knn, .int (nI 8), .int (nI 0)], iA G knn (3 * 8) fs])) (va_A (w_X0_empty G kb ka kc kcn kl kln kn knn w h la af nc fc nl fl ns fs) sz))
set_option maxHeartbeats 4000000 in
set_option maxRecDepth 100000 in
theorem c_X0_empty (l : Launch) (G : XG) (sz : Nat) (kb ka kc kcn kl kln kn knn : Nat) (w h la : Nat) (af : Nat → Int32) (nc : Nat) (fc : Nat → Int32) (nl : Nat) (fl : Nat → Int32) (ns : Nat) (fs : Nat → Int32)  : Met l yX0_empty wsX0_empty ({ frames := 1, cells := 0, slots := 0, locals := 23 } : Room) (va_Pc [.ref kb] (xWp G sz (w_X0_empty G kb ka kc kcn kl kln kn knn w h la af nc fc nl fl ns fs))) (Q_X0_empty G sz kb ka kc kcn kl kln kn knn w h la af nc fc nl fl ns fs) 0 0 (va_A (w_X0_empty G kb ka kc kcn kl kln kn knn w h la af nc fc nl fl ns fs) sz) := by
  refine Met.ofW (cc := cX0_empty) (maxL := 1) (ret := none) (by decide) rfl ?_
  intro pp ee ss mm aa below mt cd s₁ BB hml hv
  obtain ⟨rfl, hsz, hP, hK, hD0⟩ := hv
  have hx := BB.exec
  have hb := BB.bytes
  have hr := BB.returns
  have hts := atoms_spec (ws := wsX0_empty) BB.pre
  have hown : ss.vm.findClass RX0 = some mm.cls := findClass_of_methodNamed BB.named
  have hlocks := BB.notSynchronized
  subst hsz
  have hD := hD0.self (sz := ss.heap.size)
  have hA : ∀ q : Nat, ss.heap.size ≤ q → va_A (w_X0_empty G kb ka kc kcn kl kln kn knn w h la af nc fc nl fl ns fs) ss.heap.size q := fun q h => Or.inr h
  have hS : va_S (va_A (w_X0_empty G kb ka kc kcn kl kln kn knn w h la af nc fc nl fl ns fs) ss.heap.size) ss.heap ss.heap [] := va_S.rf
  replace hD : va_D (va_A (w_X0_empty G kb ka kc kcn kl kln kn knn w h la af nc fc nl fl ns fs) ss.heap.size) [oC kb 0 [.int (nI w), .int (nI h), .int (nI la), .ref ka, .ref kc, .ref kl, .ref kn], iA G ka 16 af, oC kc 2 [.ref kcn, .int (nI 10), .int (nI nc)], iA G kcn (3 * 10) fc, oC kl 2 [.ref kln, .int (nI 6), .int (nI nl)], iA G kln (3 * 6) fl, oC kn 2 [.ref knn, .int (nI 8), .int (nI ns)], iA G knn (3 * 8) fs] := hD
  replace hP : xP G [oC kb 0 [.int (nI w), .int (nI h), .int (nI la), .ref ka, .ref kc, .ref kl, .ref kn], iA G ka 16 af, oC kc 2 [.ref kcn, .int (nI 10), .int (nI nc)], iA G kcn (3 * 10) fc, oC kl 2 [.ref kln, .int (nI 6), .int (nI nl)], iA G kln (3 * 6) fl, oC kn 2 [.ref knn, .int (nI 8), .int (nI ns)], iA G knn (3 * 8) fs] ss.heap := hP
  have hin0 : ∀ w ∈ u_ws RX0 TX0 7, w ∈ wsX0_empty := fun w h => List.mem_cons_of_mem _ (List.mem_append_left _ (List.mem_append_right _ h))
  have hin2 : ∀ w ∈ u_ws RX2 TX2 3, w ∈ wsX0_empty := fun w h => List.mem_cons_of_mem _ (List.mem_append_right _ h)
  have hl := lv_entry ([.ref kb]) (n := 1) (Nat.le_of_ble_eq_true rfl)
  rw [lg_entry_eq]
  generalize (lg_sl ([.ref kb]) ++ List.replicate (1 - (lg_sl ([.ref kb])).length) Slot.unset).toArray = ls at hl ⊢
  replace hl : lv_has ls 1 [(0, .ref kb)] := hl
  refine lv_aload_n hx hb dX0_empty_0 rfl (lv_at hl 0 rfl) ?_
  refine lv_iconst (v := nI 3) hx hb dX0_empty_1 (by decide) ?_
  refine va_put (D := G.1) (ci := 0) (v := .int (nI 3)) (ty := .int) (C := RX0) (T := TX0) (N := 7) hx hb hts hin0 tyX0 tyX0_ok nmX0 hown hK.1 hP hD hS 0 rfl rfl 0 (by decide) (hts (.fieldLink RX0 9 "BackLenses$Book" "wide" "I") (List.mem_of_getElem? (i := 1) rfl)) (fun _ h9 => h9) rfl (by decide +kernel) rfl rfl (Nat.le_of_ble_eq_true rfl) dX0_empty_2 (fun H locs hP hD hS => ?_)
  replace hP : xP G [oC kb 0 [.int (nI 3), .int (nI h), .int (nI la), .ref ka, .ref kc, .ref kl, .ref kn], iA G ka 16 af, oC kc 2 [.ref kcn, .int (nI 10), .int (nI nc)], iA G kcn (3 * 10) fc, oC kl 2 [.ref kln, .int (nI 6), .int (nI nl)], iA G kln (3 * 6) fl, oC kn 2 [.ref knn, .int (nI 8), .int (nI ns)], iA G knn (3 * 8) fs] H := hP
  replace hD : va_D (va_A (w_X0_empty G kb ka kc kcn kl kln kn knn w h la af nc fc nl fl ns fs) ss.heap.size) [oC kb 0 [.int (nI 3), .int (nI h), .int (nI la), .ref ka, .ref kc, .ref kl, .ref kn], iA G ka 16 af, oC kc 2 [.ref kcn, .int (nI 10), .int (nI nc)], iA G kcn (3 * 10) fc, oC kl 2 [.ref kln, .int (nI 6), .int (nI nl)], iA G kln (3 * 6) fl, oC kn 2 [.ref knn, .int (nI 8), .int (nI ns)], iA G knn (3 * 8) fs] := hD
  refine lv_aload_n hx hb dX0_empty_5 rfl (lv_at hl 0 rfl) ?_
  refine lv_iconst (v := nI 3) hx hb dX0_empty_6 (by decide) ?_
  refine va_put (D := G.1) (ci := 0) (v := .int (nI 3)) (ty := .int) (C := RX0) (T := TX0) (N := 7) hx hb hts hin0 tyX0 tyX0_ok nmX0 hown hK.1 hP hD hS 0 rfl rfl 1 (by decide) (hts (.fieldLink RX0 15 "BackLenses$Book" "high" "I") (List.mem_of_getElem? (i := 2) rfl)) (fun _ h9 => h9) rfl (by decide +kernel) rfl rfl (Nat.le_of_ble_eq_true rfl) dX0_empty_7 (fun H locs hP hD hS => ?_)
  replace hP : xP G [oC kb 0 [.int (nI 3), .int (nI 3), .int (nI la), .ref ka, .ref kc, .ref kl, .ref kn], iA G ka 16 af, oC kc 2 [.ref kcn, .int (nI 10), .int (nI nc)], iA G kcn (3 * 10) fc, oC kl 2 [.ref kln, .int (nI 6), .int (nI nl)], iA G kln (3 * 6) fl, oC kn 2 [.ref knn, .int (nI 8), .int (nI ns)], iA G knn (3 * 8) fs] H := hP
  replace hD : va_D (va_A (w_X0_empty G kb ka kc kcn kl kln kn knn w h la af nc fc nl fl ns fs) ss.heap.size) [oC kb 0 [.int (nI 3), .int (nI 3), .int (nI la), .ref ka, .ref kc, .ref kl, .ref kn], iA G ka 16 af, oC kc 2 [.ref kcn, .int (nI 10), .int (nI nc)], iA G kcn (3 * 10) fc, oC kl 2 [.ref kln, .int (nI 6), .int (nI nl)], iA G kln (3 * 6) fl, oC kn 2 [.ref knn, .int (nI 8), .int (nI ns)], iA G knn (3 * 8) fs] := hD
  refine lv_aload_n hx hb dX0_empty_10 rfl (lv_at hl 0 rfl) ?_
  refine lv_bipush (v := nI 9) hx hb dX0_empty_11 (by decide) ?_
  refine va_put (D := G.1) (ci := 0) (v := .int (nI 9)) (ty := .int) (C := RX0) (T := TX0) (N := 7) hx hb hts hin0 tyX0 tyX0_ok nmX0 hown hK.1 hP hD hS 0 rfl rfl 2 (by decide) (hts (.fieldLink RX0 18 "BackLenses$Book" "last" "I") (List.mem_of_getElem? (i := 3) rfl)) (fun _ h9 => h9) rfl (by decide +kernel) rfl rfl (Nat.le_of_ble_eq_true rfl) dX0_empty_13 (fun H locs hP hD hS => ?_)
  replace hP : xP G [oC kb 0 [.int (nI 3), .int (nI 3), .int (nI 9), .ref ka, .ref kc, .ref kl, .ref kn], iA G ka 16 af, oC kc 2 [.ref kcn, .int (nI 10), .int (nI nc)], iA G kcn (3 * 10) fc, oC kl 2 [.ref kln, .int (nI 6), .int (nI nl)], iA G kln (3 * 6) fl, oC kn 2 [.ref knn, .int (nI 8), .int (nI ns)], iA G knn (3 * 8) fs] H := hP
  replace hD : va_D (va_A (w_X0_empty G kb ka kc kcn kl kln kn knn w h la af nc fc nl fl ns fs) ss.heap.size) [oC kb 0 [.int (nI 3), .int (nI 3), .int (nI 9), .ref ka, .ref kc, .ref kl, .ref kn], iA G ka 16 af, oC kc 2 [.ref kcn, .int (nI 10), .int (nI nc)], iA G kcn (3 * 10) fc, oC kl 2 [.ref kln, .int (nI 6), .int (nI nl)], iA G kln (3 * 6) fl, oC kn 2 [.ref knn, .int (nI 8), .int (nI ns)], iA G knn (3 * 8) fs] := hD
  refine lv_aload_n hx hb dX0_empty_16 rfl (lv_at hl 0 rfl) ?_
  refine va_get (D := G.1) (ci := 0) (v := .ref ka) (C := RX0) (T := TX0) (N := 7) hx hb hts hin0 hown hK.1 hP 0 rfl rfl 3 (by decide) (hts (.fieldLink RX0 21 "BackLenses$Book" "atFirst" "[I") (List.mem_of_getElem? (i := 4) rfl)) (fun _ h9 => h9) rfl dX0_empty_17 ?_
  refine lv_iconst (v := nI 0) hx hb dX0_empty_20 (by decide) ?_
  refine xws_v (As := [.ref ka, .int (nI 0)]) (rest := []) (wr := [oC kb 0 [.int (nI 3), .int (nI 3), .int (nI 9), .ref ka, .ref kc, .ref kl, .ref kn], oC kc 2 [.ref kcn, .int (nI 10), .int (nI nc)], iA G kcn (3 * 10) fc, oC kl 2 [.ref kln, .int (nI 6), .int (nI nl)], iA G kln (3 * 6) fl, oC kn 2 [.ref knn, .int (nI 8), .int (nI ns)], iA G knn (3 * 8) fs]) ⟨hx, hb, hml, hown, hts⟩ (c_J7_fill_53178 l G H.size ka 16 af (nI 0) (by first | assumption | omega)) (va_cwS 2 hts gX0_empty_J7_fill_53178 rfl rfl rfl (by decide +kernel) ⟨Nat.le_of_ble_eq_true rfl, Nat.le_of_ble_eq_true rfl⟩) hK hP hD hS hA [1] [0, 2, 3, 4, 5, 6, 7] rfl rfl (by decide) (by decide) (by decide) rfl hl.1 rfl (Nat.le_of_ble_eq_true rfl) dX0_empty_21 ⟨Nat.le_of_ble_eq_true rfl, Nat.le_of_ble_eq_true rfl⟩ (fun u H locs hp21 hP hD hS => ?_)
  obtain ⟨f2_21, rfl⟩ : ∃ z, z = u := ⟨_, rfl⟩
  try dsimp only at hp21 hP hD
  have he21 := hp21
  replace hP : xP G [oC kb 0 [.int (nI 3), .int (nI 3), .int (nI 9), .ref ka, .ref kc, .ref kl, .ref kn], oC kc 2 [.ref kcn, .int (nI 10), .int (nI nc)], iA G kcn (3 * 10) fc, oC kl 2 [.ref kln, .int (nI 6), .int (nI nl)], iA G kln (3 * 6) fl, oC kn 2 [.ref knn, .int (nI 8), .int (nI ns)], iA G knn (3 * 8) fs, iA G ka 16 f2_21] H := hP
  replace hD : va_D (va_A (w_X0_empty G kb ka kc kcn kl kln kn knn w h la af nc fc nl fl ns fs) ss.heap.size) [oC kb 0 [.int (nI 3), .int (nI 3), .int (nI 9), .ref ka, .ref kc, .ref kl, .ref kn], oC kc 2 [.ref kcn, .int (nI 10), .int (nI nc)], iA G kcn (3 * 10) fc, oC kl 2 [.ref kln, .int (nI 6), .int (nI nl)], iA G kln (3 * 6) fl, oC kn 2 [.ref knn, .int (nI 8), .int (nI ns)], iA G knn (3 * 8) fs, iA G ka 16 f2_21] := hD
  refine lv_aload_n hx hb dX0_empty_24 rfl (lv_at hl 0 rfl) ?_
  refine va_get (D := G.1) (ci := 0) (v := .ref kc) (C := RX0) (T := TX0) (N := 7) hx hb hts hin0 hown hK.1 hP 0 rfl rfl 4 (by decide) (hts (.fieldLink RX0 30 "BackLenses$Book" "changes" "LBackLenses$Rows;") (List.mem_of_getElem? (i := 5) rfl)) (fun _ h9 => h9) rfl dX0_empty_25 ?_
  refine lv_iconst (v := nI 0) hx hb dX0_empty_28 (by decide) ?_
  refine va_putN (D := G.1) (ci := 2) (v := .int (nI 0)) (ty := .int) (C := RX2) (T := TX2) (N := 3) hx hb hts hin2 tyX2 tyX2_ok nmX2 hown hK.1 hP hD hS 1 rfl rfl 2 (by decide) (va_Nw.use rfl (hK.2 (Cond.fieldLinkNest "BackLenses$Book" (46 : Nat) "BackLenses$Rows" "size" "I" "BackLenses") (List.mem_of_getElem? (i := 0) rfl))) (fun _ h9 => h9) rfl (by decide +kernel) rfl rfl (Nat.le_of_ble_eq_true rfl) dX0_empty_29 (fun H locs hP hD hS => ?_)
  replace hP : xP G [oC kb 0 [.int (nI 3), .int (nI 3), .int (nI 9), .ref ka, .ref kc, .ref kl, .ref kn], oC kc 2 [.ref kcn, .int (nI 10), .int (nI 0)], iA G kcn (3 * 10) fc, oC kl 2 [.ref kln, .int (nI 6), .int (nI nl)], iA G kln (3 * 6) fl, oC kn 2 [.ref knn, .int (nI 8), .int (nI ns)], iA G knn (3 * 8) fs, iA G ka 16 f2_21] H := hP
  replace hD : va_D (va_A (w_X0_empty G kb ka kc kcn kl kln kn knn w h la af nc fc nl fl ns fs) ss.heap.size) [oC kb 0 [.int (nI 3), .int (nI 3), .int (nI 9), .ref ka, .ref kc, .ref kl, .ref kn], oC kc 2 [.ref kcn, .int (nI 10), .int (nI 0)], iA G kcn (3 * 10) fc, oC kl 2 [.ref kln, .int (nI 6), .int (nI nl)], iA G kln (3 * 6) fl, oC kn 2 [.ref knn, .int (nI 8), .int (nI ns)], iA G knn (3 * 8) fs, iA G ka 16 f2_21] := hD
  refine lv_aload_n hx hb dX0_empty_32 rfl (lv_at hl 0 rfl) ?_
  refine va_get (D := G.1) (ci := 0) (v := .ref kl) (C := RX0) (T := TX0) (N := 7) hx hb hts hin0 hown hK.1 hP 0 rfl rfl 5 (by decide) (hts (.fieldLink RX0 34 "BackLenses$Book" "lenses" "LBackLenses$Rows;") (List.mem_of_getElem? (i := 6) rfl)) (fun _ h9 => h9) rfl dX0_empty_33 ?_
  refine lv_iconst (v := nI 0) hx hb dX0_empty_36 (by decide) ?_
  refine va_putN (D := G.1) (ci := 2) (v := .int (nI 0)) (ty := .int) (C := RX2) (T := TX2) (N := 3) hx hb hts hin2 tyX2 tyX2_ok nmX2 hown hK.1 hP hD hS 3 rfl rfl 2 (by decide) (va_Nw.use rfl (hK.2 (Cond.fieldLinkNest "BackLenses$Book" (46 : Nat) "BackLenses$Rows" "size" "I" "BackLenses") (List.mem_of_getElem? (i := 0) rfl))) (fun _ h9 => h9) rfl (by decide +kernel) rfl rfl (Nat.le_of_ble_eq_true rfl) dX0_empty_37 (fun H locs hP hD hS => ?_)
  replace hP : xP G [oC kb 0 [.int (nI 3), .int (nI 3), .int (nI 9), .ref ka, .ref kc, .ref kl, .ref kn], oC kc 2 [.ref kcn, .int (nI 10), .int (nI 0)], iA G kcn (3 * 10) fc, oC kl 2 [.ref kln, .int (nI 6), .int (nI 0)], iA G kln (3 * 6) fl, oC kn 2 [.ref knn, .int (nI 8), .int (nI ns)], iA G knn (3 * 8) fs, iA G ka 16 f2_21] H := hP
  replace hD : va_D (va_A (w_X0_empty G kb ka kc kcn kl kln kn knn w h la af nc fc nl fl ns fs) ss.heap.size) [oC kb 0 [.int (nI 3), .int (nI 3), .int (nI 9), .ref ka, .ref kc, .ref kl, .ref kn], oC kc 2 [.ref kcn, .int (nI 10), .int (nI 0)], iA G kcn (3 * 10) fc, oC kl 2 [.ref kln, .int (nI 6), .int (nI 0)], iA G kln (3 * 6) fl, oC kn 2 [.ref knn, .int (nI 8), .int (nI ns)], iA G knn (3 * 8) fs, iA G ka 16 f2_21] := hD
  refine lv_aload_n hx hb dX0_empty_40 rfl (lv_at hl 0 rfl) ?_
  refine va_get (D := G.1) (ci := 0) (v := .ref kn) (C := RX0) (T := TX0) (N := 7) hx hb hts hin0 hown hK.1 hP 0 rfl rfl 6 (by decide) (hts (.fieldLink RX0 37 "BackLenses$Book" "shown" "LBackLenses$Rows;") (List.mem_of_getElem? (i := 7) rfl)) (fun _ h9 => h9) rfl dX0_empty_41 ?_
  refine lv_iconst (v := nI 0) hx hb dX0_empty_44 (by decide) ?_
  refine va_putN (D := G.1) (ci := 2) (v := .int (nI 0)) (ty := .int) (C := RX2) (T := TX2) (N := 3) hx hb hts hin2 tyX2 tyX2_ok nmX2 hown hK.1 hP hD hS 5 rfl rfl 2 (by decide) (va_Nw.use rfl (hK.2 (Cond.fieldLinkNest "BackLenses$Book" (46 : Nat) "BackLenses$Rows" "size" "I" "BackLenses") (List.mem_of_getElem? (i := 0) rfl))) (fun _ h9 => h9) rfl (by decide +kernel) rfl rfl (Nat.le_of_ble_eq_true rfl) dX0_empty_45 (fun H locs hP hD hS => ?_)
  replace hP : xP G [oC kb 0 [.int (nI 3), .int (nI 3), .int (nI 9), .ref ka, .ref kc, .ref kl, .ref kn], oC kc 2 [.ref kcn, .int (nI 10), .int (nI 0)], iA G kcn (3 * 10) fc, oC kl 2 [.ref kln, .int (nI 6), .int (nI 0)], iA G kln (3 * 6) fl, oC kn 2 [.ref knn, .int (nI 8), .int (nI 0)], iA G knn (3 * 8) fs, iA G ka 16 f2_21] H := hP
  replace hD : va_D (va_A (w_X0_empty G kb ka kc kcn kl kln kn knn w h la af nc fc nl fl ns fs) ss.heap.size) [oC kb 0 [.int (nI 3), .int (nI 3), .int (nI 9), .ref ka, .ref kc, .ref kl, .ref kn], oC kc 2 [.ref kcn, .int (nI 10), .int (nI 0)], iA G kcn (3 * 10) fc, oC kl 2 [.ref kln, .int (nI 6), .int (nI 0)], iA G kln (3 * 6) fl, oC kn 2 [.ref knn, .int (nI 8), .int (nI 0)], iA G knn (3 * 8) fs, iA G ka 16 f2_21] := hD
  have hP := hP.sub (ws' := [oC kb 0 [.int (nI 3), .int (nI 3), .int (nI 9), .ref ka, .ref kc, .ref kl, .ref kn], iA G ka 16 f2_21, oC kc 2 [.ref kcn, .int (nI 10), .int (nI 0)], iA G kcn (3 * 10) fc, oC kl 2 [.ref kln, .int (nI 6), .int (nI 0)], iA G kln (3 * 6) fl, oC kn 2 [.ref knn, .int (nI 8), .int (nI 0)], iA G knn (3 * 8) fs]) [0, 7, 1, 2, 3, 4, 5, 6] rfl
  have hD := hD.sub (ws' := [oC kb 0 [.int (nI 3), .int (nI 3), .int (nI 9), .ref ka, .ref kc, .ref kl, .ref kn], iA G ka 16 f2_21, oC kc 2 [.ref kcn, .int (nI 10), .int (nI 0)], iA G kcn (3 * 10) fc, oC kl 2 [.ref kln, .int (nI 6), .int (nI 0)], iA G kln (3 * 6) fl, oC kn 2 [.ref knn, .int (nI 8), .int (nI 0)], iA G knn (3 * 8) fs]) [0, 7, 1, 2, 3, 4, 5, 6] (by decide) rfl
  refine W.vret hx hb hr (fun t ht hW => ⟨⟨(f2_21), rfl, ?_, by rw [ht]; exact hP, hD⟩, hS.F ht⟩) hS.2.2 dX0_empty_48
  exact he21

abbrev w_X3_isNothing (G : XG) (ks ksc : Nat) (ln sz0 : Int32) : va_W := [oC ks 3 [.ref ksc, .int ln, .int sz0]]
abbrev Q_X3_isNothing (G : XG) (ks ksc : Nat) (ln sz0 : Int32) : Array Value → State → Outcome → State → Prop := (xRi (fun r => r = xb (sz0 = (-1))))
set_option maxHeartbeats 4000000 in
set_option maxRecDepth 100000 in
theorem c_X3_isNothing (l : Launch) (G : XG) (ks ksc : Nat) (ln sz0 : Int32)  : Met l yX3_isNothing wsX3_isNothing ({ frames := 0, cells := 0, slots := 0, locals := 0 } : Room) (va_Pc [.ref ks] (xRp G (w_X3_isNothing G ks ksc ln sz0))) (Q_X3_isNothing G ks ksc ln sz0) 0 0 (fun _ => False) := by
  refine Met.ofW (cc := cX3_isNothing) (maxL := 1) (ret := (some .boolean)) (by decide) rfl ?_
  intro pp ee ss mm aa below mt cd s₁ BB hml hv
  obtain ⟨rfl, hP, hK⟩ := hv
  have hx := BB.exec
  have hb := BB.bytes
  have hr := BB.returns
  have hts := atoms_spec (ws := wsX3_isNothing) BB.pre
  have hown : ss.vm.findClass RX3 = some mm.cls := findClass_of_methodNamed BB.named
  have hlocks := BB.notSynchronized
  have hS : va_S (fun _ => False) ss.heap ss.heap [] := va_S.rf
  replace hP : xP G [oC ks 3 [.ref ksc, .int ln, .int sz0]] ss.heap := hP
  have hin3 : ∀ w ∈ u_ws RX3 TX3 3, w ∈ wsX3_isNothing := fun w h => List.mem_cons_of_mem _ (List.mem_append_right _ h)
  have hl := lv_entry ([.ref ks]) (n := 1) (Nat.le_of_ble_eq_true rfl)
  rw [lg_entry_eq]
  generalize (lg_sl ([.ref ks]) ++ List.replicate (1 - (lg_sl ([.ref ks])).length) Slot.unset).toArray = ls at hl ⊢
  replace hl : lv_has ls 1 [(0, .ref ks)] := hl
  refine lv_aload_n hx hb dX3_isNothing_0 rfl (lv_at hl 0 rfl) ?_
  refine va_get (D := G.1) (ci := 3) (v := .int sz0) (C := RX3) (T := TX3) (N := 3) hx hb hts hin3 hown hK.1 hP 0 rfl rfl 2 (by decide) (hts (.fieldLink RX3 15 "BackLenses$Sheet" "size" "I") (List.mem_of_getElem? (i := 1) rfl)) (fun _ h9 => h9) rfl dX3_isNothing_1 ?_
  refine lv_iconst (v := (-1)) hx hb dX3_isNothing_4 (by decide) ?_
  refine lv_icmp_ne (tgt := 12) hx hb dX3_isNothing_5 rfl (fun b5 => ?_) (fun b5 => ?_)
  · skip
    refine lv_iconst (v := nI 0) hx hb dX3_isNothing_12 (by decide) ?_
    refine W.zret (v := nI 0) (ty := .boolean) hx hb hr (by decide) (fun t ht hW => ⟨⟨nI 0, (), rfl, ?_, trivial⟩, hS.F ht⟩) hS.2.2 dX3_isNothing_13
    first | exact (xb_t b5).symm | exact (xb_f b5).symm
  · skip
    refine lv_iconst (v := nI 1) hx hb dX3_isNothing_8 (by decide) ?_
    refine lv_goto (tgt := 13) hx hb dX3_isNothing_9 rfl ?_
    refine W.zret (v := nI 1) (ty := .boolean) hx hb hr (by decide) (fun t ht hW => ⟨⟨nI 1, (), rfl, ?_, trivial⟩, hS.F ht⟩) hS.2.2 dX3_isNothing_13
    first | exact (xb_t b5).symm | exact (xb_f b5).symm

abbrev w_X3_renew (G : XG) (ks ksc : Nat) (ln sz0 : Int32) (f : Nat → Int32) : va_W := [oC ks 3 [.ref ksc, .int ln, .int sz0], iA G ksc 40 f]
abbrev Q_X3_renew (G : XG) (sz : Nat) (ks ksc : Nat) (ln sz0 : Int32) (f : Nat → Int32) (l2 s2 : Int32) : Array Value → State → Outcome → State → Prop := (va_Qv (fun (u : (Nat → Int32)) => (∀ j, j < 40 → u j = nI 0)) (xWb G sz (w_X3_renew G ks ksc ln sz0 f) (fun u : (Nat → Int32) => [oC ks 3 [.ref ksc, .int l2, .int s2], iA G ksc 40 u])) (va_A (w_X3_renew G ks ksc ln sz0 f) sz))
set_option maxHeartbeats 4000000 in
set_option maxRecDepth 100000 in
theorem c_X3_renew (l : Launch) (G : XG) (sz : Nat) (ks ksc : Nat) (ln sz0 : Int32) (f : Nat → Int32) (l2 s2 : Int32)  : Met l yX3_renew wsX3_renew ({ frames := 1, cells := 0, slots := 0, locals := 23 } : Room) (va_Pc [.ref ks, .int l2, .int s2] (xWp G sz (w_X3_renew G ks ksc ln sz0 f))) (Q_X3_renew G sz ks ksc ln sz0 f l2 s2) 0 0 (va_A (w_X3_renew G ks ksc ln sz0 f) sz) := by
  refine Met.ofW (cc := cX3_renew) (maxL := 3) (ret := none) (by decide) rfl ?_
  intro pp ee ss mm aa below mt cd s₁ BB hml hv
  obtain ⟨rfl, hsz, hP, hK, hD0⟩ := hv
  have hx := BB.exec
  have hb := BB.bytes
  have hr := BB.returns
  have hts := atoms_spec (ws := wsX3_renew) BB.pre
  have hown : ss.vm.findClass RX3 = some mm.cls := findClass_of_methodNamed BB.named
  have hlocks := BB.notSynchronized
  subst hsz
  have hD := hD0.self (sz := ss.heap.size)
  have hA : ∀ q : Nat, ss.heap.size ≤ q → va_A (w_X3_renew G ks ksc ln sz0 f) ss.heap.size q := fun q h => Or.inr h
  have hS : va_S (va_A (w_X3_renew G ks ksc ln sz0 f) ss.heap.size) ss.heap ss.heap [] := va_S.rf
  replace hD : va_D (va_A (w_X3_renew G ks ksc ln sz0 f) ss.heap.size) [oC ks 3 [.ref ksc, .int ln, .int sz0], iA G ksc 40 f] := hD
  replace hP : xP G [oC ks 3 [.ref ksc, .int ln, .int sz0], iA G ksc 40 f] ss.heap := hP
  have hin3 : ∀ w ∈ u_ws RX3 TX3 3, w ∈ wsX3_renew := fun w h => List.mem_cons_of_mem _ (List.mem_append_right _ h)
  have hl := lv_entry ([.ref ks, .int l2, .int s2]) (n := 3) (Nat.le_of_ble_eq_true rfl)
  rw [lg_entry_eq]
  generalize (lg_sl ([.ref ks, .int l2, .int s2]) ++ List.replicate (3 - (lg_sl ([.ref ks, .int l2, .int s2])).length) Slot.unset).toArray = ls at hl ⊢
  replace hl : lv_has ls 3 [(0, .ref ks), (1, .int l2), (2, .int s2)] := hl
  refine lv_aload_n hx hb dX3_renew_0 rfl (lv_at hl 0 rfl) ?_
  refine lv_iload_n hx hb dX3_renew_1 rfl (lv_at hl 1 rfl) ?_
  refine va_put (D := G.1) (ci := 3) (v := .int l2) (ty := .int) (C := RX3) (T := TX3) (N := 3) hx hb hts hin3 tyX3 tyX3_ok nmX3 hown hK.1 hP hD hS 0 rfl rfl 1 (by decide) (hts (.fieldLink RX3 19 "BackLenses$Sheet" "lane" "I") (List.mem_of_getElem? (i := 1) rfl)) (fun _ h9 => h9) rfl (by decide +kernel) rfl rfl (Nat.le_of_ble_eq_true rfl) dX3_renew_2 (fun H locs hP hD hS => ?_)
  replace hP : xP G [oC ks 3 [.ref ksc, .int l2, .int sz0], iA G ksc 40 f] H := hP
  replace hD : va_D (va_A (w_X3_renew G ks ksc ln sz0 f) ss.heap.size) [oC ks 3 [.ref ksc, .int l2, .int sz0], iA G ksc 40 f] := hD
  refine lv_aload_n hx hb dX3_renew_5 rfl (lv_at hl 0 rfl) ?_
  refine lv_iload_n hx hb dX3_renew_6 rfl (lv_at hl 2 rfl) ?_
  refine va_put (D := G.1) (ci := 3) (v := .int s2) (ty := .int) (C := RX3) (T := TX3) (N := 3) hx hb hts hin3 tyX3 tyX3_ok nmX3 hown hK.1 hP hD hS 0 rfl rfl 2 (by decide) (hts (.fieldLink RX3 15 "BackLenses$Sheet" "size" "I") (List.mem_of_getElem? (i := 2) rfl)) (fun _ h9 => h9) rfl (by decide +kernel) rfl rfl (Nat.le_of_ble_eq_true rfl) dX3_renew_7 (fun H locs hP hD hS => ?_)
  replace hP : xP G [oC ks 3 [.ref ksc, .int l2, .int s2], iA G ksc 40 f] H := hP
  replace hD : va_D (va_A (w_X3_renew G ks ksc ln sz0 f) ss.heap.size) [oC ks 3 [.ref ksc, .int l2, .int s2], iA G ksc 40 f] := hD
  refine lv_aload_n hx hb dX3_renew_10 rfl (lv_at hl 0 rfl) ?_
  refine va_get (D := G.1) (ci := 3) (v := .ref ksc) (C := RX3) (T := TX3) (N := 3) hx hb hts hin3 hown hK.1 hP 0 rfl rfl 0 (by decide) (hts (.fieldLink RX3 9 "BackLenses$Sheet" "cells" "[I") (List.mem_of_getElem? (i := 3) rfl)) (fun _ h9 => h9) rfl dX3_renew_11 ?_
  refine lv_iconst (v := nI 0) hx hb dX3_renew_14 (by decide) ?_
  refine xws_v (As := [.ref ksc, .int (nI 0)]) (rest := []) (wr := [oC ks 3 [.ref ksc, .int l2, .int s2]]) ⟨hx, hb, hml, hown, hts⟩ (c_J7_fill_53178 l G H.size ksc 40 f (nI 0) (by first | assumption | omega)) (va_cwS 2 hts gX3_renew_J7_fill_53178 rfl rfl rfl (by decide +kernel) ⟨Nat.le_of_ble_eq_true rfl, Nat.le_of_ble_eq_true rfl⟩) hK hP hD hS hA [1] [0] rfl rfl (by decide) (by decide) (by decide) rfl hl.1 rfl (Nat.le_of_ble_eq_true rfl) dX3_renew_15 ⟨Nat.le_of_ble_eq_true rfl, Nat.le_of_ble_eq_true rfl⟩ (fun u H locs hp15 hP hD hS => ?_)
  obtain ⟨f2_15, rfl⟩ : ∃ z, z = u := ⟨_, rfl⟩
  try dsimp only at hp15 hP hD
  have he15 := hp15
  replace hP : xP G [oC ks 3 [.ref ksc, .int l2, .int s2], iA G ksc 40 f2_15] H := hP
  replace hD : va_D (va_A (w_X3_renew G ks ksc ln sz0 f) ss.heap.size) [oC ks 3 [.ref ksc, .int l2, .int s2], iA G ksc 40 f2_15] := hD
  have hP := hP.sub (ws' := [oC ks 3 [.ref ksc, .int l2, .int s2], iA G ksc 40 f2_15]) [0, 1] rfl
  have hD := hD.sub (ws' := [oC ks 3 [.ref ksc, .int l2, .int s2], iA G ksc 40 f2_15]) [0, 1] (by decide) rfl
  refine W.vret hx hb hr (fun t ht hW => ⟨⟨(f2_15), rfl, ?_, by rw [ht]; exact hP, hD⟩, hS.F ht⟩) hS.2.2 dX3_renew_18
  exact he15

abbrev w_X3_faultAsLane (G : XG) (ks ksc : Nat) (ln sz0 : Int32) : va_W := [oC ks 3 [.ref ksc, .int ln, .int sz0]]
abbrev Q_X3_faultAsLane (G : XG) (ks ksc : Nat) (ln sz0 : Int32) (a : Int32) : Array Value → State → Outcome → State → Prop := (xRi (fun r => r = (if sz0 = (-1) ∨ ln = a then nI 0 else nI 3)))
set_option maxHeartbeats 4000000 in
set_option maxRecDepth 100000 in
theorem c_X3_faultAsLane (l : Launch) (G : XG) (ks ksc : Nat) (ln sz0 : Int32) (a : Int32)  : Met l yX3_faultAsLane wsX3_faultAsLane ({ frames := 1, cells := 0, slots := 0, locals := 20 } : Room) (va_Pc [.ref ks, .int a] (xRp G (w_X3_faultAsLane G ks ksc ln sz0))) (Q_X3_faultAsLane G ks ksc ln sz0 a) 0 0 (fun _ => False) := by
  refine Met.ofW (cc := cX3_faultAsLane) (maxL := 2) (ret := (some .int)) (by decide) rfl ?_
  intro pp ee ss mm aa below mt cd s₁ BB hml hv
  obtain ⟨rfl, hP, hK⟩ := hv
  have hx := BB.exec
  have hb := BB.bytes
  have hr := BB.returns
  have hts := atoms_spec (ws := wsX3_faultAsLane) BB.pre
  have hown : ss.vm.findClass RX3 = some mm.cls := findClass_of_methodNamed BB.named
  have hlocks := BB.notSynchronized
  have hS : va_S (fun _ => False) ss.heap ss.heap [] := va_S.rf
  replace hP : xP G [oC ks 3 [.ref ksc, .int ln, .int sz0]] ss.heap := hP
  have hin3 : ∀ w ∈ u_ws RX3 TX3 3, w ∈ wsX3_faultAsLane := fun w h => List.mem_cons_of_mem _ (List.mem_append_right _ h)
  have hl := lv_entry ([.ref ks, .int a]) (n := 2) (Nat.le_of_ble_eq_true rfl)
  rw [lg_entry_eq]
  generalize (lg_sl ([.ref ks, .int a]) ++ List.replicate (2 - (lg_sl ([.ref ks, .int a])).length) Slot.unset).toArray = ls at hl ⊢
  replace hl : lv_has ls 2 [(0, .ref ks), (1, .int a)] := hl
  refine lv_aload_n hx hb dX3_faultAsLane_0 rfl (lv_at hl 0 rfl) ?_
  refine xr_i (As := []) (rest := []) ⟨hx, hb, hml, hown, hts⟩ (c_X3_isNothing l G ks ksc ln sz0 ) (cwV 0 hts gX3_faultAsLane_X3_isNothing rfl rfl rfl (by decide +kernel) ⟨Nat.le_of_ble_eq_true rfl, Nat.le_of_ble_eq_true rfl⟩) hK hP hS [0] rfl rfl rfl rfl hl.1 rfl (Nat.le_of_ble_eq_true rfl) dX3_faultAsLane_1 ⟨Nat.zero_le _, Nat.zero_le _⟩ (fun r1 H locs hp1 hP hS => ?_)
  obtain rfl : r1 = xb (sz0 = (-1)) := hp1
  refine xb_if_ne (tgt := 15) hx hb dX3_faultAsLane_4 rfl (fun b4 => ?_) (fun b4 => ?_)
  · skip
    refine lv_iconst (v := nI 0) hx hb dX3_faultAsLane_15 (by decide) ?_
    refine lv_goto (tgt := 20) hx hb dX3_faultAsLane_16 rfl ?_
    refine W.iret (v := nI 0) hx hb hr (fun t ht hW => ⟨⟨nI 0, (), rfl, ?_, trivial⟩, hS.F ht⟩) hS.2.2 dX3_faultAsLane_20
    first | exact (if_pos (by simp_all)).symm | exact (if_neg (by simp_all)).symm
  · skip
    refine lv_aload_n hx hb dX3_faultAsLane_7 rfl (lv_at hl 0 rfl) ?_
    refine va_get (D := G.1) (ci := 3) (v := .int ln) (C := RX3) (T := TX3) (N := 3) hx hb hts hin3 hown hK.1 hP 0 rfl rfl 1 (by decide) (hts (.fieldLink RX3 19 "BackLenses$Sheet" "lane" "I") (List.mem_of_getElem? (i := 1) rfl)) (fun _ h9 => h9) rfl dX3_faultAsLane_8 ?_
    refine lv_iload_n hx hb dX3_faultAsLane_11 rfl (lv_at hl 1 rfl) ?_
    refine lv_icmp_ne (tgt := 19) hx hb dX3_faultAsLane_12 rfl (fun b12 => ?_) (fun b12 => ?_)
    · skip
      refine lv_iconst (v := nI 3) hx hb dX3_faultAsLane_19 (by decide) ?_
      refine W.iret (v := nI 3) hx hb hr (fun t ht hW => ⟨⟨nI 3, (), rfl, ?_, trivial⟩, hS.F ht⟩) hS.2.2 dX3_faultAsLane_20
      first | exact (if_pos (by simp_all)).symm | exact (if_neg (by simp_all)).symm
    · skip
      refine lv_iconst (v := nI 0) hx hb dX3_faultAsLane_15 (by decide) ?_
      refine lv_goto (tgt := 20) hx hb dX3_faultAsLane_16 rfl ?_
      refine W.iret (v := nI 0) hx hb hr (fun t ht hW => ⟨⟨nI 0, (), rfl, ?_, trivial⟩, hS.F ht⟩) hS.2.2 dX3_faultAsLane_20
      first | exact (if_pos (by simp_all)).symm | exact (if_neg (by simp_all)).symm

abbrev w_X3_faultAt (G : XG) (ks ksc : Nat) (ln sz0 : Int32) : va_W := [oC ks 3 [.ref ksc, .int ln, .int sz0]]
abbrev Q_X3_faultAt (G : XG) (ks ksc : Nat) (ln sz0 : Int32) (i : Int32) : Array Value → State → Outcome → State → Prop := (xRi (fun r => r = (if sz0 = (-1) then nI 1 else if 0 ≤ (i).toInt ∧ (i).toInt < sz0.toInt then nI 0 else nI 2)))
set_option maxHeartbeats 4000000 in
set_option maxRecDepth 100000 in
theorem c_X3_faultAt (l : Launch) (G : XG) (ks ksc : Nat) (ln sz0 : Int32) (i : Int32)  : Met l yX3_faultAt wsX3_faultAt ({ frames := 1, cells := 0, slots := 0, locals := 20 } : Room) (va_Pc [.ref ks, .int i] (xRp G (w_X3_faultAt G ks ksc ln sz0))) (Q_X3_faultAt G ks ksc ln sz0 i) 0 0 (fun _ => False) := by
  refine Met.ofW (cc := cX3_faultAt) (maxL := 2) (ret := (some .int)) (by decide) rfl ?_
  intro pp ee ss mm aa below mt cd s₁ BB hml hv
  obtain ⟨rfl, hP, hK⟩ := hv
  have hx := BB.exec
  have hb := BB.bytes
  have hr := BB.returns
  have hts := atoms_spec (ws := wsX3_faultAt) BB.pre
  have hown : ss.vm.findClass RX3 = some mm.cls := findClass_of_methodNamed BB.named
  have hlocks := BB.notSynchronized
  have hS : va_S (fun _ => False) ss.heap ss.heap [] := va_S.rf
  replace hP : xP G [oC ks 3 [.ref ksc, .int ln, .int sz0]] ss.heap := hP
  have hin3 : ∀ w ∈ u_ws RX3 TX3 3, w ∈ wsX3_faultAt := fun w h => List.mem_cons_of_mem _ (List.mem_append_right _ h)
  have hl := lv_entry ([.ref ks, .int i]) (n := 2) (Nat.le_of_ble_eq_true rfl)
  rw [lg_entry_eq]
  generalize (lg_sl ([.ref ks, .int i]) ++ List.replicate (2 - (lg_sl ([.ref ks, .int i])).length) Slot.unset).toArray = ls at hl ⊢
  replace hl : lv_has ls 2 [(0, .ref ks), (1, .int i)] := hl
  refine lv_aload_n hx hb dX3_faultAt_0 rfl (lv_at hl 0 rfl) ?_
  refine xr_i (As := []) (rest := []) ⟨hx, hb, hml, hown, hts⟩ (c_X3_isNothing l G ks ksc ln sz0 ) (cwV 0 hts gX3_faultAt_X3_isNothing rfl rfl rfl (by decide +kernel) ⟨Nat.le_of_ble_eq_true rfl, Nat.le_of_ble_eq_true rfl⟩) hK hP hS [0] rfl rfl rfl rfl hl.1 rfl (Nat.le_of_ble_eq_true rfl) dX3_faultAt_1 ⟨Nat.zero_le _, Nat.zero_le _⟩ (fun r1 H locs hp1 hP hS => ?_)
  obtain rfl : r1 = xb (sz0 = (-1)) := hp1
  refine xb_if_eq (tgt := 9) hx hb dX3_faultAt_4 rfl (fun b4 => ?_) (fun b4 => ?_)
  · skip
    refine lv_iload_n hx hb dX3_faultAt_9 rfl (lv_at hl 1 rfl) ?_
    refine xi_if_lt (tgt := 25) hx hb dX3_faultAt_10 rfl (fun b10 => ?_) (fun b10 => ?_)
    · skip
      refine lv_iconst (v := nI 2) hx hb dX3_faultAt_25 (by decide) ?_
      refine W.iret (v := nI 2) hx hb hr (fun t ht hW => ⟨⟨nI 2, (), rfl, ?_, trivial⟩, hS.F ht⟩) hS.2.2 dX3_faultAt_26
      first | exact (if_pos b4).symm | (rw [if_neg b4]; first | exact (if_pos (by omega)).symm | exact (if_neg (by omega)).symm)
    · skip
      refine lv_iload_n hx hb dX3_faultAt_13 rfl (lv_at hl 1 rfl) ?_
      refine lv_aload_n hx hb dX3_faultAt_14 rfl (lv_at hl 0 rfl) ?_
      refine va_get (D := G.1) (ci := 3) (v := .int sz0) (C := RX3) (T := TX3) (N := 3) hx hb hts hin3 hown hK.1 hP 0 rfl rfl 2 (by decide) (hts (.fieldLink RX3 15 "BackLenses$Sheet" "size" "I") (List.mem_of_getElem? (i := 1) rfl)) (fun _ h9 => h9) rfl dX3_faultAt_15 ?_
      refine xi_icmp_ge (tgt := 25) hx hb dX3_faultAt_18 rfl (fun b18 => ?_) (fun b18 => ?_)
      · skip
        refine lv_iconst (v := nI 2) hx hb dX3_faultAt_25 (by decide) ?_
        refine W.iret (v := nI 2) hx hb hr (fun t ht hW => ⟨⟨nI 2, (), rfl, ?_, trivial⟩, hS.F ht⟩) hS.2.2 dX3_faultAt_26
        first | exact (if_pos b4).symm | (rw [if_neg b4]; first | exact (if_pos (by omega)).symm | exact (if_neg (by omega)).symm)
      · skip
        refine lv_iconst (v := nI 0) hx hb dX3_faultAt_21 (by decide) ?_
        refine lv_goto (tgt := 26) hx hb dX3_faultAt_22 rfl ?_
        refine W.iret (v := nI 0) hx hb hr (fun t ht hW => ⟨⟨nI 0, (), rfl, ?_, trivial⟩, hS.F ht⟩) hS.2.2 dX3_faultAt_26
        first | exact (if_pos b4).symm | (rw [if_neg b4]; first | exact (if_pos (by omega)).symm | exact (if_neg (by omega)).symm)
  · skip
    refine lv_iconst (v := nI 1) hx hb dX3_faultAt_7 (by decide) ?_
    refine W.iret (v := nI 1) hx hb hr (fun t ht hW => ⟨⟨nI 1, (), rfl, ?_, trivial⟩, hS.F ht⟩) hS.2.2 dX3_faultAt_8
    first | exact (if_pos b4).symm | (rw [if_neg b4]; first | exact (if_pos (by omega)).symm | exact (if_neg (by omega)).symm)

abbrev w_X3_faultAtThree (G : XG) (ks ksc : Nat) (ln sz0 : Int32) : va_W := [oC ks 3 [.ref ksc, .int ln, .int sz0]]
abbrev Q_X3_faultAtThree (G : XG) (ks ksc : Nat) (ln sz0 : Int32) (i : Int32) : Array Value → State → Outcome → State → Prop := (xRi (fun r => r = (if (if sz0 = (-1) then nI 1 else if 0 ≤ (i).toInt ∧ (i).toInt < sz0.toInt then nI 0 else nI 2) = 0 then (if sz0 = (-1) then nI 1 else if 0 ≤ (i + nI 2).toInt ∧ (i + nI 2).toInt < sz0.toInt then nI 0 else nI 2) else (if sz0 = (-1) then nI 1 else if 0 ≤ (i).toInt ∧ (i).toInt < sz0.toInt then nI 0 else nI 2))))
set_option maxHeartbeats 4000000 in
set_option maxRecDepth 100000 in
theorem c_X3_faultAtThree (l : Launch) (G : XG) (ks ksc : Nat) (ln sz0 : Int32) (i : Int32)  : Met l yX3_faultAtThree wsX3_faultAtThree ({ frames := 2, cells := 0, slots := 0, locals := 41 } : Room) (va_Pc [.ref ks, .int i] (xRp G (w_X3_faultAtThree G ks ksc ln sz0))) (Q_X3_faultAtThree G ks ksc ln sz0 i) 0 0 (fun _ => False) := by
  refine Met.ofW (cc := cX3_faultAtThree) (maxL := 3) (ret := (some .int)) (by decide) rfl ?_
  intro pp ee ss mm aa below mt cd s₁ BB hml hv
  obtain ⟨rfl, hP, hK⟩ := hv
  have hx := BB.exec
  have hb := BB.bytes
  have hr := BB.returns
  have hts := atoms_spec (ws := wsX3_faultAtThree) BB.pre
  have hown : ss.vm.findClass RX3 = some mm.cls := findClass_of_methodNamed BB.named
  have hlocks := BB.notSynchronized
  have hS : va_S (fun _ => False) ss.heap ss.heap [] := va_S.rf
  replace hP : xP G [oC ks 3 [.ref ksc, .int ln, .int sz0]] ss.heap := hP
  have hin3 : ∀ w ∈ u_ws RX3 TX3 3, w ∈ wsX3_faultAtThree := fun w h => List.mem_cons_of_mem _ (List.mem_append_right _ h)
  have hl := lv_entry ([.ref ks, .int i]) (n := 3) (Nat.le_of_ble_eq_true rfl)
  rw [lg_entry_eq]
  generalize (lg_sl ([.ref ks, .int i]) ++ List.replicate (3 - (lg_sl ([.ref ks, .int i])).length) Slot.unset).toArray = ls at hl ⊢
  replace hl : lv_has ls 3 [(0, .ref ks), (1, .int i)] := hl
  refine lv_aload_n hx hb dX3_faultAtThree_0 rfl (lv_at hl 0 rfl) ?_
  refine lv_iload_n hx hb dX3_faultAtThree_1 rfl (lv_at hl 1 rfl) ?_
  refine xr_i (As := [.int i]) (rest := []) ⟨hx, hb, hml, hown, hts⟩ (c_X3_faultAt l G ks ksc ln sz0 i ) (cwV 1 hts gX3_faultAtThree_X3_faultAt rfl rfl rfl (by decide +kernel) ⟨Nat.le_of_ble_eq_true rfl, Nat.le_of_ble_eq_true rfl⟩) hK hP hS [0] rfl rfl rfl rfl hl.1 rfl (Nat.le_of_ble_eq_true rfl) dX3_faultAtThree_2 ⟨Nat.zero_le _, Nat.zero_le _⟩ (fun r2 H locs hp2 hP hS => ?_)
  obtain rfl : r2 = (if sz0 = (-1) then nI 1 else if 0 ≤ (i).toInt ∧ (i).toInt < sz0.toInt then nI 0 else nI 2) := hp2
  refine lv_istore_n (lv' := [(2, .int (if sz0 = (-1) then nI 1 else if 0 ≤ (i).toInt ∧ (i).toInt < sz0.toInt then nI 0 else nI 2)), (0, .ref ks), (1, .int i)]) hx hb dX3_faultAtThree_5 rfl hl (by decide) rfl (fun ls hl => ?_)
  refine lv_iload_n hx hb dX3_faultAtThree_6 rfl (lv_at hl 0 rfl) ?_
  refine lv_if_ne (tgt := 20) hx hb dX3_faultAtThree_7 rfl (fun b7 => ?_) (fun b7 => ?_)
  · skip
    refine lv_iload_n hx hb dX3_faultAtThree_20 rfl (lv_at hl 0 rfl) ?_
    refine W.iret (v := (if sz0 = (-1) then nI 1 else if 0 ≤ (i).toInt ∧ (i).toInt < sz0.toInt then nI 0 else nI 2)) hx hb hr (fun t ht hW => ⟨⟨(if sz0 = (-1) then nI 1 else if 0 ≤ (i).toInt ∧ (i).toInt < sz0.toInt then nI 0 else nI 2), (), rfl, ?_, trivial⟩, hS.F ht⟩) hS.2.2 dX3_faultAtThree_21
    first | exact (if_pos b7).symm | exact (if_neg b7).symm
  · skip
    refine lv_aload_n hx hb dX3_faultAtThree_10 rfl (lv_at hl 1 rfl) ?_
    refine lv_iload_n hx hb dX3_faultAtThree_11 rfl (lv_at hl 2 rfl) ?_
    refine lv_iconst (v := nI 2) hx hb dX3_faultAtThree_12 (by decide) ?_
    refine lv_iadd hx hb dX3_faultAtThree_13 ?_
    refine xr_i (As := [.int (i + (nI 2))]) (rest := []) ⟨hx, hb, hml, hown, hts⟩ (c_X3_faultAt l G ks ksc ln sz0 (i + (nI 2)) ) (cwV 1 hts gX3_faultAtThree_X3_faultAt rfl rfl rfl (by decide +kernel) ⟨Nat.le_of_ble_eq_true rfl, Nat.le_of_ble_eq_true rfl⟩) hK hP hS [0] rfl rfl rfl rfl hl.1 rfl (Nat.le_of_ble_eq_true rfl) dX3_faultAtThree_14 ⟨Nat.zero_le _, Nat.zero_le _⟩ (fun r14 H locs hp14 hP hS => ?_)
    obtain rfl : r14 = (if sz0 = (-1) then nI 1 else if 0 ≤ ((i + (nI 2))).toInt ∧ ((i + (nI 2))).toInt < sz0.toInt then nI 0 else nI 2) := hp14
    refine lv_goto (tgt := 21) hx hb dX3_faultAtThree_17 rfl ?_
    refine W.iret (v := (if sz0 = (-1) then nI 1 else if 0 ≤ ((i + (nI 2))).toInt ∧ ((i + (nI 2))).toInt < sz0.toInt then nI 0 else nI 2)) hx hb hr (fun t ht hW => ⟨⟨(if sz0 = (-1) then nI 1 else if 0 ≤ ((i + (nI 2))).toInt ∧ ((i + (nI 2))).toInt < sz0.toInt then nI 0 else nI 2), (), rfl, ?_, trivial⟩, hS.F ht⟩) hS.2.2 dX3_faultAtThree_21
    first | exact (if_pos b7).symm | exact (if_neg b7).symm

abbrev w_X3_put (G : XG) (ks ksc : Nat) (ln sz0 : Int32) (f : Nat → Int32) : va_W := [oC ks 3 [.ref ksc, .int ln, .int sz0], iA G ksc 40 f]
abbrev Q_X3_put (G : XG) (sz : Nat) (ks ksc : Nat) (ln sz0 : Int32) (f : Nat → Int32) (i : Nat) (v : Int32) : Array Value → State → Outcome → State → Prop := (va_Qv (fun (u : (Nat → Int32)) => u = upd f i (if ln = 0 then v.toInt8.toInt32 else if ln = nI 1 then v.toInt16.toInt32 else v)) (xWb G sz (w_X3_put G ks ksc ln sz0 f) (fun u : (Nat → Int32) => [oC ks 3 [.ref ksc, .int ln, .int sz0], iA G ksc 40 u])) (va_A (w_X3_put G ks ksc ln sz0 f) sz))
set_option maxHeartbeats 4000000 in
set_option maxRecDepth 100000 in
theorem c_X3_put (l : Launch) (G : XG) (sz : Nat) (ks ksc : Nat) (ln sz0 : Int32) (f : Nat → Int32) (i : Nat) (v : Int32) (hi : i < 40) : Met l yX3_put wsX3_put ({ frames := 0, cells := 0, slots := 0, locals := 0 } : Room) (va_Pc [.ref ks, .int (nI i), .int v] (xWp G sz (w_X3_put G ks ksc ln sz0 f))) (Q_X3_put G sz ks ksc ln sz0 f i v) 0 0 (va_A (w_X3_put G ks ksc ln sz0 f) sz) := by
  refine Met.ofW (cc := cX3_put) (maxL := 3) (ret := none) (by decide) rfl ?_
  intro pp ee ss mm aa below mt cd s₁ BB hml hv
  obtain ⟨rfl, hsz, hP, hK, hD0⟩ := hv
  have hx := BB.exec
  have hb := BB.bytes
  have hr := BB.returns
  have hts := atoms_spec (ws := wsX3_put) BB.pre
  have hown : ss.vm.findClass RX3 = some mm.cls := findClass_of_methodNamed BB.named
  have hlocks := BB.notSynchronized
  subst hsz
  have hD := hD0.self (sz := ss.heap.size)
  have hA : ∀ q : Nat, ss.heap.size ≤ q → va_A (w_X3_put G ks ksc ln sz0 f) ss.heap.size q := fun q h => Or.inr h
  have hS : va_S (va_A (w_X3_put G ks ksc ln sz0 f) ss.heap.size) ss.heap ss.heap [] := va_S.rf
  replace hD : va_D (va_A (w_X3_put G ks ksc ln sz0 f) ss.heap.size) [oC ks 3 [.ref ksc, .int ln, .int sz0], iA G ksc 40 f] := hD
  replace hP : xP G [oC ks 3 [.ref ksc, .int ln, .int sz0], iA G ksc 40 f] ss.heap := hP
  have hin3 : ∀ w ∈ u_ws RX3 TX3 3, w ∈ wsX3_put := fun w h => List.mem_cons_of_mem _ (List.mem_append_right _ h)
  have hl := lv_entry ([.ref ks, .int (nI i), .int v]) (n := 3) (Nat.le_of_ble_eq_true rfl)
  rw [lg_entry_eq]
  generalize (lg_sl ([.ref ks, .int (nI i), .int v]) ++ List.replicate (3 - (lg_sl ([.ref ks, .int (nI i), .int v])).length) Slot.unset).toArray = ls at hl ⊢
  replace hl : lv_has ls 3 [(0, .ref ks), (1, .int (nI i)), (2, .int v)] := hl
  refine lv_aload_n hx hb dX3_put_0 rfl (lv_at hl 0 rfl) ?_
  refine va_get (D := G.1) (ci := 3) (v := .int ln) (C := RX3) (T := TX3) (N := 3) hx hb hts hin3 hown hK.1 hP 0 rfl rfl 1 (by decide) (hts (.fieldLink RX3 19 "BackLenses$Sheet" "lane" "I") (List.mem_of_getElem? (i := 1) rfl)) (fun _ h9 => h9) rfl dX3_put_1 ?_
  refine lv_if_ne (tgt := 18) hx hb dX3_put_4 rfl (fun b4 => ?_) (fun b4 => ?_)
  · skip
    refine lv_aload_n hx hb dX3_put_18 rfl (lv_at hl 0 rfl) ?_
    refine va_get (D := G.1) (ci := 3) (v := .int ln) (C := RX3) (T := TX3) (N := 3) hx hb hts hin3 hown hK.1 hP 0 rfl rfl 1 (by decide) (hts (.fieldLink RX3 19 "BackLenses$Sheet" "lane" "I") (List.mem_of_getElem? (i := 1) rfl)) (fun _ h9 => h9) rfl dX3_put_19 ?_
    refine lv_iconst (v := nI 1) hx hb dX3_put_22 (by decide) ?_
    refine lv_icmp_ne (tgt := 37) hx hb dX3_put_23 rfl (fun b23 => ?_) (fun b23 => ?_)
    · skip
      refine lv_aload_n hx hb dX3_put_37 rfl (lv_at hl 0 rfl) ?_
      refine va_get (D := G.1) (ci := 3) (v := .ref ksc) (C := RX3) (T := TX3) (N := 3) hx hb hts hin3 hown hK.1 hP 0 rfl rfl 0 (by decide) (hts (.fieldLink RX3 9 "BackLenses$Sheet" "cells" "[I") (List.mem_of_getElem? (i := 2) rfl)) (fun _ h9 => h9) rfl dX3_put_38 ?_
      refine lv_iload_n hx hb dX3_put_41 rfl (lv_at hl 1 rfl) ?_
      refine lv_iload_n hx hb dX3_put_42 rfl (lv_at hl 2 rfl) ?_
      refine xn_iast hx hb hK hP hD hS 1 rfl (by omega) (by omega) dX3_put_43 (fun H locs hP hD hS => ?_)
      replace hP : xP G [oC ks 3 [.ref ksc, .int ln, .int sz0], iA G ksc 40 (upd f i v)] H := hP
      replace hD : va_D (va_A (w_X3_put G ks ksc ln sz0 f) ss.heap.size) [oC ks 3 [.ref ksc, .int ln, .int sz0], iA G ksc 40 (upd f i v)] := hD
      have hP := hP.sub (ws' := [oC ks 3 [.ref ksc, .int ln, .int sz0], iA G ksc 40 (upd f i v)]) [0, 1] rfl
      have hD := hD.sub (ws' := [oC ks 3 [.ref ksc, .int ln, .int sz0], iA G ksc 40 (upd f i v)]) [0, 1] (by decide) rfl
      refine W.vret hx hb hr (fun t ht hW => ⟨⟨(upd f i v), rfl, ?_, by rw [ht]; exact hP, hD⟩, hS.F ht⟩) hS.2.2 dX3_put_44
      first | rw [if_pos b4] | (rw [if_neg b4]; first | rw [if_pos b23] | rw [if_neg b23])
    · skip
      refine lv_aload_n hx hb dX3_put_26 rfl (lv_at hl 0 rfl) ?_
      refine va_get (D := G.1) (ci := 3) (v := .ref ksc) (C := RX3) (T := TX3) (N := 3) hx hb hts hin3 hown hK.1 hP 0 rfl rfl 0 (by decide) (hts (.fieldLink RX3 9 "BackLenses$Sheet" "cells" "[I") (List.mem_of_getElem? (i := 2) rfl)) (fun _ h9 => h9) rfl dX3_put_27 ?_
      refine lv_iload_n hx hb dX3_put_30 rfl (lv_at hl 1 rfl) ?_
      refine lv_iload_n hx hb dX3_put_31 rfl (lv_at hl 2 rfl) ?_
      refine lv_i2s hx hb dX3_put_32 rfl ?_
      refine xn_iast hx hb hK hP hD hS 1 rfl (by omega) (by omega) dX3_put_33 (fun H locs hP hD hS => ?_)
      replace hP : xP G [oC ks 3 [.ref ksc, .int ln, .int sz0], iA G ksc 40 (upd f i v.toInt16.toInt32)] H := hP
      replace hD : va_D (va_A (w_X3_put G ks ksc ln sz0 f) ss.heap.size) [oC ks 3 [.ref ksc, .int ln, .int sz0], iA G ksc 40 (upd f i v.toInt16.toInt32)] := hD
      refine lv_goto (tgt := 44) hx hb dX3_put_34 rfl ?_
      have hP := hP.sub (ws' := [oC ks 3 [.ref ksc, .int ln, .int sz0], iA G ksc 40 (upd f i v.toInt16.toInt32)]) [0, 1] rfl
      have hD := hD.sub (ws' := [oC ks 3 [.ref ksc, .int ln, .int sz0], iA G ksc 40 (upd f i v.toInt16.toInt32)]) [0, 1] (by decide) rfl
      refine W.vret hx hb hr (fun t ht hW => ⟨⟨(upd f i v.toInt16.toInt32), rfl, ?_, by rw [ht]; exact hP, hD⟩, hS.F ht⟩) hS.2.2 dX3_put_44
      first | rw [if_pos b4] | (rw [if_neg b4]; first | rw [if_pos b23] | rw [if_neg b23])
  · skip
    refine lv_aload_n hx hb dX3_put_7 rfl (lv_at hl 0 rfl) ?_
    refine va_get (D := G.1) (ci := 3) (v := .ref ksc) (C := RX3) (T := TX3) (N := 3) hx hb hts hin3 hown hK.1 hP 0 rfl rfl 0 (by decide) (hts (.fieldLink RX3 9 "BackLenses$Sheet" "cells" "[I") (List.mem_of_getElem? (i := 2) rfl)) (fun _ h9 => h9) rfl dX3_put_8 ?_
    refine lv_iload_n hx hb dX3_put_11 rfl (lv_at hl 1 rfl) ?_
    refine lv_iload_n hx hb dX3_put_12 rfl (lv_at hl 2 rfl) ?_
    refine lv_i2b hx hb dX3_put_13 rfl ?_
    refine xn_iast hx hb hK hP hD hS 1 rfl (by omega) (by omega) dX3_put_14 (fun H locs hP hD hS => ?_)
    replace hP : xP G [oC ks 3 [.ref ksc, .int ln, .int sz0], iA G ksc 40 (upd f i v.toInt8.toInt32)] H := hP
    replace hD : va_D (va_A (w_X3_put G ks ksc ln sz0 f) ss.heap.size) [oC ks 3 [.ref ksc, .int ln, .int sz0], iA G ksc 40 (upd f i v.toInt8.toInt32)] := hD
    refine lv_goto (tgt := 44) hx hb dX3_put_15 rfl ?_
    have hP := hP.sub (ws' := [oC ks 3 [.ref ksc, .int ln, .int sz0], iA G ksc 40 (upd f i v.toInt8.toInt32)]) [0, 1] rfl
    have hD := hD.sub (ws' := [oC ks 3 [.ref ksc, .int ln, .int sz0], iA G ksc 40 (upd f i v.toInt8.toInt32)]) [0, 1] (by decide) rfl
    refine W.vret hx hb hr (fun t ht hW => ⟨⟨(upd f i v.toInt8.toInt32), rfl, ?_, by rw [ht]; exact hP, hD⟩, hS.F ht⟩) hS.2.2 dX3_put_44
    first | rw [if_pos b4] | (rw [if_neg b4]; first | rw [if_pos b23] | rw [if_neg b23])

section
/-! numbers and bits that both sides speak of -/
def xu (x y : Int32) : Int32 := (x.toUInt32 >>> (y.toUInt32 &&& Int32.toUInt32 31)).toInt32
abbrev xbit (c : Nat) : Int32 := nI 1 <<< (nI c &&& 31)
/-- the cells below n for which p holds, as bits -/
def xbits (p : Nat → Bool) : Nat → Int32
  | 0 => nI 0
  | c + 1 => if p c then xbits p c ||| xbit c else xbits p c
theorem xbits_t {p : Nat → Bool} {c : Nat} (h : p c = true) : xbits p (c + 1) = xbits p c ||| xbit c := by rw [xbits, if_pos h]
theorem xbits_f {p : Nat → Bool} {c : Nat} (h : ¬ p c = true) : xbits p (c + 1) = xbits p c := by rw [xbits, if_neg h]
theorem inR_2 {x : Int32} : inR x 2 ↔ x = 0 ∨ x = nI 1 := by
  constructor
  · intro h
    obtain ⟨k, hk, rfl⟩ := inR_nat h
    rcases (show k = 0 ∨ k = 1 by omega) with rfl | rfl
    · exact Or.inl rfl
    · exact Or.inr rfl
  · rintro (rfl | rfl)
    · exact inR_nI (k := 0) (by decide) (by decide)
    · exact inR_nI (k := 1) (by decide) (by decide)
section XM
variable {p : Program} {l : Launch} {e : Env} {R : Room} {s : State} {m : MethodId} {args : Array Value} {below : List Frame} {meth : Method} {c : Code} {H : Heap} {locs : List Loc} {cells slots : Nat} {Q : State → Prop}
variable {cc : ByteArray} {pc : Nat} {ls : Array Slot} {rest : List Value}
theorem xn_top {x y : Int32} (h : x = y) (k : W p l e R s m args below meth c H locs cells slots Q (F0 m pc ls (.int y :: rest))) : W p l e R s m args below meth c H locs cells slots Q (F0 m pc ls (.int x :: rest)) := by
  rw [h]; exact k
theorem xl_top {x y : Int64} (h : x = y) (k : W p l e R s m args below meth c H locs cells slots Q (F0 m pc ls (.long y :: rest))) : W p l e R s m args below meth c H locs cells slots Q (F0 m pc ls (.long x :: rest)) := by
  rw [h]; exact k
end XM
section XCp
variable {p : Program} {l : Launch} {e : Env} {R : Room} {s : State} {m : MethodId} {args : Array Value} {below : List Frame} {meth : Method} {c : Code} {H : Heap} {locs : List Loc} {cells slots : Nat} {Q : State → Prop}
variable {cc : ByteArray} {pc : Nat} {ls : Array Slot} {rest : List Value} {G : XG} {ws : va_W} {A : Nat → Prop} {H0 : Heap} {a a0 : Nat}
/-- System.arraycopy of ints, at places and lengths that are numbers -/
theorem xn_copyi (hexec : p.tables.exec = Jvm.exec) (hb : c.code = cc) (hml : c.maxLocals = ls.size) {own : String} {index : Nat} (hown : s.vm.findClass own = some m.cls) (hlink : (Cond.methodLink own index arraycopyName).before args s = true) (hnat : (Cond.native arraycopyName).before args s = true) (hstat : (Cond.static arraycopyName).before args s = true) (hini : (Cond.initialized "java/lang/System").before args s = true)
    (hK : xK G s) (hP : xP G ws H) (hD : va_D A ws) (hS : va_S A H0 H locs) (q0 q1 : Nat) {n0 n1 : Nat} {f g : Nat → Int32} (ha0 : ws[q0]? = some (iA G a0 n0 f)) (ha1 : ws[q1]? = some (iA G a n1 g)) {sp dp n : Nat} (h4 : sp + n ≤ n0) (h5 : dp + n ≤ n1) (h6 : n0 < 2 ^ 31) (h7 : n1 < 2 ^ 31)
    (hframes : 1 ≤ R.frames) (hlocals : (rest.map fun v => v.category).sum + (nativeFrameWords "java/lang/System" "arraycopy" 5 + 11) ≤ R.locals) (hdg : decode cc pc = .ok (.invokestatic index, 3))
    (kk : ∀ (H1 : Heap) (locs1 : List Loc), xP G (ws.set q1 (iA G a n1 (va_cpy f g sp dp n))) H1 → va_D A (ws.set q1 (iA G a n1 (va_cpy f g sp dp n))) → va_S A H0 H1 locs1 → W p l e R s m args below meth c H1 locs1 cells slots Q (F0 m (pc + 3) ls rest)) : W p l e R s m args below meth c H locs cells slots Q (F0 m pc ls (.int (nI n) :: .int (nI dp) :: .ref a :: .int (nI sp) :: .ref a0 :: rest)) := by
  have e1 : (nI sp).toNatClampNeg = sp := nI_clamp (by omega)
  have e2 : (nI dp).toNatClampNeg = dp := nI_clamp (by omega)
  have e3 : (nI n).toNatClampNeg = n := nI_clamp (by omega)
  refine va_copyi hexec hb hml hown hlink hnat hstat hini hK.1 hP hD hS q0 q1 0 0 ha0 ha1 rfl rfl rfl (nI_pos (by omega)) (nI_pos (by omega)) (nI_pos (by omega)) (by rw [e1, e3]; exact h4) (by rw [e2, e3]; exact h5) (fun i _ => rfl) hframes hlocals hdg ?_
  rw [e1, e2, e3]
  exact kk
end XCp
/-- the number that an int within bounds is -/
abbrev tn (x : Int32) : Nat := x.toInt.toNat
theorem tn_nI {k : Nat} (h : k < 2 ^ 31) : tn (nI k) = k := by
  unfold tn
  rw [nI_toInt h]
  omega
section XR
variable {p : Program} {l : Launch} {e : Env} {R : Room} {s : State} {m : MethodId} {args : Array Value} {below : List Frame} {meth : Method} {c : Code} {H : Heap} {locs : List Loc} {cells slots : Nat} {Q : State → Prop}
variable {cc : ByteArray} {pc : Nat} {ls : Array Slot} {rest st0 : List Value} {G : XG} {ws wc wr : va_W} {A : Nat → Prop} {H0 : Heap}
variable {y : MethodName} {bytes : ByteArray} {maxL nL mc ms n index : Nat} {ret : Option FieldType} {wy : List Cond} {rm : Room} {Ts : List Cond} {own C : String} {b : Addr} {As : List Value}
theorem xw_r {S' : Type} {post : S' → Prop} {w1 : S' → va_W} {ra : Nat} (S : CallFix p m c cc nL s args Ts own) (hM : Met l y wy rm (va_Pc (.ref b :: As) (xWp G H.size wc)) (va_Qr post (fun u a t => a = ra ∧ xWb G H.size wc w1 u t) (va_A wc H.size)) mc ms (va_A wc H.size)) (cw : CallW R s args own C index y bytes maxL ret wy rm mc ms n) (hK : xK G s) (hP : xP G ws H) (hD : va_D A ws) (hS : va_S A H0 H locs) (hA : ∀ q : Nat, H0.size ≤ q → A q) (isC isR : List Nat) (hC : isC.map (fun i => ws[i]?) = wc.map some) (hR : isR.map (fun i => ws[i]?) = wr.map some) (hnC : va_nd isC = true) (hnR : va_nd isR = true) (hdis : ∀ i ∈ isR, i ∉ isC) {ci N : Nat} {fs : List Value} {T : u_T} (he : wc[0]? = some (oC b ci fs)) (hc : vwCl[ci]? = some (C, T, N)) (hn : As.length = n) (hl : ls.size = nL) (hst : st0 = As.reverse ++ .ref b :: rest) (hw : (rest.map fun v => v.category).sum ≤ 8) (hdg : decode cc pc = .ok (.invokevirtual index, 3)) (hf : cells + mc ≤ R.cells ∧ slots + ms ≤ R.slots) (kk : ∀ (u : S') (H1 : Heap) (locs1 : List Loc), post u → xP G (wr ++ w1 u) H1 → va_D A (wr ++ w1 u) → va_S A H0 H1 locs1 → W p l e R s m args below meth c H1 locs1 (cells + mc) (slots + ms) Q (F0 m (pc + 3) ls (.ref ra :: rest))) : W p l e R s m args below meth c H locs (cells) (slots) Q (F0 m pc ls st0) := by
  have hDc : va_D A wc := va_D.sub hD isC hnC hC
  have hPc : xP G wc H := xP_sub hP isC hC
  have hFc := va_free (wc := wc) hD hS hA isC hC
  refine va_callr (va_runV (As := As) (rest := rest) (b := b) S hM cw ⟨xWp_blind, va_recv hK.1 hPc hc he, fun U hU hW => ⟨rfl, by rw [hU], by rw [hU]; exact hPc, xK_warm hW hK, hDc.weaken (fun _ _ _ _ => trivial)⟩⟩ rfl hn hl hst (lv_room hw) hdg hf) hS (fun q _ h => hFc q h) hFc (fun u a t H1 locs1 ht hvm hp hB hz hk hS1 => ?_)
  obtain ⟨rfl, hB⟩ := hB
  have hP1 : xP G (w1 u) H1 := by rw [← ht]; exact hB.1
  obtain ⟨hP2, hD2⟩ := va_join (wr := wr) (w1 := w1 u) hP hD isC isR hC hR hnR hdis hk hFc hP1 hB.2
  exact kk u H1 locs1 hp hP2 hD2 hS1
end XR
end
section
abbrev w_X2_has (G : XG) (h0 h1 : Nat) (room n : Nat) : va_W := [oC h0 2 [.ref h1, .int (nI room), .int (nI n)]]
abbrev Q_X2_has (G : XG) (h0 h1 : Nat) (room n : Nat) (i : Int32) : Array Value → State → Outcome → State → Prop := (xRi (fun r => r = xb (inR i n)))
set_option maxHeartbeats 4000000 in
set_option maxRecDepth 100000 in
theorem c_X2_has (l : Launch) (G : XG) (h0 h1 : Nat) (room n : Nat) (i : Int32) (hn : n ≤ 10) : Met l yX2_has wsX2_has ({ frames := 0, cells := 0, slots := 0, locals := 0 } : Room) (va_Pc [.ref h0, .int i] (xRp G (w_X2_has G h0 h1 room n))) (Q_X2_has G h0 h1 room n i) 0 0 (fun _ => False) := by
  refine Met.ofW (cc := cX2_has) (maxL := 2) (ret := (some .boolean)) (by decide) rfl ?_
  intro pp ee ss mm aa below mt cd s₁ BB hml hv
  obtain ⟨rfl, hP, hK⟩ := hv
  have hx := BB.exec
  have hb := BB.bytes
  have hr := BB.returns
  have hts := atoms_spec (ws := wsX2_has) BB.pre
  have hown : ss.vm.findClass RX2 = some mm.cls := findClass_of_methodNamed BB.named
  have hlocks := BB.notSynchronized
  have hS : va_S (fun _ => False) ss.heap ss.heap [] := va_S.rf
  replace hP : xP G [oC h0 2 [.ref h1, .int (nI room), .int (nI n)]] ss.heap := hP
  have hin2 : ∀ w ∈ u_ws RX2 TX2 3, w ∈ wsX2_has := fun w h => List.mem_cons_of_mem _ (List.mem_append_right _ h)
  have hl := lv_entry ([.ref h0, .int i]) (n := 2) (Nat.le_of_ble_eq_true rfl)
  rw [lg_entry_eq]
  generalize (lg_sl ([.ref h0, .int i]) ++ List.replicate (2 - (lg_sl ([.ref h0, .int i])).length) Slot.unset).toArray = ls at hl ⊢
  replace hl : lv_has ls 2 [(0, .ref h0), (1, .int i)] := hl
  refine lv_iload_n hx hb dX2_has_0 rfl (lv_at hl 1 rfl) ?_
  refine xi_if_lt (tgt := 16) hx hb dX2_has_1 rfl (fun b1 => ?_) (fun b1 => ?_)
  · skip
    refine lv_iconst (v := nI 0) hx hb dX2_has_16 (by decide) ?_
    refine W.zret (v := nI 0) (ty := .boolean) hx hb hr (by decide) (fun t ht hW => ⟨⟨nI 0, (), rfl, ?_, trivial⟩, hS.F ht⟩) hS.2.2 dX2_has_17
    first | exact (xb_t (by unfold inR; omega)).symm | exact (xb_f (by unfold inR; omega)).symm
  · skip
    refine lv_iload_n hx hb dX2_has_4 rfl (lv_at hl 1 rfl) ?_
    refine lv_aload_n hx hb dX2_has_5 rfl (lv_at hl 0 rfl) ?_
    refine va_get (D := G.1) (ci := 2) (v := .int (nI n)) (C := RX2) (T := TX2) (N := 3) hx hb hts hin2 hown hK.1 hP 0 rfl rfl 2 (by decide) (hts (.fieldLink RX2 19 "BackLenses$Rows" "size" "I") (List.mem_of_getElem? (i := 1) rfl)) (fun _ h9 => h9) rfl dX2_has_6 ?_
    refine xm_icmp_ge (tgt := 16) hx hb (by omega) dX2_has_9 rfl (fun b9 => ?_) (fun b9 => ?_)
    · skip
      refine lv_iconst (v := nI 0) hx hb dX2_has_16 (by decide) ?_
      refine W.zret (v := nI 0) (ty := .boolean) hx hb hr (by decide) (fun t ht hW => ⟨⟨nI 0, (), rfl, ?_, trivial⟩, hS.F ht⟩) hS.2.2 dX2_has_17
      first | exact (xb_t (by unfold inR; omega)).symm | exact (xb_f (by unfold inR; omega)).symm
    · skip
      refine lv_iconst (v := nI 1) hx hb dX2_has_12 (by decide) ?_
      refine lv_goto (tgt := 17) hx hb dX2_has_13 rfl ?_
      refine W.zret (v := nI 1) (ty := .boolean) hx hb hr (by decide) (fun t ht hW => ⟨⟨nI 1, (), rfl, ?_, trivial⟩, hS.F ht⟩) hS.2.2 dX2_has_17
      first | exact (xb_t (by unfold inR; omega)).symm | exact (xb_f (by unfold inR; omega)).symm

abbrev w_X2_number (G : XG) (h0 h1 : Nat) (room n : Nat) (f : Nat → Int32) : va_W := [oC h0 2 [.ref h1, .int (nI room), .int (nI n)], iA G h1 (3 * room) f]
abbrev Q_X2_number (G : XG) (h0 h1 : Nat) (room n : Nat) (f : Nat → Int32) (i j : Nat) : Array Value → State → Outcome → State → Prop := (xRi (fun r => r = f (3 * i + j)))
set_option maxHeartbeats 4000000 in
set_option maxRecDepth 100000 in
theorem c_X2_number (l : Launch) (G : XG) (h0 h1 : Nat) (room n : Nat) (f : Nat → Int32) (i j : Nat) (hr : room ≤ 10) (hi : 3 * i + j < 3 * room) : Met l yX2_number wsX2_number ({ frames := 0, cells := 0, slots := 0, locals := 0 } : Room) (va_Pc [.ref h0, .int (nI i), .int (nI j)] (xRp G (w_X2_number G h0 h1 room n f))) (Q_X2_number G h0 h1 room n f i j) 0 0 (fun _ => False) := by
  refine Met.ofW (cc := cX2_number) (maxL := 3) (ret := (some .int)) (by decide) rfl ?_
  intro pp ee ss mm aa below mt cd s₁ BB hml hv
  obtain ⟨rfl, hP, hK⟩ := hv
  have hx := BB.exec
  have hb := BB.bytes
  have hr := BB.returns
  have hts := atoms_spec (ws := wsX2_number) BB.pre
  have hown : ss.vm.findClass RX2 = some mm.cls := findClass_of_methodNamed BB.named
  have hlocks := BB.notSynchronized
  have hS : va_S (fun _ => False) ss.heap ss.heap [] := va_S.rf
  replace hP : xP G [oC h0 2 [.ref h1, .int (nI room), .int (nI n)], iA G h1 (3 * room) f] ss.heap := hP
  have hin2 : ∀ w ∈ u_ws RX2 TX2 3, w ∈ wsX2_number := fun w h => List.mem_cons_of_mem _ (List.mem_append_right _ h)
  have hl := lv_entry ([.ref h0, .int (nI i), .int (nI j)]) (n := 3) (Nat.le_of_ble_eq_true rfl)
  rw [lg_entry_eq]
  generalize (lg_sl ([.ref h0, .int (nI i), .int (nI j)]) ++ List.replicate (3 - (lg_sl ([.ref h0, .int (nI i), .int (nI j)])).length) Slot.unset).toArray = ls at hl ⊢
  replace hl : lv_has ls 3 [(0, .ref h0), (1, .int (nI i)), (2, .int (nI j))] := hl
  refine lv_aload_n hx hb dX2_number_0 rfl (lv_at hl 0 rfl) ?_
  refine va_get (D := G.1) (ci := 2) (v := .ref h1) (C := RX2) (T := TX2) (N := 3) hx hb hts hin2 hown hK.1 hP 0 rfl rfl 0 (by decide) (hts (.fieldLink RX2 15 "BackLenses$Rows" "numbers" "[I") (List.mem_of_getElem? (i := 1) rfl)) (fun _ h9 => h9) rfl dX2_number_1 ?_
  refine lv_iconst (v := nI 3) hx hb dX2_number_4 (by decide) ?_
  refine lv_iload_n hx hb dX2_number_5 rfl (lv_at hl 1 rfl) ?_
  refine xn_imul hx hb dX2_number_6 ?_
  refine lv_iload_n hx hb dX2_number_7 rfl (lv_at hl 2 rfl) ?_
  refine xn_iadd hx hb dX2_number_8 ?_
  refine xn_iald hx hb hK hP 1 rfl (by omega) (by omega) dX2_number_9 ?_
  refine W.iret (v := f ((3 * i) + j)) hx hb hr (fun t ht hW => ⟨⟨f ((3 * i) + j), (), rfl, ?_, trivial⟩, hS.F ht⟩) hS.2.2 dX2_number_10
  rfl

abbrev w_X2_replace (G : XG) (h0 h1 : Nat) (room n : Nat) (f : Nat → Int32) : va_W := [oC h0 2 [.ref h1, .int (nI room), .int (nI n)], iA G h1 (3 * room) f]
abbrev Q_X2_replace (G : XG) (sz : Nat) (h0 h1 : Nat) (room n : Nat) (f : Nat → Int32) (i j : Nat) (v : Int32) : Array Value → State → Outcome → State → Prop := (va_Qi (fun (r : Int32) (u : (Nat → Int32)) => r = f (3 * i + j) ∧ u = upd f (3 * i + j) v) (xWb G sz (w_X2_replace G h0 h1 room n f) (fun u : (Nat → Int32) => [oC h0 2 [.ref h1, .int (nI room), .int (nI n)], iA G h1 (3 * room) u])) (va_A (w_X2_replace G h0 h1 room n f) sz))
set_option maxHeartbeats 4000000 in
set_option maxRecDepth 100000 in
theorem c_X2_replace (l : Launch) (G : XG) (sz : Nat) (h0 h1 : Nat) (room n : Nat) (f : Nat → Int32) (i j : Nat) (v : Int32) (hr : room ≤ 10) (hi : 3 * i + j < 3 * room) : Met l yX2_replace wsX2_replace ({ frames := 0, cells := 0, slots := 0, locals := 0 } : Room) (va_Pc [.ref h0, .int (nI i), .int (nI j), .int v] (xWp G sz (w_X2_replace G h0 h1 room n f))) (Q_X2_replace G sz h0 h1 room n f i j v) 0 0 (va_A (w_X2_replace G h0 h1 room n f) sz) := by
  refine Met.ofW (cc := cX2_replace) (maxL := 5) (ret := (some .int)) (by decide) rfl ?_
  intro pp ee ss mm aa below mt cd s₁ BB hml hv
  obtain ⟨rfl, hsz, hP, hK, hD0⟩ := hv
  have hx := BB.exec
  have hb := BB.bytes
  have hr := BB.returns
  have hts := atoms_spec (ws := wsX2_replace) BB.pre
  have hown : ss.vm.findClass RX2 = some mm.cls := findClass_of_methodNamed BB.named
  have hlocks := BB.notSynchronized
  subst hsz
  have hD := hD0.self (sz := ss.heap.size)
  have hA : ∀ q : Nat, ss.heap.size ≤ q → va_A (w_X2_replace G h0 h1 room n f) ss.heap.size q := fun q h => Or.inr h
  have hS : va_S (va_A (w_X2_replace G h0 h1 room n f) ss.heap.size) ss.heap ss.heap [] := va_S.rf
  replace hD : va_D (va_A (w_X2_replace G h0 h1 room n f) ss.heap.size) [oC h0 2 [.ref h1, .int (nI room), .int (nI n)], iA G h1 (3 * room) f] := hD
  replace hP : xP G [oC h0 2 [.ref h1, .int (nI room), .int (nI n)], iA G h1 (3 * room) f] ss.heap := hP
  have hin2 : ∀ w ∈ u_ws RX2 TX2 3, w ∈ wsX2_replace := fun w h => List.mem_cons_of_mem _ (List.mem_append_right _ h)
  have hl := lv_entry ([.ref h0, .int (nI i), .int (nI j), .int v]) (n := 5) (Nat.le_of_ble_eq_true rfl)
  rw [lg_entry_eq]
  generalize (lg_sl ([.ref h0, .int (nI i), .int (nI j), .int v]) ++ List.replicate (5 - (lg_sl ([.ref h0, .int (nI i), .int (nI j), .int v])).length) Slot.unset).toArray = ls at hl ⊢
  replace hl : lv_has ls 5 [(0, .ref h0), (1, .int (nI i)), (2, .int (nI j)), (3, .int v)] := hl
  refine lv_aload_n hx hb dX2_replace_0 rfl (lv_at hl 0 rfl) ?_
  refine va_get (D := G.1) (ci := 2) (v := .ref h1) (C := RX2) (T := TX2) (N := 3) hx hb hts hin2 hown hK.1 hP 0 rfl rfl 0 (by decide) (hts (.fieldLink RX2 15 "BackLenses$Rows" "numbers" "[I") (List.mem_of_getElem? (i := 1) rfl)) (fun _ h9 => h9) rfl dX2_replace_1 ?_
  refine lv_iconst (v := nI 3) hx hb dX2_replace_4 (by decide) ?_
  refine lv_iload_n hx hb dX2_replace_5 rfl (lv_at hl 1 rfl) ?_
  refine xn_imul hx hb dX2_replace_6 ?_
  refine lv_iload_n hx hb dX2_replace_7 rfl (lv_at hl 2 rfl) ?_
  refine xn_iadd hx hb dX2_replace_8 ?_
  refine xn_iald hx hb hK hP 1 rfl (by omega) (by omega) dX2_replace_9 ?_
  refine lv_istore (lv' := [(4, .int (f ((3 * i) + j))), (0, .ref h0), (1, .int (nI i)), (2, .int (nI j)), (3, .int v)]) hx hb dX2_replace_10 hl (by decide) rfl (fun ls hl => ?_)
  refine lv_aload_n hx hb dX2_replace_12 rfl (lv_at hl 1 rfl) ?_
  refine va_get (D := G.1) (ci := 2) (v := .ref h1) (C := RX2) (T := TX2) (N := 3) hx hb hts hin2 hown hK.1 hP 0 rfl rfl 0 (by decide) (hts (.fieldLink RX2 15 "BackLenses$Rows" "numbers" "[I") (List.mem_of_getElem? (i := 1) rfl)) (fun _ h9 => h9) rfl dX2_replace_13 ?_
  refine lv_iconst (v := nI 3) hx hb dX2_replace_16 (by decide) ?_
  refine lv_iload_n hx hb dX2_replace_17 rfl (lv_at hl 2 rfl) ?_
  refine xn_imul hx hb dX2_replace_18 ?_
  refine lv_iload_n hx hb dX2_replace_19 rfl (lv_at hl 3 rfl) ?_
  refine xn_iadd hx hb dX2_replace_20 ?_
  refine lv_iload_n hx hb dX2_replace_21 rfl (lv_at hl 4 rfl) ?_
  refine xn_iast hx hb hK hP hD hS 1 rfl (by omega) (by omega) dX2_replace_22 (fun H locs hP hD hS => ?_)
  replace hP : xP G [oC h0 2 [.ref h1, .int (nI room), .int (nI n)], iA G h1 (3 * room) (upd f ((3 * i) + j) v)] H := hP
  replace hD : va_D (va_A (w_X2_replace G h0 h1 room n f) ss.heap.size) [oC h0 2 [.ref h1, .int (nI room), .int (nI n)], iA G h1 (3 * room) (upd f ((3 * i) + j) v)] := hD
  refine lv_iload hx hb dX2_replace_23 (lv_at hl 0 rfl) ?_
  have hP := hP.sub (ws' := [oC h0 2 [.ref h1, .int (nI room), .int (nI n)], iA G h1 (3 * room) (upd f ((3 * i) + j) v)]) [0, 1] rfl
  have hD := hD.sub (ws' := [oC h0 2 [.ref h1, .int (nI room), .int (nI n)], iA G h1 (3 * room) (upd f ((3 * i) + j) v)]) [0, 1] (by decide) rfl
  refine W.iret (v := f ((3 * i) + j)) hx hb hr (fun t ht hW => ⟨⟨f ((3 * i) + j), (upd f ((3 * i) + j) v), rfl, ?_, by rw [ht]; exact hP, hD⟩, hS.F ht⟩) hS.2.2 dX2_replace_25
  exact ⟨rfl, rfl⟩

abbrev w_X2_shorten (G : XG) (h0 h1 : Nat) (room n : Nat) : va_W := [oC h0 2 [.ref h1, .int (nI room), .int (nI n)]]
abbrev Q_X2_shorten (G : XG) (sz : Nat) (h0 h1 : Nat) (room n : Nat) (v : Int32) : Array Value → State → Outcome → State → Prop := (va_Qi (fun (r : Int32) (u : Nat) => r = (if inR v (n + 1) then nI n else (-1)) ∧ u = (if inR v (n + 1) then v.toInt.toNat else n)) (xWb G sz (w_X2_shorten G h0 h1 room n) (fun u : Nat => [oC h0 2 [.ref h1, .int (nI room), .int (nI u)]])) (va_A (w_X2_shorten G h0 h1 room n) sz))
set_option maxHeartbeats 4000000 in
set_option maxRecDepth 100000 in
theorem c_X2_shorten (l : Launch) (G : XG) (sz : Nat) (h0 h1 : Nat) (room n : Nat) (v : Int32) (hn : n ≤ 10) : Met l yX2_shorten wsX2_shorten ({ frames := 0, cells := 0, slots := 0, locals := 0 } : Room) (va_Pc [.ref h0, .int v] (xWp G sz (w_X2_shorten G h0 h1 room n))) (Q_X2_shorten G sz h0 h1 room n v) 0 0 (va_A (w_X2_shorten G h0 h1 room n) sz) := by
  refine Met.ofW (cc := cX2_shorten) (maxL := 3) (ret := (some .int)) (by decide) rfl ?_
  intro pp ee ss mm aa below mt cd s₁ BB hml hv
  obtain ⟨rfl, hsz, hP, hK, hD0⟩ := hv
  have hx := BB.exec
  have hb := BB.bytes
  have hr := BB.returns
  have hts := atoms_spec (ws := wsX2_shorten) BB.pre
  have hown : ss.vm.findClass RX2 = some mm.cls := findClass_of_methodNamed BB.named
  have hlocks := BB.notSynchronized
  subst hsz
  have hD := hD0.self (sz := ss.heap.size)
  have hA : ∀ q : Nat, ss.heap.size ≤ q → va_A (w_X2_shorten G h0 h1 room n) ss.heap.size q := fun q h => Or.inr h
  have hS : va_S (va_A (w_X2_shorten G h0 h1 room n) ss.heap.size) ss.heap ss.heap [] := va_S.rf
  replace hD : va_D (va_A (w_X2_shorten G h0 h1 room n) ss.heap.size) [oC h0 2 [.ref h1, .int (nI room), .int (nI n)]] := hD
  replace hP : xP G [oC h0 2 [.ref h1, .int (nI room), .int (nI n)]] ss.heap := hP
  have hin2 : ∀ w ∈ u_ws RX2 TX2 3, w ∈ wsX2_shorten := fun w h => List.mem_cons_of_mem _ (List.mem_append_right _ h)
  have hl := lv_entry ([.ref h0, .int v]) (n := 3) (Nat.le_of_ble_eq_true rfl)
  rw [lg_entry_eq]
  generalize (lg_sl ([.ref h0, .int v]) ++ List.replicate (3 - (lg_sl ([.ref h0, .int v])).length) Slot.unset).toArray = ls at hl ⊢
  replace hl : lv_has ls 3 [(0, .ref h0), (1, .int v)] := hl
  refine lv_iload_n hx hb dX2_shorten_0 rfl (lv_at hl 1 rfl) ?_
  refine xi_if_lt (tgt := 12) hx hb dX2_shorten_1 rfl (fun b1 => ?_) (fun b1 => ?_)
  · skip
    refine lv_iconst (v := (-1)) hx hb dX2_shorten_12 (by decide) ?_
    have hP := hP.sub (ws' := [oC h0 2 [.ref h1, .int (nI room), .int (nI n)]]) [0] rfl
    have hD := hD.sub (ws' := [oC h0 2 [.ref h1, .int (nI room), .int (nI n)]]) [0] (by decide) rfl
    refine W.iret (v := (-1)) hx hb hr (fun t ht hW => ⟨⟨(-1), (n), rfl, ?_, by rw [ht]; exact hP, hD⟩, hS.F ht⟩) hS.2.2 dX2_shorten_13
    first | (rw [if_neg (show ¬ inR _ _ by unfold inR; omega), if_neg (show ¬ inR _ _ by unfold inR; omega)]; exact ⟨rfl, rfl⟩) | (rw [if_pos (inR_nI hk (by omega)), if_pos (inR_nI hk (by omega)), nI_toInt (by omega)]; exact ⟨rfl, by omega⟩)
  · skip
    refine lv_iload_n hx hb dX2_shorten_4 rfl (lv_at hl 1 rfl) ?_
    refine lv_aload_n hx hb dX2_shorten_5 rfl (lv_at hl 0 rfl) ?_
    refine va_get (D := G.1) (ci := 2) (v := .int (nI n)) (C := RX2) (T := TX2) (N := 3) hx hb hts hin2 hown hK.1 hP 0 rfl rfl 2 (by decide) (hts (.fieldLink RX2 19 "BackLenses$Rows" "size" "I") (List.mem_of_getElem? (i := 1) rfl)) (fun _ h9 => h9) rfl dX2_shorten_6 ?_
    refine xm_icmp_le (tgt := 14) hx hb (by omega) dX2_shorten_9 rfl (fun b9 => ?_) (fun b9 => ?_)
    · skip
      obtain ⟨k, hk, rfl⟩ := inR_nat (x := v) (n := n + 1) (by unfold inR; omega)
      refine lv_aload_n hx hb dX2_shorten_14 rfl (lv_at hl 0 rfl) ?_
      refine va_get (D := G.1) (ci := 2) (v := .int (nI n)) (C := RX2) (T := TX2) (N := 3) hx hb hts hin2 hown hK.1 hP 0 rfl rfl 2 (by decide) (hts (.fieldLink RX2 19 "BackLenses$Rows" "size" "I") (List.mem_of_getElem? (i := 1) rfl)) (fun _ h9 => h9) rfl dX2_shorten_15 ?_
      refine lv_istore_n (lv' := [(2, .int (nI n)), (0, .ref h0), (1, .int (nI k))]) hx hb dX2_shorten_18 rfl hl (by decide) rfl (fun ls hl => ?_)
      refine lv_aload_n hx hb dX2_shorten_19 rfl (lv_at hl 1 rfl) ?_
      refine lv_iload_n hx hb dX2_shorten_20 rfl (lv_at hl 2 rfl) ?_
      refine va_put (D := G.1) (ci := 2) (v := .int (nI k)) (ty := .int) (C := RX2) (T := TX2) (N := 3) hx hb hts hin2 tyX2 tyX2_ok nmX2 hown hK.1 hP hD hS 0 rfl rfl 2 (by decide) (hts (.fieldLink RX2 19 "BackLenses$Rows" "size" "I") (List.mem_of_getElem? (i := 1) rfl)) (fun _ h9 => h9) rfl (by decide +kernel) rfl rfl (Nat.le_of_ble_eq_true rfl) dX2_shorten_21 (fun H locs hP hD hS => ?_)
      replace hP : xP G [oC h0 2 [.ref h1, .int (nI room), .int (nI k)]] H := hP
      replace hD : va_D (va_A (w_X2_shorten G h0 h1 room n) ss.heap.size) [oC h0 2 [.ref h1, .int (nI room), .int (nI k)]] := hD
      refine lv_iload_n hx hb dX2_shorten_24 rfl (lv_at hl 0 rfl) ?_
      have hP := hP.sub (ws' := [oC h0 2 [.ref h1, .int (nI room), .int (nI k)]]) [0] rfl
      have hD := hD.sub (ws' := [oC h0 2 [.ref h1, .int (nI room), .int (nI k)]]) [0] (by decide) rfl
      refine W.iret (v := nI n) hx hb hr (fun t ht hW => ⟨⟨nI n, (k), rfl, ?_, by rw [ht]; exact hP, hD⟩, hS.F ht⟩) hS.2.2 dX2_shorten_25
      first | (rw [if_neg (show ¬ inR _ _ by unfold inR; omega), if_neg (show ¬ inR _ _ by unfold inR; omega)]; exact ⟨rfl, rfl⟩) | (rw [if_pos (inR_nI hk (by omega)), if_pos (inR_nI hk (by omega)), nI_toInt (by omega)]; exact ⟨rfl, by omega⟩)
    · skip
      refine lv_iconst (v := (-1)) hx hb dX2_shorten_12 (by decide) ?_
      have hP := hP.sub (ws' := [oC h0 2 [.ref h1, .int (nI room), .int (nI n)]]) [0] rfl
      have hD := hD.sub (ws' := [oC h0 2 [.ref h1, .int (nI room), .int (nI n)]]) [0] (by decide) rfl
      refine W.iret (v := (-1)) hx hb hr (fun t ht hW => ⟨⟨(-1), (n), rfl, ?_, by rw [ht]; exact hP, hD⟩, hS.F ht⟩) hS.2.2 dX2_shorten_13
      first | (rw [if_neg (show ¬ inR _ _ by unfold inR; omega), if_neg (show ¬ inR _ _ by unfold inR; omega)]; exact ⟨rfl, rfl⟩) | (rw [if_pos (inR_nI hk (by omega)), if_pos (inR_nI hk (by omega)), nI_toInt (by omega)]; exact ⟨rfl, by omega⟩)

abbrev w_X2_add (G : XG) (h0 h1 : Nat) (room n : Nat) (f : Nat → Int32) : va_W := [oC h0 2 [.ref h1, .int (nI room), .int (nI n)], iA G h1 (3 * room) f]
abbrev Q_X2_add (G : XG) (sz : Nat) (h0 h1 : Nat) (room n : Nat) (f : Nat → Int32) (a b c : Int32) : Array Value → State → Outcome → State → Prop := (va_Qi (fun (r : Int32) (u : Nat × (Nat → Int32)) => r = (if n < room then nI (n + 1) else (-3)) ∧ u.1 = (if n < room then n + 1 else n) ∧ u.2 = (if n < room then upd (upd (upd f (3 * n) a) (3 * n + 1) b) (3 * n + 2) c else f)) (xWb G sz (w_X2_add G h0 h1 room n f) (fun u : Nat × (Nat → Int32) => [oC h0 2 [.ref h1, .int (nI room), .int (nI u.1)], iA G h1 (3 * room) u.2])) (va_A (w_X2_add G h0 h1 room n f) sz))
set_option maxHeartbeats 4000000 in
set_option maxRecDepth 100000 in
theorem c_X2_add (l : Launch) (G : XG) (sz : Nat) (h0 h1 : Nat) (room n : Nat) (f : Nat → Int32) (a b c : Int32) (hr : room ≤ 10) (hn : n ≤ room) : Met l yX2_add wsX2_add ({ frames := 0, cells := 0, slots := 0, locals := 0 } : Room) (va_Pc [.ref h0, .int a, .int b, .int c] (xWp G sz (w_X2_add G h0 h1 room n f))) (Q_X2_add G sz h0 h1 room n f a b c) 0 0 (va_A (w_X2_add G h0 h1 room n f) sz) := by
  refine Met.ofW (cc := cX2_add) (maxL := 4) (ret := (some .int)) (by decide) rfl ?_
  intro pp ee ss mm aa below mt cd s₁ BB hml hv
  obtain ⟨rfl, hsz, hP, hK, hD0⟩ := hv
  have hx := BB.exec
  have hb := BB.bytes
  have hr := BB.returns
  have hts := atoms_spec (ws := wsX2_add) BB.pre
  have hown : ss.vm.findClass RX2 = some mm.cls := findClass_of_methodNamed BB.named
  have hlocks := BB.notSynchronized
  subst hsz
  have hD := hD0.self (sz := ss.heap.size)
  have hA : ∀ q : Nat, ss.heap.size ≤ q → va_A (w_X2_add G h0 h1 room n f) ss.heap.size q := fun q h => Or.inr h
  have hS : va_S (va_A (w_X2_add G h0 h1 room n f) ss.heap.size) ss.heap ss.heap [] := va_S.rf
  replace hD : va_D (va_A (w_X2_add G h0 h1 room n f) ss.heap.size) [oC h0 2 [.ref h1, .int (nI room), .int (nI n)], iA G h1 (3 * room) f] := hD
  replace hP : xP G [oC h0 2 [.ref h1, .int (nI room), .int (nI n)], iA G h1 (3 * room) f] ss.heap := hP
  have hin2 : ∀ w ∈ u_ws RX2 TX2 3, w ∈ wsX2_add := fun w h => List.mem_cons_of_mem _ (List.mem_append_right _ h)
  have hl := lv_entry ([.ref h0, .int a, .int b, .int c]) (n := 4) (Nat.le_of_ble_eq_true rfl)
  rw [lg_entry_eq]
  generalize (lg_sl ([.ref h0, .int a, .int b, .int c]) ++ List.replicate (4 - (lg_sl ([.ref h0, .int a, .int b, .int c])).length) Slot.unset).toArray = ls at hl ⊢
  replace hl : lv_has ls 4 [(0, .ref h0), (1, .int a), (2, .int b), (3, .int c)] := hl
  refine lv_aload_n hx hb dX2_add_0 rfl (lv_at hl 0 rfl) ?_
  refine va_get (D := G.1) (ci := 2) (v := .int (nI n)) (C := RX2) (T := TX2) (N := 3) hx hb hts hin2 hown hK.1 hP 0 rfl rfl 2 (by decide) (hts (.fieldLink RX2 19 "BackLenses$Rows" "size" "I") (List.mem_of_getElem? (i := 1) rfl)) (fun _ h9 => h9) rfl dX2_add_1 ?_
  refine lv_aload_n hx hb dX2_add_4 rfl (lv_at hl 0 rfl) ?_
  refine va_get (D := G.1) (ci := 2) (v := .int (nI room)) (C := RX2) (T := TX2) (N := 3) hx hb hts hin2 hown hK.1 hP 0 rfl rfl 1 (by decide) (hts (.fieldLink RX2 9 "BackLenses$Rows" "room" "I") (List.mem_of_getElem? (i := 2) rfl)) (fun _ h9 => h9) rfl dX2_add_5 ?_
  refine xn_icmp_lt (tgt := 14) hx hb (by omega) (by omega) dX2_add_8 rfl (fun b8 => ?_) (fun b8 => ?_)
  · skip
    refine lv_aload_n hx hb dX2_add_14 rfl (lv_at hl 0 rfl) ?_
    refine va_get (D := G.1) (ci := 2) (v := .ref h1) (C := RX2) (T := TX2) (N := 3) hx hb hts hin2 hown hK.1 hP 0 rfl rfl 0 (by decide) (hts (.fieldLink RX2 15 "BackLenses$Rows" "numbers" "[I") (List.mem_of_getElem? (i := 3) rfl)) (fun _ h9 => h9) rfl dX2_add_15 ?_
    refine lv_iconst (v := nI 3) hx hb dX2_add_18 (by decide) ?_
    refine lv_aload_n hx hb dX2_add_19 rfl (lv_at hl 0 rfl) ?_
    refine va_get (D := G.1) (ci := 2) (v := .int (nI n)) (C := RX2) (T := TX2) (N := 3) hx hb hts hin2 hown hK.1 hP 0 rfl rfl 2 (by decide) (hts (.fieldLink RX2 19 "BackLenses$Rows" "size" "I") (List.mem_of_getElem? (i := 1) rfl)) (fun _ h9 => h9) rfl dX2_add_20 ?_
    refine xn_imul hx hb dX2_add_23 ?_
    refine lv_iload_n hx hb dX2_add_24 rfl (lv_at hl 1 rfl) ?_
    refine xn_iast hx hb hK hP hD hS 1 rfl (by omega) (by omega) dX2_add_25 (fun H locs hP hD hS => ?_)
    replace hP : xP G [oC h0 2 [.ref h1, .int (nI room), .int (nI n)], iA G h1 (3 * room) (upd f (3 * n) a)] H := hP
    replace hD : va_D (va_A (w_X2_add G h0 h1 room n f) ss.heap.size) [oC h0 2 [.ref h1, .int (nI room), .int (nI n)], iA G h1 (3 * room) (upd f (3 * n) a)] := hD
    refine lv_aload_n hx hb dX2_add_26 rfl (lv_at hl 0 rfl) ?_
    refine va_get (D := G.1) (ci := 2) (v := .ref h1) (C := RX2) (T := TX2) (N := 3) hx hb hts hin2 hown hK.1 hP 0 rfl rfl 0 (by decide) (hts (.fieldLink RX2 15 "BackLenses$Rows" "numbers" "[I") (List.mem_of_getElem? (i := 3) rfl)) (fun _ h9 => h9) rfl dX2_add_27 ?_
    refine lv_iconst (v := nI 3) hx hb dX2_add_30 (by decide) ?_
    refine lv_aload_n hx hb dX2_add_31 rfl (lv_at hl 0 rfl) ?_
    refine va_get (D := G.1) (ci := 2) (v := .int (nI n)) (C := RX2) (T := TX2) (N := 3) hx hb hts hin2 hown hK.1 hP 0 rfl rfl 2 (by decide) (hts (.fieldLink RX2 19 "BackLenses$Rows" "size" "I") (List.mem_of_getElem? (i := 1) rfl)) (fun _ h9 => h9) rfl dX2_add_32 ?_
    refine xn_imul hx hb dX2_add_35 ?_
    refine lv_iconst (v := nI 1) hx hb dX2_add_36 (by decide) ?_
    refine xn_iadd hx hb dX2_add_37 ?_
    refine lv_iload_n hx hb dX2_add_38 rfl (lv_at hl 2 rfl) ?_
    refine xn_iast hx hb hK hP hD hS 1 rfl (by omega) (by omega) dX2_add_39 (fun H locs hP hD hS => ?_)
    replace hP : xP G [oC h0 2 [.ref h1, .int (nI room), .int (nI n)], iA G h1 (3 * room) (upd (upd f (3 * n) a) ((3 * n) + 1) b)] H := hP
    replace hD : va_D (va_A (w_X2_add G h0 h1 room n f) ss.heap.size) [oC h0 2 [.ref h1, .int (nI room), .int (nI n)], iA G h1 (3 * room) (upd (upd f (3 * n) a) ((3 * n) + 1) b)] := hD
    refine lv_aload_n hx hb dX2_add_40 rfl (lv_at hl 0 rfl) ?_
    refine va_get (D := G.1) (ci := 2) (v := .ref h1) (C := RX2) (T := TX2) (N := 3) hx hb hts hin2 hown hK.1 hP 0 rfl rfl 0 (by decide) (hts (.fieldLink RX2 15 "BackLenses$Rows" "numbers" "[I") (List.mem_of_getElem? (i := 3) rfl)) (fun _ h9 => h9) rfl dX2_add_41 ?_
    refine lv_iconst (v := nI 3) hx hb dX2_add_44 (by decide) ?_
    refine lv_aload_n hx hb dX2_add_45 rfl (lv_at hl 0 rfl) ?_
    refine va_get (D := G.1) (ci := 2) (v := .int (nI n)) (C := RX2) (T := TX2) (N := 3) hx hb hts hin2 hown hK.1 hP 0 rfl rfl 2 (by decide) (hts (.fieldLink RX2 19 "BackLenses$Rows" "size" "I") (List.mem_of_getElem? (i := 1) rfl)) (fun _ h9 => h9) rfl dX2_add_46 ?_
    refine xn_imul hx hb dX2_add_49 ?_
    refine lv_iconst (v := nI 2) hx hb dX2_add_50 (by decide) ?_
    refine xn_iadd hx hb dX2_add_51 ?_
    refine lv_iload_n hx hb dX2_add_52 rfl (lv_at hl 3 rfl) ?_
    refine xn_iast hx hb hK hP hD hS 1 rfl (by omega) (by omega) dX2_add_53 (fun H locs hP hD hS => ?_)
    replace hP : xP G [oC h0 2 [.ref h1, .int (nI room), .int (nI n)], iA G h1 (3 * room) (upd (upd (upd f (3 * n) a) ((3 * n) + 1) b) ((3 * n) + 2) c)] H := hP
    replace hD : va_D (va_A (w_X2_add G h0 h1 room n f) ss.heap.size) [oC h0 2 [.ref h1, .int (nI room), .int (nI n)], iA G h1 (3 * room) (upd (upd (upd f (3 * n) a) ((3 * n) + 1) b) ((3 * n) + 2) c)] := hD
    refine lv_aload_n hx hb dX2_add_54 rfl (lv_at hl 0 rfl) ?_
    refine lv_dup hx hb dX2_add_55 rfl ?_
    refine va_get (D := G.1) (ci := 2) (v := .int (nI n)) (C := RX2) (T := TX2) (N := 3) hx hb hts hin2 hown hK.1 hP 0 rfl rfl 2 (by decide) (hts (.fieldLink RX2 19 "BackLenses$Rows" "size" "I") (List.mem_of_getElem? (i := 1) rfl)) (fun _ h9 => h9) rfl dX2_add_56 ?_
    refine lv_iconst (v := nI 1) hx hb dX2_add_59 (by decide) ?_
    refine xn_iadd hx hb dX2_add_60 ?_
    refine va_put (D := G.1) (ci := 2) (v := .int (nI (n + 1))) (ty := .int) (C := RX2) (T := TX2) (N := 3) hx hb hts hin2 tyX2 tyX2_ok nmX2 hown hK.1 hP hD hS 0 rfl rfl 2 (by decide) (hts (.fieldLink RX2 19 "BackLenses$Rows" "size" "I") (List.mem_of_getElem? (i := 1) rfl)) (fun _ h9 => h9) rfl (by decide +kernel) rfl rfl (Nat.le_of_ble_eq_true rfl) dX2_add_61 (fun H locs hP hD hS => ?_)
    replace hP : xP G [oC h0 2 [.ref h1, .int (nI room), .int (nI (n + 1))], iA G h1 (3 * room) (upd (upd (upd f (3 * n) a) ((3 * n) + 1) b) ((3 * n) + 2) c)] H := hP
    replace hD : va_D (va_A (w_X2_add G h0 h1 room n f) ss.heap.size) [oC h0 2 [.ref h1, .int (nI room), .int (nI (n + 1))], iA G h1 (3 * room) (upd (upd (upd f (3 * n) a) ((3 * n) + 1) b) ((3 * n) + 2) c)] := hD
    refine lv_aload_n hx hb dX2_add_64 rfl (lv_at hl 0 rfl) ?_
    refine va_get (D := G.1) (ci := 2) (v := .int (nI (n + 1))) (C := RX2) (T := TX2) (N := 3) hx hb hts hin2 hown hK.1 hP 0 rfl rfl 2 (by decide) (hts (.fieldLink RX2 19 "BackLenses$Rows" "size" "I") (List.mem_of_getElem? (i := 1) rfl)) (fun _ h9 => h9) rfl dX2_add_65 ?_
    have hP := hP.sub (ws' := [oC h0 2 [.ref h1, .int (nI room), .int (nI (n + 1))], iA G h1 (3 * room) (upd (upd (upd f (3 * n) a) ((3 * n) + 1) b) ((3 * n) + 2) c)]) [0, 1] rfl
    have hD := hD.sub (ws' := [oC h0 2 [.ref h1, .int (nI room), .int (nI (n + 1))], iA G h1 (3 * room) (upd (upd (upd f (3 * n) a) ((3 * n) + 1) b) ((3 * n) + 2) c)]) [0, 1] (by decide) rfl
    refine W.iret (v := nI (n + 1)) hx hb hr (fun t ht hW => ⟨⟨nI (n + 1), (n + 1, upd (upd (upd f (3 * n) a) ((3 * n) + 1) b) ((3 * n) + 2) c), rfl, ?_, by rw [ht]; exact hP, hD⟩, hS.F ht⟩) hS.2.2 dX2_add_68
    try dsimp only
    first | exact ⟨(if_pos b8).symm, (if_pos b8).symm, (if_pos b8).symm⟩ | exact ⟨(if_neg b8).symm, (if_neg b8).symm, (if_neg b8).symm⟩
  · skip
    refine lv_bipush (v := (-3)) hx hb dX2_add_11 (by decide) ?_
    have hP := hP.sub (ws' := [oC h0 2 [.ref h1, .int (nI room), .int (nI n)], iA G h1 (3 * room) f]) [0, 1] rfl
    have hD := hD.sub (ws' := [oC h0 2 [.ref h1, .int (nI room), .int (nI n)], iA G h1 (3 * room) f]) [0, 1] (by decide) rfl
    refine W.iret (v := (-3)) hx hb hr (fun t ht hW => ⟨⟨(-3), (n, f), rfl, ?_, by rw [ht]; exact hP, hD⟩, hS.F ht⟩) hS.2.2 dX2_add_13
    try dsimp only
    first | exact ⟨(if_pos b8).symm, (if_pos b8).symm, (if_pos b8).symm⟩ | exact ⟨(if_neg b8).symm, (if_neg b8).symm, (if_neg b8).symm⟩

abbrev w_X2_become (G : XG) (h0 h1 : Nat) (room n : Nat) (f : Nat → Int32) (h2 h3 : Nat) (n2 : Nat) (f2 : Nat → Int32) : va_W := [oC h0 2 [.ref h1, .int (nI room), .int (nI n)], iA G h1 (3 * room) f, oC h2 2 [.ref h3, .int (nI room), .int (nI n2)], iA G h3 (3 * room) f2]
abbrev Q_X2_become (G : XG) (sz : Nat) (h0 h1 : Nat) (room n : Nat) (f : Nat → Int32) (h2 h3 : Nat) (n2 : Nat) (f2 : Nat → Int32) : Array Value → State → Outcome → State → Prop := (va_Qv (fun (u : (Nat → Int32)) => u = va_cpy f2 f 0 0 (3 * room)) (xWb G sz (w_X2_become G h0 h1 room n f h2 h3 n2 f2) (fun u : (Nat → Int32) => [oC h0 2 [.ref h1, .int (nI room), .int (nI n2)], iA G h1 (3 * room) u, oC h2 2 [.ref h3, .int (nI room), .int (nI n2)], iA G h3 (3 * room) f2])) (va_A (w_X2_become G h0 h1 room n f h2 h3 n2 f2) sz))
set_option maxHeartbeats 4000000 in
set_option maxRecDepth 100000 in
theorem c_X2_become (l : Launch) (G : XG) (sz : Nat) (h0 h1 : Nat) (room n : Nat) (f : Nat → Int32) (h2 h3 : Nat) (n2 : Nat) (f2 : Nat → Int32) (hr : room ≤ 10) : Met l yX2_become wsX2_become ({ frames := 1, cells := 0, slots := 0, locals := 18 } : Room) (va_Pc [.ref h0, .ref h2] (xWp G sz (w_X2_become G h0 h1 room n f h2 h3 n2 f2))) (Q_X2_become G sz h0 h1 room n f h2 h3 n2 f2) 0 0 (va_A (w_X2_become G h0 h1 room n f h2 h3 n2 f2) sz) := by
  refine Met.ofW (cc := cX2_become) (maxL := 2) (ret := none) (by decide) rfl ?_
  intro pp ee ss mm aa below mt cd s₁ BB hml hv
  obtain ⟨rfl, hsz, hP, hK, hD0⟩ := hv
  have hx := BB.exec
  have hb := BB.bytes
  have hr := BB.returns
  have hts := atoms_spec (ws := wsX2_become) BB.pre
  have hown : ss.vm.findClass RX2 = some mm.cls := findClass_of_methodNamed BB.named
  have hlocks := BB.notSynchronized
  subst hsz
  have hD := hD0.self (sz := ss.heap.size)
  have hA : ∀ q : Nat, ss.heap.size ≤ q → va_A (w_X2_become G h0 h1 room n f h2 h3 n2 f2) ss.heap.size q := fun q h => Or.inr h
  have hS : va_S (va_A (w_X2_become G h0 h1 room n f h2 h3 n2 f2) ss.heap.size) ss.heap ss.heap [] := va_S.rf
  replace hD : va_D (va_A (w_X2_become G h0 h1 room n f h2 h3 n2 f2) ss.heap.size) [oC h0 2 [.ref h1, .int (nI room), .int (nI n)], iA G h1 (3 * room) f, oC h2 2 [.ref h3, .int (nI room), .int (nI n2)], iA G h3 (3 * room) f2] := hD
  replace hP : xP G [oC h0 2 [.ref h1, .int (nI room), .int (nI n)], iA G h1 (3 * room) f, oC h2 2 [.ref h3, .int (nI room), .int (nI n2)], iA G h3 (3 * room) f2] ss.heap := hP
  have hin2 : ∀ w ∈ u_ws RX2 TX2 3, w ∈ wsX2_become := fun w h => List.mem_cons_of_mem _ (List.mem_append_right _ h)
  have hl := lv_entry ([.ref h0, .ref h2]) (n := 2) (Nat.le_of_ble_eq_true rfl)
  rw [lg_entry_eq]
  generalize (lg_sl ([.ref h0, .ref h2]) ++ List.replicate (2 - (lg_sl ([.ref h0, .ref h2])).length) Slot.unset).toArray = ls at hl ⊢
  replace hl : lv_has ls 2 [(0, .ref h0), (1, .ref h2)] := hl
  refine lv_aload_n hx hb dX2_become_0 rfl (lv_at hl 0 rfl) ?_
  refine lv_aload_n hx hb dX2_become_1 rfl (lv_at hl 1 rfl) ?_
  refine va_get (D := G.1) (ci := 2) (v := .int (nI n2)) (C := RX2) (T := TX2) (N := 3) hx hb hts hin2 hown hK.1 hP 2 rfl rfl 2 (by decide) (hts (.fieldLink RX2 19 "BackLenses$Rows" "size" "I") (List.mem_of_getElem? (i := 1) rfl)) (fun _ h9 => h9) rfl dX2_become_2 ?_
  refine va_put (D := G.1) (ci := 2) (v := .int (nI n2)) (ty := .int) (C := RX2) (T := TX2) (N := 3) hx hb hts hin2 tyX2 tyX2_ok nmX2 hown hK.1 hP hD hS 0 rfl rfl 2 (by decide) (hts (.fieldLink RX2 19 "BackLenses$Rows" "size" "I") (List.mem_of_getElem? (i := 1) rfl)) (fun _ h9 => h9) rfl (by decide +kernel) rfl rfl (Nat.le_of_ble_eq_true rfl) dX2_become_5 (fun H locs hP hD hS => ?_)
  replace hP : xP G [oC h0 2 [.ref h1, .int (nI room), .int (nI n2)], iA G h1 (3 * room) f, oC h2 2 [.ref h3, .int (nI room), .int (nI n2)], iA G h3 (3 * room) f2] H := hP
  replace hD : va_D (va_A (w_X2_become G h0 h1 room n f h2 h3 n2 f2) ss.heap.size) [oC h0 2 [.ref h1, .int (nI room), .int (nI n2)], iA G h1 (3 * room) f, oC h2 2 [.ref h3, .int (nI room), .int (nI n2)], iA G h3 (3 * room) f2] := hD
  refine lv_aload_n hx hb dX2_become_8 rfl (lv_at hl 1 rfl) ?_
  refine va_get (D := G.1) (ci := 2) (v := .ref h3) (C := RX2) (T := TX2) (N := 3) hx hb hts hin2 hown hK.1 hP 2 rfl rfl 0 (by decide) (hts (.fieldLink RX2 15 "BackLenses$Rows" "numbers" "[I") (List.mem_of_getElem? (i := 2) rfl)) (fun _ h9 => h9) rfl dX2_become_9 ?_
  refine lv_iconst (v := nI 0) hx hb dX2_become_12 (by decide) ?_
  refine lv_aload_n hx hb dX2_become_13 rfl (lv_at hl 0 rfl) ?_
  refine va_get (D := G.1) (ci := 2) (v := .ref h1) (C := RX2) (T := TX2) (N := 3) hx hb hts hin2 hown hK.1 hP 0 rfl rfl 0 (by decide) (hts (.fieldLink RX2 15 "BackLenses$Rows" "numbers" "[I") (List.mem_of_getElem? (i := 2) rfl)) (fun _ h9 => h9) rfl dX2_become_14 ?_
  refine lv_iconst (v := nI 0) hx hb dX2_become_17 (by decide) ?_
  refine lv_aload_n hx hb dX2_become_18 rfl (lv_at hl 0 rfl) ?_
  refine va_get (D := G.1) (ci := 2) (v := .ref h1) (C := RX2) (T := TX2) (N := 3) hx hb hts hin2 hown hK.1 hP 0 rfl rfl 0 (by decide) (hts (.fieldLink RX2 15 "BackLenses$Rows" "numbers" "[I") (List.mem_of_getElem? (i := 2) rfl)) (fun _ h9 => h9) rfl dX2_become_19 ?_
  refine xn_alen hx hb hK hP 1 rfl dX2_become_22 ?_
  refine xn_copyi (n := 3 * room) (sp := 0) (dp := 0) hx hb (by rw [hml]; exact hl.1.symm) hown (hts (.methodLink RX2 22 arraycopyName) (List.mem_of_getElem? (i := 3) rfl)) (hts (.native arraycopyName) (List.mem_of_getElem? (i := 4) rfl)) (hts (.static arraycopyName) (List.mem_of_getElem? (i := 5) rfl)) (hts (.initialized "java/lang/System") (List.mem_of_getElem? (i := 6) rfl)) hK hP hD hS 3 1 rfl rfl (by omega) (by omega) (by omega) (by omega) (Nat.le_of_ble_eq_true rfl) (Nat.le_of_ble_eq_true rfl) dX2_become_23 (fun H locs hP hD hS => ?_)
  replace hP : xP G [oC h0 2 [.ref h1, .int (nI room), .int (nI n2)], iA G h1 (3 * room) (va_cpy f2 f 0 0 (3 * room)), oC h2 2 [.ref h3, .int (nI room), .int (nI n2)], iA G h3 (3 * room) f2] H := hP
  replace hD : va_D (va_A (w_X2_become G h0 h1 room n f h2 h3 n2 f2) ss.heap.size) [oC h0 2 [.ref h1, .int (nI room), .int (nI n2)], iA G h1 (3 * room) (va_cpy f2 f 0 0 (3 * room)), oC h2 2 [.ref h3, .int (nI room), .int (nI n2)], iA G h3 (3 * room) f2] := hD
  have hP := hP.sub (ws' := [oC h0 2 [.ref h1, .int (nI room), .int (nI n2)], iA G h1 (3 * room) (va_cpy f2 f 0 0 (3 * room)), oC h2 2 [.ref h3, .int (nI room), .int (nI n2)], iA G h3 (3 * room) f2]) [0, 1, 2, 3] rfl
  have hD := hD.sub (ws' := [oC h0 2 [.ref h1, .int (nI room), .int (nI n2)], iA G h1 (3 * room) (va_cpy f2 f 0 0 (3 * room)), oC h2 2 [.ref h3, .int (nI room), .int (nI n2)], iA G h3 (3 * room) f2]) [0, 1, 2, 3] (by decide) rfl
  refine W.vret hx hb hr (fun t ht hW => ⟨⟨(va_cpy f2 f 0 0 (3 * room)), rfl, ?_, by rw [ht]; exact hP, hD⟩, hS.F ht⟩) hS.2.2 dX2_become_26
  rfl
end
section
abbrev Q_X5_isMark (G : XG) (m : Int32) : Array Value → State → Outcome → State → Prop := (xRi (fun r => r = xb (inR m 6)))
set_option maxHeartbeats 4000000 in
set_option maxRecDepth 100000 in
theorem c_X5_isMark (l : Launch) (G : XG) (m : Int32)  : Met l yX5_isMark wsX5_isMark ({ frames := 0, cells := 0, slots := 0, locals := 0 } : Room) (va_Pc [.int m] (fun _ => True)) (Q_X5_isMark G m) 0 0 (fun _ => False) := by
  refine Met.ofW (cc := cX5_isMark) (maxL := 1) (ret := (some .boolean)) (by decide) rfl ?_
  intro pp ee ss mm aa below mt cd s₁ BB hml hv
  obtain ⟨rfl, -⟩ := hv
  have hx := BB.exec
  have hb := BB.bytes
  have hr := BB.returns
  have hts := atoms_spec (ws := wsX5_isMark) BB.pre
  have hown : ss.vm.findClass RX5 = some mm.cls := findClass_of_methodNamed BB.named
  have hlocks := BB.notSynchronized
  have hS : va_S (fun _ => False) ss.heap ss.heap [] := va_S.rf
  have hP : xP (G) [] ss.heap := fun k q h => by cases h
  have hl := lv_entry ([.int m]) (n := 1) (Nat.le_of_ble_eq_true rfl)
  rw [lg_entry_eq]
  generalize (lg_sl ([.int m]) ++ List.replicate (1 - (lg_sl ([.int m])).length) Slot.unset).toArray = ls at hl ⊢
  replace hl : lv_has ls 1 [(0, .int m)] := hl
  refine lv_iload_n hx hb dX5_isMark_0 rfl (lv_at hl 0 rfl) ?_
  refine xi_if_lt (tgt := 14) hx hb dX5_isMark_1 rfl (fun b1 => ?_) (fun b1 => ?_)
  · skip
    refine lv_iconst (v := nI 0) hx hb dX5_isMark_14 (by decide) ?_
    refine W.zret (v := nI 0) (ty := .boolean) hx hb hr (by decide) (fun t ht hW => ⟨⟨nI 0, (), rfl, ?_, trivial⟩, hS.F ht⟩) hS.2.2 dX5_isMark_15
    first | exact (xb_t (by unfold inR; omega)).symm | exact (xb_f (by unfold inR; omega)).symm
  · skip
    refine lv_iload_n hx hb dX5_isMark_4 rfl (lv_at hl 0 rfl) ?_
    refine lv_bipush (v := nI 6) hx hb dX5_isMark_5 (by decide) ?_
    refine xm_icmp_ge (tgt := 14) hx hb (by omega) dX5_isMark_7 rfl (fun b7 => ?_) (fun b7 => ?_)
    · skip
      refine lv_iconst (v := nI 0) hx hb dX5_isMark_14 (by decide) ?_
      refine W.zret (v := nI 0) (ty := .boolean) hx hb hr (by decide) (fun t ht hW => ⟨⟨nI 0, (), rfl, ?_, trivial⟩, hS.F ht⟩) hS.2.2 dX5_isMark_15
      first | exact (xb_t (by unfold inR; omega)).symm | exact (xb_f (by unfold inR; omega)).symm
    · skip
      refine lv_iconst (v := nI 1) hx hb dX5_isMark_10 (by decide) ?_
      refine lv_goto (tgt := 15) hx hb dX5_isMark_11 rfl ?_
      refine W.zret (v := nI 1) (ty := .boolean) hx hb hr (by decide) (fun t ht hW => ⟨⟨nI 1, (), rfl, ?_, trivial⟩, hS.F ht⟩) hS.2.2 dX5_isMark_15
      first | exact (xb_t (by unfold inR; omega)).symm | exact (xb_f (by unfold inR; omega)).symm

abbrev Q_X5_isTenth (G : XG) (v : Int32) : Array Value → State → Outcome → State → Prop := (xRi (fun r => r = xb (inR v 11)))
set_option maxHeartbeats 4000000 in
set_option maxRecDepth 100000 in
theorem c_X5_isTenth (l : Launch) (G : XG) (v : Int32)  : Met l yX5_isTenth wsX5_isTenth ({ frames := 0, cells := 0, slots := 0, locals := 0 } : Room) (va_Pc [.int v] (fun _ => True)) (Q_X5_isTenth G v) 0 0 (fun _ => False) := by
  refine Met.ofW (cc := cX5_isTenth) (maxL := 1) (ret := (some .boolean)) (by decide) rfl ?_
  intro pp ee ss mm aa below mt cd s₁ BB hml hv
  obtain ⟨rfl, -⟩ := hv
  have hx := BB.exec
  have hb := BB.bytes
  have hr := BB.returns
  have hts := atoms_spec (ws := wsX5_isTenth) BB.pre
  have hown : ss.vm.findClass RX5 = some mm.cls := findClass_of_methodNamed BB.named
  have hlocks := BB.notSynchronized
  have hS : va_S (fun _ => False) ss.heap ss.heap [] := va_S.rf
  have hP : xP (G) [] ss.heap := fun k q h => by cases h
  have hl := lv_entry ([.int v]) (n := 1) (Nat.le_of_ble_eq_true rfl)
  rw [lg_entry_eq]
  generalize (lg_sl ([.int v]) ++ List.replicate (1 - (lg_sl ([.int v])).length) Slot.unset).toArray = ls at hl ⊢
  replace hl : lv_has ls 1 [(0, .int v)] := hl
  refine lv_iload_n hx hb dX5_isTenth_0 rfl (lv_at hl 0 rfl) ?_
  refine xi_if_lt (tgt := 14) hx hb dX5_isTenth_1 rfl (fun b1 => ?_) (fun b1 => ?_)
  · skip
    refine lv_iconst (v := nI 0) hx hb dX5_isTenth_14 (by decide) ?_
    refine W.zret (v := nI 0) (ty := .boolean) hx hb hr (by decide) (fun t ht hW => ⟨⟨nI 0, (), rfl, ?_, trivial⟩, hS.F ht⟩) hS.2.2 dX5_isTenth_15
    first | exact (xb_t (by unfold inR; omega)).symm | exact (xb_f (by unfold inR; omega)).symm
  · skip
    refine lv_iload_n hx hb dX5_isTenth_4 rfl (lv_at hl 0 rfl) ?_
    refine lv_bipush (v := nI 10) hx hb dX5_isTenth_5 (by decide) ?_
    refine xm_icmp_gt (tgt := 14) hx hb (by omega) dX5_isTenth_7 rfl (fun b7 => ?_) (fun b7 => ?_)
    · skip
      refine lv_iconst (v := nI 0) hx hb dX5_isTenth_14 (by decide) ?_
      refine W.zret (v := nI 0) (ty := .boolean) hx hb hr (by decide) (fun t ht hW => ⟨⟨nI 0, (), rfl, ?_, trivial⟩, hS.F ht⟩) hS.2.2 dX5_isTenth_15
      first | exact (xb_t (by unfold inR; omega)).symm | exact (xb_f (by unfold inR; omega)).symm
    · skip
      refine lv_iconst (v := nI 1) hx hb dX5_isTenth_10 (by decide) ?_
      refine lv_goto (tgt := 15) hx hb dX5_isTenth_11 rfl ?_
      refine W.zret (v := nI 1) (ty := .boolean) hx hb hr (by decide) (fun t ht hW => ⟨⟨nI 1, (), rfl, ?_, trivial⟩, hS.F ht⟩) hS.2.2 dX5_isTenth_15
      first | exact (xb_t (by unfold inR; omega)).symm | exact (xb_f (by unfold inR; omega)).symm

abbrev Q_X5_isSheet (G : XG) (k : Int32) : Array Value → State → Outcome → State → Prop := (xRi (fun r => r = xb (inR k 4)))
set_option maxHeartbeats 4000000 in
set_option maxRecDepth 100000 in
theorem c_X5_isSheet (l : Launch) (G : XG) (k : Int32)  : Met l yX5_isSheet wsX5_isSheet ({ frames := 0, cells := 0, slots := 0, locals := 0 } : Room) (va_Pc [.int k] (fun _ => True)) (Q_X5_isSheet G k) 0 0 (fun _ => False) := by
  refine Met.ofW (cc := cX5_isSheet) (maxL := 1) (ret := (some .boolean)) (by decide) rfl ?_
  intro pp ee ss mm aa below mt cd s₁ BB hml hv
  obtain ⟨rfl, -⟩ := hv
  have hx := BB.exec
  have hb := BB.bytes
  have hr := BB.returns
  have hts := atoms_spec (ws := wsX5_isSheet) BB.pre
  have hown : ss.vm.findClass RX5 = some mm.cls := findClass_of_methodNamed BB.named
  have hlocks := BB.notSynchronized
  have hS : va_S (fun _ => False) ss.heap ss.heap [] := va_S.rf
  have hP : xP (G) [] ss.heap := fun k q h => by cases h
  have hl := lv_entry ([.int k]) (n := 1) (Nat.le_of_ble_eq_true rfl)
  rw [lg_entry_eq]
  generalize (lg_sl ([.int k]) ++ List.replicate (1 - (lg_sl ([.int k])).length) Slot.unset).toArray = ls at hl ⊢
  replace hl : lv_has ls 1 [(0, .int k)] := hl
  refine lv_iload_n hx hb dX5_isSheet_0 rfl (lv_at hl 0 rfl) ?_
  refine xi_if_lt (tgt := 13) hx hb dX5_isSheet_1 rfl (fun b1 => ?_) (fun b1 => ?_)
  · skip
    refine lv_iconst (v := nI 0) hx hb dX5_isSheet_13 (by decide) ?_
    refine W.zret (v := nI 0) (ty := .boolean) hx hb hr (by decide) (fun t ht hW => ⟨⟨nI 0, (), rfl, ?_, trivial⟩, hS.F ht⟩) hS.2.2 dX5_isSheet_14
    first | exact (xb_t (by unfold inR; omega)).symm | exact (xb_f (by unfold inR; omega)).symm
  · skip
    refine lv_iload_n hx hb dX5_isSheet_4 rfl (lv_at hl 0 rfl) ?_
    refine lv_iconst (v := nI 4) hx hb dX5_isSheet_5 (by decide) ?_
    refine xm_icmp_ge (tgt := 13) hx hb (by omega) dX5_isSheet_6 rfl (fun b6 => ?_) (fun b6 => ?_)
    · skip
      refine lv_iconst (v := nI 0) hx hb dX5_isSheet_13 (by decide) ?_
      refine W.zret (v := nI 0) (ty := .boolean) hx hb hr (by decide) (fun t ht hW => ⟨⟨nI 0, (), rfl, ?_, trivial⟩, hS.F ht⟩) hS.2.2 dX5_isSheet_14
      first | exact (xb_t (by unfold inR; omega)).symm | exact (xb_f (by unfold inR; omega)).symm
    · skip
      refine lv_iconst (v := nI 1) hx hb dX5_isSheet_9 (by decide) ?_
      refine lv_goto (tgt := 14) hx hb dX5_isSheet_10 rfl ?_
      refine W.zret (v := nI 1) (ty := .boolean) hx hb hr (by decide) (fun t ht hW => ⟨⟨nI 1, (), rfl, ?_, trivial⟩, hS.F ht⟩) hS.2.2 dX5_isSheet_14
      first | exact (xb_t (by unfold inR; omega)).symm | exact (xb_f (by unfold inR; omega)).symm

abbrev Q_X5_isLane (G : XG) (k : Int32) : Array Value → State → Outcome → State → Prop := (xRi (fun r => r = xb (inR k 3)))
set_option maxHeartbeats 4000000 in
set_option maxRecDepth 100000 in
theorem c_X5_isLane (l : Launch) (G : XG) (k : Int32)  : Met l yX5_isLane wsX5_isLane ({ frames := 0, cells := 0, slots := 0, locals := 0 } : Room) (va_Pc [.int k] (fun _ => True)) (Q_X5_isLane G k) 0 0 (fun _ => False) := by
  refine Met.ofW (cc := cX5_isLane) (maxL := 1) (ret := (some .boolean)) (by decide) rfl ?_
  intro pp ee ss mm aa below mt cd s₁ BB hml hv
  obtain ⟨rfl, -⟩ := hv
  have hx := BB.exec
  have hb := BB.bytes
  have hr := BB.returns
  have hts := atoms_spec (ws := wsX5_isLane) BB.pre
  have hown : ss.vm.findClass RX5 = some mm.cls := findClass_of_methodNamed BB.named
  have hlocks := BB.notSynchronized
  have hS : va_S (fun _ => False) ss.heap ss.heap [] := va_S.rf
  have hP : xP (G) [] ss.heap := fun k q h => by cases h
  have hl := lv_entry ([.int k]) (n := 1) (Nat.le_of_ble_eq_true rfl)
  rw [lg_entry_eq]
  generalize (lg_sl ([.int k]) ++ List.replicate (1 - (lg_sl ([.int k])).length) Slot.unset).toArray = ls at hl ⊢
  replace hl : lv_has ls 1 [(0, .int k)] := hl
  refine lv_iload_n hx hb dX5_isLane_0 rfl (lv_at hl 0 rfl) ?_
  refine xi_if_lt (tgt := 13) hx hb dX5_isLane_1 rfl (fun b1 => ?_) (fun b1 => ?_)
  · skip
    refine lv_iconst (v := nI 0) hx hb dX5_isLane_13 (by decide) ?_
    refine W.zret (v := nI 0) (ty := .boolean) hx hb hr (by decide) (fun t ht hW => ⟨⟨nI 0, (), rfl, ?_, trivial⟩, hS.F ht⟩) hS.2.2 dX5_isLane_14
    first | exact (xb_t (by unfold inR; omega)).symm | exact (xb_f (by unfold inR; omega)).symm
  · skip
    refine lv_iload_n hx hb dX5_isLane_4 rfl (lv_at hl 0 rfl) ?_
    refine lv_iconst (v := nI 3) hx hb dX5_isLane_5 (by decide) ?_
    refine xm_icmp_ge (tgt := 13) hx hb (by omega) dX5_isLane_6 rfl (fun b6 => ?_) (fun b6 => ?_)
    · skip
      refine lv_iconst (v := nI 0) hx hb dX5_isLane_13 (by decide) ?_
      refine W.zret (v := nI 0) (ty := .boolean) hx hb hr (by decide) (fun t ht hW => ⟨⟨nI 0, (), rfl, ?_, trivial⟩, hS.F ht⟩) hS.2.2 dX5_isLane_14
      first | exact (xb_t (by unfold inR; omega)).symm | exact (xb_f (by unfold inR; omega)).symm
    · skip
      refine lv_iconst (v := nI 1) hx hb dX5_isLane_9 (by decide) ?_
      refine lv_goto (tgt := 14) hx hb dX5_isLane_10 rfl ?_
      refine W.zret (v := nI 1) (ty := .boolean) hx hb hr (by decide) (fun t ht hW => ⟨⟨nI 1, (), rfl, ?_, trivial⟩, hS.F ht⟩) hS.2.2 dX5_isLane_14
      first | exact (xb_t (by unfold inR; omega)).symm | exact (xb_f (by unfold inR; omega)).symm

abbrev Q_X5_isChoice (G : XG) (w : Int32) : Array Value → State → Outcome → State → Prop := (xRi (fun r => r = xb (inR w 2)))
set_option maxHeartbeats 4000000 in
set_option maxRecDepth 100000 in
theorem c_X5_isChoice (l : Launch) (G : XG) (w : Int32)  : Met l yX5_isChoice wsX5_isChoice ({ frames := 0, cells := 0, slots := 0, locals := 0 } : Room) (va_Pc [.int w] (fun _ => True)) (Q_X5_isChoice G w) 0 0 (fun _ => False) := by
  refine Met.ofW (cc := cX5_isChoice) (maxL := 1) (ret := (some .boolean)) (by decide) rfl ?_
  intro pp ee ss mm aa below mt cd s₁ BB hml hv
  obtain ⟨rfl, -⟩ := hv
  have hx := BB.exec
  have hb := BB.bytes
  have hr := BB.returns
  have hts := atoms_spec (ws := wsX5_isChoice) BB.pre
  have hown : ss.vm.findClass RX5 = some mm.cls := findClass_of_methodNamed BB.named
  have hlocks := BB.notSynchronized
  have hS : va_S (fun _ => False) ss.heap ss.heap [] := va_S.rf
  have hP : xP (G) [] ss.heap := fun k q h => by cases h
  have hl := lv_entry ([.int w]) (n := 1) (Nat.le_of_ble_eq_true rfl)
  rw [lg_entry_eq]
  generalize (lg_sl ([.int w]) ++ List.replicate (1 - (lg_sl ([.int w])).length) Slot.unset).toArray = ls at hl ⊢
  replace hl : lv_has ls 1 [(0, .int w)] := hl
  refine lv_iload_n hx hb dX5_isChoice_0 rfl (lv_at hl 0 rfl) ?_
  refine lv_if_eq (tgt := 9) hx hb dX5_isChoice_1 rfl (fun b1 => ?_) (fun b1 => ?_)
  · skip
    refine lv_iconst (v := nI 1) hx hb dX5_isChoice_9 (by decide) ?_
    refine lv_goto (tgt := 14) hx hb dX5_isChoice_10 rfl ?_
    refine W.zret (v := nI 1) (ty := .boolean) hx hb hr (by decide) (fun t ht hW => ⟨⟨nI 1, (), rfl, ?_, trivial⟩, hS.F ht⟩) hS.2.2 dX5_isChoice_14
    first | exact (xb_t (inR_2.mpr (by simp_all))).symm | exact (xb_f (fun q => by rcases inR_2.mp q with q | q <;> simp_all)).symm
  · skip
    refine lv_iload_n hx hb dX5_isChoice_4 rfl (lv_at hl 0 rfl) ?_
    refine lv_iconst (v := nI 1) hx hb dX5_isChoice_5 (by decide) ?_
    refine lv_icmp_ne (tgt := 13) hx hb dX5_isChoice_6 rfl (fun b6 => ?_) (fun b6 => ?_)
    · skip
      refine lv_iconst (v := nI 0) hx hb dX5_isChoice_13 (by decide) ?_
      refine W.zret (v := nI 0) (ty := .boolean) hx hb hr (by decide) (fun t ht hW => ⟨⟨nI 0, (), rfl, ?_, trivial⟩, hS.F ht⟩) hS.2.2 dX5_isChoice_14
      first | exact (xb_t (inR_2.mpr (by simp_all))).symm | exact (xb_f (fun q => by rcases inR_2.mp q with q | q <;> simp_all)).symm
    · skip
      refine lv_iconst (v := nI 1) hx hb dX5_isChoice_9 (by decide) ?_
      refine lv_goto (tgt := 14) hx hb dX5_isChoice_10 rfl ?_
      refine W.zret (v := nI 1) (ty := .boolean) hx hb hr (by decide) (fun t ht hW => ⟨⟨nI 1, (), rfl, ?_, trivial⟩, hS.F ht⟩) hS.2.2 dX5_isChoice_14
      first | exact (xb_t (inR_2.mpr (by simp_all))).symm | exact (xb_f (fun q => by rcases inR_2.mp q with q | q <;> simp_all)).symm
end
section
/-! what a house's marks and sights are, by the class's own way -/
/-- the mark of cell c behind the first so many changes, of those of day d; before them it was g -/
def chD (fc : Nat → Int32) (d c : Nat) (g : Int32) : Nat → Int32
  | 0 => g
  | i + 1 => if fc (3 * i) = nI d ∧ fc (3 * i + 1) = nI c then fc (3 * i + 2) else chD fc d c g i
/-- the mark of cell c on a day -/
def mkS (af : Nat → Int32) (nc : Nat) (fc : Nat → Int32) (c : Nat) : Nat → Int32
  | 0 => chD fc 0 c (af c) nc
  | d + 1 => chD fc (d + 1) c (mkS af nc fc c d) nc
/-- a ray: k cells more, the next by number i -/
def rayF (row : Nat → Int32) (cf : Nat → Nat) (door : Int32) : Nat → Nat → Int32 → Int32
  | 0, _, acc => acc
  | k + 1, i, acc => if row (cf i) = nI 4 ∨ (¬ door = 0 ∧ row (cf i) = nI 5) then acc ||| xbit (cf i) else rayF row cf door k (i + 1) (acc ||| xbit (cf i))
/-- what is in sight from x by a row of marks -/
def sgF (w h : Nat) (row : Nat → Int32) (x : Nat) : Int32 :=
  (((xbit x ||| rayF row (fun i => x - i * w) (nI 1) (x / w) 1 (nI 0)) ||| rayF row (fun i => x + i * w) (nI 1) (h - 1 - x / w) 1 (nI 0)) ||| rayF row (fun i => x - i) (nI 0) (x - x / w * w) 1 (nI 0)) ||| rayF row (fun i => x + i) (nI 0) (w - 1 - (x - x / w * w)) 1 (nI 0)
/-- the views hold the book's marks and sights -/
def FR (w h la : Nat) (af : Nat → Int32) (nc : Nat) (fc : Nat → Int32) (mk sg : Nat → Int32) : Prop :=
  ∀ d, d ≤ la → (∀ c, c < 16 → mk (d * 16 + c) = mkS af nc fc c d) ∧ ∀ x, x < w * h → sg (d * 16 + x) = sgF w h (fun c => mkS af nc fc c d) x
/-- what may be said of the views at any time -/
def VOK (w h la : Nat) (af : Nat → Int32) (nc : Nat) (fc : Nat → Int32) (mk sg : Nat → Int32) (vw vh : Nat) (sl : Int32) : Prop :=
  sl = 0 → vw = w ∧ vh = h ∧ FR w h la af nc fc mk sg
def mkB (af : Nat → Int32) (nc : Nat) (fc : Nat → Int32) (c : Nat) : Nat → Int32
  | 0 => af c
  | d + 1 => mkS af nc fc c d
theorem mkS_eq (af : Nat → Int32) (nc : Nat) (fc : Nat → Int32) (c d : Nat) : mkS af nc fc c d = chD fc d c (mkB af nc fc c d) nc := by
  cases d <;> rfl
theorem rayF_congr {row row' : Nat → Int32} {cf : Nat → Nat} {door : Int32} : ∀ (k i : Nat) (acc : Int32), (∀ j, i ≤ j → j < i + k → row (cf j) = row' (cf j)) → rayF row cf door k i acc = rayF row' cf door k i acc
  | 0, _, _, _ => rfl
  | k + 1, i, acc, h => by
    rw [rayF, rayF, h i (by omega) (by omega), rayF_congr k (i + 1) _ (fun j h1 h2 => h j (by omega) (by omega))]
theorem xs_div {w h x : Nat} (hw : 0 < w) (hx : x < w * h) : x / w < h ∧ x / w * w ≤ x ∧ x - x / w * w < w := by
  have h1 := Nat.div_add_mod x w
  have h2 := Nat.mod_lt x hw
  have h3 : x / w * w = w * (x / w) := Nat.mul_comm _ _
  refine ⟨Nat.div_lt_of_lt_mul hx, by omega, by omega⟩
theorem xs_up {w h x i : Nat} (hw : 0 < w) (hx : x < w * h) (hi : i ≤ x / w) : i * w ≤ x := Nat.le_trans (Nat.mul_le_mul_right w hi) (xs_div hw hx).2.1
theorem xs_down {w h x i : Nat} (hw : 0 < w) (hx : x < w * h) (hi : i ≤ h - 1 - x / w) : x + i * w < w * h := by
  obtain ⟨h1, h2, h3⟩ := xs_div hw hx
  have h4 : (x / w + i + 1) * w ≤ h * w := Nat.mul_le_mul_right w (by omega)
  have h5 : (x / w + i + 1) * w = x / w * w + i * w + w := by rw [Nat.add_mul, Nat.add_mul, Nat.one_mul]
  have h6 : h * w = w * h := Nat.mul_comm _ _
  omega
theorem xs_right {w h x i : Nat} (hw : 0 < w) (hx : x < w * h) (hi : i ≤ w - 1 - (x - x / w * w)) : x + i < w * h := by
  obtain ⟨h1, h2, h3⟩ := xs_div hw hx
  have h4 : (x / w + 1) * w ≤ h * w := Nat.mul_le_mul_right w (by omega)
  have h5 : (x / w + 1) * w = x / w * w + w := by rw [Nat.add_mul, Nat.one_mul]
  have h6 : h * w = w * h := Nat.mul_comm _ _
  omega
theorem sgF_congr {w h x : Nat} {row row' : Nat → Int32} (hw : 0 < w) (hx : x < w * h) (he : ∀ c, c < w * h → row c = row' c) : sgF w h row x = sgF w h row' x := by
  unfold sgF
  rw [rayF_congr (row := row) (row' := row') (cf := fun i => x - i * w) _ _ _ (fun j _ _ => he _ (by omega)),
    rayF_congr (row := row) (row' := row') (cf := fun i => x + i * w) _ _ _ (fun j _ _ => he _ (xs_down hw hx (by omega))),
    rayF_congr (row := row) (row' := row') (cf := fun i => x - i) _ _ _ (fun j _ _ => he _ (by omega)),
    rayF_congr (row := row) (row' := row') (cf := fun i => x + i) _ _ _ (fun j _ _ => he _ (xs_right hw hx (by omega)))]
theorem xn_neg {x i w : Nat} (h : i * w ≤ x) : nI x + nI i * -nI w = nI (x - i * w) := by
  rw [← pk_sub h, ← pk_mul]
  generalize nI x = a
  generalize nI i = b
  generalize nI w = c
  rw [Int32.mul_neg, Int32.sub_eq_add_neg]
theorem xbits_congr {p p' : Nat → Bool} : ∀ n, (∀ c, c < n → p c = p' c) → xbits p n = xbits p' n
  | 0, _ => rfl
  | n + 1, h => by rw [xbits, xbits, h n (by omega), xbits_congr n (fun c hc => h c (by omega))]
theorem VOK_fr {w h la : Nat} {af : Nat → Int32} {nc : Nat} {fc mk sg : Nat → Int32} (hf : FR w h la af nc fc mk sg) : VOK w h la af nc fc mk sg w h (nI 0) := fun _ => ⟨rfl, rfl, hf⟩
abbrev sgS (w h : Nat) (af : Nat → Int32) (nc : Nat) (fc : Nat → Int32) (x d : Nat) : Int32 := sgF w h (fun c => mkS af nc fc c d) x
abbrev unS (w h : Nat) (af : Nat → Int32) (nc : Nat) (fc : Nat → Int32) (d e : Nat) : Int32 := xbits (fun c => !decide (mkS af nc fc c d = mkS af nc fc c e)) (w * h)
abbrev apS (w h : Nat) (af : Nat → Int32) (nc : Nat) (fc : Nat → Int32) (d e : Nat) : Int32 := xbits (fun x => !decide (sgS w h af nc fc x d = sgS w h af nc fc x e) || !decide (sgS w h af nc fc x d &&& unS w h af nc fc d e = 0)) (w * h)
abbrev anS (w h : Nat) (af : Nat → Int32) (nc : Nat) (fc : Nat → Int32) (x c d : Nat) : Int32 := if (sgS w h af nc fc x d >>> (nI c &&& 31)) &&& nI 1 = 0 then (-4) else mkS af nc fc c d
/-- the first n all hold -/
def allF (p : Nat → Bool) : Nat → Bool
  | 0 => true
  | i + 1 => allF p i && p i
theorem allF_false {p : Nat → Bool} : ∀ {n i : Nat}, i ≤ n → allF p i = false → allF p n = false
  | 0, i, h, hf => by rw [← Nat.le_zero.mp h]; exact hf
  | n + 1, i, h, hf => by
    rcases Nat.lt_or_ge i (n + 1) with q | q
    · rw [allF, allF_false (Nat.lt_succ_iff.mp q) hf]; rfl
    · rw [← Nat.le_antisymm h q]; exact hf
theorem FR_unl {w h la : Nat} {af : Nat → Int32} {nc : Nat} {fc mk sg : Nat → Int32} (hf : FR w h la af nc fc mk sg) (hwh : w * h ≤ 16) {d e : Nat} (hd : d ≤ la) (he : e ≤ la) : xbits (fun c => !decide (mk (d * 16 + c) = mk (e * 16 + c))) (w * h) = unS w h af nc fc d e :=
  xbits_congr _ (fun c hc => by rw [(hf d hd).1 c (by omega), (hf e he).1 c (by omega)])
theorem FR_all {w h la : Nat} {af : Nat → Int32} {nc : Nat} {fc mk sg : Nat → Int32} (hf : FR w h la af nc fc mk sg) (hwh : w * h ≤ 16) {d : Nat} (hd : d ≤ la) (m : Int32) : xbits (fun c => decide (mk (d * 16 + c) = m)) (w * h) = xbits (fun c => decide (mkS af nc fc c d = m)) (w * h) :=
  xbits_congr _ (fun c hc => by rw [(hf d hd).1 c (by omega)])
theorem FR_apart {w h la : Nat} {af : Nat → Int32} {nc : Nat} {fc mk sg : Nat → Int32} (hf : FR w h la af nc fc mk sg) (hwh : w * h ≤ 16) {d e : Nat} (hd : d ≤ la) (he : e ≤ la) : xbits (fun x => !decide (sg (d * 16 + x) = sg (e * 16 + x)) || !decide (sg (d * 16 + x) &&& xbits (fun c => !decide (mk (d * 16 + c) = mk (e * 16 + c))) (w * h) = 0)) (w * h) = apS w h af nc fc d e :=
  xbits_congr _ (fun x hx => by rw [FR_unl hf hwh hd he, (hf d hd).2 x hx, (hf e he).2 x hx])
theorem FR_ans {w h la : Nat} {af : Nat → Int32} {nc : Nat} {fc mk sg : Nat → Int32} (hf : FR w h la af nc fc mk sg) {x c d : Nat} (hd : d ≤ la) (hx : x < w * h) (hc : c < 16) : (if (sg (d * 16 + x) >>> (nI c &&& 31)) &&& nI 1 = 0 then (-4) else mk (d * 16 + c)) = anS w h af nc fc x c d := by
  rw [(hf d hd).2 x hx, (hf d hd).1 c hc]
abbrev shS (w h : Nat) (af : Nat → Int32) (nc : Nat) (fc fl : Nat → Int32) (l x : Nat) : Int32 := sgS w h af nc fc x (tn (fl (3 * l))) &&& (fl (3 * l + 1) ^^^ (-1))
/-- does what was shown as number i fit day d -/
abbrev fitP (w h : Nat) (af : Nat → Int32) (nc : Nat) (fc fs : Nat → Int32) (d i : Nat) : Bool := decide (anS w h af nc fc (tn (fs (3 * i))) (tn (fs (3 * i + 1))) d = fs (3 * i + 2))
/-- the days that fit the first n -/
abbrev fitS (w h la : Nat) (af : Nat → Int32) (nc : Nat) (fc fs : Nat → Int32) (n : Nat) : Int32 := xbits (fun d => allF (fitP w h af nc fc fs d) n) (la + 1)
/-- the first i from the i-th on, of k, for which p holds; none: -4 -/
def firstF (p : Nat → Bool) : Nat → Nat → Int32
  | 0, _ => (-4)
  | k + 1, i => if p i then nI i else firstF p k (i + 1)
/-- is there one below n -/
def anyF (p : Nat → Bool) : Nat → Bool
  | 0 => false
  | i + 1 => anyF p i || p i
theorem anyF_true {p : Nat → Bool} : ∀ {n i : Nat}, i < n → p i = true → anyF p n = true
  | 0, i, h, _ => absurd h (Nat.not_lt_zero i)
  | n + 1, i, h, hp => by
    rw [anyF]
    rcases Nat.lt_succ_iff_lt_or_eq.mp h with q | q
    · rw [anyF_true q hp]; rfl
    · rw [← q, hp, Bool.or_true]
/-- how many below n -/
def cntF (p : Nat → Bool) : Nat → Nat
  | 0 => 0
  | i + 1 => if p i then cntF p i + 1 else cntF p i
theorem cntF_le (p : Nat → Bool) : ∀ n, cntF p n ≤ n
  | 0 => Nat.le_refl _
  | n + 1 => by have := cntF_le p n; unfold cntF; split <;> omega
/-- the bits of all together -/
def orF (f : Nat → Int32) : Nat → Int32
  | 0 => nI 0
  | i + 1 => orF f i ||| f i
theorem xbits_T {p : Nat → Bool} {c : Nat} {b : Int32} (h : p c = true) (hb : b = xbits p c) : b ||| xbit c = xbits p (c + 1) := by rw [xbits_t h, ← hb]
theorem xbits_N {p : Nat → Bool} {c : Nat} {b : Int32} (h : p c = false) (hb : b = xbits p c) : b = xbits p (c + 1) := by rw [xbits_f (by rw [h]; decide)]; exact hb
theorem cntF_T {p : Nat → Bool} {c b : Nat} (h : p c = true) (hb : b = cntF p c) : b + 1 = cntF p (c + 1) := by rw [cntF, if_pos h, ← hb]
theorem cntF_N {p : Nat → Bool} {c b : Nat} (h : p c = false) (hb : b = cntF p c) : b = cntF p (c + 1) := by rw [cntF, if_neg (by rw [h]; decide)]; exact hb
end
section
abbrev w_J7_fill_53178 (G : XG) (a : Nat) (n : Nat) (f : Nat → Int32) : va_W := [iA G a n f]
abbrev Q_J7_fill_53178 (G : XG) (sz : Nat) (a : Nat) (n : Nat) (f : Nat → Int32) (v : Int32) : Array Value → State → Outcome → State → Prop := (va_Qv (fun (u : (Nat → Int32)) => (∀ j, j < n → u j = v)) (xWb G sz (w_J7_fill_53178 G a n f) (fun u : (Nat → Int32) => [iA G a n u])) (va_A (w_J7_fill_53178 G a n f) sz))
set_option maxHeartbeats 4000000 in
set_option maxRecDepth 100000 in
theorem c_J7_fill_53178 (l : Launch) (G : XG) (sz : Nat) (a : Nat) (n : Nat) (f : Nat → Int32) (v : Int32) (hn : n ≤ 1000) : Met l yJ7_fill_53178 wsJ7_fill_53178 ({ frames := 0, cells := 0, slots := 0, locals := 0 } : Room) (va_Pc [.ref a, .int v] (xWp G sz (w_J7_fill_53178 G a n f))) (Q_J7_fill_53178 G sz a n f v) 0 0 (va_A (w_J7_fill_53178 G a n f) sz) := by
  refine Met.ofW (cc := cJ7_fill_53178) (maxL := 4) (ret := none) (by decide) rfl ?_
  intro pp ee ss mm aa below mt cd s₁ BB hml hv
  obtain ⟨rfl, hsz, hP, hK, hD0⟩ := hv
  have hx := BB.exec
  have hb := BB.bytes
  have hr := BB.returns
  have hts := atoms_spec (ws := wsJ7_fill_53178) BB.pre
  have hown : ss.vm.findClass RJ7 = some mm.cls := findClass_of_methodNamed BB.named
  have hlocks := BB.notSynchronized
  subst hsz
  have hD := hD0.self (sz := ss.heap.size)
  have hA : ∀ q : Nat, ss.heap.size ≤ q → va_A (w_J7_fill_53178 G a n f) ss.heap.size q := fun q h => Or.inr h
  have hS : va_S (va_A (w_J7_fill_53178 G a n f) ss.heap.size) ss.heap ss.heap [] := va_S.rf
  replace hD : va_D (va_A (w_J7_fill_53178 G a n f) ss.heap.size) [iA G a n f] := hD
  replace hP : xP G [iA G a n f] ss.heap := hP
  have hl := lv_entry ([.ref a, .int v]) (n := 4) (Nat.le_of_ble_eq_true rfl)
  rw [lg_entry_eq]
  generalize (lg_sl ([.ref a, .int v]) ++ List.replicate (4 - (lg_sl ([.ref a, .int v])).length) Slot.unset).toArray = ls at hl ⊢
  replace hl : lv_has ls 4 [(0, .ref a), (1, .int v)] := hl
  refine lv_iconst (v := nI 0) hx hb dJ7_fill_53178_0 (by decide) ?_
  refine lv_istore_n (lv' := [(2, .int (nI 0)), (0, .ref a), (1, .int v)]) hx hb dJ7_fill_53178_1 rfl hl (by decide) rfl (fun ls hl => ?_)
  refine lv_aload_n hx hb dJ7_fill_53178_2 rfl (lv_at hl 1 rfl) ?_
  refine xn_alen hx hb hK hP 0 rfl dJ7_fill_53178_3 ?_
  refine lv_istore_n (lv' := [(3, .int (nI n)), (2, .int (nI 0)), (0, .ref a), (1, .int v)]) hx hb dJ7_fill_53178_4 rfl hl (by decide) rfl (fun ls hl => ?_)
  have hL5 : ∀ k : Nat, ∀ (i : Nat) (f2 : Nat → Int32) (ls : Array Slot) (H : Heap) (locs : List Loc), n - i = k → (i ≤ n) → (∀ j, j < i → f2 j = v) → lv_has ls 4 [(0, .ref a), (1, .int v), (2, .int (nI i)), (3, .int (nI n))] → xP G [iA G a n f2] H → va_D (va_A (w_J7_fill_53178 G a n f) ss.heap.size) [iA G a n f2] → va_S (va_A (w_J7_fill_53178 G a n f) ss.heap.size) ss.heap H locs → W pp l ee ({ frames := 0, cells := 0, slots := 0, locals := 0 } : Room) ss mm ([.ref a, .int v] : List Value).toArray below mt cd H locs 0 0 (MQ below (Q_J7_fill_53178 G ss.heap.size a n f v) ([.ref a, .int v] : List Value).toArray ss 0 0 (va_A (w_J7_fill_53178 G a n f) ss.heap.size)) (F0 mm 5 ls []) := by
    intro k
    induction k using Nat.strongRecOn with
    | _ k ih5 =>
    intro i f2 ls H locs hm5 hi hf hl hP hD hS
    refine lv_iload_n hx hb dJ7_fill_53178_5 rfl (lv_at hl 2 rfl) ?_
    refine lv_iload_n hx hb dJ7_fill_53178_6 rfl (lv_at hl 3 rfl) ?_
    refine xn_icmp_ge (tgt := 20) hx hb (by omega) (by omega) dJ7_fill_53178_7 rfl (fun b7 => ?_) (fun b7 => ?_)
    · skip
      have hP := hP.sub (ws' := [iA G a n f2]) [0] rfl
      have hD := hD.sub (ws' := [iA G a n f2]) [0] (by decide) rfl
      refine W.vret hx hb hr (fun t ht hW => ⟨⟨(f2), rfl, ?_, by rw [ht]; exact hP, hD⟩, hS.F ht⟩) hS.2.2 dJ7_fill_53178_20
      intro j hj; exact hf j (by omega)
    · skip
      refine lv_aload_n hx hb dJ7_fill_53178_10 rfl (lv_at hl 0 rfl) ?_
      refine lv_iload_n hx hb dJ7_fill_53178_11 rfl (lv_at hl 2 rfl) ?_
      refine lv_iload_n hx hb dJ7_fill_53178_12 rfl (lv_at hl 1 rfl) ?_
      refine xn_iast hx hb hK hP hD hS 0 rfl (by omega) (by omega) dJ7_fill_53178_13 (fun H locs hP hD hS => ?_)
      replace hP : xP G [iA G a n (upd f2 i v)] H := hP
      replace hD : va_D (va_A (w_J7_fill_53178 G a n f) ss.heap.size) [iA G a n (upd f2 i v)] := hD
      refine lv_iinc (k := 2) (v := nI (i + 1)) (lv' := [(2, .int (nI (i + 1))), (0, .ref a), (1, .int v), (3, .int (nI n))]) hx hb dJ7_fill_53178_14 hl rfl (xn_inc i 1) (by decide) rfl (fun ls hl => ?_)
      refine lv_goto (tgt := 5) hx hb dJ7_fill_53178_17 rfl ?_
      have hl := lv_sub hl (l' := [(0, .ref a), (1, .int v), (2, .int (nI (i + 1))), (3, .int (nI n))]) [1, 2, 0, 3] rfl
      exact ih5 (n - (i + 1)) (by omega) (i + 1) (upd f2 i v) ls H locs rfl (by omega) (by intro j hj; unfold upd; split; rfl; exact hf j (by omega)) hl hP hD hS
  have hl := lv_sub hl (l' := [(0, .ref a), (1, .int v), (2, .int (nI 0)), (3, .int (nI n))]) [2, 3, 1, 0] rfl
  exact hL5 (n - 0) 0 f ls ss.heap [] rfl (by omega) (by intro j hj; omega) hl hP hD hS

abbrev w_X0_hasCell (G : XG) (kb ka kc kl kn : Nat) (w h la : Nat) : va_W := [oC kb 0 [.int (nI w), .int (nI h), .int (nI la), .ref ka, .ref kc, .ref kl, .ref kn]]
abbrev Q_X0_hasCell (G : XG) (kb ka kc kl kn : Nat) (w h la : Nat) (c : Int32) : Array Value → State → Outcome → State → Prop := (xRi (fun r => r = xb (inR c (w * h))))
set_option maxHeartbeats 4000000 in
set_option maxRecDepth 100000 in
theorem c_X0_hasCell (l : Launch) (G : XG) (kb ka kc kl kn : Nat) (w h la : Nat) (c : Int32) (hwh : w * h ≤ 16) : Met l yX0_hasCell wsX0_hasCell ({ frames := 0, cells := 0, slots := 0, locals := 0 } : Room) (va_Pc [.ref kb, .int c] (xRp G (w_X0_hasCell G kb ka kc kl kn w h la))) (Q_X0_hasCell G kb ka kc kl kn w h la c) 0 0 (fun _ => False) := by
  refine Met.ofW (cc := cX0_hasCell) (maxL := 2) (ret := (some .boolean)) (by decide) rfl ?_
  intro pp ee ss mm aa below mt cd s₁ BB hml hv
  obtain ⟨rfl, hP, hK⟩ := hv
  have hx := BB.exec
  have hb := BB.bytes
  have hr := BB.returns
  have hts := atoms_spec (ws := wsX0_hasCell) BB.pre
  have hown : ss.vm.findClass RX0 = some mm.cls := findClass_of_methodNamed BB.named
  have hlocks := BB.notSynchronized
  have hS : va_S (fun _ => False) ss.heap ss.heap [] := va_S.rf
  replace hP : xP G [oC kb 0 [.int (nI w), .int (nI h), .int (nI la), .ref ka, .ref kc, .ref kl, .ref kn]] ss.heap := hP
  have hin0 : ∀ w ∈ u_ws RX0 TX0 7, w ∈ wsX0_hasCell := fun w h => List.mem_cons_of_mem _ (List.mem_append_right _ h)
  have hl := lv_entry ([.ref kb, .int c]) (n := 2) (Nat.le_of_ble_eq_true rfl)
  rw [lg_entry_eq]
  generalize (lg_sl ([.ref kb, .int c]) ++ List.replicate (2 - (lg_sl ([.ref kb, .int c])).length) Slot.unset).toArray = ls at hl ⊢
  replace hl : lv_has ls 2 [(0, .ref kb), (1, .int c)] := hl
  refine lv_iload_n hx hb dX0_hasCell_0 rfl (lv_at hl 1 rfl) ?_
  refine xi_if_lt (tgt := 21) hx hb dX0_hasCell_1 rfl (fun b1 => ?_) (fun b1 => ?_)
  · skip
    refine lv_iconst (v := nI 0) hx hb dX0_hasCell_21 (by decide) ?_
    refine W.zret (v := nI 0) (ty := .boolean) hx hb hr (by decide) (fun t ht hW => ⟨⟨nI 0, (), rfl, ?_, trivial⟩, hS.F ht⟩) hS.2.2 dX0_hasCell_22
    first | exact (xb_t (by unfold inR; omega)).symm | exact (xb_f (by unfold inR; omega)).symm
  · skip
    refine lv_iload_n hx hb dX0_hasCell_4 rfl (lv_at hl 1 rfl) ?_
    refine lv_aload_n hx hb dX0_hasCell_5 rfl (lv_at hl 0 rfl) ?_
    refine va_get (D := G.1) (ci := 0) (v := .int (nI w)) (C := RX0) (T := TX0) (N := 7) hx hb hts hin0 hown hK.1 hP 0 rfl rfl 0 (by decide) (hts (.fieldLink RX0 9 "BackLenses$Book" "wide" "I") (List.mem_of_getElem? (i := 1) rfl)) (fun _ h9 => h9) rfl dX0_hasCell_6 ?_
    refine lv_aload_n hx hb dX0_hasCell_9 rfl (lv_at hl 0 rfl) ?_
    refine va_get (D := G.1) (ci := 0) (v := .int (nI h)) (C := RX0) (T := TX0) (N := 7) hx hb hts hin0 hown hK.1 hP 0 rfl rfl 1 (by decide) (hts (.fieldLink RX0 15 "BackLenses$Book" "high" "I") (List.mem_of_getElem? (i := 2) rfl)) (fun _ h9 => h9) rfl dX0_hasCell_10 ?_
    refine xn_imul hx hb dX0_hasCell_13 ?_
    refine xm_icmp_ge (tgt := 21) hx hb (by omega) dX0_hasCell_14 rfl (fun b14 => ?_) (fun b14 => ?_)
    · skip
      refine lv_iconst (v := nI 0) hx hb dX0_hasCell_21 (by decide) ?_
      refine W.zret (v := nI 0) (ty := .boolean) hx hb hr (by decide) (fun t ht hW => ⟨⟨nI 0, (), rfl, ?_, trivial⟩, hS.F ht⟩) hS.2.2 dX0_hasCell_22
      first | exact (xb_t (by unfold inR; omega)).symm | exact (xb_f (by unfold inR; omega)).symm
    · skip
      refine lv_iconst (v := nI 1) hx hb dX0_hasCell_17 (by decide) ?_
      refine lv_goto (tgt := 22) hx hb dX0_hasCell_18 rfl ?_
      refine W.zret (v := nI 1) (ty := .boolean) hx hb hr (by decide) (fun t ht hW => ⟨⟨nI 1, (), rfl, ?_, trivial⟩, hS.F ht⟩) hS.2.2 dX0_hasCell_22
      first | exact (xb_t (by unfold inR; omega)).symm | exact (xb_f (by unfold inR; omega)).symm

abbrev w_X0_hasDay (G : XG) (kb ka kc kl kn : Nat) (w h la : Nat) : va_W := [oC kb 0 [.int (nI w), .int (nI h), .int (nI la), .ref ka, .ref kc, .ref kl, .ref kn]]
abbrev Q_X0_hasDay (G : XG) (kb ka kc kl kn : Nat) (w h la : Nat) (d : Int32) : Array Value → State → Outcome → State → Prop := (xRi (fun r => r = xb (inR d (la + 1))))
set_option maxHeartbeats 4000000 in
set_option maxRecDepth 100000 in
theorem c_X0_hasDay (l : Launch) (G : XG) (kb ka kc kl kn : Nat) (w h la : Nat) (d : Int32) (hla : la ≤ 9) : Met l yX0_hasDay wsX0_hasDay ({ frames := 0, cells := 0, slots := 0, locals := 0 } : Room) (va_Pc [.ref kb, .int d] (xRp G (w_X0_hasDay G kb ka kc kl kn w h la))) (Q_X0_hasDay G kb ka kc kl kn w h la d) 0 0 (fun _ => False) := by
  refine Met.ofW (cc := cX0_hasDay) (maxL := 2) (ret := (some .boolean)) (by decide) rfl ?_
  intro pp ee ss mm aa below mt cd s₁ BB hml hv
  obtain ⟨rfl, hP, hK⟩ := hv
  have hx := BB.exec
  have hb := BB.bytes
  have hr := BB.returns
  have hts := atoms_spec (ws := wsX0_hasDay) BB.pre
  have hown : ss.vm.findClass RX0 = some mm.cls := findClass_of_methodNamed BB.named
  have hlocks := BB.notSynchronized
  have hS : va_S (fun _ => False) ss.heap ss.heap [] := va_S.rf
  replace hP : xP G [oC kb 0 [.int (nI w), .int (nI h), .int (nI la), .ref ka, .ref kc, .ref kl, .ref kn]] ss.heap := hP
  have hin0 : ∀ w ∈ u_ws RX0 TX0 7, w ∈ wsX0_hasDay := fun w h => List.mem_cons_of_mem _ (List.mem_append_right _ h)
  have hl := lv_entry ([.ref kb, .int d]) (n := 2) (Nat.le_of_ble_eq_true rfl)
  rw [lg_entry_eq]
  generalize (lg_sl ([.ref kb, .int d]) ++ List.replicate (2 - (lg_sl ([.ref kb, .int d])).length) Slot.unset).toArray = ls at hl ⊢
  replace hl : lv_has ls 2 [(0, .ref kb), (1, .int d)] := hl
  refine lv_iload_n hx hb dX0_hasDay_0 rfl (lv_at hl 1 rfl) ?_
  refine xi_if_lt (tgt := 16) hx hb dX0_hasDay_1 rfl (fun b1 => ?_) (fun b1 => ?_)
  · skip
    refine lv_iconst (v := nI 0) hx hb dX0_hasDay_16 (by decide) ?_
    refine W.zret (v := nI 0) (ty := .boolean) hx hb hr (by decide) (fun t ht hW => ⟨⟨nI 0, (), rfl, ?_, trivial⟩, hS.F ht⟩) hS.2.2 dX0_hasDay_17
    first | exact (xb_t (by unfold inR; omega)).symm | exact (xb_f (by unfold inR; omega)).symm
  · skip
    refine lv_iload_n hx hb dX0_hasDay_4 rfl (lv_at hl 1 rfl) ?_
    refine lv_aload_n hx hb dX0_hasDay_5 rfl (lv_at hl 0 rfl) ?_
    refine va_get (D := G.1) (ci := 0) (v := .int (nI la)) (C := RX0) (T := TX0) (N := 7) hx hb hts hin0 hown hK.1 hP 0 rfl rfl 2 (by decide) (hts (.fieldLink RX0 18 "BackLenses$Book" "last" "I") (List.mem_of_getElem? (i := 1) rfl)) (fun _ h9 => h9) rfl dX0_hasDay_6 ?_
    refine xm_icmp_gt (tgt := 16) hx hb (by omega) dX0_hasDay_9 rfl (fun b9 => ?_) (fun b9 => ?_)
    · skip
      refine lv_iconst (v := nI 0) hx hb dX0_hasDay_16 (by decide) ?_
      refine W.zret (v := nI 0) (ty := .boolean) hx hb hr (by decide) (fun t ht hW => ⟨⟨nI 0, (), rfl, ?_, trivial⟩, hS.F ht⟩) hS.2.2 dX0_hasDay_17
      first | exact (xb_t (by unfold inR; omega)).symm | exact (xb_f (by unfold inR; omega)).symm
    · skip
      refine lv_iconst (v := nI 1) hx hb dX0_hasDay_12 (by decide) ?_
      refine lv_goto (tgt := 17) hx hb dX0_hasDay_13 rfl ?_
      refine W.zret (v := nI 1) (ty := .boolean) hx hb hr (by decide) (fun t ht hW => ⟨⟨nI 1, (), rfl, ?_, trivial⟩, hS.F ht⟩) hS.2.2 dX0_hasDay_17
      first | exact (xb_t (by unfold inR; omega)).symm | exact (xb_f (by unfold inR; omega)).symm

abbrev w_X0_cells (G : XG) (kb ka kc kl kn : Nat) (w h la : Nat) : va_W := [oC kb 0 [.int (nI w), .int (nI h), .int (nI la), .ref ka, .ref kc, .ref kl, .ref kn]]
abbrev Q_X0_cells (G : XG) (kb ka kc kl kn : Nat) (w h la : Nat) : Array Value → State → Outcome → State → Prop := (xRi (fun r => r = nI (w * h)))
set_option maxHeartbeats 4000000 in
set_option maxRecDepth 100000 in
theorem c_X0_cells (l : Launch) (G : XG) (kb ka kc kl kn : Nat) (w h la : Nat)  : Met l yX0_cells wsX0_cells ({ frames := 0, cells := 0, slots := 0, locals := 0 } : Room) (va_Pc [.ref kb] (xRp G (w_X0_cells G kb ka kc kl kn w h la))) (Q_X0_cells G kb ka kc kl kn w h la) 0 0 (fun _ => False) := by
  refine Met.ofW (cc := cX0_cells) (maxL := 1) (ret := (some .int)) (by decide) rfl ?_
  intro pp ee ss mm aa below mt cd s₁ BB hml hv
  obtain ⟨rfl, hP, hK⟩ := hv
  have hx := BB.exec
  have hb := BB.bytes
  have hr := BB.returns
  have hts := atoms_spec (ws := wsX0_cells) BB.pre
  have hown : ss.vm.findClass RX0 = some mm.cls := findClass_of_methodNamed BB.named
  have hlocks := BB.notSynchronized
  have hS : va_S (fun _ => False) ss.heap ss.heap [] := va_S.rf
  replace hP : xP G [oC kb 0 [.int (nI w), .int (nI h), .int (nI la), .ref ka, .ref kc, .ref kl, .ref kn]] ss.heap := hP
  have hin0 : ∀ w ∈ u_ws RX0 TX0 7, w ∈ wsX0_cells := fun w h => List.mem_cons_of_mem _ (List.mem_append_right _ h)
  have hl := lv_entry ([.ref kb]) (n := 1) (Nat.le_of_ble_eq_true rfl)
  rw [lg_entry_eq]
  generalize (lg_sl ([.ref kb]) ++ List.replicate (1 - (lg_sl ([.ref kb])).length) Slot.unset).toArray = ls at hl ⊢
  replace hl : lv_has ls 1 [(0, .ref kb)] := hl
  refine lv_aload_n hx hb dX0_cells_0 rfl (lv_at hl 0 rfl) ?_
  refine va_get (D := G.1) (ci := 0) (v := .int (nI w)) (C := RX0) (T := TX0) (N := 7) hx hb hts hin0 hown hK.1 hP 0 rfl rfl 0 (by decide) (hts (.fieldLink RX0 9 "BackLenses$Book" "wide" "I") (List.mem_of_getElem? (i := 1) rfl)) (fun _ h9 => h9) rfl dX0_cells_1 ?_
  refine lv_aload_n hx hb dX0_cells_4 rfl (lv_at hl 0 rfl) ?_
  refine va_get (D := G.1) (ci := 0) (v := .int (nI h)) (C := RX0) (T := TX0) (N := 7) hx hb hts hin0 hown hK.1 hP 0 rfl rfl 1 (by decide) (hts (.fieldLink RX0 15 "BackLenses$Book" "high" "I") (List.mem_of_getElem? (i := 2) rfl)) (fun _ h9 => h9) rfl dX0_cells_5 ?_
  refine xn_imul hx hb dX0_cells_8 ?_
  refine W.iret (v := nI (w * h)) hx hb hr (fun t ht hW => ⟨⟨nI (w * h), (), rfl, ?_, trivial⟩, hS.F ht⟩) hS.2.2 dX0_cells_9
  rfl

abbrev w_X0_takeChange (G : XG) (kb ka kc kcn kl kn : Nat) (w h la nc : Nat) (fc : Nat → Int32) : va_W := [oC kb 0 [.int (nI w), .int (nI h), .int (nI la), .ref ka, .ref kc, .ref kl, .ref kn], oC kc 2 [.ref kcn, .int (nI 10), .int (nI nc)], iA G kcn (3 * 10) fc]
abbrev Q_X0_takeChange (G : XG) (sz : Nat) (kb ka kc kcn kl kn : Nat) (w h la nc : Nat) (fc : Nat → Int32) (d c m : Int32) : Array Value → State → Outcome → State → Prop := (va_Qi (fun (r : Int32) (u : Nat × (Nat → Int32)) => r = (if inR d (la + 1) ∧ inR c (w * h) ∧ inR m 6 then (if nc < 10 then nI (nc + 1) else (-3)) else (-1)) ∧ u.1 = (if (inR d (la + 1) ∧ inR c (w * h) ∧ inR m 6 ∧ nc < 10) then nc + 1 else nc) ∧ u.2 = (if (inR d (la + 1) ∧ inR c (w * h) ∧ inR m 6 ∧ nc < 10) then upd (upd (upd fc (3 * nc) d) (3 * nc + 1) c) (3 * nc + 2) m else fc)) (xWb G sz (w_X0_takeChange G kb ka kc kcn kl kn w h la nc fc) (fun u : Nat × (Nat → Int32) => [oC kb 0 [.int (nI w), .int (nI h), .int (nI la), .ref ka, .ref kc, .ref kl, .ref kn], oC kc 2 [.ref kcn, .int (nI 10), .int (nI u.1)], iA G kcn (3 * 10) u.2])) (va_A (w_X0_takeChange G kb ka kc kcn kl kn w h la nc fc) sz))
set_option maxHeartbeats 4000000 in
set_option maxRecDepth 100000 in
theorem c_X0_takeChange (l : Launch) (G : XG) (sz : Nat) (kb ka kc kcn kl kn : Nat) (w h la nc : Nat) (fc : Nat → Int32) (d c m : Int32) (hwh : w * h ≤ 16) (hla : la ≤ 9) (hnc : nc ≤ 10) : Met l yX0_takeChange wsX0_takeChange ({ frames := 1, cells := 0, slots := 0, locals := 23 } : Room) (va_Pc [.ref kb, .int d, .int c, .int m] (xWp G sz (w_X0_takeChange G kb ka kc kcn kl kn w h la nc fc))) (Q_X0_takeChange G sz kb ka kc kcn kl kn w h la nc fc d c m) 0 0 (va_A (w_X0_takeChange G kb ka kc kcn kl kn w h la nc fc) sz) := by
  refine Met.ofW (cc := cX0_takeChange) (maxL := 4) (ret := (some .int)) (by decide) rfl ?_
  intro pp ee ss mm aa below mt cd s₁ BB hml hv
  obtain ⟨rfl, hsz, hP, hK, hD0⟩ := hv
  have hx := BB.exec
  have hb := BB.bytes
  have hr := BB.returns
  have hts := atoms_spec (ws := wsX0_takeChange) BB.pre
  have hown : ss.vm.findClass RX0 = some mm.cls := findClass_of_methodNamed BB.named
  have hlocks := BB.notSynchronized
  subst hsz
  have hD := hD0.self (sz := ss.heap.size)
  have hA : ∀ q : Nat, ss.heap.size ≤ q → va_A (w_X0_takeChange G kb ka kc kcn kl kn w h la nc fc) ss.heap.size q := fun q h => Or.inr h
  have hS : va_S (va_A (w_X0_takeChange G kb ka kc kcn kl kn w h la nc fc) ss.heap.size) ss.heap ss.heap [] := va_S.rf
  replace hD : va_D (va_A (w_X0_takeChange G kb ka kc kcn kl kn w h la nc fc) ss.heap.size) [oC kb 0 [.int (nI w), .int (nI h), .int (nI la), .ref ka, .ref kc, .ref kl, .ref kn], oC kc 2 [.ref kcn, .int (nI 10), .int (nI nc)], iA G kcn (3 * 10) fc] := hD
  replace hP : xP G [oC kb 0 [.int (nI w), .int (nI h), .int (nI la), .ref ka, .ref kc, .ref kl, .ref kn], oC kc 2 [.ref kcn, .int (nI 10), .int (nI nc)], iA G kcn (3 * 10) fc] ss.heap := hP
  have hin0 : ∀ w ∈ u_ws RX0 TX0 7, w ∈ wsX0_takeChange := fun w h => List.mem_cons_of_mem _ (List.mem_append_left _ (List.mem_append_right _ h))
  have hin2 : ∀ w ∈ u_ws RX2 TX2 3, w ∈ wsX0_takeChange := fun w h => List.mem_cons_of_mem _ (List.mem_append_right _ h)
  have hl := lv_entry ([.ref kb, .int d, .int c, .int m]) (n := 4) (Nat.le_of_ble_eq_true rfl)
  rw [lg_entry_eq]
  generalize (lg_sl ([.ref kb, .int d, .int c, .int m]) ++ List.replicate (4 - (lg_sl ([.ref kb, .int d, .int c, .int m])).length) Slot.unset).toArray = ls at hl ⊢
  replace hl : lv_has ls 4 [(0, .ref kb), (1, .int d), (2, .int c), (3, .int m)] := hl
  refine lv_aload_n hx hb dX0_takeChange_0 rfl (lv_at hl 0 rfl) ?_
  refine lv_iload_n hx hb dX0_takeChange_1 rfl (lv_at hl 1 rfl) ?_
  refine xr_i (As := [.int d]) (rest := []) ⟨hx, hb, hml, hown, hts⟩ (c_X0_hasDay l G kb ka kc kl kn w h la d (by first | assumption | omega)) (cwV 1 hts gX0_takeChange_X0_hasDay rfl rfl rfl (by decide +kernel) ⟨Nat.le_of_ble_eq_true rfl, Nat.le_of_ble_eq_true rfl⟩) hK hP hS [0] rfl rfl rfl rfl hl.1 rfl (Nat.le_of_ble_eq_true rfl) dX0_takeChange_2 ⟨Nat.zero_le _, Nat.zero_le _⟩ (fun r2 H locs hp2 hP hS => ?_)
  obtain rfl : r2 = xb (inR d (la + 1)) := hp2
  refine xb_if_eq (tgt := 23) hx hb dX0_takeChange_5 rfl (fun b5 => ?_) (fun b5 => ?_)
  · skip
    refine lv_iconst (v := (-1)) hx hb dX0_takeChange_23 (by decide) ?_
    have hP := hP.sub (ws' := [oC kb 0 [.int (nI w), .int (nI h), .int (nI la), .ref ka, .ref kc, .ref kl, .ref kn], oC kc 2 [.ref kcn, .int (nI 10), .int (nI nc)], iA G kcn (3 * 10) fc]) [0, 1, 2] rfl
    have hD := hD.sub (ws' := [oC kb 0 [.int (nI w), .int (nI h), .int (nI la), .ref ka, .ref kc, .ref kl, .ref kn], oC kc 2 [.ref kcn, .int (nI 10), .int (nI nc)], iA G kcn (3 * 10) fc]) [0, 1, 2] (by decide) rfl
    refine W.iret (v := (-1)) hx hb hr (fun t ht hW => ⟨⟨(-1), (nc, fc), rfl, ?_, by rw [ht]; exact hP, hD⟩, hS.F ht⟩) hS.2.2 dX0_takeChange_24
    try dsimp only
    first | exact ⟨(if_neg (fun q => b5 q.1)).symm, (if_neg (fun q => b5 q.1)).symm, (if_neg (fun q => b5 q.1)).symm⟩ | exact ⟨(if_neg (fun q => b13 q.2.1)).symm, (if_neg (fun q => b13 q.2.1)).symm, (if_neg (fun q => b13 q.2.1)).symm⟩ | exact ⟨(if_neg (fun q => b20 q.2.2)).symm, (if_neg (fun q => b20 q.2.2.1)).symm, (if_neg (fun q => b20 q.2.2.1)).symm⟩ | exact ⟨(if_pos ⟨b5, b13, b20⟩).symm, (by by_cases hq : nc < 10; (rw [if_pos hq]; exact (if_pos ⟨b5, b13, b20, hq⟩).symm); (rw [if_neg hq]; exact (if_neg (fun q => hq q.2.2.2)).symm)), (by by_cases hq : nc < 10; (rw [if_pos hq]; exact (if_pos ⟨b5, b13, b20, hq⟩).symm); (rw [if_neg hq]; exact (if_neg (fun q => hq q.2.2.2)).symm))⟩
  · skip
    refine lv_aload_n hx hb dX0_takeChange_8 rfl (lv_at hl 0 rfl) ?_
    refine lv_iload_n hx hb dX0_takeChange_9 rfl (lv_at hl 2 rfl) ?_
    refine xr_i (As := [.int c]) (rest := []) ⟨hx, hb, hml, hown, hts⟩ (c_X0_hasCell l G kb ka kc kl kn w h la c (by first | assumption | omega)) (cwV 1 hts gX0_takeChange_X0_hasCell rfl rfl rfl (by decide +kernel) ⟨Nat.le_of_ble_eq_true rfl, Nat.le_of_ble_eq_true rfl⟩) hK hP hS [0] rfl rfl rfl rfl hl.1 rfl (Nat.le_of_ble_eq_true rfl) dX0_takeChange_10 ⟨Nat.zero_le _, Nat.zero_le _⟩ (fun r10 H locs hp10 hP hS => ?_)
    obtain rfl : r10 = xb (inR c (w * h)) := hp10
    refine xb_if_eq (tgt := 23) hx hb dX0_takeChange_13 rfl (fun b13 => ?_) (fun b13 => ?_)
    · skip
      refine lv_iconst (v := (-1)) hx hb dX0_takeChange_23 (by decide) ?_
      have hP := hP.sub (ws' := [oC kb 0 [.int (nI w), .int (nI h), .int (nI la), .ref ka, .ref kc, .ref kl, .ref kn], oC kc 2 [.ref kcn, .int (nI 10), .int (nI nc)], iA G kcn (3 * 10) fc]) [0, 1, 2] rfl
      have hD := hD.sub (ws' := [oC kb 0 [.int (nI w), .int (nI h), .int (nI la), .ref ka, .ref kc, .ref kl, .ref kn], oC kc 2 [.ref kcn, .int (nI 10), .int (nI nc)], iA G kcn (3 * 10) fc]) [0, 1, 2] (by decide) rfl
      refine W.iret (v := (-1)) hx hb hr (fun t ht hW => ⟨⟨(-1), (nc, fc), rfl, ?_, by rw [ht]; exact hP, hD⟩, hS.F ht⟩) hS.2.2 dX0_takeChange_24
      try dsimp only
      first | exact ⟨(if_neg (fun q => b5 q.1)).symm, (if_neg (fun q => b5 q.1)).symm, (if_neg (fun q => b5 q.1)).symm⟩ | exact ⟨(if_neg (fun q => b13 q.2.1)).symm, (if_neg (fun q => b13 q.2.1)).symm, (if_neg (fun q => b13 q.2.1)).symm⟩ | exact ⟨(if_neg (fun q => b20 q.2.2)).symm, (if_neg (fun q => b20 q.2.2.1)).symm, (if_neg (fun q => b20 q.2.2.1)).symm⟩ | exact ⟨(if_pos ⟨b5, b13, b20⟩).symm, (by by_cases hq : nc < 10; (rw [if_pos hq]; exact (if_pos ⟨b5, b13, b20, hq⟩).symm); (rw [if_neg hq]; exact (if_neg (fun q => hq q.2.2.2)).symm)), (by by_cases hq : nc < 10; (rw [if_pos hq]; exact (if_pos ⟨b5, b13, b20, hq⟩).symm); (rw [if_neg hq]; exact (if_neg (fun q => hq q.2.2.2)).symm))⟩
    · skip
      refine lv_iload_n hx hb dX0_takeChange_16 rfl (lv_at hl 3 rfl) ?_
      refine xsn_i (As := [.int m]) (rest := []) ⟨hx, hb, hml, hown, hts⟩ (c_X5_isMark l G m ) ⟨va_cnB 1 hts gX0_takeChange_X5_isMark_n66 rfl rfl rfl (hK.2 (Cond.methodLinkNest "BackLenses$Book" (66 : Nat) ({ cls := "BackLenses", name := "isMark", desc := "(I)Z" } : MethodName) "BackLenses") (List.mem_of_getElem? (i := 29) rfl)) (hts (.initialized RX5) (List.mem_of_getElem? (i := 15) rfl)) (by decide +kernel) ⟨Nat.le_of_ble_eq_true rfl, Nat.le_of_ble_eq_true rfl⟩, (hts (.static yX5_isMark) (List.mem_of_getElem? (i := 14) rfl)), trivial⟩ hP hS rfl hl.1 rfl (Nat.le_of_ble_eq_true rfl) dX0_takeChange_17 ⟨Nat.zero_le _, Nat.zero_le _⟩ (fun r17 H locs hp17 hP hS => ?_)
      obtain rfl : r17 = xb (inR m 6) := hp17
      refine xb_if_ne (tgt := 25) hx hb dX0_takeChange_20 rfl (fun b20 => ?_) (fun b20 => ?_)
      · skip
        refine lv_aload_n hx hb dX0_takeChange_25 rfl (lv_at hl 0 rfl) ?_
        refine va_get (D := G.1) (ci := 0) (v := .ref kc) (C := RX0) (T := TX0) (N := 7) hx hb hts hin0 hown hK.1 hP 0 rfl rfl 4 (by decide) (hts (.fieldLink RX0 30 "BackLenses$Book" "changes" "LBackLenses$Rows;") (List.mem_of_getElem? (i := 1) rfl)) (fun _ h9 => h9) rfl dX0_takeChange_26 ?_
        refine lv_iload_n hx hb dX0_takeChange_29 rfl (lv_at hl 1 rfl) ?_
        refine lv_iload_n hx hb dX0_takeChange_30 rfl (lv_at hl 2 rfl) ?_
        refine lv_iload_n hx hb dX0_takeChange_31 rfl (lv_at hl 3 rfl) ?_
        refine xw_i (As := [.int d, .int c, .int m]) (rest := []) (wr := [oC kb 0 [.int (nI w), .int (nI h), .int (nI la), .ref ka, .ref kc, .ref kl, .ref kn]]) ⟨hx, hb, hml, hown, hts⟩ (c_X2_add l G H.size kc kcn 10 nc fc d c m (by first | assumption | omega) (by first | assumption | omega)) (cwV 3 hts gX0_takeChange_X2_add rfl rfl rfl (by decide +kernel) ⟨Nat.le_of_ble_eq_true rfl, Nat.le_of_ble_eq_true rfl⟩) hK hP hD hS hA [1, 2] [0] rfl rfl (by decide) (by decide) (by decide) rfl rfl rfl hl.1 rfl (Nat.le_of_ble_eq_true rfl) dX0_takeChange_32 ⟨Nat.le_of_ble_eq_true rfl, Nat.le_of_ble_eq_true rfl⟩ (fun r32 u H locs hp32 hP hD hS => ?_)
        obtain ⟨u0_32, u1_32⟩ := u
        try dsimp only at hp32 hP hD
        obtain ⟨rfl, rfl, rfl⟩ := hp32
        replace hP : xP G [oC kb 0 [.int (nI w), .int (nI h), .int (nI la), .ref ka, .ref kc, .ref kl, .ref kn], oC kc 2 [.ref kcn, .int (nI 10), .int (nI (if nc < 10 then nc + 1 else nc))], iA G kcn (3 * 10) (if nc < 10 then upd (upd (upd fc (3 * nc) d) (3 * nc + 1) c) (3 * nc + 2) m else fc)] H := hP
        replace hD : va_D (va_A (w_X0_takeChange G kb ka kc kcn kl kn w h la nc fc) ss.heap.size) [oC kb 0 [.int (nI w), .int (nI h), .int (nI la), .ref ka, .ref kc, .ref kl, .ref kn], oC kc 2 [.ref kcn, .int (nI 10), .int (nI (if nc < 10 then nc + 1 else nc))], iA G kcn (3 * 10) (if nc < 10 then upd (upd (upd fc (3 * nc) d) (3 * nc + 1) c) (3 * nc + 2) m else fc)] := hD
        have hP := hP.sub (ws' := [oC kb 0 [.int (nI w), .int (nI h), .int (nI la), .ref ka, .ref kc, .ref kl, .ref kn], oC kc 2 [.ref kcn, .int (nI 10), .int (nI (if nc < 10 then nc + 1 else nc))], iA G kcn (3 * 10) (if nc < 10 then upd (upd (upd fc (3 * nc) d) (3 * nc + 1) c) (3 * nc + 2) m else fc)]) [0, 1, 2] rfl
        have hD := hD.sub (ws' := [oC kb 0 [.int (nI w), .int (nI h), .int (nI la), .ref ka, .ref kc, .ref kl, .ref kn], oC kc 2 [.ref kcn, .int (nI 10), .int (nI (if nc < 10 then nc + 1 else nc))], iA G kcn (3 * 10) (if nc < 10 then upd (upd (upd fc (3 * nc) d) (3 * nc + 1) c) (3 * nc + 2) m else fc)]) [0, 1, 2] (by decide) rfl
        refine W.iret (v := (if nc < 10 then nI (nc + 1) else (-3))) hx hb hr (fun t ht hW => ⟨⟨(if nc < 10 then nI (nc + 1) else (-3)), ((if nc < 10 then nc + 1 else nc), (if nc < 10 then upd (upd (upd fc (3 * nc) d) (3 * nc + 1) c) (3 * nc + 2) m else fc)), rfl, ?_, by rw [ht]; exact hP, hD⟩, hS.F ht⟩) hS.2.2 dX0_takeChange_35
        try dsimp only
        first | exact ⟨(if_neg (fun q => b5 q.1)).symm, (if_neg (fun q => b5 q.1)).symm, (if_neg (fun q => b5 q.1)).symm⟩ | exact ⟨(if_neg (fun q => b13 q.2.1)).symm, (if_neg (fun q => b13 q.2.1)).symm, (if_neg (fun q => b13 q.2.1)).symm⟩ | exact ⟨(if_neg (fun q => b20 q.2.2)).symm, (if_neg (fun q => b20 q.2.2.1)).symm, (if_neg (fun q => b20 q.2.2.1)).symm⟩ | exact ⟨(if_pos ⟨b5, b13, b20⟩).symm, (by by_cases hq : nc < 10; (rw [if_pos hq]; exact (if_pos ⟨b5, b13, b20, hq⟩).symm); (rw [if_neg hq]; exact (if_neg (fun q => hq q.2.2.2)).symm)), (by by_cases hq : nc < 10; (rw [if_pos hq]; exact (if_pos ⟨b5, b13, b20, hq⟩).symm); (rw [if_neg hq]; exact (if_neg (fun q => hq q.2.2.2)).symm))⟩
      · skip
        refine lv_iconst (v := (-1)) hx hb dX0_takeChange_23 (by decide) ?_
        have hP := hP.sub (ws' := [oC kb 0 [.int (nI w), .int (nI h), .int (nI la), .ref ka, .ref kc, .ref kl, .ref kn], oC kc 2 [.ref kcn, .int (nI 10), .int (nI nc)], iA G kcn (3 * 10) fc]) [0, 1, 2] rfl
        have hD := hD.sub (ws' := [oC kb 0 [.int (nI w), .int (nI h), .int (nI la), .ref ka, .ref kc, .ref kl, .ref kn], oC kc 2 [.ref kcn, .int (nI 10), .int (nI nc)], iA G kcn (3 * 10) fc]) [0, 1, 2] (by decide) rfl
        refine W.iret (v := (-1)) hx hb hr (fun t ht hW => ⟨⟨(-1), (nc, fc), rfl, ?_, by rw [ht]; exact hP, hD⟩, hS.F ht⟩) hS.2.2 dX0_takeChange_24
        try dsimp only
        first | exact ⟨(if_neg (fun q => b5 q.1)).symm, (if_neg (fun q => b5 q.1)).symm, (if_neg (fun q => b5 q.1)).symm⟩ | exact ⟨(if_neg (fun q => b13 q.2.1)).symm, (if_neg (fun q => b13 q.2.1)).symm, (if_neg (fun q => b13 q.2.1)).symm⟩ | exact ⟨(if_neg (fun q => b20 q.2.2)).symm, (if_neg (fun q => b20 q.2.2.1)).symm, (if_neg (fun q => b20 q.2.2.1)).symm⟩ | exact ⟨(if_pos ⟨b5, b13, b20⟩).symm, (by by_cases hq : nc < 10; (rw [if_pos hq]; exact (if_pos ⟨b5, b13, b20, hq⟩).symm); (rw [if_neg hq]; exact (if_neg (fun q => hq q.2.2.2)).symm)), (by by_cases hq : nc < 10; (rw [if_pos hq]; exact (if_pos ⟨b5, b13, b20, hq⟩).symm); (rw [if_neg hq]; exact (if_neg (fun q => hq q.2.2.2)).symm))⟩

abbrev w_X0_become (G : XG) (kb ka kc kcn kl kln kn knn : Nat) (w h la : Nat) (af : Nat → Int32) (nc : Nat) (fc : Nat → Int32) (nl : Nat) (fl : Nat → Int32) (ns : Nat) (fs : Nat → Int32) (kbq kaq kcq kcnq klq klnq knq knnq : Nat) (wq hq laq : Nat) (afq : Nat → Int32) (ncq : Nat) (fcq : Nat → Int32) (nlq : Nat) (flq : Nat → Int32) (nsq : Nat) (fsq : Nat → Int32) : va_W := [oC kb 0 [.int (nI w), .int (nI h), .int (nI la), .ref ka, .ref kc, .ref kl, .ref kn], iA G ka 16 af, oC kc 2 [.ref kcn, .int (nI 10), .int (nI nc)], iA G kcn (3 * 10) fc, oC kl 2 [.ref kln, .int (nI 6), .int (nI nl)], iA G kln (3 * 6) fl, oC kn 2 [.ref knn, .int (nI 8), .int (nI ns)], iA G knn (3 * 8) fs, oC kbq 0 [.int (nI wq), .int (nI hq), .int (nI laq), .ref kaq, .ref kcq, .ref klq, .ref knq], iA G kaq 16 afq, oC kcq 2 [.ref kcnq, .int (nI 10), .int (nI ncq)], iA G kcnq (3 * 10) fcq, oC klq 2 [.ref klnq, .int (nI 6), .int (nI nlq)], iA G klnq (3 * 6) flq, oC knq 2 [.ref knnq, .int (nI 8), .int (nI nsq)], iA G knnq (3 * 8) fsq]
abbrev Q_X0_become (G : XG) (sz : Nat) (kb ka kc kcn kl kln kn knn : Nat) (w h la : Nat) (af : Nat → Int32) (nc : Nat) (fc : Nat → Int32) (nl : Nat) (fl : Nat → Int32) (ns : Nat) (fs : Nat → Int32) (kbq kaq kcq kcnq klq klnq knq knnq : Nat) (wq hq laq : Nat) (afq : Nat → Int32) (ncq : Nat) (fcq : Nat → Int32) (nlq : Nat) (flq : Nat → Int32) (nsq : Nat) (fsq : Nat → Int32) : Array Value → State → Outcome → State → Prop := (va_Qv (fun (u : (Nat → Int32) × (Nat → Int32) × (Nat → Int32) × (Nat → Int32)) => u.1 = va_cpy afq af 0 0 16 ∧ u.2.1 = va_cpy fcq fc 0 0 (3 * 10) ∧ u.2.2.1 = va_cpy flq fl 0 0 (3 * 6) ∧ u.2.2.2 = va_cpy fsq fs 0 0 (3 * 8)) (xWb G sz (w_X0_become G kb ka kc kcn kl kln kn knn w h la af nc fc nl fl ns fs kbq kaq kcq kcnq klq klnq knq knnq wq hq laq afq ncq fcq nlq flq nsq fsq) (fun u : (Nat → Int32) × (Nat → Int32) × (Nat → Int32) × (Nat → Int32) => [oC kb 0 [.int (nI wq), .int (nI hq), .int (nI laq), .ref ka, .ref kc, .ref kl, .ref kn], iA G ka 16 u.1, oC kc 2 [.ref kcn, .int (nI 10), .int (nI ncq)], iA G kcn (3 * 10) u.2.1, oC kl 2 [.ref kln, .int (nI 6), .int (nI nlq)], iA G kln (3 * 6) u.2.2.1, oC kn 2 [.ref knn, .int (nI 8), .int (nI nsq)], iA G knn (3 * 8) u.2.2.2, oC kbq 0 [.int (nI wq), .int (nI hq), .int (nI laq), .ref kaq, .ref kcq, .ref klq, .ref knq], iA G kaq 16 afq, oC kcq 2 [.ref kcnq, .int (nI 10), .int (nI ncq)], iA G kcnq (3 * 10) fcq, oC klq 2 [.ref klnq, .int (nI 6), .int (nI nlq)], iA G klnq (3 * 6) flq, oC knq 2 [.ref knnq, .int (nI 8), .int (nI nsq)], iA G knnq (3 * 8) fsq])) (va_A (w_X0_become G kb ka kc kcn kl kln kn knn w h la af nc fc nl fl ns fs kbq kaq kcq kcnq klq klnq knq knnq wq hq laq afq ncq fcq nlq flq nsq fsq) sz))
set_option maxHeartbeats 4000000 in
set_option maxRecDepth 100000 in
theorem c_X0_become (l : Launch) (G : XG) (sz : Nat) (kb ka kc kcn kl kln kn knn : Nat) (w h la : Nat) (af : Nat → Int32) (nc : Nat) (fc : Nat → Int32) (nl : Nat) (fl : Nat → Int32) (ns : Nat) (fs : Nat → Int32) (kbq kaq kcq kcnq klq klnq knq knnq : Nat) (wq hq laq : Nat) (afq : Nat → Int32) (ncq : Nat) (fcq : Nat → Int32) (nlq : Nat) (flq : Nat → Int32) (nsq : Nat) (fsq : Nat → Int32)  : Met l yX0_become wsX0_become ({ frames := 2, cells := 0, slots := 0, locals := 39 } : Room) (va_Pc [.ref kb, .ref kbq] (xWp G sz (w_X0_become G kb ka kc kcn kl kln kn knn w h la af nc fc nl fl ns fs kbq kaq kcq kcnq klq klnq knq knnq wq hq laq afq ncq fcq nlq flq nsq fsq))) (Q_X0_become G sz kb ka kc kcn kl kln kn knn w h la af nc fc nl fl ns fs kbq kaq kcq kcnq klq klnq knq knnq wq hq laq afq ncq fcq nlq flq nsq fsq) 0 0 (va_A (w_X0_become G kb ka kc kcn kl kln kn knn w h la af nc fc nl fl ns fs kbq kaq kcq kcnq klq klnq knq knnq wq hq laq afq ncq fcq nlq flq nsq fsq) sz) := by
  refine Met.ofW (cc := cX0_become) (maxL := 2) (ret := none) (by decide) rfl ?_
  intro pp ee ss mm aa below mt cd s₁ BB hml hv
  obtain ⟨rfl, hsz, hP, hK, hD0⟩ := hv
  have hx := BB.exec
  have hb := BB.bytes
  have hr := BB.returns
  have hts := atoms_spec (ws := wsX0_become) BB.pre
  have hown : ss.vm.findClass RX0 = some mm.cls := findClass_of_methodNamed BB.named
  have hlocks := BB.notSynchronized
  subst hsz
  have hD := hD0.self (sz := ss.heap.size)
  have hA : ∀ q : Nat, ss.heap.size ≤ q → va_A (w_X0_become G kb ka kc kcn kl kln kn knn w h la af nc fc nl fl ns fs kbq kaq kcq kcnq klq klnq knq knnq wq hq laq afq ncq fcq nlq flq nsq fsq) ss.heap.size q := fun q h => Or.inr h
  have hS : va_S (va_A (w_X0_become G kb ka kc kcn kl kln kn knn w h la af nc fc nl fl ns fs kbq kaq kcq kcnq klq klnq knq knnq wq hq laq afq ncq fcq nlq flq nsq fsq) ss.heap.size) ss.heap ss.heap [] := va_S.rf
  replace hD : va_D (va_A (w_X0_become G kb ka kc kcn kl kln kn knn w h la af nc fc nl fl ns fs kbq kaq kcq kcnq klq klnq knq knnq wq hq laq afq ncq fcq nlq flq nsq fsq) ss.heap.size) [oC kb 0 [.int (nI w), .int (nI h), .int (nI la), .ref ka, .ref kc, .ref kl, .ref kn], iA G ka 16 af, oC kc 2 [.ref kcn, .int (nI 10), .int (nI nc)], iA G kcn (3 * 10) fc, oC kl 2 [.ref kln, .int (nI 6), .int (nI nl)], iA G kln (3 * 6) fl, oC kn 2 [.ref knn, .int (nI 8), .int (nI ns)], iA G knn (3 * 8) fs, oC kbq 0 [.int (nI wq), .int (nI hq), .int (nI laq), .ref kaq, .ref kcq, .ref klq, .ref knq], iA G kaq 16 afq, oC kcq 2 [.ref kcnq, .int (nI 10), .int (nI ncq)], iA G kcnq (3 * 10) fcq, oC klq 2 [.ref klnq, .int (nI 6), .int (nI nlq)], iA G klnq (3 * 6) flq, oC knq 2 [.ref knnq, .int (nI 8), .int (nI nsq)], iA G knnq (3 * 8) fsq] := hD
  replace hP : xP G [oC kb 0 [.int (nI w), .int (nI h), .int (nI la), .ref ka, .ref kc, .ref kl, .ref kn], iA G ka 16 af, oC kc 2 [.ref kcn, .int (nI 10), .int (nI nc)], iA G kcn (3 * 10) fc, oC kl 2 [.ref kln, .int (nI 6), .int (nI nl)], iA G kln (3 * 6) fl, oC kn 2 [.ref knn, .int (nI 8), .int (nI ns)], iA G knn (3 * 8) fs, oC kbq 0 [.int (nI wq), .int (nI hq), .int (nI laq), .ref kaq, .ref kcq, .ref klq, .ref knq], iA G kaq 16 afq, oC kcq 2 [.ref kcnq, .int (nI 10), .int (nI ncq)], iA G kcnq (3 * 10) fcq, oC klq 2 [.ref klnq, .int (nI 6), .int (nI nlq)], iA G klnq (3 * 6) flq, oC knq 2 [.ref knnq, .int (nI 8), .int (nI nsq)], iA G knnq (3 * 8) fsq] ss.heap := hP
  have hin0 : ∀ w ∈ u_ws RX0 TX0 7, w ∈ wsX0_become := fun w h => List.mem_cons_of_mem _ (List.mem_append_left _ (List.mem_append_right _ h))
  have hin2 : ∀ w ∈ u_ws RX2 TX2 3, w ∈ wsX0_become := fun w h => List.mem_cons_of_mem _ (List.mem_append_right _ h)
  have hl := lv_entry ([.ref kb, .ref kbq]) (n := 2) (Nat.le_of_ble_eq_true rfl)
  rw [lg_entry_eq]
  generalize (lg_sl ([.ref kb, .ref kbq]) ++ List.replicate (2 - (lg_sl ([.ref kb, .ref kbq])).length) Slot.unset).toArray = ls at hl ⊢
  replace hl : lv_has ls 2 [(0, .ref kb), (1, .ref kbq)] := hl
  refine lv_aload_n hx hb dX0_become_0 rfl (lv_at hl 0 rfl) ?_
  refine lv_aload_n hx hb dX0_become_1 rfl (lv_at hl 1 rfl) ?_
  refine va_get (D := G.1) (ci := 0) (v := .int (nI wq)) (C := RX0) (T := TX0) (N := 7) hx hb hts hin0 hown hK.1 hP 8 rfl rfl 0 (by decide) (hts (.fieldLink RX0 9 "BackLenses$Book" "wide" "I") (List.mem_of_getElem? (i := 1) rfl)) (fun _ h9 => h9) rfl dX0_become_2 ?_
  refine va_put (D := G.1) (ci := 0) (v := .int (nI wq)) (ty := .int) (C := RX0) (T := TX0) (N := 7) hx hb hts hin0 tyX0 tyX0_ok nmX0 hown hK.1 hP hD hS 0 rfl rfl 0 (by decide) (hts (.fieldLink RX0 9 "BackLenses$Book" "wide" "I") (List.mem_of_getElem? (i := 1) rfl)) (fun _ h9 => h9) rfl (by decide +kernel) rfl rfl (Nat.le_of_ble_eq_true rfl) dX0_become_5 (fun H locs hP hD hS => ?_)
  replace hP : xP G [oC kb 0 [.int (nI wq), .int (nI h), .int (nI la), .ref ka, .ref kc, .ref kl, .ref kn], iA G ka 16 af, oC kc 2 [.ref kcn, .int (nI 10), .int (nI nc)], iA G kcn (3 * 10) fc, oC kl 2 [.ref kln, .int (nI 6), .int (nI nl)], iA G kln (3 * 6) fl, oC kn 2 [.ref knn, .int (nI 8), .int (nI ns)], iA G knn (3 * 8) fs, oC kbq 0 [.int (nI wq), .int (nI hq), .int (nI laq), .ref kaq, .ref kcq, .ref klq, .ref knq], iA G kaq 16 afq, oC kcq 2 [.ref kcnq, .int (nI 10), .int (nI ncq)], iA G kcnq (3 * 10) fcq, oC klq 2 [.ref klnq, .int (nI 6), .int (nI nlq)], iA G klnq (3 * 6) flq, oC knq 2 [.ref knnq, .int (nI 8), .int (nI nsq)], iA G knnq (3 * 8) fsq] H := hP
  replace hD : va_D (va_A (w_X0_become G kb ka kc kcn kl kln kn knn w h la af nc fc nl fl ns fs kbq kaq kcq kcnq klq klnq knq knnq wq hq laq afq ncq fcq nlq flq nsq fsq) ss.heap.size) [oC kb 0 [.int (nI wq), .int (nI h), .int (nI la), .ref ka, .ref kc, .ref kl, .ref kn], iA G ka 16 af, oC kc 2 [.ref kcn, .int (nI 10), .int (nI nc)], iA G kcn (3 * 10) fc, oC kl 2 [.ref kln, .int (nI 6), .int (nI nl)], iA G kln (3 * 6) fl, oC kn 2 [.ref knn, .int (nI 8), .int (nI ns)], iA G knn (3 * 8) fs, oC kbq 0 [.int (nI wq), .int (nI hq), .int (nI laq), .ref kaq, .ref kcq, .ref klq, .ref knq], iA G kaq 16 afq, oC kcq 2 [.ref kcnq, .int (nI 10), .int (nI ncq)], iA G kcnq (3 * 10) fcq, oC klq 2 [.ref klnq, .int (nI 6), .int (nI nlq)], iA G klnq (3 * 6) flq, oC knq 2 [.ref knnq, .int (nI 8), .int (nI nsq)], iA G knnq (3 * 8) fsq] := hD
  refine lv_aload_n hx hb dX0_become_8 rfl (lv_at hl 0 rfl) ?_
  refine lv_aload_n hx hb dX0_become_9 rfl (lv_at hl 1 rfl) ?_
  refine va_get (D := G.1) (ci := 0) (v := .int (nI hq)) (C := RX0) (T := TX0) (N := 7) hx hb hts hin0 hown hK.1 hP 8 rfl rfl 1 (by decide) (hts (.fieldLink RX0 15 "BackLenses$Book" "high" "I") (List.mem_of_getElem? (i := 2) rfl)) (fun _ h9 => h9) rfl dX0_become_10 ?_
  refine va_put (D := G.1) (ci := 0) (v := .int (nI hq)) (ty := .int) (C := RX0) (T := TX0) (N := 7) hx hb hts hin0 tyX0 tyX0_ok nmX0 hown hK.1 hP hD hS 0 rfl rfl 1 (by decide) (hts (.fieldLink RX0 15 "BackLenses$Book" "high" "I") (List.mem_of_getElem? (i := 2) rfl)) (fun _ h9 => h9) rfl (by decide +kernel) rfl rfl (Nat.le_of_ble_eq_true rfl) dX0_become_13 (fun H locs hP hD hS => ?_)
  replace hP : xP G [oC kb 0 [.int (nI wq), .int (nI hq), .int (nI la), .ref ka, .ref kc, .ref kl, .ref kn], iA G ka 16 af, oC kc 2 [.ref kcn, .int (nI 10), .int (nI nc)], iA G kcn (3 * 10) fc, oC kl 2 [.ref kln, .int (nI 6), .int (nI nl)], iA G kln (3 * 6) fl, oC kn 2 [.ref knn, .int (nI 8), .int (nI ns)], iA G knn (3 * 8) fs, oC kbq 0 [.int (nI wq), .int (nI hq), .int (nI laq), .ref kaq, .ref kcq, .ref klq, .ref knq], iA G kaq 16 afq, oC kcq 2 [.ref kcnq, .int (nI 10), .int (nI ncq)], iA G kcnq (3 * 10) fcq, oC klq 2 [.ref klnq, .int (nI 6), .int (nI nlq)], iA G klnq (3 * 6) flq, oC knq 2 [.ref knnq, .int (nI 8), .int (nI nsq)], iA G knnq (3 * 8) fsq] H := hP
  replace hD : va_D (va_A (w_X0_become G kb ka kc kcn kl kln kn knn w h la af nc fc nl fl ns fs kbq kaq kcq kcnq klq klnq knq knnq wq hq laq afq ncq fcq nlq flq nsq fsq) ss.heap.size) [oC kb 0 [.int (nI wq), .int (nI hq), .int (nI la), .ref ka, .ref kc, .ref kl, .ref kn], iA G ka 16 af, oC kc 2 [.ref kcn, .int (nI 10), .int (nI nc)], iA G kcn (3 * 10) fc, oC kl 2 [.ref kln, .int (nI 6), .int (nI nl)], iA G kln (3 * 6) fl, oC kn 2 [.ref knn, .int (nI 8), .int (nI ns)], iA G knn (3 * 8) fs, oC kbq 0 [.int (nI wq), .int (nI hq), .int (nI laq), .ref kaq, .ref kcq, .ref klq, .ref knq], iA G kaq 16 afq, oC kcq 2 [.ref kcnq, .int (nI 10), .int (nI ncq)], iA G kcnq (3 * 10) fcq, oC klq 2 [.ref klnq, .int (nI 6), .int (nI nlq)], iA G klnq (3 * 6) flq, oC knq 2 [.ref knnq, .int (nI 8), .int (nI nsq)], iA G knnq (3 * 8) fsq] := hD
  refine lv_aload_n hx hb dX0_become_16 rfl (lv_at hl 0 rfl) ?_
  refine lv_aload_n hx hb dX0_become_17 rfl (lv_at hl 1 rfl) ?_
  refine va_get (D := G.1) (ci := 0) (v := .int (nI laq)) (C := RX0) (T := TX0) (N := 7) hx hb hts hin0 hown hK.1 hP 8 rfl rfl 2 (by decide) (hts (.fieldLink RX0 18 "BackLenses$Book" "last" "I") (List.mem_of_getElem? (i := 3) rfl)) (fun _ h9 => h9) rfl dX0_become_18 ?_
  refine va_put (D := G.1) (ci := 0) (v := .int (nI laq)) (ty := .int) (C := RX0) (T := TX0) (N := 7) hx hb hts hin0 tyX0 tyX0_ok nmX0 hown hK.1 hP hD hS 0 rfl rfl 2 (by decide) (hts (.fieldLink RX0 18 "BackLenses$Book" "last" "I") (List.mem_of_getElem? (i := 3) rfl)) (fun _ h9 => h9) rfl (by decide +kernel) rfl rfl (Nat.le_of_ble_eq_true rfl) dX0_become_21 (fun H locs hP hD hS => ?_)
  replace hP : xP G [oC kb 0 [.int (nI wq), .int (nI hq), .int (nI laq), .ref ka, .ref kc, .ref kl, .ref kn], iA G ka 16 af, oC kc 2 [.ref kcn, .int (nI 10), .int (nI nc)], iA G kcn (3 * 10) fc, oC kl 2 [.ref kln, .int (nI 6), .int (nI nl)], iA G kln (3 * 6) fl, oC kn 2 [.ref knn, .int (nI 8), .int (nI ns)], iA G knn (3 * 8) fs, oC kbq 0 [.int (nI wq), .int (nI hq), .int (nI laq), .ref kaq, .ref kcq, .ref klq, .ref knq], iA G kaq 16 afq, oC kcq 2 [.ref kcnq, .int (nI 10), .int (nI ncq)], iA G kcnq (3 * 10) fcq, oC klq 2 [.ref klnq, .int (nI 6), .int (nI nlq)], iA G klnq (3 * 6) flq, oC knq 2 [.ref knnq, .int (nI 8), .int (nI nsq)], iA G knnq (3 * 8) fsq] H := hP
  replace hD : va_D (va_A (w_X0_become G kb ka kc kcn kl kln kn knn w h la af nc fc nl fl ns fs kbq kaq kcq kcnq klq klnq knq knnq wq hq laq afq ncq fcq nlq flq nsq fsq) ss.heap.size) [oC kb 0 [.int (nI wq), .int (nI hq), .int (nI laq), .ref ka, .ref kc, .ref kl, .ref kn], iA G ka 16 af, oC kc 2 [.ref kcn, .int (nI 10), .int (nI nc)], iA G kcn (3 * 10) fc, oC kl 2 [.ref kln, .int (nI 6), .int (nI nl)], iA G kln (3 * 6) fl, oC kn 2 [.ref knn, .int (nI 8), .int (nI ns)], iA G knn (3 * 8) fs, oC kbq 0 [.int (nI wq), .int (nI hq), .int (nI laq), .ref kaq, .ref kcq, .ref klq, .ref knq], iA G kaq 16 afq, oC kcq 2 [.ref kcnq, .int (nI 10), .int (nI ncq)], iA G kcnq (3 * 10) fcq, oC klq 2 [.ref klnq, .int (nI 6), .int (nI nlq)], iA G klnq (3 * 6) flq, oC knq 2 [.ref knnq, .int (nI 8), .int (nI nsq)], iA G knnq (3 * 8) fsq] := hD
  refine lv_aload_n hx hb dX0_become_24 rfl (lv_at hl 1 rfl) ?_
  refine va_get (D := G.1) (ci := 0) (v := .ref kaq) (C := RX0) (T := TX0) (N := 7) hx hb hts hin0 hown hK.1 hP 8 rfl rfl 3 (by decide) (hts (.fieldLink RX0 21 "BackLenses$Book" "atFirst" "[I") (List.mem_of_getElem? (i := 4) rfl)) (fun _ h9 => h9) rfl dX0_become_25 ?_
  refine lv_iconst (v := nI 0) hx hb dX0_become_28 (by decide) ?_
  refine lv_aload_n hx hb dX0_become_29 rfl (lv_at hl 0 rfl) ?_
  refine va_get (D := G.1) (ci := 0) (v := .ref ka) (C := RX0) (T := TX0) (N := 7) hx hb hts hin0 hown hK.1 hP 0 rfl rfl 3 (by decide) (hts (.fieldLink RX0 21 "BackLenses$Book" "atFirst" "[I") (List.mem_of_getElem? (i := 4) rfl)) (fun _ h9 => h9) rfl dX0_become_30 ?_
  refine lv_iconst (v := nI 0) hx hb dX0_become_33 (by decide) ?_
  refine lv_bipush (v := nI 16) hx hb dX0_become_34 (by decide) ?_
  refine xn_copyi (n := 16) (sp := 0) (dp := 0) hx hb (by rw [hml]; exact hl.1.symm) hown (hts (.methodLink RX0 49 arraycopyName) (List.mem_of_getElem? (i := 5) rfl)) (hts (.native arraycopyName) (List.mem_of_getElem? (i := 6) rfl)) (hts (.static arraycopyName) (List.mem_of_getElem? (i := 7) rfl)) (hts (.initialized "java/lang/System") (List.mem_of_getElem? (i := 8) rfl)) hK hP hD hS 9 1 rfl rfl (by omega) (by omega) (by omega) (by omega) (Nat.le_of_ble_eq_true rfl) (Nat.le_of_ble_eq_true rfl) dX0_become_36 (fun H locs hP hD hS => ?_)
  replace hP : xP G [oC kb 0 [.int (nI wq), .int (nI hq), .int (nI laq), .ref ka, .ref kc, .ref kl, .ref kn], iA G ka 16 (va_cpy afq af 0 0 16), oC kc 2 [.ref kcn, .int (nI 10), .int (nI nc)], iA G kcn (3 * 10) fc, oC kl 2 [.ref kln, .int (nI 6), .int (nI nl)], iA G kln (3 * 6) fl, oC kn 2 [.ref knn, .int (nI 8), .int (nI ns)], iA G knn (3 * 8) fs, oC kbq 0 [.int (nI wq), .int (nI hq), .int (nI laq), .ref kaq, .ref kcq, .ref klq, .ref knq], iA G kaq 16 afq, oC kcq 2 [.ref kcnq, .int (nI 10), .int (nI ncq)], iA G kcnq (3 * 10) fcq, oC klq 2 [.ref klnq, .int (nI 6), .int (nI nlq)], iA G klnq (3 * 6) flq, oC knq 2 [.ref knnq, .int (nI 8), .int (nI nsq)], iA G knnq (3 * 8) fsq] H := hP
  replace hD : va_D (va_A (w_X0_become G kb ka kc kcn kl kln kn knn w h la af nc fc nl fl ns fs kbq kaq kcq kcnq klq klnq knq knnq wq hq laq afq ncq fcq nlq flq nsq fsq) ss.heap.size) [oC kb 0 [.int (nI wq), .int (nI hq), .int (nI laq), .ref ka, .ref kc, .ref kl, .ref kn], iA G ka 16 (va_cpy afq af 0 0 16), oC kc 2 [.ref kcn, .int (nI 10), .int (nI nc)], iA G kcn (3 * 10) fc, oC kl 2 [.ref kln, .int (nI 6), .int (nI nl)], iA G kln (3 * 6) fl, oC kn 2 [.ref knn, .int (nI 8), .int (nI ns)], iA G knn (3 * 8) fs, oC kbq 0 [.int (nI wq), .int (nI hq), .int (nI laq), .ref kaq, .ref kcq, .ref klq, .ref knq], iA G kaq 16 afq, oC kcq 2 [.ref kcnq, .int (nI 10), .int (nI ncq)], iA G kcnq (3 * 10) fcq, oC klq 2 [.ref klnq, .int (nI 6), .int (nI nlq)], iA G klnq (3 * 6) flq, oC knq 2 [.ref knnq, .int (nI 8), .int (nI nsq)], iA G knnq (3 * 8) fsq] := hD
  refine lv_aload_n hx hb dX0_become_39 rfl (lv_at hl 0 rfl) ?_
  refine va_get (D := G.1) (ci := 0) (v := .ref kc) (C := RX0) (T := TX0) (N := 7) hx hb hts hin0 hown hK.1 hP 0 rfl rfl 4 (by decide) (hts (.fieldLink RX0 30 "BackLenses$Book" "changes" "LBackLenses$Rows;") (List.mem_of_getElem? (i := 9) rfl)) (fun _ h9 => h9) rfl dX0_become_40 ?_
  refine lv_aload_n hx hb dX0_become_43 rfl (lv_at hl 1 rfl) ?_
  refine va_get (D := G.1) (ci := 0) (v := .ref kcq) (C := RX0) (T := TX0) (N := 7) hx hb hts hin0 hown hK.1 hP 8 rfl rfl 4 (by decide) (hts (.fieldLink RX0 30 "BackLenses$Book" "changes" "LBackLenses$Rows;") (List.mem_of_getElem? (i := 9) rfl)) (fun _ h9 => h9) rfl dX0_become_44 ?_
  refine xw_v (As := [.ref kcq]) (rest := []) (wr := [oC kb 0 [.int (nI wq), .int (nI hq), .int (nI laq), .ref ka, .ref kc, .ref kl, .ref kn], iA G ka 16 (va_cpy afq af 0 0 16), oC kl 2 [.ref kln, .int (nI 6), .int (nI nl)], iA G kln (3 * 6) fl, oC kn 2 [.ref knn, .int (nI 8), .int (nI ns)], iA G knn (3 * 8) fs, oC kbq 0 [.int (nI wq), .int (nI hq), .int (nI laq), .ref kaq, .ref kcq, .ref klq, .ref knq], iA G kaq 16 afq, oC klq 2 [.ref klnq, .int (nI 6), .int (nI nlq)], iA G klnq (3 * 6) flq, oC knq 2 [.ref knnq, .int (nI 8), .int (nI nsq)], iA G knnq (3 * 8) fsq]) ⟨hx, hb, hml, hown, hts⟩ (c_X2_become l G H.size kc kcn 10 nc fc kcq kcnq ncq fcq (by first | assumption | omega)) (cwV 1 hts gX0_become_X2_become rfl rfl rfl (by decide +kernel) ⟨Nat.le_of_ble_eq_true rfl, Nat.le_of_ble_eq_true rfl⟩) hK hP hD hS hA [2, 3, 10, 11] [0, 1, 4, 5, 6, 7, 8, 9, 12, 13, 14, 15] rfl rfl (by decide) (by decide) (by decide) rfl rfl rfl hl.1 rfl (Nat.le_of_ble_eq_true rfl) dX0_become_47 ⟨Nat.le_of_ble_eq_true rfl, Nat.le_of_ble_eq_true rfl⟩ (fun u H locs hp47 hP hD hS => ?_)
  obtain ⟨u0_47, rfl⟩ : ∃ z, z = u := ⟨_, rfl⟩
  try dsimp only at hp47 hP hD
  obtain rfl := hp47
  replace hP : xP G [oC kb 0 [.int (nI wq), .int (nI hq), .int (nI laq), .ref ka, .ref kc, .ref kl, .ref kn], iA G ka 16 (va_cpy afq af 0 0 16), oC kl 2 [.ref kln, .int (nI 6), .int (nI nl)], iA G kln (3 * 6) fl, oC kn 2 [.ref knn, .int (nI 8), .int (nI ns)], iA G knn (3 * 8) fs, oC kbq 0 [.int (nI wq), .int (nI hq), .int (nI laq), .ref kaq, .ref kcq, .ref klq, .ref knq], iA G kaq 16 afq, oC klq 2 [.ref klnq, .int (nI 6), .int (nI nlq)], iA G klnq (3 * 6) flq, oC knq 2 [.ref knnq, .int (nI 8), .int (nI nsq)], iA G knnq (3 * 8) fsq, oC kc 2 [.ref kcn, .int (nI 10), .int (nI ncq)], iA G kcn (3 * 10) (va_cpy fcq fc 0 0 (3 * 10)), oC kcq 2 [.ref kcnq, .int (nI 10), .int (nI ncq)], iA G kcnq (3 * 10) fcq] H := hP
  replace hD : va_D (va_A (w_X0_become G kb ka kc kcn kl kln kn knn w h la af nc fc nl fl ns fs kbq kaq kcq kcnq klq klnq knq knnq wq hq laq afq ncq fcq nlq flq nsq fsq) ss.heap.size) [oC kb 0 [.int (nI wq), .int (nI hq), .int (nI laq), .ref ka, .ref kc, .ref kl, .ref kn], iA G ka 16 (va_cpy afq af 0 0 16), oC kl 2 [.ref kln, .int (nI 6), .int (nI nl)], iA G kln (3 * 6) fl, oC kn 2 [.ref knn, .int (nI 8), .int (nI ns)], iA G knn (3 * 8) fs, oC kbq 0 [.int (nI wq), .int (nI hq), .int (nI laq), .ref kaq, .ref kcq, .ref klq, .ref knq], iA G kaq 16 afq, oC klq 2 [.ref klnq, .int (nI 6), .int (nI nlq)], iA G klnq (3 * 6) flq, oC knq 2 [.ref knnq, .int (nI 8), .int (nI nsq)], iA G knnq (3 * 8) fsq, oC kc 2 [.ref kcn, .int (nI 10), .int (nI ncq)], iA G kcn (3 * 10) (va_cpy fcq fc 0 0 (3 * 10)), oC kcq 2 [.ref kcnq, .int (nI 10), .int (nI ncq)], iA G kcnq (3 * 10) fcq] := hD
  refine lv_aload_n hx hb dX0_become_50 rfl (lv_at hl 0 rfl) ?_
  refine va_get (D := G.1) (ci := 0) (v := .ref kl) (C := RX0) (T := TX0) (N := 7) hx hb hts hin0 hown hK.1 hP 0 rfl rfl 5 (by decide) (hts (.fieldLink RX0 34 "BackLenses$Book" "lenses" "LBackLenses$Rows;") (List.mem_of_getElem? (i := 10) rfl)) (fun _ h9 => h9) rfl dX0_become_51 ?_
  refine lv_aload_n hx hb dX0_become_54 rfl (lv_at hl 1 rfl) ?_
  refine va_get (D := G.1) (ci := 0) (v := .ref klq) (C := RX0) (T := TX0) (N := 7) hx hb hts hin0 hown hK.1 hP 6 rfl rfl 5 (by decide) (hts (.fieldLink RX0 34 "BackLenses$Book" "lenses" "LBackLenses$Rows;") (List.mem_of_getElem? (i := 10) rfl)) (fun _ h9 => h9) rfl dX0_become_55 ?_
  refine xw_v (As := [.ref klq]) (rest := []) (wr := [oC kb 0 [.int (nI wq), .int (nI hq), .int (nI laq), .ref ka, .ref kc, .ref kl, .ref kn], iA G ka 16 (va_cpy afq af 0 0 16), oC kn 2 [.ref knn, .int (nI 8), .int (nI ns)], iA G knn (3 * 8) fs, oC kbq 0 [.int (nI wq), .int (nI hq), .int (nI laq), .ref kaq, .ref kcq, .ref klq, .ref knq], iA G kaq 16 afq, oC knq 2 [.ref knnq, .int (nI 8), .int (nI nsq)], iA G knnq (3 * 8) fsq, oC kc 2 [.ref kcn, .int (nI 10), .int (nI ncq)], iA G kcn (3 * 10) (va_cpy fcq fc 0 0 (3 * 10)), oC kcq 2 [.ref kcnq, .int (nI 10), .int (nI ncq)], iA G kcnq (3 * 10) fcq]) ⟨hx, hb, hml, hown, hts⟩ (c_X2_become l G H.size kl kln 6 nl fl klq klnq nlq flq (by first | assumption | omega)) (cwV 1 hts gX0_become_X2_become rfl rfl rfl (by decide +kernel) ⟨Nat.le_of_ble_eq_true rfl, Nat.le_of_ble_eq_true rfl⟩) hK hP hD hS hA [2, 3, 8, 9] [0, 1, 4, 5, 6, 7, 10, 11, 12, 13, 14, 15] rfl rfl (by decide) (by decide) (by decide) rfl rfl rfl hl.1 rfl (Nat.le_of_ble_eq_true rfl) dX0_become_58 ⟨Nat.le_of_ble_eq_true rfl, Nat.le_of_ble_eq_true rfl⟩ (fun u H locs hp58 hP hD hS => ?_)
  obtain ⟨u0_58, rfl⟩ : ∃ z, z = u := ⟨_, rfl⟩
  try dsimp only at hp58 hP hD
  obtain rfl := hp58
  replace hP : xP G [oC kb 0 [.int (nI wq), .int (nI hq), .int (nI laq), .ref ka, .ref kc, .ref kl, .ref kn], iA G ka 16 (va_cpy afq af 0 0 16), oC kn 2 [.ref knn, .int (nI 8), .int (nI ns)], iA G knn (3 * 8) fs, oC kbq 0 [.int (nI wq), .int (nI hq), .int (nI laq), .ref kaq, .ref kcq, .ref klq, .ref knq], iA G kaq 16 afq, oC knq 2 [.ref knnq, .int (nI 8), .int (nI nsq)], iA G knnq (3 * 8) fsq, oC kc 2 [.ref kcn, .int (nI 10), .int (nI ncq)], iA G kcn (3 * 10) (va_cpy fcq fc 0 0 (3 * 10)), oC kcq 2 [.ref kcnq, .int (nI 10), .int (nI ncq)], iA G kcnq (3 * 10) fcq, oC kl 2 [.ref kln, .int (nI 6), .int (nI nlq)], iA G kln (3 * 6) (va_cpy flq fl 0 0 (3 * 6)), oC klq 2 [.ref klnq, .int (nI 6), .int (nI nlq)], iA G klnq (3 * 6) flq] H := hP
  replace hD : va_D (va_A (w_X0_become G kb ka kc kcn kl kln kn knn w h la af nc fc nl fl ns fs kbq kaq kcq kcnq klq klnq knq knnq wq hq laq afq ncq fcq nlq flq nsq fsq) ss.heap.size) [oC kb 0 [.int (nI wq), .int (nI hq), .int (nI laq), .ref ka, .ref kc, .ref kl, .ref kn], iA G ka 16 (va_cpy afq af 0 0 16), oC kn 2 [.ref knn, .int (nI 8), .int (nI ns)], iA G knn (3 * 8) fs, oC kbq 0 [.int (nI wq), .int (nI hq), .int (nI laq), .ref kaq, .ref kcq, .ref klq, .ref knq], iA G kaq 16 afq, oC knq 2 [.ref knnq, .int (nI 8), .int (nI nsq)], iA G knnq (3 * 8) fsq, oC kc 2 [.ref kcn, .int (nI 10), .int (nI ncq)], iA G kcn (3 * 10) (va_cpy fcq fc 0 0 (3 * 10)), oC kcq 2 [.ref kcnq, .int (nI 10), .int (nI ncq)], iA G kcnq (3 * 10) fcq, oC kl 2 [.ref kln, .int (nI 6), .int (nI nlq)], iA G kln (3 * 6) (va_cpy flq fl 0 0 (3 * 6)), oC klq 2 [.ref klnq, .int (nI 6), .int (nI nlq)], iA G klnq (3 * 6) flq] := hD
  refine lv_aload_n hx hb dX0_become_61 rfl (lv_at hl 0 rfl) ?_
  refine va_get (D := G.1) (ci := 0) (v := .ref kn) (C := RX0) (T := TX0) (N := 7) hx hb hts hin0 hown hK.1 hP 0 rfl rfl 6 (by decide) (hts (.fieldLink RX0 37 "BackLenses$Book" "shown" "LBackLenses$Rows;") (List.mem_of_getElem? (i := 11) rfl)) (fun _ h9 => h9) rfl dX0_become_62 ?_
  refine lv_aload_n hx hb dX0_become_65 rfl (lv_at hl 1 rfl) ?_
  refine va_get (D := G.1) (ci := 0) (v := .ref knq) (C := RX0) (T := TX0) (N := 7) hx hb hts hin0 hown hK.1 hP 4 rfl rfl 6 (by decide) (hts (.fieldLink RX0 37 "BackLenses$Book" "shown" "LBackLenses$Rows;") (List.mem_of_getElem? (i := 11) rfl)) (fun _ h9 => h9) rfl dX0_become_66 ?_
  refine xw_v (As := [.ref knq]) (rest := []) (wr := [oC kb 0 [.int (nI wq), .int (nI hq), .int (nI laq), .ref ka, .ref kc, .ref kl, .ref kn], iA G ka 16 (va_cpy afq af 0 0 16), oC kbq 0 [.int (nI wq), .int (nI hq), .int (nI laq), .ref kaq, .ref kcq, .ref klq, .ref knq], iA G kaq 16 afq, oC kc 2 [.ref kcn, .int (nI 10), .int (nI ncq)], iA G kcn (3 * 10) (va_cpy fcq fc 0 0 (3 * 10)), oC kcq 2 [.ref kcnq, .int (nI 10), .int (nI ncq)], iA G kcnq (3 * 10) fcq, oC kl 2 [.ref kln, .int (nI 6), .int (nI nlq)], iA G kln (3 * 6) (va_cpy flq fl 0 0 (3 * 6)), oC klq 2 [.ref klnq, .int (nI 6), .int (nI nlq)], iA G klnq (3 * 6) flq]) ⟨hx, hb, hml, hown, hts⟩ (c_X2_become l G H.size kn knn 8 ns fs knq knnq nsq fsq (by first | assumption | omega)) (cwV 1 hts gX0_become_X2_become rfl rfl rfl (by decide +kernel) ⟨Nat.le_of_ble_eq_true rfl, Nat.le_of_ble_eq_true rfl⟩) hK hP hD hS hA [2, 3, 6, 7] [0, 1, 4, 5, 8, 9, 10, 11, 12, 13, 14, 15] rfl rfl (by decide) (by decide) (by decide) rfl rfl rfl hl.1 rfl (Nat.le_of_ble_eq_true rfl) dX0_become_69 ⟨Nat.le_of_ble_eq_true rfl, Nat.le_of_ble_eq_true rfl⟩ (fun u H locs hp69 hP hD hS => ?_)
  obtain ⟨u0_69, rfl⟩ : ∃ z, z = u := ⟨_, rfl⟩
  try dsimp only at hp69 hP hD
  obtain rfl := hp69
  replace hP : xP G [oC kb 0 [.int (nI wq), .int (nI hq), .int (nI laq), .ref ka, .ref kc, .ref kl, .ref kn], iA G ka 16 (va_cpy afq af 0 0 16), oC kbq 0 [.int (nI wq), .int (nI hq), .int (nI laq), .ref kaq, .ref kcq, .ref klq, .ref knq], iA G kaq 16 afq, oC kc 2 [.ref kcn, .int (nI 10), .int (nI ncq)], iA G kcn (3 * 10) (va_cpy fcq fc 0 0 (3 * 10)), oC kcq 2 [.ref kcnq, .int (nI 10), .int (nI ncq)], iA G kcnq (3 * 10) fcq, oC kl 2 [.ref kln, .int (nI 6), .int (nI nlq)], iA G kln (3 * 6) (va_cpy flq fl 0 0 (3 * 6)), oC klq 2 [.ref klnq, .int (nI 6), .int (nI nlq)], iA G klnq (3 * 6) flq, oC kn 2 [.ref knn, .int (nI 8), .int (nI nsq)], iA G knn (3 * 8) (va_cpy fsq fs 0 0 (3 * 8)), oC knq 2 [.ref knnq, .int (nI 8), .int (nI nsq)], iA G knnq (3 * 8) fsq] H := hP
  replace hD : va_D (va_A (w_X0_become G kb ka kc kcn kl kln kn knn w h la af nc fc nl fl ns fs kbq kaq kcq kcnq klq klnq knq knnq wq hq laq afq ncq fcq nlq flq nsq fsq) ss.heap.size) [oC kb 0 [.int (nI wq), .int (nI hq), .int (nI laq), .ref ka, .ref kc, .ref kl, .ref kn], iA G ka 16 (va_cpy afq af 0 0 16), oC kbq 0 [.int (nI wq), .int (nI hq), .int (nI laq), .ref kaq, .ref kcq, .ref klq, .ref knq], iA G kaq 16 afq, oC kc 2 [.ref kcn, .int (nI 10), .int (nI ncq)], iA G kcn (3 * 10) (va_cpy fcq fc 0 0 (3 * 10)), oC kcq 2 [.ref kcnq, .int (nI 10), .int (nI ncq)], iA G kcnq (3 * 10) fcq, oC kl 2 [.ref kln, .int (nI 6), .int (nI nlq)], iA G kln (3 * 6) (va_cpy flq fl 0 0 (3 * 6)), oC klq 2 [.ref klnq, .int (nI 6), .int (nI nlq)], iA G klnq (3 * 6) flq, oC kn 2 [.ref knn, .int (nI 8), .int (nI nsq)], iA G knn (3 * 8) (va_cpy fsq fs 0 0 (3 * 8)), oC knq 2 [.ref knnq, .int (nI 8), .int (nI nsq)], iA G knnq (3 * 8) fsq] := hD
  have hP := hP.sub (ws' := [oC kb 0 [.int (nI wq), .int (nI hq), .int (nI laq), .ref ka, .ref kc, .ref kl, .ref kn], iA G ka 16 (va_cpy afq af 0 0 16), oC kc 2 [.ref kcn, .int (nI 10), .int (nI ncq)], iA G kcn (3 * 10) (va_cpy fcq fc 0 0 (3 * 10)), oC kl 2 [.ref kln, .int (nI 6), .int (nI nlq)], iA G kln (3 * 6) (va_cpy flq fl 0 0 (3 * 6)), oC kn 2 [.ref knn, .int (nI 8), .int (nI nsq)], iA G knn (3 * 8) (va_cpy fsq fs 0 0 (3 * 8)), oC kbq 0 [.int (nI wq), .int (nI hq), .int (nI laq), .ref kaq, .ref kcq, .ref klq, .ref knq], iA G kaq 16 afq, oC kcq 2 [.ref kcnq, .int (nI 10), .int (nI ncq)], iA G kcnq (3 * 10) fcq, oC klq 2 [.ref klnq, .int (nI 6), .int (nI nlq)], iA G klnq (3 * 6) flq, oC knq 2 [.ref knnq, .int (nI 8), .int (nI nsq)], iA G knnq (3 * 8) fsq]) [0, 1, 4, 5, 8, 9, 12, 13, 2, 3, 6, 7, 10, 11, 14, 15] rfl
  have hD := hD.sub (ws' := [oC kb 0 [.int (nI wq), .int (nI hq), .int (nI laq), .ref ka, .ref kc, .ref kl, .ref kn], iA G ka 16 (va_cpy afq af 0 0 16), oC kc 2 [.ref kcn, .int (nI 10), .int (nI ncq)], iA G kcn (3 * 10) (va_cpy fcq fc 0 0 (3 * 10)), oC kl 2 [.ref kln, .int (nI 6), .int (nI nlq)], iA G kln (3 * 6) (va_cpy flq fl 0 0 (3 * 6)), oC kn 2 [.ref knn, .int (nI 8), .int (nI nsq)], iA G knn (3 * 8) (va_cpy fsq fs 0 0 (3 * 8)), oC kbq 0 [.int (nI wq), .int (nI hq), .int (nI laq), .ref kaq, .ref kcq, .ref klq, .ref knq], iA G kaq 16 afq, oC kcq 2 [.ref kcnq, .int (nI 10), .int (nI ncq)], iA G kcnq (3 * 10) fcq, oC klq 2 [.ref klnq, .int (nI 6), .int (nI nlq)], iA G klnq (3 * 6) flq, oC knq 2 [.ref knnq, .int (nI 8), .int (nI nsq)], iA G knnq (3 * 8) fsq]) [0, 1, 4, 5, 8, 9, 12, 13, 2, 3, 6, 7, 10, 11, 14, 15] (by decide) rfl
  refine W.vret hx hb hr (fun t ht hW => ⟨⟨(va_cpy afq af 0 0 16, (va_cpy fcq fc 0 0 (3 * 10)), (va_cpy flq fl 0 0 (3 * 6)), (va_cpy fsq fs 0 0 (3 * 8))), rfl, ?_, by rw [ht]; exact hP, hD⟩, hS.F ht⟩) hS.2.2 dX0_become_72
  try dsimp only
  exact ⟨rfl, rfl, rfl, rfl⟩

abbrev w_X0_empty (G : XG) (kb ka kc kcn kl kln kn knn : Nat) (w h la : Nat) (af : Nat → Int32) (nc : Nat) (fc : Nat → Int32) (nl : Nat) (fl : Nat → Int32) (ns : Nat) (fs : Nat → Int32) : va_W := [oC kb 0 [.int (nI w), .int (nI h), .int (nI la), .ref ka, .ref kc, .ref kl, .ref kn], iA G ka 16 af, oC kc 2 [.ref kcn, .int (nI 10), .int (nI nc)], iA G kcn (3 * 10) fc, oC kl 2 [.ref kln, .int (nI 6), .int (nI nl)], iA G kln (3 * 6) fl, oC kn 2 [.ref knn, .int (nI 8), .int (nI ns)], iA G knn (3 * 8) fs]
abbrev Q_X0_empty (G : XG) (sz : Nat) (kb ka kc kcn kl kln kn knn : Nat) (w h la : Nat) (af : Nat → Int32) (nc : Nat) (fc : Nat → Int32) (nl : Nat) (fl : Nat → Int32) (ns : Nat) (fs : Nat → Int32) : Array Value → State → Outcome → State → Prop := (va_Qv (fun (u : (Nat → Int32)) => (∀ j, j < 16 → u j = nI 0)) (xWb G sz (w_X0_empty G kb ka kc kcn kl kln kn knn w h la af nc fc nl fl ns fs) (fun u : (Nat → Int32) => [oC kb 0 [.int (nI 3), .int (nI 3), .int (nI 9), .ref ka, .ref kc, .ref kl, .ref kn], iA G ka 16 u, oC kc 2 [.ref kcn, .int (nI 10), .int (nI 0)], iA G kcn (3 * 10) fc, oC kl 2 [.ref kln, .int (nI 6), .int (nI 0)], iA G kln (3 * 6) fl, oC kn 2 [.ref knn, .int (nI 8), .int (nI 0)], iA G knn (3 * 8) fs])) (va_A (w_X0_empty G kb ka kc kcn kl kln kn knn w h la af nc fc nl fl ns fs) sz))
set_option maxHeartbeats 4000000 in
set_option maxRecDepth 100000 in
theorem c_X0_empty (l : Launch) (G : XG) (sz : Nat) (kb ka kc kcn kl kln kn knn : Nat) (w h la : Nat) (af : Nat → Int32) (nc : Nat) (fc : Nat → Int32) (nl : Nat) (fl : Nat → Int32) (ns : Nat) (fs : Nat → Int32)  : Met l yX0_empty wsX0_empty ({ frames := 1, cells := 0, slots := 0, locals := 23 } : Room) (va_Pc [.ref kb] (xWp G sz (w_X0_empty G kb ka kc kcn kl kln kn knn w h la af nc fc nl fl ns fs))) (Q_X0_empty G sz kb ka kc kcn kl kln kn knn w h la af nc fc nl fl ns fs) 0 0 (va_A (w_X0_empty G kb ka kc kcn kl kln kn knn w h la af nc fc nl fl ns fs) sz) := by
  refine Met.ofW (cc := cX0_empty) (maxL := 1) (ret := none) (by decide) rfl ?_
  intro pp ee ss mm aa below mt cd s₁ BB hml hv
  obtain ⟨rfl, hsz, hP, hK, hD0⟩ := hv
  have hx := BB.exec
  have hb := BB.bytes
  have hr := BB.returns
  have hts := atoms_spec (ws := wsX0_empty) BB.pre
  have hown : ss.vm.findClass RX0 = some mm.cls := findClass_of_methodNamed BB.named
  have hlocks := BB.notSynchronized
  subst hsz
  have hD := hD0.self (sz := ss.heap.size)
  have hA : ∀ q : Nat, ss.heap.size ≤ q → va_A (w_X0_empty G kb ka kc kcn kl kln kn knn w h la af nc fc nl fl ns fs) ss.heap.size q := fun q h => Or.inr h
  have hS : va_S (va_A (w_X0_empty G kb ka kc kcn kl kln kn knn w h la af nc fc nl fl ns fs) ss.heap.size) ss.heap ss.heap [] := va_S.rf
  replace hD : va_D (va_A (w_X0_empty G kb ka kc kcn kl kln kn knn w h la af nc fc nl fl ns fs) ss.heap.size) [oC kb 0 [.int (nI w), .int (nI h), .int (nI la), .ref ka, .ref kc, .ref kl, .ref kn], iA G ka 16 af, oC kc 2 [.ref kcn, .int (nI 10), .int (nI nc)], iA G kcn (3 * 10) fc, oC kl 2 [.ref kln, .int (nI 6), .int (nI nl)], iA G kln (3 * 6) fl, oC kn 2 [.ref knn, .int (nI 8), .int (nI ns)], iA G knn (3 * 8) fs] := hD
  replace hP : xP G [oC kb 0 [.int (nI w), .int (nI h), .int (nI la), .ref ka, .ref kc, .ref kl, .ref kn], iA G ka 16 af, oC kc 2 [.ref kcn, .int (nI 10), .int (nI nc)], iA G kcn (3 * 10) fc, oC kl 2 [.ref kln, .int (nI 6), .int (nI nl)], iA G kln (3 * 6) fl, oC kn 2 [.ref knn, .int (nI 8), .int (nI ns)], iA G knn (3 * 8) fs] ss.heap := hP
  have hin0 : ∀ w ∈ u_ws RX0 TX0 7, w ∈ wsX0_empty := fun w h => List.mem_cons_of_mem _ (List.mem_append_left _ (List.mem_append_right _ h))
  have hin2 : ∀ w ∈ u_ws RX2 TX2 3, w ∈ wsX0_empty := fun w h => List.mem_cons_of_mem _ (List.mem_append_right _ h)
  have hl := lv_entry ([.ref kb]) (n := 1) (Nat.le_of_ble_eq_true rfl)
  rw [lg_entry_eq]
  generalize (lg_sl ([.ref kb]) ++ List.replicate (1 - (lg_sl ([.ref kb])).length) Slot.unset).toArray = ls at hl ⊢
  replace hl : lv_has ls 1 [(0, .ref kb)] := hl
  refine lv_aload_n hx hb dX0_empty_0 rfl (lv_at hl 0 rfl) ?_
  refine lv_iconst (v := nI 3) hx hb dX0_empty_1 (by decide) ?_
  refine va_put (D := G.1) (ci := 0) (v := .int (nI 3)) (ty := .int) (C := RX0) (T := TX0) (N := 7) hx hb hts hin0 tyX0 tyX0_ok nmX0 hown hK.1 hP hD hS 0 rfl rfl 0 (by decide) (hts (.fieldLink RX0 9 "BackLenses$Book" "wide" "I") (List.mem_of_getElem? (i := 1) rfl)) (fun _ h9 => h9) rfl (by decide +kernel) rfl rfl (Nat.le_of_ble_eq_true rfl) dX0_empty_2 (fun H locs hP hD hS => ?_)
  replace hP : xP G [oC kb 0 [.int (nI 3), .int (nI h), .int (nI la), .ref ka, .ref kc, .ref kl, .ref kn], iA G ka 16 af, oC kc 2 [.ref kcn, .int (nI 10), .int (nI nc)], iA G kcn (3 * 10) fc, oC kl 2 [.ref kln, .int (nI 6), .int (nI nl)], iA G kln (3 * 6) fl, oC kn 2 [.ref knn, .int (nI 8), .int (nI ns)], iA G knn (3 * 8) fs] H := hP
  replace hD : va_D (va_A (w_X0_empty G kb ka kc kcn kl kln kn knn w h la af nc fc nl fl ns fs) ss.heap.size) [oC kb 0 [.int (nI 3), .int (nI h), .int (nI la), .ref ka, .ref kc, .ref kl, .ref kn], iA G ka 16 af, oC kc 2 [.ref kcn, .int (nI 10), .int (nI nc)], iA G kcn (3 * 10) fc, oC kl 2 [.ref kln, .int (nI 6), .int (nI nl)], iA G kln (3 * 6) fl, oC kn 2 [.ref knn, .int (nI 8), .int (nI ns)], iA G knn (3 * 8) fs] := hD
  refine lv_aload_n hx hb dX0_empty_5 rfl (lv_at hl 0 rfl) ?_
  refine lv_iconst (v := nI 3) hx hb dX0_empty_6 (by decide) ?_
  refine va_put (D := G.1) (ci := 0) (v := .int (nI 3)) (ty := .int) (C := RX0) (T := TX0) (N := 7) hx hb hts hin0 tyX0 tyX0_ok nmX0 hown hK.1 hP hD hS 0 rfl rfl 1 (by decide) (hts (.fieldLink RX0 15 "BackLenses$Book" "high" "I") (List.mem_of_getElem? (i := 2) rfl)) (fun _ h9 => h9) rfl (by decide +kernel) rfl rfl (Nat.le_of_ble_eq_true rfl) dX0_empty_7 (fun H locs hP hD hS => ?_)
  replace hP : xP G [oC kb 0 [.int (nI 3), .int (nI 3), .int (nI la), .ref ka, .ref kc, .ref kl, .ref kn], iA G ka 16 af, oC kc 2 [.ref kcn, .int (nI 10), .int (nI nc)], iA G kcn (3 * 10) fc, oC kl 2 [.ref kln, .int (nI 6), .int (nI nl)], iA G kln (3 * 6) fl, oC kn 2 [.ref knn, .int (nI 8), .int (nI ns)], iA G knn (3 * 8) fs] H := hP
  replace hD : va_D (va_A (w_X0_empty G kb ka kc kcn kl kln kn knn w h la af nc fc nl fl ns fs) ss.heap.size) [oC kb 0 [.int (nI 3), .int (nI 3), .int (nI la), .ref ka, .ref kc, .ref kl, .ref kn], iA G ka 16 af, oC kc 2 [.ref kcn, .int (nI 10), .int (nI nc)], iA G kcn (3 * 10) fc, oC kl 2 [.ref kln, .int (nI 6), .int (nI nl)], iA G kln (3 * 6) fl, oC kn 2 [.ref knn, .int (nI 8), .int (nI ns)], iA G knn (3 * 8) fs] := hD
  refine lv_aload_n hx hb dX0_empty_10 rfl (lv_at hl 0 rfl) ?_
  refine lv_bipush (v := nI 9) hx hb dX0_empty_11 (by decide) ?_
  refine va_put (D := G.1) (ci := 0) (v := .int (nI 9)) (ty := .int) (C := RX0) (T := TX0) (N := 7) hx hb hts hin0 tyX0 tyX0_ok nmX0 hown hK.1 hP hD hS 0 rfl rfl 2 (by decide) (hts (.fieldLink RX0 18 "BackLenses$Book" "last" "I") (List.mem_of_getElem? (i := 3) rfl)) (fun _ h9 => h9) rfl (by decide +kernel) rfl rfl (Nat.le_of_ble_eq_true rfl) dX0_empty_13 (fun H locs hP hD hS => ?_)
  replace hP : xP G [oC kb 0 [.int (nI 3), .int (nI 3), .int (nI 9), .ref ka, .ref kc, .ref kl, .ref kn], iA G ka 16 af, oC kc 2 [.ref kcn, .int (nI 10), .int (nI nc)], iA G kcn (3 * 10) fc, oC kl 2 [.ref kln, .int (nI 6), .int (nI nl)], iA G kln (3 * 6) fl, oC kn 2 [.ref knn, .int (nI 8), .int (nI ns)], iA G knn (3 * 8) fs] H := hP
  replace hD : va_D (va_A (w_X0_empty G kb ka kc kcn kl kln kn knn w h la af nc fc nl fl ns fs) ss.heap.size) [oC kb 0 [.int (nI 3), .int (nI 3), .int (nI 9), .ref ka, .ref kc, .ref kl, .ref kn], iA G ka 16 af, oC kc 2 [.ref kcn, .int (nI 10), .int (nI nc)], iA G kcn (3 * 10) fc, oC kl 2 [.ref kln, .int (nI 6), .int (nI nl)], iA G kln (3 * 6) fl, oC kn 2 [.ref knn, .int (nI 8), .int (nI ns)], iA G knn (3 * 8) fs] := hD
  refine lv_aload_n hx hb dX0_empty_16 rfl (lv_at hl 0 rfl) ?_
  refine va_get (D := G.1) (ci := 0) (v := .ref ka) (C := RX0) (T := TX0) (N := 7) hx hb hts hin0 hown hK.1 hP 0 rfl rfl 3 (by decide) (hts (.fieldLink RX0 21 "BackLenses$Book" "atFirst" "[I") (List.mem_of_getElem? (i := 4) rfl)) (fun _ h9 => h9) rfl dX0_empty_17 ?_
  refine lv_iconst (v := nI 0) hx hb dX0_empty_20 (by decide) ?_
  refine xws_v (As := [.ref ka, .int (nI 0)]) (rest := []) (wr := [oC kb 0 [.int (nI 3), .int (nI 3), .int (nI 9), .ref ka, .ref kc, .ref kl, .ref kn], oC kc 2 [.ref kcn, .int (nI 10), .int (nI nc)], iA G kcn (3 * 10) fc, oC kl 2 [.ref kln, .int (nI 6), .int (nI nl)], iA G kln (3 * 6) fl, oC kn 2 [.ref knn, .int (nI 8), .int (nI ns)], iA G knn (3 * 8) fs]) ⟨hx, hb, hml, hown, hts⟩ (c_J7_fill_53178 l G H.size ka 16 af (nI 0) (by first | assumption | omega)) (va_cwS 2 hts gX0_empty_J7_fill_53178 rfl rfl rfl (by decide +kernel) ⟨Nat.le_of_ble_eq_true rfl, Nat.le_of_ble_eq_true rfl⟩) hK hP hD hS hA [1] [0, 2, 3, 4, 5, 6, 7] rfl rfl (by decide) (by decide) (by decide) rfl hl.1 rfl (Nat.le_of_ble_eq_true rfl) dX0_empty_21 ⟨Nat.le_of_ble_eq_true rfl, Nat.le_of_ble_eq_true rfl⟩ (fun u H locs hp21 hP hD hS => ?_)
  obtain ⟨f2_21, rfl⟩ : ∃ z, z = u := ⟨_, rfl⟩
  try dsimp only at hp21 hP hD
  have he21 := hp21
  replace hP : xP G [oC kb 0 [.int (nI 3), .int (nI 3), .int (nI 9), .ref ka, .ref kc, .ref kl, .ref kn], oC kc 2 [.ref kcn, .int (nI 10), .int (nI nc)], iA G kcn (3 * 10) fc, oC kl 2 [.ref kln, .int (nI 6), .int (nI nl)], iA G kln (3 * 6) fl, oC kn 2 [.ref knn, .int (nI 8), .int (nI ns)], iA G knn (3 * 8) fs, iA G ka 16 f2_21] H := hP
  replace hD : va_D (va_A (w_X0_empty G kb ka kc kcn kl kln kn knn w h la af nc fc nl fl ns fs) ss.heap.size) [oC kb 0 [.int (nI 3), .int (nI 3), .int (nI 9), .ref ka, .ref kc, .ref kl, .ref kn], oC kc 2 [.ref kcn, .int (nI 10), .int (nI nc)], iA G kcn (3 * 10) fc, oC kl 2 [.ref kln, .int (nI 6), .int (nI nl)], iA G kln (3 * 6) fl, oC kn 2 [.ref knn, .int (nI 8), .int (nI ns)], iA G knn (3 * 8) fs, iA G ka 16 f2_21] := hD
  refine lv_aload_n hx hb dX0_empty_24 rfl (lv_at hl 0 rfl) ?_
  refine va_get (D := G.1) (ci := 0) (v := .ref kc) (C := RX0) (T := TX0) (N := 7) hx hb hts hin0 hown hK.1 hP 0 rfl rfl 4 (by decide) (hts (.fieldLink RX0 30 "BackLenses$Book" "changes" "LBackLenses$Rows;") (List.mem_of_getElem? (i := 5) rfl)) (fun _ h9 => h9) rfl dX0_empty_25 ?_
  refine lv_iconst (v := nI 0) hx hb dX0_empty_28 (by decide) ?_
  refine va_putN (D := G.1) (ci := 2) (v := .int (nI 0)) (ty := .int) (C := RX2) (T := TX2) (N := 3) hx hb hts hin2 tyX2 tyX2_ok nmX2 hown hK.1 hP hD hS 1 rfl rfl 2 (by decide) (va_Nw.use rfl (hK.2 (Cond.fieldLinkNest "BackLenses$Book" (46 : Nat) "BackLenses$Rows" "size" "I" "BackLenses") (List.mem_of_getElem? (i := 0) rfl))) (fun _ h9 => h9) rfl (by decide +kernel) rfl rfl (Nat.le_of_ble_eq_true rfl) dX0_empty_29 (fun H locs hP hD hS => ?_)
  replace hP : xP G [oC kb 0 [.int (nI 3), .int (nI 3), .int (nI 9), .ref ka, .ref kc, .ref kl, .ref kn], oC kc 2 [.ref kcn, .int (nI 10), .int (nI 0)], iA G kcn (3 * 10) fc, oC kl 2 [.ref kln, .int (nI 6), .int (nI nl)], iA G kln (3 * 6) fl, oC kn 2 [.ref knn, .int (nI 8), .int (nI ns)], iA G knn (3 * 8) fs, iA G ka 16 f2_21] H := hP
  replace hD : va_D (va_A (w_X0_empty G kb ka kc kcn kl kln kn knn w h la af nc fc nl fl ns fs) ss.heap.size) [oC kb 0 [.int (nI 3), .int (nI 3), .int (nI 9), .ref ka, .ref kc, .ref kl, .ref kn], oC kc 2 [.ref kcn, .int (nI 10), .int (nI 0)], iA G kcn (3 * 10) fc, oC kl 2 [.ref kln, .int (nI 6), .int (nI nl)], iA G kln (3 * 6) fl, oC kn 2 [.ref knn, .int (nI 8), .int (nI ns)], iA G knn (3 * 8) fs, iA G ka 16 f2_21] := hD
  refine lv_aload_n hx hb dX0_empty_32 rfl (lv_at hl 0 rfl) ?_
  refine va_get (D := G.1) (ci := 0) (v := .ref kl) (C := RX0) (T := TX0) (N := 7) hx hb hts hin0 hown hK.1 hP 0 rfl rfl 5 (by decide) (hts (.fieldLink RX0 34 "BackLenses$Book" "lenses" "LBackLenses$Rows;") (List.mem_of_getElem? (i := 6) rfl)) (fun _ h9 => h9) rfl dX0_empty_33 ?_
  refine lv_iconst (v := nI 0) hx hb dX0_empty_36 (by decide) ?_
  refine va_putN (D := G.1) (ci := 2) (v := .int (nI 0)) (ty := .int) (C := RX2) (T := TX2) (N := 3) hx hb hts hin2 tyX2 tyX2_ok nmX2 hown hK.1 hP hD hS 3 rfl rfl 2 (by decide) (va_Nw.use rfl (hK.2 (Cond.fieldLinkNest "BackLenses$Book" (46 : Nat) "BackLenses$Rows" "size" "I" "BackLenses") (List.mem_of_getElem? (i := 0) rfl))) (fun _ h9 => h9) rfl (by decide +kernel) rfl rfl (Nat.le_of_ble_eq_true rfl) dX0_empty_37 (fun H locs hP hD hS => ?_)
  replace hP : xP G [oC kb 0 [.int (nI 3), .int (nI 3), .int (nI 9), .ref ka, .ref kc, .ref kl, .ref kn], oC kc 2 [.ref kcn, .int (nI 10), .int (nI 0)], iA G kcn (3 * 10) fc, oC kl 2 [.ref kln, .int (nI 6), .int (nI 0)], iA G kln (3 * 6) fl, oC kn 2 [.ref knn, .int (nI 8), .int (nI ns)], iA G knn (3 * 8) fs, iA G ka 16 f2_21] H := hP
  replace hD : va_D (va_A (w_X0_empty G kb ka kc kcn kl kln kn knn w h la af nc fc nl fl ns fs) ss.heap.size) [oC kb 0 [.int (nI 3), .int (nI 3), .int (nI 9), .ref ka, .ref kc, .ref kl, .ref kn], oC kc 2 [.ref kcn, .int (nI 10), .int (nI 0)], iA G kcn (3 * 10) fc, oC kl 2 [.ref kln, .int (nI 6), .int (nI 0)], iA G kln (3 * 6) fl, oC kn 2 [.ref knn, .int (nI 8), .int (nI ns)], iA G knn (3 * 8) fs, iA G ka 16 f2_21] := hD
  refine lv_aload_n hx hb dX0_empty_40 rfl (lv_at hl 0 rfl) ?_
  refine va_get (D := G.1) (ci := 0) (v := .ref kn) (C := RX0) (T := TX0) (N := 7) hx hb hts hin0 hown hK.1 hP 0 rfl rfl 6 (by decide) (hts (.fieldLink RX0 37 "BackLenses$Book" "shown" "LBackLenses$Rows;") (List.mem_of_getElem? (i := 7) rfl)) (fun _ h9 => h9) rfl dX0_empty_41 ?_
  refine lv_iconst (v := nI 0) hx hb dX0_empty_44 (by decide) ?_
  refine va_putN (D := G.1) (ci := 2) (v := .int (nI 0)) (ty := .int) (C := RX2) (T := TX2) (N := 3) hx hb hts hin2 tyX2 tyX2_ok nmX2 hown hK.1 hP hD hS 5 rfl rfl 2 (by decide) (va_Nw.use rfl (hK.2 (Cond.fieldLinkNest "BackLenses$Book" (46 : Nat) "BackLenses$Rows" "size" "I" "BackLenses") (List.mem_of_getElem? (i := 0) rfl))) (fun _ h9 => h9) rfl (by decide +kernel) rfl rfl (Nat.le_of_ble_eq_true rfl) dX0_empty_45 (fun H locs hP hD hS => ?_)
  replace hP : xP G [oC kb 0 [.int (nI 3), .int (nI 3), .int (nI 9), .ref ka, .ref kc, .ref kl, .ref kn], oC kc 2 [.ref kcn, .int (nI 10), .int (nI 0)], iA G kcn (3 * 10) fc, oC kl 2 [.ref kln, .int (nI 6), .int (nI 0)], iA G kln (3 * 6) fl, oC kn 2 [.ref knn, .int (nI 8), .int (nI 0)], iA G knn (3 * 8) fs, iA G ka 16 f2_21] H := hP
  replace hD : va_D (va_A (w_X0_empty G kb ka kc kcn kl kln kn knn w h la af nc fc nl fl ns fs) ss.heap.size) [oC kb 0 [.int (nI 3), .int (nI 3), .int (nI 9), .ref ka, .ref kc, .ref kl, .ref kn], oC kc 2 [.ref kcn, .int (nI 10), .int (nI 0)], iA G kcn (3 * 10) fc, oC kl 2 [.ref kln, .int (nI 6), .int (nI 0)], iA G kln (3 * 6) fl, oC kn 2 [.ref knn, .int (nI 8), .int (nI 0)], iA G knn (3 * 8) fs, iA G ka 16 f2_21] := hD
  have hP := hP.sub (ws' := [oC kb 0 [.int (nI 3), .int (nI 3), .int (nI 9), .ref ka, .ref kc, .ref kl, .ref kn], iA G ka 16 f2_21, oC kc 2 [.ref kcn, .int (nI 10), .int (nI 0)], iA G kcn (3 * 10) fc, oC kl 2 [.ref kln, .int (nI 6), .int (nI 0)], iA G kln (3 * 6) fl, oC kn 2 [.ref knn, .int (nI 8), .int (nI 0)], iA G knn (3 * 8) fs]) [0, 7, 1, 2, 3, 4, 5, 6] rfl
  have hD := hD.sub (ws' := [oC kb 0 [.int (nI 3), .int (nI 3), .int (nI 9), .ref ka, .ref kc, .ref kl, .ref kn], iA G ka 16 f2_21, oC kc 2 [.ref kcn, .int (nI 10), .int (nI 0)], iA G kcn (3 * 10) fc, oC kl 2 [.ref kln, .int (nI 6), .int (nI 0)], iA G kln (3 * 6) fl, oC kn 2 [.ref knn, .int (nI 8), .int (nI 0)], iA G knn (3 * 8) fs]) [0, 7, 1, 2, 3, 4, 5, 6] (by decide) rfl
  refine W.vret hx hb hr (fun t ht hW => ⟨⟨(f2_21), rfl, ?_, by rw [ht]; exact hP, hD⟩, hS.F ht⟩) hS.2.2 dX0_empty_48
  exact he21

abbrev w_X3_isNothing (G : XG) (ks ksc : Nat) (ln sz0 : Int32) : va_W := [oC ks 3 [.ref ksc, .int ln, .int sz0]]
abbrev Q_X3_isNothing (G : XG) (ks ksc : Nat) (ln sz0 : Int32) : Array Value → State → Outcome → State → Prop := (xRi (fun r => r = xb (sz0 = (-1))))
set_option maxHeartbeats 4000000 in
set_option maxRecDepth 100000 in
theorem c_X3_isNothing (l : Launch) (G : XG) (ks ksc : Nat) (ln sz0 : Int32)  : Met l yX3_isNothing wsX3_isNothing ({ frames := 0, cells := 0, slots := 0, locals := 0 } : Room) (va_Pc [.ref ks] (xRp G (w_X3_isNothing G ks ksc ln sz0))) (Q_X3_isNothing G ks ksc ln sz0) 0 0 (fun _ => False) := by
  refine Met.ofW (cc := cX3_isNothing) (maxL := 1) (ret := (some .boolean)) (by decide) rfl ?_
  intro pp ee ss mm aa below mt cd s₁ BB hml hv
  obtain ⟨rfl, hP, hK⟩ := hv
  have hx := BB.exec
  have hb := BB.bytes
  have hr := BB.returns
  have hts := atoms_spec (ws := wsX3_isNothing) BB.pre
  have hown : ss.vm.findClass RX3 = some mm.cls := findClass_of_methodNamed BB.named
  have hlocks := BB.notSynchronized
  have hS : va_S (fun _ => False) ss.heap ss.heap [] := va_S.rf
  replace hP : xP G [oC ks 3 [.ref ksc, .int ln, .int sz0]] ss.heap := hP
  have hin3 : ∀ w ∈ u_ws RX3 TX3 3, w ∈ wsX3_isNothing := fun w h => List.mem_cons_of_mem _ (List.mem_append_right _ h)
  have hl := lv_entry ([.ref ks]) (n := 1) (Nat.le_of_ble_eq_true rfl)
  rw [lg_entry_eq]
  generalize (lg_sl ([.ref ks]) ++ List.replicate (1 - (lg_sl ([.ref ks])).length) Slot.unset).toArray = ls at hl ⊢
  replace hl : lv_has ls 1 [(0, .ref ks)] := hl
  refine lv_aload_n hx hb dX3_isNothing_0 rfl (lv_at hl 0 rfl) ?_
  refine va_get (D := G.1) (ci := 3) (v := .int sz0) (C := RX3) (T := TX3) (N := 3) hx hb hts hin3 hown hK.1 hP 0 rfl rfl 2 (by decide) (hts (.fieldLink RX3 15 "BackLenses$Sheet" "size" "I") (List.mem_of_getElem? (i := 1) rfl)) (fun _ h9 => h9) rfl dX3_isNothing_1 ?_
  refine lv_iconst (v := (-1)) hx hb dX3_isNothing_4 (by decide) ?_
  refine lv_icmp_ne (tgt := 12) hx hb dX3_isNothing_5 rfl (fun b5 => ?_) (fun b5 => ?_)
  · skip
    refine lv_iconst (v := nI 0) hx hb dX3_isNothing_12 (by decide) ?_
    refine W.zret (v := nI 0) (ty := .boolean) hx hb hr (by decide) (fun t ht hW => ⟨⟨nI 0, (), rfl, ?_, trivial⟩, hS.F ht⟩) hS.2.2 dX3_isNothing_13
    first | exact (xb_t b5).symm | exact (xb_f b5).symm
  · skip
    refine lv_iconst (v := nI 1) hx hb dX3_isNothing_8 (by decide) ?_
    refine lv_goto (tgt := 13) hx hb dX3_isNothing_9 rfl ?_
    refine W.zret (v := nI 1) (ty := .boolean) hx hb hr (by decide) (fun t ht hW => ⟨⟨nI 1, (), rfl, ?_, trivial⟩, hS.F ht⟩) hS.2.2 dX3_isNothing_13
    first | exact (xb_t b5).symm | exact (xb_f b5).symm

abbrev w_X3_renew (G : XG) (ks ksc : Nat) (ln sz0 : Int32) (f : Nat → Int32) : va_W := [oC ks 3 [.ref ksc, .int ln, .int sz0], iA G ksc 40 f]
abbrev Q_X3_renew (G : XG) (sz : Nat) (ks ksc : Nat) (ln sz0 : Int32) (f : Nat → Int32) (l2 s2 : Int32) : Array Value → State → Outcome → State → Prop := (va_Qv (fun (u : (Nat → Int32)) => (∀ j, j < 40 → u j = nI 0)) (xWb G sz (w_X3_renew G ks ksc ln sz0 f) (fun u : (Nat → Int32) => [oC ks 3 [.ref ksc, .int l2, .int s2], iA G ksc 40 u])) (va_A (w_X3_renew G ks ksc ln sz0 f) sz))
set_option maxHeartbeats 4000000 in
set_option maxRecDepth 100000 in
theorem c_X3_renew (l : Launch) (G : XG) (sz : Nat) (ks ksc : Nat) (ln sz0 : Int32) (f : Nat → Int32) (l2 s2 : Int32)  : Met l yX3_renew wsX3_renew ({ frames := 1, cells := 0, slots := 0, locals := 23 } : Room) (va_Pc [.ref ks, .int l2, .int s2] (xWp G sz (w_X3_renew G ks ksc ln sz0 f))) (Q_X3_renew G sz ks ksc ln sz0 f l2 s2) 0 0 (va_A (w_X3_renew G ks ksc ln sz0 f) sz) := by
  refine Met.ofW (cc := cX3_renew) (maxL := 3) (ret := none) (by decide) rfl ?_
  intro pp ee ss mm aa below mt cd s₁ BB hml hv
  obtain ⟨rfl, hsz, hP, hK, hD0⟩ := hv
  have hx := BB.exec
  have hb := BB.bytes
  have hr := BB.returns
  have hts := atoms_spec (ws := wsX3_renew) BB.pre
  have hown : ss.vm.findClass RX3 = some mm.cls := findClass_of_methodNamed BB.named
  have hlocks := BB.notSynchronized
  subst hsz
  have hD := hD0.self (sz := ss.heap.size)
  have hA : ∀ q : Nat, ss.heap.size ≤ q → va_A (w_X3_renew G ks ksc ln sz0 f) ss.heap.size q := fun q h => Or.inr h
  have hS : va_S (va_A (w_X3_renew G ks ksc ln sz0 f) ss.heap.size) ss.heap ss.heap [] := va_S.rf
  replace hD : va_D (va_A (w_X3_renew G ks ksc ln sz0 f) ss.heap.size) [oC ks 3 [.ref ksc, .int ln, .int sz0], iA G ksc 40 f] := hD
  replace hP : xP G [oC ks 3 [.ref ksc, .int ln, .int sz0], iA G ksc 40 f] ss.heap := hP
  have hin3 : ∀ w ∈ u_ws RX3 TX3 3, w ∈ wsX3_renew := fun w h => List.mem_cons_of_mem _ (List.mem_append_right _ h)
  have hl := lv_entry ([.ref ks, .int l2, .int s2]) (n := 3) (Nat.le_of_ble_eq_true rfl)
  rw [lg_entry_eq]
  generalize (lg_sl ([.ref ks, .int l2, .int s2]) ++ List.replicate (3 - (lg_sl ([.ref ks, .int l2, .int s2])).length) Slot.unset).toArray = ls at hl ⊢
  replace hl : lv_has ls 3 [(0, .ref ks), (1, .int l2), (2, .int s2)] := hl
  refine lv_aload_n hx hb dX3_renew_0 rfl (lv_at hl 0 rfl) ?_
  refine lv_iload_n hx hb dX3_renew_1 rfl (lv_at hl 1 rfl) ?_
  refine va_put (D := G.1) (ci := 3) (v := .int l2) (ty := .int) (C := RX3) (T := TX3) (N := 3) hx hb hts hin3 tyX3 tyX3_ok nmX3 hown hK.1 hP hD hS 0 rfl rfl 1 (by decide) (hts (.fieldLink RX3 19 "BackLenses$Sheet" "lane" "I") (List.mem_of_getElem? (i := 1) rfl)) (fun _ h9 => h9) rfl (by decide +kernel) rfl rfl (Nat.le_of_ble_eq_true rfl) dX3_renew_2 (fun H locs hP hD hS => ?_)
  replace hP : xP G [oC ks 3 [.ref ksc, .int l2, .int sz0], iA G ksc 40 f] H := hP
  replace hD : va_D (va_A (w_X3_renew G ks ksc ln sz0 f) ss.heap.size) [oC ks 3 [.ref ksc, .int l2, .int sz0], iA G ksc 40 f] := hD
  refine lv_aload_n hx hb dX3_renew_5 rfl (lv_at hl 0 rfl) ?_
  refine lv_iload_n hx hb dX3_renew_6 rfl (lv_at hl 2 rfl) ?_
  refine va_put (D := G.1) (ci := 3) (v := .int s2) (ty := .int) (C := RX3) (T := TX3) (N := 3) hx hb hts hin3 tyX3 tyX3_ok nmX3 hown hK.1 hP hD hS 0 rfl rfl 2 (by decide) (hts (.fieldLink RX3 15 "BackLenses$Sheet" "size" "I") (List.mem_of_getElem? (i := 2) rfl)) (fun _ h9 => h9) rfl (by decide +kernel) rfl rfl (Nat.le_of_ble_eq_true rfl) dX3_renew_7 (fun H locs hP hD hS => ?_)
  replace hP : xP G [oC ks 3 [.ref ksc, .int l2, .int s2], iA G ksc 40 f] H := hP
  replace hD : va_D (va_A (w_X3_renew G ks ksc ln sz0 f) ss.heap.size) [oC ks 3 [.ref ksc, .int l2, .int s2], iA G ksc 40 f] := hD
  refine lv_aload_n hx hb dX3_renew_10 rfl (lv_at hl 0 rfl) ?_
  refine va_get (D := G.1) (ci := 3) (v := .ref ksc) (C := RX3) (T := TX3) (N := 3) hx hb hts hin3 hown hK.1 hP 0 rfl rfl 0 (by decide) (hts (.fieldLink RX3 9 "BackLenses$Sheet" "cells" "[I") (List.mem_of_getElem? (i := 3) rfl)) (fun _ h9 => h9) rfl dX3_renew_11 ?_
  refine lv_iconst (v := nI 0) hx hb dX3_renew_14 (by decide) ?_
  refine xws_v (As := [.ref ksc, .int (nI 0)]) (rest := []) (wr := [oC ks 3 [.ref ksc, .int l2, .int s2]]) ⟨hx, hb, hml, hown, hts⟩ (c_J7_fill_53178 l G H.size ksc 40 f (nI 0) (by first | assumption | omega)) (va_cwS 2 hts gX3_renew_J7_fill_53178 rfl rfl rfl (by decide +kernel) ⟨Nat.le_of_ble_eq_true rfl, Nat.le_of_ble_eq_true rfl⟩) hK hP hD hS hA [1] [0] rfl rfl (by decide) (by decide) (by decide) rfl hl.1 rfl (Nat.le_of_ble_eq_true rfl) dX3_renew_15 ⟨Nat.le_of_ble_eq_true rfl, Nat.le_of_ble_eq_true rfl⟩ (fun u H locs hp15 hP hD hS => ?_)
  obtain ⟨f2_15, rfl⟩ : ∃ z, z = u := ⟨_, rfl⟩
  try dsimp only at hp15 hP hD
  have he15 := hp15
  replace hP : xP G [oC ks 3 [.ref ksc, .int l2, .int s2], iA G ksc 40 f2_15] H := hP
  replace hD : va_D (va_A (w_X3_renew G ks ksc ln sz0 f) ss.heap.size) [oC ks 3 [.ref ksc, .int l2, .int s2], iA G ksc 40 f2_15] := hD
  have hP := hP.sub (ws' := [oC ks 3 [.ref ksc, .int l2, .int s2], iA G ksc 40 f2_15]) [0, 1] rfl
  have hD := hD.sub (ws' := [oC ks 3 [.ref ksc, .int l2, .int s2], iA G ksc 40 f2_15]) [0, 1] (by decide) rfl
  refine W.vret hx hb hr (fun t ht hW => ⟨⟨(f2_15), rfl, ?_, by rw [ht]; exact hP, hD⟩, hS.F ht⟩) hS.2.2 dX3_renew_18
  exact he15

abbrev w_X3_faultAsLane (G : XG) (ks ksc : Nat) (ln sz0 : Int32) : va_W := [oC ks 3 [.ref ksc, .int ln, .int sz0]]
abbrev Q_X3_faultAsLane (G : XG) (ks ksc : Nat) (ln sz0 : Int32) (a : Int32) : Array Value → State → Outcome → State → Prop := (xRi (fun r => r = (if sz0 = (-1) ∨ ln = a then nI 0 else nI 3)))
set_option maxHeartbeats 4000000 in
set_option maxRecDepth 100000 in
theorem c_X3_faultAsLane (l : Launch) (G : XG) (ks ksc : Nat) (ln sz0 : Int32) (a : Int32)  : Met l yX3_faultAsLane wsX3_faultAsLane ({ frames := 1, cells := 0, slots := 0, locals := 20 } : Room) (va_Pc [.ref ks, .int a] (xRp G (w_X3_faultAsLane G ks ksc ln sz0))) (Q_X3_faultAsLane G ks ksc ln sz0 a) 0 0 (fun _ => False) := by
  refine Met.ofW (cc := cX3_faultAsLane) (maxL := 2) (ret := (some .int)) (by decide) rfl ?_
  intro pp ee ss mm aa below mt cd s₁ BB hml hv
  obtain ⟨rfl, hP, hK⟩ := hv
  have hx := BB.exec
  have hb := BB.bytes
  have hr := BB.returns
  have hts := atoms_spec (ws := wsX3_faultAsLane) BB.pre
  have hown : ss.vm.findClass RX3 = some mm.cls := findClass_of_methodNamed BB.named
  have hlocks := BB.notSynchronized
  have hS : va_S (fun _ => False) ss.heap ss.heap [] := va_S.rf
  replace hP : xP G [oC ks 3 [.ref ksc, .int ln, .int sz0]] ss.heap := hP
  have hin3 : ∀ w ∈ u_ws RX3 TX3 3, w ∈ wsX3_faultAsLane := fun w h => List.mem_cons_of_mem _ (List.mem_append_right _ h)
  have hl := lv_entry ([.ref ks, .int a]) (n := 2) (Nat.le_of_ble_eq_true rfl)
  rw [lg_entry_eq]
  generalize (lg_sl ([.ref ks, .int a]) ++ List.replicate (2 - (lg_sl ([.ref ks, .int a])).length) Slot.unset).toArray = ls at hl ⊢
  replace hl : lv_has ls 2 [(0, .ref ks), (1, .int a)] := hl
  refine lv_aload_n hx hb dX3_faultAsLane_0 rfl (lv_at hl 0 rfl) ?_
  refine xr_i (As := []) (rest := []) ⟨hx, hb, hml, hown, hts⟩ (c_X3_isNothing l G ks ksc ln sz0 ) (cwV 0 hts gX3_faultAsLane_X3_isNothing rfl rfl rfl (by decide +kernel) ⟨Nat.le_of_ble_eq_true rfl, Nat.le_of_ble_eq_true rfl⟩) hK hP hS [0] rfl rfl rfl rfl hl.1 rfl (Nat.le_of_ble_eq_true rfl) dX3_faultAsLane_1 ⟨Nat.zero_le _, Nat.zero_le _⟩ (fun r1 H locs hp1 hP hS => ?_)
  obtain rfl : r1 = xb (sz0 = (-1)) := hp1
  refine xb_if_ne (tgt := 15) hx hb dX3_faultAsLane_4 rfl (fun b4 => ?_) (fun b4 => ?_)
  · skip
    refine lv_iconst (v := nI 0) hx hb dX3_faultAsLane_15 (by decide) ?_
    refine lv_goto (tgt := 20) hx hb dX3_faultAsLane_16 rfl ?_
    refine W.iret (v := nI 0) hx hb hr (fun t ht hW => ⟨⟨nI 0, (), rfl, ?_, trivial⟩, hS.F ht⟩) hS.2.2 dX3_faultAsLane_20
    first | exact (if_pos (by simp_all)).symm | exact (if_neg (by simp_all)).symm
  · skip
    refine lv_aload_n hx hb dX3_faultAsLane_7 rfl (lv_at hl 0 rfl) ?_
    refine va_get (D := G.1) (ci := 3) (v := .int ln) (C := RX3) (T := TX3) (N := 3) hx hb hts hin3 hown hK.1 hP 0 rfl rfl 1 (by decide) (hts (.fieldLink RX3 19 "BackLenses$Sheet" "lane" "I") (List.mem_of_getElem? (i := 1) rfl)) (fun _ h9 => h9) rfl dX3_faultAsLane_8 ?_
    refine lv_iload_n hx hb dX3_faultAsLane_11 rfl (lv_at hl 1 rfl) ?_
    refine lv_icmp_ne (tgt := 19) hx hb dX3_faultAsLane_12 rfl (fun b12 => ?_) (fun b12 => ?_)
    · skip
      refine lv_iconst (v := nI 3) hx hb dX3_faultAsLane_19 (by decide) ?_
      refine W.iret (v := nI 3) hx hb hr (fun t ht hW => ⟨⟨nI 3, (), rfl, ?_, trivial⟩, hS.F ht⟩) hS.2.2 dX3_faultAsLane_20
      first | exact (if_pos (by simp_all)).symm | exact (if_neg (by simp_all)).symm
    · skip
      refine lv_iconst (v := nI 0) hx hb dX3_faultAsLane_15 (by decide) ?_
      refine lv_goto (tgt := 20) hx hb dX3_faultAsLane_16 rfl ?_
      refine W.iret (v := nI 0) hx hb hr (fun t ht hW => ⟨⟨nI 0, (), rfl, ?_, trivial⟩, hS.F ht⟩) hS.2.2 dX3_faultAsLane_20
      first | exact (if_pos (by simp_all)).symm | exact (if_neg (by simp_all)).symm

abbrev w_X3_faultAt (G : XG) (ks ksc : Nat) (ln sz0 : Int32) : va_W := [oC ks 3 [.ref ksc, .int ln, .int sz0]]
abbrev Q_X3_faultAt (G : XG) (ks ksc : Nat) (ln sz0 : Int32) (i : Int32) : Array Value → State → Outcome → State → Prop := (xRi (fun r => r = (if sz0 = (-1) then nI 1 else if 0 ≤ (i).toInt ∧ (i).toInt < sz0.toInt then nI 0 else nI 2)))
set_option maxHeartbeats 4000000 in
set_option maxRecDepth 100000 in
theorem c_X3_faultAt (l : Launch) (G : XG) (ks ksc : Nat) (ln sz0 : Int32) (i : Int32)  : Met l yX3_faultAt wsX3_faultAt ({ frames := 1, cells := 0, slots := 0, locals := 20 } : Room) (va_Pc [.ref ks, .int i] (xRp G (w_X3_faultAt G ks ksc ln sz0))) (Q_X3_faultAt G ks ksc ln sz0 i) 0 0 (fun _ => False) := by
  refine Met.ofW (cc := cX3_faultAt) (maxL := 2) (ret := (some .int)) (by decide) rfl ?_
  intro pp ee ss mm aa below mt cd s₁ BB hml hv
  obtain ⟨rfl, hP, hK⟩ := hv
  have hx := BB.exec
  have hb := BB.bytes
  have hr := BB.returns
  have hts := atoms_spec (ws := wsX3_faultAt) BB.pre
  have hown : ss.vm.findClass RX3 = some mm.cls := findClass_of_methodNamed BB.named
  have hlocks := BB.notSynchronized
  have hS : va_S (fun _ => False) ss.heap ss.heap [] := va_S.rf
  replace hP : xP G [oC ks 3 [.ref ksc, .int ln, .int sz0]] ss.heap := hP
  have hin3 : ∀ w ∈ u_ws RX3 TX3 3, w ∈ wsX3_faultAt := fun w h => List.mem_cons_of_mem _ (List.mem_append_right _ h)
  have hl := lv_entry ([.ref ks, .int i]) (n := 2) (Nat.le_of_ble_eq_true rfl)
  rw [lg_entry_eq]
  generalize (lg_sl ([.ref ks, .int i]) ++ List.replicate (2 - (lg_sl ([.ref ks, .int i])).length) Slot.unset).toArray = ls at hl ⊢
  replace hl : lv_has ls 2 [(0, .ref ks), (1, .int i)] := hl
  refine lv_aload_n hx hb dX3_faultAt_0 rfl (lv_at hl 0 rfl) ?_
  refine xr_i (As := []) (rest := []) ⟨hx, hb, hml, hown, hts⟩ (c_X3_isNothing l G ks ksc ln sz0 ) (cwV 0 hts gX3_faultAt_X3_isNothing rfl rfl rfl (by decide +kernel) ⟨Nat.le_of_ble_eq_true rfl, Nat.le_of_ble_eq_true rfl⟩) hK hP hS [0] rfl rfl rfl rfl hl.1 rfl (Nat.le_of_ble_eq_true rfl) dX3_faultAt_1 ⟨Nat.zero_le _, Nat.zero_le _⟩ (fun r1 H locs hp1 hP hS => ?_)
  obtain rfl : r1 = xb (sz0 = (-1)) := hp1
  refine xb_if_eq (tgt := 9) hx hb dX3_faultAt_4 rfl (fun b4 => ?_) (fun b4 => ?_)
  · skip
    refine lv_iload_n hx hb dX3_faultAt_9 rfl (lv_at hl 1 rfl) ?_
    refine xi_if_lt (tgt := 25) hx hb dX3_faultAt_10 rfl (fun b10 => ?_) (fun b10 => ?_)
    · skip
      refine lv_iconst (v := nI 2) hx hb dX3_faultAt_25 (by decide) ?_
      refine W.iret (v := nI 2) hx hb hr (fun t ht hW => ⟨⟨nI 2, (), rfl, ?_, trivial⟩, hS.F ht⟩) hS.2.2 dX3_faultAt_26
      first | exact (if_pos b4).symm | (rw [if_neg b4]; first | exact (if_pos (by omega)).symm | exact (if_neg (by omega)).symm)
    · skip
      refine lv_iload_n hx hb dX3_faultAt_13 rfl (lv_at hl 1 rfl) ?_
      refine lv_aload_n hx hb dX3_faultAt_14 rfl (lv_at hl 0 rfl) ?_
      refine va_get (D := G.1) (ci := 3) (v := .int sz0) (C := RX3) (T := TX3) (N := 3) hx hb hts hin3 hown hK.1 hP 0 rfl rfl 2 (by decide) (hts (.fieldLink RX3 15 "BackLenses$Sheet" "size" "I") (List.mem_of_getElem? (i := 1) rfl)) (fun _ h9 => h9) rfl dX3_faultAt_15 ?_
      refine xi_icmp_ge (tgt := 25) hx hb dX3_faultAt_18 rfl (fun b18 => ?_) (fun b18 => ?_)
      · skip
        refine lv_iconst (v := nI 2) hx hb dX3_faultAt_25 (by decide) ?_
        refine W.iret (v := nI 2) hx hb hr (fun t ht hW => ⟨⟨nI 2, (), rfl, ?_, trivial⟩, hS.F ht⟩) hS.2.2 dX3_faultAt_26
        first | exact (if_pos b4).symm | (rw [if_neg b4]; first | exact (if_pos (by omega)).symm | exact (if_neg (by omega)).symm)
      · skip
        refine lv_iconst (v := nI 0) hx hb dX3_faultAt_21 (by decide) ?_
        refine lv_goto (tgt := 26) hx hb dX3_faultAt_22 rfl ?_
        refine W.iret (v := nI 0) hx hb hr (fun t ht hW => ⟨⟨nI 0, (), rfl, ?_, trivial⟩, hS.F ht⟩) hS.2.2 dX3_faultAt_26
        first | exact (if_pos b4).symm | (rw [if_neg b4]; first | exact (if_pos (by omega)).symm | exact (if_neg (by omega)).symm)
  · skip
    refine lv_iconst (v := nI 1) hx hb dX3_faultAt_7 (by decide) ?_
    refine W.iret (v := nI 1) hx hb hr (fun t ht hW => ⟨⟨nI 1, (), rfl, ?_, trivial⟩, hS.F ht⟩) hS.2.2 dX3_faultAt_8
    first | exact (if_pos b4).symm | (rw [if_neg b4]; first | exact (if_pos (by omega)).symm | exact (if_neg (by omega)).symm)

abbrev w_X3_faultAtThree (G : XG) (ks ksc : Nat) (ln sz0 : Int32) : va_W := [oC ks 3 [.ref ksc, .int ln, .int sz0]]
abbrev Q_X3_faultAtThree (G : XG) (ks ksc : Nat) (ln sz0 : Int32) (i : Int32) : Array Value → State → Outcome → State → Prop := (xRi (fun r => r = (if (if sz0 = (-1) then nI 1 else if 0 ≤ (i).toInt ∧ (i).toInt < sz0.toInt then nI 0 else nI 2) = 0 then (if sz0 = (-1) then nI 1 else if 0 ≤ (i + nI 2).toInt ∧ (i + nI 2).toInt < sz0.toInt then nI 0 else nI 2) else (if sz0 = (-1) then nI 1 else if 0 ≤ (i).toInt ∧ (i).toInt < sz0.toInt then nI 0 else nI 2))))
set_option maxHeartbeats 4000000 in
set_option maxRecDepth 100000 in
theorem c_X3_faultAtThree (l : Launch) (G : XG) (ks ksc : Nat) (ln sz0 : Int32) (i : Int32)  : Met l yX3_faultAtThree wsX3_faultAtThree ({ frames := 2, cells := 0, slots := 0, locals := 41 } : Room) (va_Pc [.ref ks, .int i] (xRp G (w_X3_faultAtThree G ks ksc ln sz0))) (Q_X3_faultAtThree G ks ksc ln sz0 i) 0 0 (fun _ => False) := by
  refine Met.ofW (cc := cX3_faultAtThree) (maxL := 3) (ret := (some .int)) (by decide) rfl ?_
  intro pp ee ss mm aa below mt cd s₁ BB hml hv
  obtain ⟨rfl, hP, hK⟩ := hv
  have hx := BB.exec
  have hb := BB.bytes
  have hr := BB.returns
  have hts := atoms_spec (ws := wsX3_faultAtThree) BB.pre
  have hown : ss.vm.findClass RX3 = some mm.cls := findClass_of_methodNamed BB.named
  have hlocks := BB.notSynchronized
  have hS : va_S (fun _ => False) ss.heap ss.heap [] := va_S.rf
  replace hP : xP G [oC ks 3 [.ref ksc, .int ln, .int sz0]] ss.heap := hP
  have hin3 : ∀ w ∈ u_ws RX3 TX3 3, w ∈ wsX3_faultAtThree := fun w h => List.mem_cons_of_mem _ (List.mem_append_right _ h)
  have hl := lv_entry ([.ref ks, .int i]) (n := 3) (Nat.le_of_ble_eq_true rfl)
  rw [lg_entry_eq]
  generalize (lg_sl ([.ref ks, .int i]) ++ List.replicate (3 - (lg_sl ([.ref ks, .int i])).length) Slot.unset).toArray = ls at hl ⊢
  replace hl : lv_has ls 3 [(0, .ref ks), (1, .int i)] := hl
  refine lv_aload_n hx hb dX3_faultAtThree_0 rfl (lv_at hl 0 rfl) ?_
  refine lv_iload_n hx hb dX3_faultAtThree_1 rfl (lv_at hl 1 rfl) ?_
  refine xr_i (As := [.int i]) (rest := []) ⟨hx, hb, hml, hown, hts⟩ (c_X3_faultAt l G ks ksc ln sz0 i ) (cwV 1 hts gX3_faultAtThree_X3_faultAt rfl rfl rfl (by decide +kernel) ⟨Nat.le_of_ble_eq_true rfl, Nat.le_of_ble_eq_true rfl⟩) hK hP hS [0] rfl rfl rfl rfl hl.1 rfl (Nat.le_of_ble_eq_true rfl) dX3_faultAtThree_2 ⟨Nat.zero_le _, Nat.zero_le _⟩ (fun r2 H locs hp2 hP hS => ?_)
  obtain rfl : r2 = (if sz0 = (-1) then nI 1 else if 0 ≤ (i).toInt ∧ (i).toInt < sz0.toInt then nI 0 else nI 2) := hp2
  refine lv_istore_n (lv' := [(2, .int (if sz0 = (-1) then nI 1 else if 0 ≤ (i).toInt ∧ (i).toInt < sz0.toInt then nI 0 else nI 2)), (0, .ref ks), (1, .int i)]) hx hb dX3_faultAtThree_5 rfl hl (by decide) rfl (fun ls hl => ?_)
  refine lv_iload_n hx hb dX3_faultAtThree_6 rfl (lv_at hl 0 rfl) ?_
  refine lv_if_ne (tgt := 20) hx hb dX3_faultAtThree_7 rfl (fun b7 => ?_) (fun b7 => ?_)
  · skip
    refine lv_iload_n hx hb dX3_faultAtThree_20 rfl (lv_at hl 0 rfl) ?_
    refine W.iret (v := (if sz0 = (-1) then nI 1 else if 0 ≤ (i).toInt ∧ (i).toInt < sz0.toInt then nI 0 else nI 2)) hx hb hr (fun t ht hW => ⟨⟨(if sz0 = (-1) then nI 1 else if 0 ≤ (i).toInt ∧ (i).toInt < sz0.toInt then nI 0 else nI 2), (), rfl, ?_, trivial⟩, hS.F ht⟩) hS.2.2 dX3_faultAtThree_21
    first | exact (if_pos b7).symm | exact (if_neg b7).symm
  · skip
    refine lv_aload_n hx hb dX3_faultAtThree_10 rfl (lv_at hl 1 rfl) ?_
    refine lv_iload_n hx hb dX3_faultAtThree_11 rfl (lv_at hl 2 rfl) ?_
    refine lv_iconst (v := nI 2) hx hb dX3_faultAtThree_12 (by decide) ?_
    refine lv_iadd hx hb dX3_faultAtThree_13 ?_
    refine xr_i (As := [.int (i + (nI 2))]) (rest := []) ⟨hx, hb, hml, hown, hts⟩ (c_X3_faultAt l G ks ksc ln sz0 (i + (nI 2)) ) (cwV 1 hts gX3_faultAtThree_X3_faultAt rfl rfl rfl (by decide +kernel) ⟨Nat.le_of_ble_eq_true rfl, Nat.le_of_ble_eq_true rfl⟩) hK hP hS [0] rfl rfl rfl rfl hl.1 rfl (Nat.le_of_ble_eq_true rfl) dX3_faultAtThree_14 ⟨Nat.zero_le _, Nat.zero_le _⟩ (fun r14 H locs hp14 hP hS => ?_)
    obtain rfl : r14 = (if sz0 = (-1) then nI 1 else if 0 ≤ ((i + (nI 2))).toInt ∧ ((i + (nI 2))).toInt < sz0.toInt then nI 0 else nI 2) := hp14
    refine lv_goto (tgt := 21) hx hb dX3_faultAtThree_17 rfl ?_
    refine W.iret (v := (if sz0 = (-1) then nI 1 else if 0 ≤ ((i + (nI 2))).toInt ∧ ((i + (nI 2))).toInt < sz0.toInt then nI 0 else nI 2)) hx hb hr (fun t ht hW => ⟨⟨(if sz0 = (-1) then nI 1 else if 0 ≤ ((i + (nI 2))).toInt ∧ ((i + (nI 2))).toInt < sz0.toInt then nI 0 else nI 2), (), rfl, ?_, trivial⟩, hS.F ht⟩) hS.2.2 dX3_faultAtThree_21
    first | exact (if_pos b7).symm | exact (if_neg b7).symm

abbrev w_X3_put (G : XG) (ks ksc : Nat) (ln sz0 : Int32) (f : Nat → Int32) : va_W := [oC ks 3 [.ref ksc, .int ln, .int sz0], iA G ksc 40 f]
abbrev Q_X3_put (G : XG) (sz : Nat) (ks ksc : Nat) (ln sz0 : Int32) (f : Nat → Int32) (i : Nat) (v : Int32) : Array Value → State → Outcome → State → Prop := (va_Qv (fun (u : (Nat → Int32)) => u = upd f i (if ln = 0 then v.toInt8.toInt32 else if ln = nI 1 then v.toInt16.toInt32 else v)) (xWb G sz (w_X3_put G ks ksc ln sz0 f) (fun u : (Nat → Int32) => [oC ks 3 [.ref ksc, .int ln, .int sz0], iA G ksc 40 u])) (va_A (w_X3_put G ks ksc ln sz0 f) sz))
set_option maxHeartbeats 4000000 in
set_option maxRecDepth 100000 in
theorem c_X3_put (l : Launch) (G : XG) (sz : Nat) (ks ksc : Nat) (ln sz0 : Int32) (f : Nat → Int32) (i : Nat) (v : Int32) (hi : i < 40) : Met l yX3_put wsX3_put ({ frames := 0, cells := 0, slots := 0, locals := 0 } : Room) (va_Pc [.ref ks, .int (nI i), .int v] (xWp G sz (w_X3_put G ks ksc ln sz0 f))) (Q_X3_put G sz ks ksc ln sz0 f i v) 0 0 (va_A (w_X3_put G ks ksc ln sz0 f) sz) := by
  refine Met.ofW (cc := cX3_put) (maxL := 3) (ret := none) (by decide) rfl ?_
  intro pp ee ss mm aa below mt cd s₁ BB hml hv
  obtain ⟨rfl, hsz, hP, hK, hD0⟩ := hv
  have hx := BB.exec
  have hb := BB.bytes
  have hr := BB.returns
  have hts := atoms_spec (ws := wsX3_put) BB.pre
  have hown : ss.vm.findClass RX3 = some mm.cls := findClass_of_methodNamed BB.named
  have hlocks := BB.notSynchronized
  subst hsz
  have hD := hD0.self (sz := ss.heap.size)
  have hA : ∀ q : Nat, ss.heap.size ≤ q → va_A (w_X3_put G ks ksc ln sz0 f) ss.heap.size q := fun q h => Or.inr h
  have hS : va_S (va_A (w_X3_put G ks ksc ln sz0 f) ss.heap.size) ss.heap ss.heap [] := va_S.rf
  replace hD : va_D (va_A (w_X3_put G ks ksc ln sz0 f) ss.heap.size) [oC ks 3 [.ref ksc, .int ln, .int sz0], iA G ksc 40 f] := hD
  replace hP : xP G [oC ks 3 [.ref ksc, .int ln, .int sz0], iA G ksc 40 f] ss.heap := hP
  have hin3 : ∀ w ∈ u_ws RX3 TX3 3, w ∈ wsX3_put := fun w h => List.mem_cons_of_mem _ (List.mem_append_right _ h)
  have hl := lv_entry ([.ref ks, .int (nI i), .int v]) (n := 3) (Nat.le_of_ble_eq_true rfl)
  rw [lg_entry_eq]
  generalize (lg_sl ([.ref ks, .int (nI i), .int v]) ++ List.replicate (3 - (lg_sl ([.ref ks, .int (nI i), .int v])).length) Slot.unset).toArray = ls at hl ⊢
  replace hl : lv_has ls 3 [(0, .ref ks), (1, .int (nI i)), (2, .int v)] := hl
  refine lv_aload_n hx hb dX3_put_0 rfl (lv_at hl 0 rfl) ?_
  refine va_get (D := G.1) (ci := 3) (v := .int ln) (C := RX3) (T := TX3) (N := 3) hx hb hts hin3 hown hK.1 hP 0 rfl rfl 1 (by decide) (hts (.fieldLink RX3 19 "BackLenses$Sheet" "lane" "I") (List.mem_of_getElem? (i := 1) rfl)) (fun _ h9 => h9) rfl dX3_put_1 ?_
  refine lv_if_ne (tgt := 18) hx hb dX3_put_4 rfl (fun b4 => ?_) (fun b4 => ?_)
  · skip
    refine lv_aload_n hx hb dX3_put_18 rfl (lv_at hl 0 rfl) ?_
    refine va_get (D := G.1) (ci := 3) (v := .int ln) (C := RX3) (T := TX3) (N := 3) hx hb hts hin3 hown hK.1 hP 0 rfl rfl 1 (by decide) (hts (.fieldLink RX3 19 "BackLenses$Sheet" "lane" "I") (List.mem_of_getElem? (i := 1) rfl)) (fun _ h9 => h9) rfl dX3_put_19 ?_
    refine lv_iconst (v := nI 1) hx hb dX3_put_22 (by decide) ?_
    refine lv_icmp_ne (tgt := 37) hx hb dX3_put_23 rfl (fun b23 => ?_) (fun b23 => ?_)
    · skip
      refine lv_aload_n hx hb dX3_put_37 rfl (lv_at hl 0 rfl) ?_
      refine va_get (D := G.1) (ci := 3) (v := .ref ksc) (C := RX3) (T := TX3) (N := 3) hx hb hts hin3 hown hK.1 hP 0 rfl rfl 0 (by decide) (hts (.fieldLink RX3 9 "BackLenses$Sheet" "cells" "[I") (List.mem_of_getElem? (i := 2) rfl)) (fun _ h9 => h9) rfl dX3_put_38 ?_
      refine lv_iload_n hx hb dX3_put_41 rfl (lv_at hl 1 rfl) ?_
      refine lv_iload_n hx hb dX3_put_42 rfl (lv_at hl 2 rfl) ?_
      refine xn_iast hx hb hK hP hD hS 1 rfl (by omega) (by omega) dX3_put_43 (fun H locs hP hD hS => ?_)
      replace hP : xP G [oC ks 3 [.ref ksc, .int ln, .int sz0], iA G ksc 40 (upd f i v)] H := hP
      replace hD : va_D (va_A (w_X3_put G ks ksc ln sz0 f) ss.heap.size) [oC ks 3 [.ref ksc, .int ln, .int sz0], iA G ksc 40 (upd f i v)] := hD
      have hP := hP.sub (ws' := [oC ks 3 [.ref ksc, .int ln, .int sz0], iA G ksc 40 (upd f i v)]) [0, 1] rfl
      have hD := hD.sub (ws' := [oC ks 3 [.ref ksc, .int ln, .int sz0], iA G ksc 40 (upd f i v)]) [0, 1] (by decide) rfl
      refine W.vret hx hb hr (fun t ht hW => ⟨⟨(upd f i v), rfl, ?_, by rw [ht]; exact hP, hD⟩, hS.F ht⟩) hS.2.2 dX3_put_44
      first | rw [if_pos b4] | (rw [if_neg b4]; first | rw [if_pos b23] | rw [if_neg b23])
    · skip
      refine lv_aload_n hx hb dX3_put_26 rfl (lv_at hl 0 rfl) ?_
      refine va_get (D := G.1) (ci := 3) (v := .ref ksc) (C := RX3) (T := TX3) (N := 3) hx hb hts hin3 hown hK.1 hP 0 rfl rfl 0 (by decide) (hts (.fieldLink RX3 9 "BackLenses$Sheet" "cells" "[I") (List.mem_of_getElem? (i := 2) rfl)) (fun _ h9 => h9) rfl dX3_put_27 ?_
      refine lv_iload_n hx hb dX3_put_30 rfl (lv_at hl 1 rfl) ?_
      refine lv_iload_n hx hb dX3_put_31 rfl (lv_at hl 2 rfl) ?_
      refine lv_i2s hx hb dX3_put_32 rfl ?_
      refine xn_iast hx hb hK hP hD hS 1 rfl (by omega) (by omega) dX3_put_33 (fun H locs hP hD hS => ?_)
      replace hP : xP G [oC ks 3 [.ref ksc, .int ln, .int sz0], iA G ksc 40 (upd f i v.toInt16.toInt32)] H := hP
      replace hD : va_D (va_A (w_X3_put G ks ksc ln sz0 f) ss.heap.size) [oC ks 3 [.ref ksc, .int ln, .int sz0], iA G ksc 40 (upd f i v.toInt16.toInt32)] := hD
      refine lv_goto (tgt := 44) hx hb dX3_put_34 rfl ?_
      have hP := hP.sub (ws' := [oC ks 3 [.ref ksc, .int ln, .int sz0], iA G ksc 40 (upd f i v.toInt16.toInt32)]) [0, 1] rfl
      have hD := hD.sub (ws' := [oC ks 3 [.ref ksc, .int ln, .int sz0], iA G ksc 40 (upd f i v.toInt16.toInt32)]) [0, 1] (by decide) rfl
      refine W.vret hx hb hr (fun t ht hW => ⟨⟨(upd f i v.toInt16.toInt32), rfl, ?_, by rw [ht]; exact hP, hD⟩, hS.F ht⟩) hS.2.2 dX3_put_44
      first | rw [if_pos b4] | (rw [if_neg b4]; first | rw [if_pos b23] | rw [if_neg b23])
  · skip
    refine lv_aload_n hx hb dX3_put_7 rfl (lv_at hl 0 rfl) ?_
    refine va_get (D := G.1) (ci := 3) (v := .ref ksc) (C := RX3) (T := TX3) (N := 3) hx hb hts hin3 hown hK.1 hP 0 rfl rfl 0 (by decide) (hts (.fieldLink RX3 9 "BackLenses$Sheet" "cells" "[I") (List.mem_of_getElem? (i := 2) rfl)) (fun _ h9 => h9) rfl dX3_put_8 ?_
    refine lv_iload_n hx hb dX3_put_11 rfl (lv_at hl 1 rfl) ?_
    refine lv_iload_n hx hb dX3_put_12 rfl (lv_at hl 2 rfl) ?_
    refine lv_i2b hx hb dX3_put_13 rfl ?_
    refine xn_iast hx hb hK hP hD hS 1 rfl (by omega) (by omega) dX3_put_14 (fun H locs hP hD hS => ?_)
    replace hP : xP G [oC ks 3 [.ref ksc, .int ln, .int sz0], iA G ksc 40 (upd f i v.toInt8.toInt32)] H := hP
    replace hD : va_D (va_A (w_X3_put G ks ksc ln sz0 f) ss.heap.size) [oC ks 3 [.ref ksc, .int ln, .int sz0], iA G ksc 40 (upd f i v.toInt8.toInt32)] := hD
    refine lv_goto (tgt := 44) hx hb dX3_put_15 rfl ?_
    have hP := hP.sub (ws' := [oC ks 3 [.ref ksc, .int ln, .int sz0], iA G ksc 40 (upd f i v.toInt8.toInt32)]) [0, 1] rfl
    have hD := hD.sub (ws' := [oC ks 3 [.ref ksc, .int ln, .int sz0], iA G ksc 40 (upd f i v.toInt8.toInt32)]) [0, 1] (by decide) rfl
    refine W.vret hx hb hr (fun t ht hW => ⟨⟨(upd f i v.toInt8.toInt32), rfl, ?_, by rw [ht]; exact hP, hD⟩, hS.F ht⟩) hS.2.2 dX3_put_44
    first | rw [if_pos b4] | (rw [if_neg b4]; first | rw [if_pos b23] | rw [if_neg b23])
end
section
abbrev w_X4_markOf (G : XG) (kv km kg : Nat) (vw vh : Nat) (sl : Int32) (mk : Nat → Int32) : va_W := [oC kv 4 [.ref km, .ref kg, .int (nI vw), .int (nI vh), .int sl], iA G km 176 mk]
abbrev Q_X4_markOf (G : XG) (kv km kg : Nat) (vw vh : Nat) (sl : Int32) (mk : Nat → Int32) (c d : Nat) : Array Value → State → Outcome → State → Prop := (xRi (fun r => r = mk (d * 16 + c)))
set_option maxHeartbeats 4000000 in
set_option maxRecDepth 100000 in
theorem c_X4_markOf (l : Launch) (G : XG) (kv km kg : Nat) (vw vh : Nat) (sl : Int32) (mk : Nat → Int32) (c d : Nat) (hi : d * 16 + c < 176) : Met l yX4_markOf wsX4_markOf ({ frames := 0, cells := 0, slots := 0, locals := 0 } : Room) (va_Pc [.ref kv, .int (nI c), .int (nI d)] (xRp G (w_X4_markOf G kv km kg vw vh sl mk))) (Q_X4_markOf G kv km kg vw vh sl mk c d) 0 0 (fun _ => False) := by
  refine Met.ofW (cc := cX4_markOf) (maxL := 3) (ret := (some .int)) (by decide) rfl ?_
  intro pp ee ss mm aa below mt cd s₁ BB hml hv
  obtain ⟨rfl, hP, hK⟩ := hv
  have hx := BB.exec
  have hb := BB.bytes
  have hr := BB.returns
  have hts := atoms_spec (ws := wsX4_markOf) BB.pre
  have hown : ss.vm.findClass RX4 = some mm.cls := findClass_of_methodNamed BB.named
  have hlocks := BB.notSynchronized
  have hS : va_S (fun _ => False) ss.heap ss.heap [] := va_S.rf
  replace hP : xP G [oC kv 4 [.ref km, .ref kg, .int (nI vw), .int (nI vh), .int sl], iA G km 176 mk] ss.heap := hP
  have hin4 : ∀ w ∈ u_ws RX4 TX4 5, w ∈ wsX4_markOf := fun w h => List.mem_cons_of_mem _ (List.mem_append_right _ h)
  have hl := lv_entry ([.ref kv, .int (nI c), .int (nI d)]) (n := 3) (Nat.le_of_ble_eq_true rfl)
  rw [lg_entry_eq]
  generalize (lg_sl ([.ref kv, .int (nI c), .int (nI d)]) ++ List.replicate (3 - (lg_sl ([.ref kv, .int (nI c), .int (nI d)])).length) Slot.unset).toArray = ls at hl ⊢
  replace hl : lv_has ls 3 [(0, .ref kv), (1, .int (nI c)), (2, .int (nI d))] := hl
  refine lv_aload_n hx hb dX4_markOf_0 rfl (lv_at hl 0 rfl) ?_
  refine va_get (D := G.1) (ci := 4) (v := .ref km) (C := RX4) (T := TX4) (N := 5) hx hb hts hin4 hown hK.1 hP 0 rfl rfl 0 (by decide) (hts (.fieldLink RX4 9 "BackLenses$Views" "marks" "[I") (List.mem_of_getElem? (i := 1) rfl)) (fun _ h9 => h9) rfl dX4_markOf_1 ?_
  refine lv_iload_n hx hb dX4_markOf_4 rfl (lv_at hl 2 rfl) ?_
  refine lv_bipush (v := nI 16) hx hb dX4_markOf_5 (by decide) ?_
  refine xn_imul hx hb dX4_markOf_7 ?_
  refine lv_iload_n hx hb dX4_markOf_8 rfl (lv_at hl 1 rfl) ?_
  refine xn_iadd hx hb dX4_markOf_9 ?_
  refine xn_iald hx hb hK hP 1 rfl (by omega) (by omega) dX4_markOf_10 ?_
  refine W.iret (v := mk ((d * 16) + c)) hx hb hr (fun t ht hW => ⟨⟨mk ((d * 16) + c), (), rfl, ?_, trivial⟩, hS.F ht⟩) hS.2.2 dX4_markOf_11
  rfl

abbrev w_X4_sightOf (G : XG) (kv km kg : Nat) (vw vh : Nat) (sl : Int32) (sg : Nat → Int32) : va_W := [oC kv 4 [.ref km, .ref kg, .int (nI vw), .int (nI vh), .int sl], iA G kg 160 sg]
abbrev Q_X4_sightOf (G : XG) (kv km kg : Nat) (vw vh : Nat) (sl : Int32) (sg : Nat → Int32) (x d : Nat) : Array Value → State → Outcome → State → Prop := (xRi (fun r => r = sg (d * 16 + x)))
set_option maxHeartbeats 4000000 in
set_option maxRecDepth 100000 in
theorem c_X4_sightOf (l : Launch) (G : XG) (kv km kg : Nat) (vw vh : Nat) (sl : Int32) (sg : Nat → Int32) (x d : Nat) (hi : d * 16 + x < 160) : Met l yX4_sightOf wsX4_sightOf ({ frames := 0, cells := 0, slots := 0, locals := 0 } : Room) (va_Pc [.ref kv, .int (nI x), .int (nI d)] (xRp G (w_X4_sightOf G kv km kg vw vh sl sg))) (Q_X4_sightOf G kv km kg vw vh sl sg x d) 0 0 (fun _ => False) := by
  refine Met.ofW (cc := cX4_sightOf) (maxL := 3) (ret := (some .int)) (by decide) rfl ?_
  intro pp ee ss mm aa below mt cd s₁ BB hml hv
  obtain ⟨rfl, hP, hK⟩ := hv
  have hx := BB.exec
  have hb := BB.bytes
  have hr := BB.returns
  have hts := atoms_spec (ws := wsX4_sightOf) BB.pre
  have hown : ss.vm.findClass RX4 = some mm.cls := findClass_of_methodNamed BB.named
  have hlocks := BB.notSynchronized
  have hS : va_S (fun _ => False) ss.heap ss.heap [] := va_S.rf
  replace hP : xP G [oC kv 4 [.ref km, .ref kg, .int (nI vw), .int (nI vh), .int sl], iA G kg 160 sg] ss.heap := hP
  have hin4 : ∀ w ∈ u_ws RX4 TX4 5, w ∈ wsX4_sightOf := fun w h => List.mem_cons_of_mem _ (List.mem_append_right _ h)
  have hl := lv_entry ([.ref kv, .int (nI x), .int (nI d)]) (n := 3) (Nat.le_of_ble_eq_true rfl)
  rw [lg_entry_eq]
  generalize (lg_sl ([.ref kv, .int (nI x), .int (nI d)]) ++ List.replicate (3 - (lg_sl ([.ref kv, .int (nI x), .int (nI d)])).length) Slot.unset).toArray = ls at hl ⊢
  replace hl : lv_has ls 3 [(0, .ref kv), (1, .int (nI x)), (2, .int (nI d))] := hl
  refine lv_aload_n hx hb dX4_sightOf_0 rfl (lv_at hl 0 rfl) ?_
  refine va_get (D := G.1) (ci := 4) (v := .ref kg) (C := RX4) (T := TX4) (N := 5) hx hb hts hin4 hown hK.1 hP 0 rfl rfl 1 (by decide) (hts (.fieldLink RX4 15 "BackLenses$Views" "sights" "[I") (List.mem_of_getElem? (i := 1) rfl)) (fun _ h9 => h9) rfl dX4_sightOf_1 ?_
  refine lv_iload_n hx hb dX4_sightOf_4 rfl (lv_at hl 2 rfl) ?_
  refine lv_bipush (v := nI 16) hx hb dX4_sightOf_5 (by decide) ?_
  refine xn_imul hx hb dX4_sightOf_7 ?_
  refine lv_iload_n hx hb dX4_sightOf_8 rfl (lv_at hl 1 rfl) ?_
  refine xn_iadd hx hb dX4_sightOf_9 ?_
  refine xn_iald hx hb hK hP 1 rfl (by omega) (by omega) dX4_sightOf_10 ?_
  refine W.iret (v := sg ((d * 16) + x)) hx hb hr (fun t ht hW => ⟨⟨sg ((d * 16) + x), (), rfl, ?_, trivial⟩, hS.F ht⟩) hS.2.2 dX4_sightOf_11
  rfl

abbrev w_X4_unlike (G : XG) (kv km kg : Nat) (vw vh : Nat) (sl : Int32) (mk : Nat → Int32) : va_W := [oC kv 4 [.ref km, .ref kg, .int (nI vw), .int (nI vh), .int sl], iA G km 176 mk]
abbrev Q_X4_unlike (G : XG) (kv km kg : Nat) (vw vh : Nat) (sl : Int32) (mk : Nat → Int32) (d e : Nat) : Array Value → State → Outcome → State → Prop := (xRi (fun r => r = xbits (fun c => !decide (mk (d * 16 + c) = mk (e * 16 + c))) (vw * vh)))
set_option maxHeartbeats 4000000 in
set_option maxRecDepth 100000 in
theorem c_X4_unlike (l : Launch) (G : XG) (kv km kg : Nat) (vw vh : Nat) (sl : Int32) (mk : Nat → Int32) (d e : Nat) (hwh : vw * vh ≤ 16) (hd : d ≤ 10) (he : e ≤ 10) : Met l yX4_unlike wsX4_unlike ({ frames := 1, cells := 0, slots := 0, locals := 22 } : Room) (va_Pc [.ref kv, .int (nI d), .int (nI e)] (xRp G (w_X4_unlike G kv km kg vw vh sl mk))) (Q_X4_unlike G kv km kg vw vh sl mk d e) 0 0 (fun _ => False) := by
  refine Met.ofW (cc := cX4_unlike) (maxL := 5) (ret := (some .int)) (by decide) rfl ?_
  intro pp ee ss mm aa below mt cd s₁ BB hml hv
  obtain ⟨rfl, hP, hK⟩ := hv
  have hx := BB.exec
  have hb := BB.bytes
  have hr := BB.returns
  have hts := atoms_spec (ws := wsX4_unlike) BB.pre
  have hown : ss.vm.findClass RX4 = some mm.cls := findClass_of_methodNamed BB.named
  have hlocks := BB.notSynchronized
  have hS : va_S (fun _ => False) ss.heap ss.heap [] := va_S.rf
  replace hP : xP G [oC kv 4 [.ref km, .ref kg, .int (nI vw), .int (nI vh), .int sl], iA G km 176 mk] ss.heap := hP
  have hin4 : ∀ w ∈ u_ws RX4 TX4 5, w ∈ wsX4_unlike := fun w h => List.mem_cons_of_mem _ (List.mem_append_right _ h)
  have hl := lv_entry ([.ref kv, .int (nI d), .int (nI e)]) (n := 5) (Nat.le_of_ble_eq_true rfl)
  rw [lg_entry_eq]
  generalize (lg_sl ([.ref kv, .int (nI d), .int (nI e)]) ++ List.replicate (5 - (lg_sl ([.ref kv, .int (nI d), .int (nI e)])).length) Slot.unset).toArray = ls at hl ⊢
  replace hl : lv_has ls 5 [(0, .ref kv), (1, .int (nI d)), (2, .int (nI e))] := hl
  refine lv_iconst (v := nI 0) hx hb dX4_unlike_0 (by decide) ?_
  refine lv_istore_n (lv' := [(3, .int (nI 0)), (0, .ref kv), (1, .int (nI d)), (2, .int (nI e))]) hx hb dX4_unlike_1 rfl hl (by decide) rfl (fun ls hl => ?_)
  refine lv_iconst (v := nI 0) hx hb dX4_unlike_2 (by decide) ?_
  refine lv_istore (lv' := [(4, .int (nI 0)), (3, .int (nI 0)), (0, .ref kv), (1, .int (nI d)), (2, .int (nI e))]) hx hb dX4_unlike_3 hl (by decide) rfl (fun ls hl => ?_)
  have hL5 : ∀ k : Nat, ∀ (c : Nat) (bits : Int32) (ls : Array Slot) (H : Heap) (locs : List Loc), vw * vh - c = k → (c ≤ vw * vh) → (bits = xbits (fun c => !decide (mk (d * 16 + c) = mk (e * 16 + c))) c) → lv_has ls 5 [(0, .ref kv), (1, .int (nI d)), (2, .int (nI e)), (3, .int bits), (4, .int (nI c))] → xP G [iA G km 176 mk, oC kv 4 [.ref km, .ref kg, .int (nI vw), .int (nI vh), .int sl]] H → va_S (fun _ => False) ss.heap H locs → W pp l ee ({ frames := 1, cells := 0, slots := 0, locals := 22 } : Room) ss mm ([.ref kv, .int (nI d), .int (nI e)] : List Value).toArray below mt cd H locs 0 0 (MQ below (Q_X4_unlike G kv km kg vw vh sl mk d e) ([.ref kv, .int (nI d), .int (nI e)] : List Value).toArray ss 0 0 (fun _ => False)) (F0 mm 5 ls []) := by
    intro k
    induction k using Nat.strongRecOn with
    | _ k ih5 =>
    intro c bits ls H locs hm5 kc hbits hl hP hS
    refine lv_iload hx hb dX4_unlike_5 (lv_at hl 4 rfl) ?_
    refine lv_aload_n hx hb dX4_unlike_7 rfl (lv_at hl 0 rfl) ?_
    refine va_get (D := G.1) (ci := 4) (v := .int (nI vw)) (C := RX4) (T := TX4) (N := 5) hx hb hts hin4 hown hK.1 hP 1 rfl rfl 2 (by decide) (hts (.fieldLink RX4 28 "BackLenses$Views" "wide" "I") (List.mem_of_getElem? (i := 1) rfl)) (fun _ h9 => h9) rfl dX4_unlike_8 ?_
    refine lv_aload_n hx hb dX4_unlike_11 rfl (lv_at hl 0 rfl) ?_
    refine va_get (D := G.1) (ci := 4) (v := .int (nI vh)) (C := RX4) (T := TX4) (N := 5) hx hb hts hin4 hown hK.1 hP 1 rfl rfl 3 (by decide) (hts (.fieldLink RX4 32 "BackLenses$Views" "high" "I") (List.mem_of_getElem? (i := 2) rfl)) (fun _ h9 => h9) rfl dX4_unlike_12 ?_
    refine xn_imul hx hb dX4_unlike_15 ?_
    refine xn_icmp_ge (tgt := 49) hx hb (by omega) (by omega) dX4_unlike_16 rfl (fun b16 => ?_) (fun b16 => ?_)
    · skip
      refine lv_iload_n hx hb dX4_unlike_49 rfl (lv_at hl 3 rfl) ?_
      refine W.iret (v := bits) hx hb hr (fun t ht hW => ⟨⟨bits, (), rfl, ?_, trivial⟩, hS.F ht⟩) hS.2.2 dX4_unlike_50
      rw [hbits, show c = vw * vh by omega]
    · skip
      refine lv_aload_n hx hb dX4_unlike_19 rfl (lv_at hl 0 rfl) ?_
      refine lv_iload hx hb dX4_unlike_20 (lv_at hl 4 rfl) ?_
      refine lv_iload_n hx hb dX4_unlike_22 rfl (lv_at hl 1 rfl) ?_
      refine xr_i (As := [.int (nI c), .int (nI d)]) (rest := []) ⟨hx, hb, hml, hown, hts⟩ (c_X4_markOf l G kv km kg vw vh sl mk c d (by first | assumption | omega)) (cwV 2 hts gX4_unlike_X4_markOf rfl rfl rfl (by decide +kernel) ⟨Nat.le_of_ble_eq_true rfl, Nat.le_of_ble_eq_true rfl⟩) hK hP hS [1, 0] rfl rfl rfl rfl hl.1 rfl (Nat.le_of_ble_eq_true rfl) dX4_unlike_23 ⟨Nat.zero_le _, Nat.zero_le _⟩ (fun r23 H locs hp23 hP hS => ?_)
      obtain rfl : r23 = mk (d * 16 + c) := hp23
      refine lv_aload_n hx hb dX4_unlike_26 rfl (lv_at hl 0 rfl) ?_
      refine lv_iload hx hb dX4_unlike_27 (lv_at hl 4 rfl) ?_
      refine lv_iload_n hx hb dX4_unlike_29 rfl (lv_at hl 2 rfl) ?_
      refine xr_i (As := [.int (nI c), .int (nI e)]) (rest := [.int (mk (d * 16 + c))]) ⟨hx, hb, hml, hown, hts⟩ (c_X4_markOf l G kv km kg vw vh sl mk c e (by first | assumption | omega)) (cwV 2 hts gX4_unlike_X4_markOf rfl rfl rfl (by decide +kernel) ⟨Nat.le_of_ble_eq_true rfl, Nat.le_of_ble_eq_true rfl⟩) hK hP hS [1, 0] rfl rfl rfl rfl hl.1 rfl (Nat.le_of_ble_eq_true rfl) dX4_unlike_30 ⟨Nat.zero_le _, Nat.zero_le _⟩ (fun r30 H locs hp30 hP hS => ?_)
      obtain rfl : r30 = mk (e * 16 + c) := hp30
      refine lv_icmp_eq (tgt := 43) hx hb dX4_unlike_33 rfl (fun b33 => ?_) (fun b33 => ?_)
      · skip
        refine lv_iinc (k := 4) (v := nI (c + 1)) (lv' := [(4, .int (nI (c + 1))), (0, .ref kv), (1, .int (nI d)), (2, .int (nI e)), (3, .int bits)]) hx hb dX4_unlike_43 hl rfl (xn_inc c 1) (by decide) rfl (fun ls hl => ?_)
        refine lv_goto (tgt := 5) hx hb dX4_unlike_46 rfl ?_
        have hl := lv_sub hl (l' := [(0, .ref kv), (1, .int (nI d)), (2, .int (nI e)), (3, .int bits), (4, .int (nI (c + 1)))]) [1, 2, 3, 4, 0] rfl
        exact ih5 (vw * vh - (c + 1)) (by omega) (c + 1) bits ls H locs rfl (by omega) (by first | (rw [xbits_f (by simp [b33])]; exact hbits) | (rw [xbits_t (by simp [b33]), ← hbits])) hl hP hS
      · skip
        refine lv_iload_n hx hb dX4_unlike_36 rfl (lv_at hl 3 rfl) ?_
        refine lv_iconst (v := nI 1) hx hb dX4_unlike_37 (by decide) ?_
        refine lv_iload hx hb dX4_unlike_38 (lv_at hl 4 rfl) ?_
        refine lv_ishl hx hb dX4_unlike_40 ?_
        refine lv_ior hx hb dX4_unlike_41 ?_
        refine lv_istore_n (lv' := [(3, .int (bits ||| ((nI 1) <<< ((nI c) &&& 31)))), (0, .ref kv), (1, .int (nI d)), (2, .int (nI e)), (4, .int (nI c))]) hx hb dX4_unlike_42 rfl hl (by decide) rfl (fun ls hl => ?_)
        refine lv_iinc (k := 4) (v := nI (c + 1)) (lv' := [(4, .int (nI (c + 1))), (3, .int (bits ||| ((nI 1) <<< ((nI c) &&& 31)))), (0, .ref kv), (1, .int (nI d)), (2, .int (nI e))]) hx hb dX4_unlike_43 hl rfl (xn_inc c 1) (by decide) rfl (fun ls hl => ?_)
        refine lv_goto (tgt := 5) hx hb dX4_unlike_46 rfl ?_
        have hl := lv_sub hl (l' := [(0, .ref kv), (1, .int (nI d)), (2, .int (nI e)), (3, .int (bits ||| ((nI 1) <<< ((nI c) &&& 31)))), (4, .int (nI (c + 1)))]) [2, 3, 4, 1, 0] rfl
        exact ih5 (vw * vh - (c + 1)) (by omega) (c + 1) (bits ||| ((nI 1) <<< ((nI c) &&& 31))) ls H locs rfl (by omega) (by first | (rw [xbits_f (by simp [b33])]; exact hbits) | (rw [xbits_t (by simp [b33]), ← hbits])) hl hP hS
  have hl := lv_sub hl (l' := [(0, .ref kv), (1, .int (nI d)), (2, .int (nI e)), (3, .int (nI 0)), (4, .int (nI 0))]) [2, 3, 4, 1, 0] rfl
  have hP := hP.sub (ws' := [iA G km 176 mk, oC kv 4 [.ref km, .ref kg, .int (nI vw), .int (nI vh), .int sl]]) [1, 0] rfl
  exact hL5 (vw * vh - 0) 0 (nI 0) ls ss.heap [] rfl (by omega) (by rfl) hl hP hS

abbrev w_X4_cellsWith (G : XG) (kv km kg : Nat) (vw vh : Nat) (sl : Int32) (mk : Nat → Int32) : va_W := [oC kv 4 [.ref km, .ref kg, .int (nI vw), .int (nI vh), .int sl], iA G km 176 mk]
abbrev Q_X4_cellsWith (G : XG) (kv km kg : Nat) (vw vh : Nat) (sl : Int32) (mk : Nat → Int32) (m : Int32) (d : Nat) : Array Value → State → Outcome → State → Prop := (xRi (fun r => r = xbits (fun c => decide (mk (d * 16 + c) = m)) (vw * vh)))
set_option maxHeartbeats 4000000 in
set_option maxRecDepth 100000 in
theorem c_X4_cellsWith (l : Launch) (G : XG) (kv km kg : Nat) (vw vh : Nat) (sl : Int32) (mk : Nat → Int32) (m : Int32) (d : Nat) (hwh : vw * vh ≤ 16) (hd : d ≤ 10) : Met l yX4_cellsWith wsX4_cellsWith ({ frames := 1, cells := 0, slots := 0, locals := 22 } : Room) (va_Pc [.ref kv, .int m, .int (nI d)] (xRp G (w_X4_cellsWith G kv km kg vw vh sl mk))) (Q_X4_cellsWith G kv km kg vw vh sl mk m d) 0 0 (fun _ => False) := by
  refine Met.ofW (cc := cX4_cellsWith) (maxL := 5) (ret := (some .int)) (by decide) rfl ?_
  intro pp ee ss mm aa below mt cd s₁ BB hml hv
  obtain ⟨rfl, hP, hK⟩ := hv
  have hx := BB.exec
  have hb := BB.bytes
  have hr := BB.returns
  have hts := atoms_spec (ws := wsX4_cellsWith) BB.pre
  have hown : ss.vm.findClass RX4 = some mm.cls := findClass_of_methodNamed BB.named
  have hlocks := BB.notSynchronized
  have hS : va_S (fun _ => False) ss.heap ss.heap [] := va_S.rf
  replace hP : xP G [oC kv 4 [.ref km, .ref kg, .int (nI vw), .int (nI vh), .int sl], iA G km 176 mk] ss.heap := hP
  have hin4 : ∀ w ∈ u_ws RX4 TX4 5, w ∈ wsX4_cellsWith := fun w h => List.mem_cons_of_mem _ (List.mem_append_right _ h)
  have hl := lv_entry ([.ref kv, .int m, .int (nI d)]) (n := 5) (Nat.le_of_ble_eq_true rfl)
  rw [lg_entry_eq]
  generalize (lg_sl ([.ref kv, .int m, .int (nI d)]) ++ List.replicate (5 - (lg_sl ([.ref kv, .int m, .int (nI d)])).length) Slot.unset).toArray = ls at hl ⊢
  replace hl : lv_has ls 5 [(0, .ref kv), (1, .int m), (2, .int (nI d))] := hl
  refine lv_iconst (v := nI 0) hx hb dX4_cellsWith_0 (by decide) ?_
  refine lv_istore_n (lv' := [(3, .int (nI 0)), (0, .ref kv), (1, .int m), (2, .int (nI d))]) hx hb dX4_cellsWith_1 rfl hl (by decide) rfl (fun ls hl => ?_)
  refine lv_iconst (v := nI 0) hx hb dX4_cellsWith_2 (by decide) ?_
  refine lv_istore (lv' := [(4, .int (nI 0)), (3, .int (nI 0)), (0, .ref kv), (1, .int m), (2, .int (nI d))]) hx hb dX4_cellsWith_3 hl (by decide) rfl (fun ls hl => ?_)
  have hL5 : ∀ k : Nat, ∀ (c : Nat) (bits : Int32) (ls : Array Slot) (H : Heap) (locs : List Loc), vw * vh - c = k → (c ≤ vw * vh) → (bits = xbits (fun c => decide (mk (d * 16 + c) = m)) c) → lv_has ls 5 [(0, .ref kv), (1, .int m), (2, .int (nI d)), (3, .int bits), (4, .int (nI c))] → xP G [iA G km 176 mk, oC kv 4 [.ref km, .ref kg, .int (nI vw), .int (nI vh), .int sl]] H → va_S (fun _ => False) ss.heap H locs → W pp l ee ({ frames := 1, cells := 0, slots := 0, locals := 22 } : Room) ss mm ([.ref kv, .int m, .int (nI d)] : List Value).toArray below mt cd H locs 0 0 (MQ below (Q_X4_cellsWith G kv km kg vw vh sl mk m d) ([.ref kv, .int m, .int (nI d)] : List Value).toArray ss 0 0 (fun _ => False)) (F0 mm 5 ls []) := by
    intro k
    induction k using Nat.strongRecOn with
    | _ k ih5 =>
    intro c bits ls H locs hm5 kc hbits hl hP hS
    refine lv_iload hx hb dX4_cellsWith_5 (lv_at hl 4 rfl) ?_
    refine lv_aload_n hx hb dX4_cellsWith_7 rfl (lv_at hl 0 rfl) ?_
    refine va_get (D := G.1) (ci := 4) (v := .int (nI vw)) (C := RX4) (T := TX4) (N := 5) hx hb hts hin4 hown hK.1 hP 1 rfl rfl 2 (by decide) (hts (.fieldLink RX4 28 "BackLenses$Views" "wide" "I") (List.mem_of_getElem? (i := 1) rfl)) (fun _ h9 => h9) rfl dX4_cellsWith_8 ?_
    refine lv_aload_n hx hb dX4_cellsWith_11 rfl (lv_at hl 0 rfl) ?_
    refine va_get (D := G.1) (ci := 4) (v := .int (nI vh)) (C := RX4) (T := TX4) (N := 5) hx hb hts hin4 hown hK.1 hP 1 rfl rfl 3 (by decide) (hts (.fieldLink RX4 32 "BackLenses$Views" "high" "I") (List.mem_of_getElem? (i := 2) rfl)) (fun _ h9 => h9) rfl dX4_cellsWith_12 ?_
    refine xn_imul hx hb dX4_cellsWith_15 ?_
    refine xn_icmp_ge (tgt := 43) hx hb (by omega) (by omega) dX4_cellsWith_16 rfl (fun b16 => ?_) (fun b16 => ?_)
    · skip
      refine lv_iload_n hx hb dX4_cellsWith_43 rfl (lv_at hl 3 rfl) ?_
      refine W.iret (v := bits) hx hb hr (fun t ht hW => ⟨⟨bits, (), rfl, ?_, trivial⟩, hS.F ht⟩) hS.2.2 dX4_cellsWith_44
      rw [hbits, show c = vw * vh by omega]
    · skip
      refine lv_aload_n hx hb dX4_cellsWith_19 rfl (lv_at hl 0 rfl) ?_
      refine lv_iload hx hb dX4_cellsWith_20 (lv_at hl 4 rfl) ?_
      refine lv_iload_n hx hb dX4_cellsWith_22 rfl (lv_at hl 2 rfl) ?_
      refine xr_i (As := [.int (nI c), .int (nI d)]) (rest := []) ⟨hx, hb, hml, hown, hts⟩ (c_X4_markOf l G kv km kg vw vh sl mk c d (by first | assumption | omega)) (cwV 2 hts gX4_cellsWith_X4_markOf rfl rfl rfl (by decide +kernel) ⟨Nat.le_of_ble_eq_true rfl, Nat.le_of_ble_eq_true rfl⟩) hK hP hS [1, 0] rfl rfl rfl rfl hl.1 rfl (Nat.le_of_ble_eq_true rfl) dX4_cellsWith_23 ⟨Nat.zero_le _, Nat.zero_le _⟩ (fun r23 H locs hp23 hP hS => ?_)
      obtain rfl : r23 = mk (d * 16 + c) := hp23
      refine lv_iload_n hx hb dX4_cellsWith_26 rfl (lv_at hl 1 rfl) ?_
      refine lv_icmp_ne (tgt := 37) hx hb dX4_cellsWith_27 rfl (fun b27 => ?_) (fun b27 => ?_)
      · skip
        refine lv_iinc (k := 4) (v := nI (c + 1)) (lv' := [(4, .int (nI (c + 1))), (0, .ref kv), (1, .int m), (2, .int (nI d)), (3, .int bits)]) hx hb dX4_cellsWith_37 hl rfl (xn_inc c 1) (by decide) rfl (fun ls hl => ?_)
        refine lv_goto (tgt := 5) hx hb dX4_cellsWith_40 rfl ?_
        have hl := lv_sub hl (l' := [(0, .ref kv), (1, .int m), (2, .int (nI d)), (3, .int bits), (4, .int (nI (c + 1)))]) [1, 2, 3, 4, 0] rfl
        exact ih5 (vw * vh - (c + 1)) (by omega) (c + 1) bits ls H locs rfl (by omega) (by first | (rw [xbits_f (by simp [b27])]; exact hbits) | (rw [xbits_t (by simp [b27]), ← hbits])) hl hP hS
      · skip
        refine lv_iload_n hx hb dX4_cellsWith_30 rfl (lv_at hl 3 rfl) ?_
        refine lv_iconst (v := nI 1) hx hb dX4_cellsWith_31 (by decide) ?_
        refine lv_iload hx hb dX4_cellsWith_32 (lv_at hl 4 rfl) ?_
        refine lv_ishl hx hb dX4_cellsWith_34 ?_
        refine lv_ior hx hb dX4_cellsWith_35 ?_
        refine lv_istore_n (lv' := [(3, .int (bits ||| ((nI 1) <<< ((nI c) &&& 31)))), (0, .ref kv), (1, .int m), (2, .int (nI d)), (4, .int (nI c))]) hx hb dX4_cellsWith_36 rfl hl (by decide) rfl (fun ls hl => ?_)
        refine lv_iinc (k := 4) (v := nI (c + 1)) (lv' := [(4, .int (nI (c + 1))), (3, .int (bits ||| ((nI 1) <<< ((nI c) &&& 31)))), (0, .ref kv), (1, .int m), (2, .int (nI d))]) hx hb dX4_cellsWith_37 hl rfl (xn_inc c 1) (by decide) rfl (fun ls hl => ?_)
        refine lv_goto (tgt := 5) hx hb dX4_cellsWith_40 rfl ?_
        have hl := lv_sub hl (l' := [(0, .ref kv), (1, .int m), (2, .int (nI d)), (3, .int (bits ||| ((nI 1) <<< ((nI c) &&& 31)))), (4, .int (nI (c + 1)))]) [2, 3, 4, 1, 0] rfl
        exact ih5 (vw * vh - (c + 1)) (by omega) (c + 1) (bits ||| ((nI 1) <<< ((nI c) &&& 31))) ls H locs rfl (by omega) (by first | (rw [xbits_f (by simp [b27])]; exact hbits) | (rw [xbits_t (by simp [b27]), ← hbits])) hl hP hS
  have hl := lv_sub hl (l' := [(0, .ref kv), (1, .int m), (2, .int (nI d)), (3, .int (nI 0)), (4, .int (nI 0))]) [2, 3, 4, 1, 0] rfl
  have hP := hP.sub (ws' := [iA G km 176 mk, oC kv 4 [.ref km, .ref kg, .int (nI vw), .int (nI vh), .int sl]]) [1, 0] rfl
  exact hL5 (vw * vh - 0) 0 (nI 0) ls ss.heap [] rfl (by omega) (by rfl) hl hP hS

abbrev w_X4_tellingApart (G : XG) (kv km kg : Nat) (vw vh : Nat) (sl : Int32) (mk : Nat → Int32) (sg : Nat → Int32) : va_W := [oC kv 4 [.ref km, .ref kg, .int (nI vw), .int (nI vh), .int sl], iA G km 176 mk, iA G kg 160 sg]
abbrev Q_X4_tellingApart (G : XG) (kv km kg : Nat) (vw vh : Nat) (sl : Int32) (mk : Nat → Int32) (sg : Nat → Int32) (d e n : Nat) : Array Value → State → Outcome → State → Prop := (xRi (fun r => r = xbits (fun x => !decide (sg (d * 16 + x) = sg (e * 16 + x)) || !decide (sg (d * 16 + x) &&& xbits (fun c => !decide (mk (d * 16 + c) = mk (e * 16 + c))) (vw * vh) = 0)) n))
set_option maxHeartbeats 4000000 in
set_option maxRecDepth 100000 in
theorem c_X4_tellingApart (l : Launch) (G : XG) (kv km kg : Nat) (vw vh : Nat) (sl : Int32) (mk : Nat → Int32) (sg : Nat → Int32) (d e n : Nat) (hwh : vw * vh ≤ 16) (hd : d ≤ 9) (he : e ≤ 9) (hn : n ≤ 16) : Met l yX4_tellingApart wsX4_tellingApart ({ frames := 2, cells := 0, slots := 0, locals := 46 } : Room) (va_Pc [.ref kv, .int (nI d), .int (nI e), .int (nI n)] (xRp G (w_X4_tellingApart G kv km kg vw vh sl mk sg))) (Q_X4_tellingApart G kv km kg vw vh sl mk sg d e n) 0 0 (fun _ => False) := by
  refine Met.ofW (cc := cX4_tellingApart) (maxL := 7) (ret := (some .int)) (by decide) rfl ?_
  intro pp ee ss mm aa below mt cd s₁ BB hml hv
  obtain ⟨rfl, hP, hK⟩ := hv
  have hx := BB.exec
  have hb := BB.bytes
  have hr := BB.returns
  have hts := atoms_spec (ws := wsX4_tellingApart) BB.pre
  have hown : ss.vm.findClass RX4 = some mm.cls := findClass_of_methodNamed BB.named
  have hlocks := BB.notSynchronized
  have hS : va_S (fun _ => False) ss.heap ss.heap [] := va_S.rf
  replace hP : xP G [oC kv 4 [.ref km, .ref kg, .int (nI vw), .int (nI vh), .int sl], iA G km 176 mk, iA G kg 160 sg] ss.heap := hP
  have hin4 : ∀ w ∈ u_ws RX4 TX4 5, w ∈ wsX4_tellingApart := fun w h => List.mem_cons_of_mem _ (List.mem_append_right _ h)
  have hl := lv_entry ([.ref kv, .int (nI d), .int (nI e), .int (nI n)]) (n := 7) (Nat.le_of_ble_eq_true rfl)
  rw [lg_entry_eq]
  generalize (lg_sl ([.ref kv, .int (nI d), .int (nI e), .int (nI n)]) ++ List.replicate (7 - (lg_sl ([.ref kv, .int (nI d), .int (nI e), .int (nI n)])).length) Slot.unset).toArray = ls at hl ⊢
  replace hl : lv_has ls 7 [(0, .ref kv), (1, .int (nI d)), (2, .int (nI e)), (3, .int (nI n))] := hl
  refine lv_aload_n hx hb dX4_tellingApart_0 rfl (lv_at hl 0 rfl) ?_
  refine lv_iload_n hx hb dX4_tellingApart_1 rfl (lv_at hl 1 rfl) ?_
  refine lv_iload_n hx hb dX4_tellingApart_2 rfl (lv_at hl 2 rfl) ?_
  refine xr_i (As := [.int (nI d), .int (nI e)]) (rest := []) ⟨hx, hb, hml, hown, hts⟩ (c_X4_unlike l G kv km kg vw vh sl mk d e (by first | assumption | omega) (by first | assumption | omega) (by first | assumption | omega)) (cwV 2 hts gX4_tellingApart_X4_unlike rfl rfl rfl (by decide +kernel) ⟨Nat.le_of_ble_eq_true rfl, Nat.le_of_ble_eq_true rfl⟩) hK hP hS [0, 1] rfl rfl rfl rfl hl.1 rfl (Nat.le_of_ble_eq_true rfl) dX4_tellingApart_3 ⟨Nat.zero_le _, Nat.zero_le _⟩ (fun r3 H locs hp3 hP hS => ?_)
  obtain rfl : r3 = xbits (fun c => !decide (mk (d * 16 + c) = mk (e * 16 + c))) (vw * vh) := hp3
  refine lv_istore (lv' := [(4, .int (xbits (fun c => !decide (mk (d * 16 + c) = mk (e * 16 + c))) (vw * vh))), (0, .ref kv), (1, .int (nI d)), (2, .int (nI e)), (3, .int (nI n))]) hx hb dX4_tellingApart_6 hl (by decide) rfl (fun ls hl => ?_)
  refine lv_iconst (v := nI 0) hx hb dX4_tellingApart_8 (by decide) ?_
  refine lv_istore (lv' := [(5, .int (nI 0)), (4, .int (xbits (fun c => !decide (mk (d * 16 + c) = mk (e * 16 + c))) (vw * vh))), (0, .ref kv), (1, .int (nI d)), (2, .int (nI e)), (3, .int (nI n))]) hx hb dX4_tellingApart_9 hl (by decide) rfl (fun ls hl => ?_)
  refine lv_iconst (v := nI 0) hx hb dX4_tellingApart_11 (by decide) ?_
  refine lv_istore (lv' := [(6, .int (nI 0)), (5, .int (nI 0)), (4, .int (xbits (fun c => !decide (mk (d * 16 + c) = mk (e * 16 + c))) (vw * vh))), (0, .ref kv), (1, .int (nI d)), (2, .int (nI e)), (3, .int (nI n))]) hx hb dX4_tellingApart_12 hl (by decide) rfl (fun ls hl => ?_)
  have hL14 : ∀ k : Nat, ∀ (c : Nat) (bits : Int32) (ls : Array Slot) (H : Heap) (locs : List Loc), n - c = k → (c ≤ n) → (bits = xbits (fun x => !decide (sg (d * 16 + x) = sg (e * 16 + x)) || !decide (sg (d * 16 + x) &&& xbits (fun c => !decide (mk (d * 16 + c) = mk (e * 16 + c))) (vw * vh) = 0)) c) → lv_has ls 7 [(0, .ref kv), (1, .int (nI d)), (2, .int (nI e)), (3, .int (nI n)), (4, .int (xbits (fun c => !decide (mk (d * 16 + c) = mk (e * 16 + c))) (vw * vh))), (5, .int bits), (6, .int (nI c))] → xP G [iA G kg 160 sg, iA G km 176 mk, oC kv 4 [.ref km, .ref kg, .int (nI vw), .int (nI vh), .int sl]] H → va_S (fun _ => False) ss.heap H locs → W pp l ee ({ frames := 2, cells := 0, slots := 0, locals := 46 } : Room) ss mm ([.ref kv, .int (nI d), .int (nI e), .int (nI n)] : List Value).toArray below mt cd H locs 0 0 (MQ below (Q_X4_tellingApart G kv km kg vw vh sl mk sg d e n) ([.ref kv, .int (nI d), .int (nI e), .int (nI n)] : List Value).toArray ss 0 0 (fun _ => False)) (F0 mm 14 ls []) := by
    intro k
    induction k using Nat.strongRecOn with
    | _ k ih14 =>
    intro c bits ls H locs hm14 kc hbits hl hP hS
    refine lv_iload hx hb dX4_tellingApart_14 (lv_at hl 6 rfl) ?_
    refine lv_iload_n hx hb dX4_tellingApart_16 rfl (lv_at hl 3 rfl) ?_
    refine xn_icmp_ge (tgt := 65) hx hb (by omega) (by omega) dX4_tellingApart_17 rfl (fun b17 => ?_) (fun b17 => ?_)
    · skip
      refine lv_iload hx hb dX4_tellingApart_65 (lv_at hl 5 rfl) ?_
      refine W.iret (v := bits) hx hb hr (fun t ht hW => ⟨⟨bits, (), rfl, ?_, trivial⟩, hS.F ht⟩) hS.2.2 dX4_tellingApart_67
      rw [hbits, show c = n by omega]
    · skip
      refine lv_aload_n hx hb dX4_tellingApart_20 rfl (lv_at hl 0 rfl) ?_
      refine lv_iload hx hb dX4_tellingApart_21 (lv_at hl 6 rfl) ?_
      refine lv_iload_n hx hb dX4_tellingApart_23 rfl (lv_at hl 1 rfl) ?_
      refine xr_i (As := [.int (nI c), .int (nI d)]) (rest := []) ⟨hx, hb, hml, hown, hts⟩ (c_X4_sightOf l G kv km kg vw vh sl sg c d (by first | assumption | omega)) (cwV 2 hts gX4_tellingApart_X4_sightOf rfl rfl rfl (by decide +kernel) ⟨Nat.le_of_ble_eq_true rfl, Nat.le_of_ble_eq_true rfl⟩) hK hP hS [2, 0] rfl rfl rfl rfl hl.1 rfl (Nat.le_of_ble_eq_true rfl) dX4_tellingApart_24 ⟨Nat.zero_le _, Nat.zero_le _⟩ (fun r24 H locs hp24 hP hS => ?_)
      obtain rfl : r24 = sg (d * 16 + c) := hp24
      refine lv_aload_n hx hb dX4_tellingApart_27 rfl (lv_at hl 0 rfl) ?_
      refine lv_iload hx hb dX4_tellingApart_28 (lv_at hl 6 rfl) ?_
      refine lv_iload_n hx hb dX4_tellingApart_30 rfl (lv_at hl 2 rfl) ?_
      refine xr_i (As := [.int (nI c), .int (nI e)]) (rest := [.int (sg (d * 16 + c))]) ⟨hx, hb, hml, hown, hts⟩ (c_X4_sightOf l G kv km kg vw vh sl sg c e (by first | assumption | omega)) (cwV 2 hts gX4_tellingApart_X4_sightOf rfl rfl rfl (by decide +kernel) ⟨Nat.le_of_ble_eq_true rfl, Nat.le_of_ble_eq_true rfl⟩) hK hP hS [2, 0] rfl rfl rfl rfl hl.1 rfl (Nat.le_of_ble_eq_true rfl) dX4_tellingApart_31 ⟨Nat.zero_le _, Nat.zero_le _⟩ (fun r31 H locs hp31 hP hS => ?_)
      obtain rfl : r31 = sg (e * 16 + c) := hp31
      refine lv_icmp_ne (tgt := 50) hx hb dX4_tellingApart_34 rfl (fun b34 => ?_) (fun b34 => ?_)
      · skip
        refine lv_iload hx hb dX4_tellingApart_50 (lv_at hl 5 rfl) ?_
        refine lv_iconst (v := nI 1) hx hb dX4_tellingApart_52 (by decide) ?_
        refine lv_iload hx hb dX4_tellingApart_53 (lv_at hl 6 rfl) ?_
        refine lv_ishl hx hb dX4_tellingApart_55 ?_
        refine lv_ior hx hb dX4_tellingApart_56 ?_
        refine lv_istore (lv' := [(5, .int (bits ||| ((nI 1) <<< ((nI c) &&& 31)))), (0, .ref kv), (1, .int (nI d)), (2, .int (nI e)), (3, .int (nI n)), (4, .int (xbits (fun c => !decide (mk (d * 16 + c) = mk (e * 16 + c))) (vw * vh))), (6, .int (nI c))]) hx hb dX4_tellingApart_57 hl (by decide) rfl (fun ls hl => ?_)
        refine lv_iinc (k := 6) (v := nI (c + 1)) (lv' := [(6, .int (nI (c + 1))), (5, .int (bits ||| ((nI 1) <<< ((nI c) &&& 31)))), (0, .ref kv), (1, .int (nI d)), (2, .int (nI e)), (3, .int (nI n)), (4, .int (xbits (fun c => !decide (mk (d * 16 + c) = mk (e * 16 + c))) (vw * vh)))]) hx hb dX4_tellingApart_59 hl rfl (xn_inc c 1) (by decide) rfl (fun ls hl => ?_)
        refine lv_goto (tgt := 14) hx hb dX4_tellingApart_62 rfl ?_
        have hl := lv_sub hl (l' := [(0, .ref kv), (1, .int (nI d)), (2, .int (nI e)), (3, .int (nI n)), (4, .int (xbits (fun c => !decide (mk (d * 16 + c) = mk (e * 16 + c))) (vw * vh))), (5, .int (bits ||| ((nI 1) <<< ((nI c) &&& 31)))), (6, .int (nI (c + 1)))]) [2, 3, 4, 5, 6, 1, 0] rfl
        exact ih14 (n - (c + 1)) (by omega) (c + 1) (bits ||| ((nI 1) <<< ((nI c) &&& 31))) ls H locs rfl (by omega) (by first | (rw [xbits_f (by simp only [decide_eq_true b34, decide_eq_true b47]; decide)]; exact hbits) | (rw [xbits_t (by simp only [decide_eq_false b47]; simp), ← hbits]) | (rw [xbits_t (by simp only [decide_eq_false b34]; simp), ← hbits])) hl hP hS
      · skip
        refine lv_aload_n hx hb dX4_tellingApart_37 rfl (lv_at hl 0 rfl) ?_
        refine lv_iload hx hb dX4_tellingApart_38 (lv_at hl 6 rfl) ?_
        refine lv_iload_n hx hb dX4_tellingApart_40 rfl (lv_at hl 1 rfl) ?_
        refine xr_i (As := [.int (nI c), .int (nI d)]) (rest := []) ⟨hx, hb, hml, hown, hts⟩ (c_X4_sightOf l G kv km kg vw vh sl sg c d (by first | assumption | omega)) (cwV 2 hts gX4_tellingApart_X4_sightOf rfl rfl rfl (by decide +kernel) ⟨Nat.le_of_ble_eq_true rfl, Nat.le_of_ble_eq_true rfl⟩) hK hP hS [2, 0] rfl rfl rfl rfl hl.1 rfl (Nat.le_of_ble_eq_true rfl) dX4_tellingApart_41 ⟨Nat.zero_le _, Nat.zero_le _⟩ (fun r41 H locs hp41 hP hS => ?_)
        obtain rfl : r41 = sg (d * 16 + c) := hp41
        refine lv_iload hx hb dX4_tellingApart_44 (lv_at hl 4 rfl) ?_
        refine lv_iand hx hb dX4_tellingApart_46 ?_
        refine lv_if_eq (tgt := 59) hx hb dX4_tellingApart_47 rfl (fun b47 => ?_) (fun b47 => ?_)
        · skip
          refine lv_iinc (k := 6) (v := nI (c + 1)) (lv' := [(6, .int (nI (c + 1))), (0, .ref kv), (1, .int (nI d)), (2, .int (nI e)), (3, .int (nI n)), (4, .int (xbits (fun c => !decide (mk (d * 16 + c) = mk (e * 16 + c))) (vw * vh))), (5, .int bits)]) hx hb dX4_tellingApart_59 hl rfl (xn_inc c 1) (by decide) rfl (fun ls hl => ?_)
          refine lv_goto (tgt := 14) hx hb dX4_tellingApart_62 rfl ?_
          have hl := lv_sub hl (l' := [(0, .ref kv), (1, .int (nI d)), (2, .int (nI e)), (3, .int (nI n)), (4, .int (xbits (fun c => !decide (mk (d * 16 + c) = mk (e * 16 + c))) (vw * vh))), (5, .int bits), (6, .int (nI (c + 1)))]) [1, 2, 3, 4, 5, 6, 0] rfl
          exact ih14 (n - (c + 1)) (by omega) (c + 1) bits ls H locs rfl (by omega) (by first | (rw [xbits_f (by simp only [decide_eq_true b34, decide_eq_true b47]; decide)]; exact hbits) | (rw [xbits_t (by simp only [decide_eq_false b47]; simp), ← hbits]) | (rw [xbits_t (by simp only [decide_eq_false b34]; simp), ← hbits])) hl hP hS
        · skip
          refine lv_iload hx hb dX4_tellingApart_50 (lv_at hl 5 rfl) ?_
          refine lv_iconst (v := nI 1) hx hb dX4_tellingApart_52 (by decide) ?_
          refine lv_iload hx hb dX4_tellingApart_53 (lv_at hl 6 rfl) ?_
          refine lv_ishl hx hb dX4_tellingApart_55 ?_
          refine lv_ior hx hb dX4_tellingApart_56 ?_
          refine lv_istore (lv' := [(5, .int (bits ||| ((nI 1) <<< ((nI c) &&& 31)))), (0, .ref kv), (1, .int (nI d)), (2, .int (nI e)), (3, .int (nI n)), (4, .int (xbits (fun c => !decide (mk (d * 16 + c) = mk (e * 16 + c))) (vw * vh))), (6, .int (nI c))]) hx hb dX4_tellingApart_57 hl (by decide) rfl (fun ls hl => ?_)
          refine lv_iinc (k := 6) (v := nI (c + 1)) (lv' := [(6, .int (nI (c + 1))), (5, .int (bits ||| ((nI 1) <<< ((nI c) &&& 31)))), (0, .ref kv), (1, .int (nI d)), (2, .int (nI e)), (3, .int (nI n)), (4, .int (xbits (fun c => !decide (mk (d * 16 + c) = mk (e * 16 + c))) (vw * vh)))]) hx hb dX4_tellingApart_59 hl rfl (xn_inc c 1) (by decide) rfl (fun ls hl => ?_)
          refine lv_goto (tgt := 14) hx hb dX4_tellingApart_62 rfl ?_
          have hl := lv_sub hl (l' := [(0, .ref kv), (1, .int (nI d)), (2, .int (nI e)), (3, .int (nI n)), (4, .int (xbits (fun c => !decide (mk (d * 16 + c) = mk (e * 16 + c))) (vw * vh))), (5, .int (bits ||| ((nI 1) <<< ((nI c) &&& 31)))), (6, .int (nI (c + 1)))]) [2, 3, 4, 5, 6, 1, 0] rfl
          exact ih14 (n - (c + 1)) (by omega) (c + 1) (bits ||| ((nI 1) <<< ((nI c) &&& 31))) ls H locs rfl (by omega) (by first | (rw [xbits_f (by simp only [decide_eq_true b34, decide_eq_true b47]; decide)]; exact hbits) | (rw [xbits_t (by simp only [decide_eq_false b47]; simp), ← hbits]) | (rw [xbits_t (by simp only [decide_eq_false b34]; simp), ← hbits])) hl hP hS
  have hl := lv_sub hl (l' := [(0, .ref kv), (1, .int (nI d)), (2, .int (nI e)), (3, .int (nI n)), (4, .int (xbits (fun c => !decide (mk (d * 16 + c) = mk (e * 16 + c))) (vw * vh))), (5, .int (nI 0)), (6, .int (nI 0))]) [3, 4, 5, 6, 2, 1, 0] rfl
  have hP := hP.sub (ws' := [iA G kg 160 sg, iA G km 176 mk, oC kv 4 [.ref km, .ref kg, .int (nI vw), .int (nI vh), .int sl]]) [2, 1, 0] rfl
  exact hL14 (n - 0) 0 (nI 0) ls H locs rfl (by omega) (by rfl) hl hP hS

abbrev w_X4_answerOf (G : XG) (kv km kg : Nat) (vw vh : Nat) (sl : Int32) (mk : Nat → Int32) (sg : Nat → Int32) : va_W := [oC kv 4 [.ref km, .ref kg, .int (nI vw), .int (nI vh), .int sl], iA G km 176 mk, iA G kg 160 sg]
abbrev Q_X4_answerOf (G : XG) (kv km kg : Nat) (vw vh : Nat) (sl : Int32) (mk : Nat → Int32) (sg : Nat → Int32) (x c d : Nat) : Array Value → State → Outcome → State → Prop := (xRi (fun r => r = (if (sg (d * 16 + x) >>> (nI c &&& 31)) &&& nI 1 = 0 then (-4) else mk (d * 16 + c))))
set_option maxHeartbeats 4000000 in
set_option maxRecDepth 100000 in
theorem c_X4_answerOf (l : Launch) (G : XG) (kv km kg : Nat) (vw vh : Nat) (sl : Int32) (mk : Nat → Int32) (sg : Nat → Int32) (x c d : Nat) (hd : d ≤ 9) (kx : x < 16) (kc : c < 16) : Met l yX4_answerOf wsX4_answerOf ({ frames := 1, cells := 0, slots := 0, locals := 22 } : Room) (va_Pc [.ref kv, .int (nI x), .int (nI c), .int (nI d)] (xRp G (w_X4_answerOf G kv km kg vw vh sl mk sg))) (Q_X4_answerOf G kv km kg vw vh sl mk sg x c d) 0 0 (fun _ => False) := by
  refine Met.ofW (cc := cX4_answerOf) (maxL := 4) (ret := (some .int)) (by decide) rfl ?_
  intro pp ee ss mm aa below mt cd s₁ BB hml hv
  obtain ⟨rfl, hP, hK⟩ := hv
  have hx := BB.exec
  have hb := BB.bytes
  have hr := BB.returns
  have hts := atoms_spec (ws := wsX4_answerOf) BB.pre
  have hown : ss.vm.findClass RX4 = some mm.cls := findClass_of_methodNamed BB.named
  have hlocks := BB.notSynchronized
  have hS : va_S (fun _ => False) ss.heap ss.heap [] := va_S.rf
  replace hP : xP G [oC kv 4 [.ref km, .ref kg, .int (nI vw), .int (nI vh), .int sl], iA G km 176 mk, iA G kg 160 sg] ss.heap := hP
  have hin4 : ∀ w ∈ u_ws RX4 TX4 5, w ∈ wsX4_answerOf := fun w h => List.mem_cons_of_mem _ (List.mem_append_right _ h)
  have hl := lv_entry ([.ref kv, .int (nI x), .int (nI c), .int (nI d)]) (n := 4) (Nat.le_of_ble_eq_true rfl)
  rw [lg_entry_eq]
  generalize (lg_sl ([.ref kv, .int (nI x), .int (nI c), .int (nI d)]) ++ List.replicate (4 - (lg_sl ([.ref kv, .int (nI x), .int (nI c), .int (nI d)])).length) Slot.unset).toArray = ls at hl ⊢
  replace hl : lv_has ls 4 [(0, .ref kv), (1, .int (nI x)), (2, .int (nI c)), (3, .int (nI d))] := hl
  refine lv_aload_n hx hb dX4_answerOf_0 rfl (lv_at hl 0 rfl) ?_
  refine lv_iload_n hx hb dX4_answerOf_1 rfl (lv_at hl 1 rfl) ?_
  refine lv_iload_n hx hb dX4_answerOf_2 rfl (lv_at hl 3 rfl) ?_
  refine xr_i (As := [.int (nI x), .int (nI d)]) (rest := []) ⟨hx, hb, hml, hown, hts⟩ (c_X4_sightOf l G kv km kg vw vh sl sg x d (by first | assumption | omega)) (cwV 2 hts gX4_answerOf_X4_sightOf rfl rfl rfl (by decide +kernel) ⟨Nat.le_of_ble_eq_true rfl, Nat.le_of_ble_eq_true rfl⟩) hK hP hS [0, 2] rfl rfl rfl rfl hl.1 rfl (Nat.le_of_ble_eq_true rfl) dX4_answerOf_3 ⟨Nat.zero_le _, Nat.zero_le _⟩ (fun r3 H locs hp3 hP hS => ?_)
  obtain rfl : r3 = sg (d * 16 + x) := hp3
  refine lv_iload_n hx hb dX4_answerOf_6 rfl (lv_at hl 2 rfl) ?_
  refine lv_ishr hx hb dX4_answerOf_7 ?_
  refine lv_iconst (v := nI 1) hx hb dX4_answerOf_8 (by decide) ?_
  refine lv_iand hx hb dX4_answerOf_9 ?_
  refine lv_if_eq (tgt := 22) hx hb dX4_answerOf_10 rfl (fun b10 => ?_) (fun b10 => ?_)
  · skip
    refine lv_bipush (v := (-4)) hx hb dX4_answerOf_22 (by decide) ?_
    refine W.iret (v := (-4)) hx hb hr (fun t ht hW => ⟨⟨(-4), (), rfl, ?_, trivial⟩, hS.F ht⟩) hS.2.2 dX4_answerOf_24
    first | exact (if_pos b10).symm | exact (if_neg b10).symm
  · skip
    refine lv_aload_n hx hb dX4_answerOf_13 rfl (lv_at hl 0 rfl) ?_
    refine lv_iload_n hx hb dX4_answerOf_14 rfl (lv_at hl 2 rfl) ?_
    refine lv_iload_n hx hb dX4_answerOf_15 rfl (lv_at hl 3 rfl) ?_
    refine xr_i (As := [.int (nI c), .int (nI d)]) (rest := []) ⟨hx, hb, hml, hown, hts⟩ (c_X4_markOf l G kv km kg vw vh sl mk c d (by first | assumption | omega)) (cwV 2 hts gX4_answerOf_X4_markOf rfl rfl rfl (by decide +kernel) ⟨Nat.le_of_ble_eq_true rfl, Nat.le_of_ble_eq_true rfl⟩) hK hP hS [0, 1] rfl rfl rfl rfl hl.1 rfl (Nat.le_of_ble_eq_true rfl) dX4_answerOf_16 ⟨Nat.zero_le _, Nat.zero_le _⟩ (fun r16 H locs hp16 hP hS => ?_)
    obtain rfl : r16 = mk (d * 16 + c) := hp16
    refine lv_goto (tgt := 24) hx hb dX4_answerOf_19 rfl ?_
    refine W.iret (v := mk (d * 16 + c)) hx hb hr (fun t ht hW => ⟨⟨mk (d * 16 + c), (), rfl, ?_, trivial⟩, hS.F ht⟩) hS.2.2 dX4_answerOf_24
    first | exact (if_pos b10).symm | exact (if_neg b10).symm

abbrev w_X4_copyToSpareDay (G : XG) (kv km kg : Nat) (vw vh : Nat) (sl : Int32) (mk : Nat → Int32) : va_W := [oC kv 4 [.ref km, .ref kg, .int (nI vw), .int (nI vh), .int sl], iA G km 176 mk]
abbrev Q_X4_copyToSpareDay (G : XG) (sz : Nat) (kv km kg : Nat) (vw vh : Nat) (sl : Int32) (mk : Nat → Int32) (d : Nat) : Array Value → State → Outcome → State → Prop := (va_Qv (fun (u : (Nat → Int32)) => u = va_cpy mk mk (d * 16) 160 16) (xWb G sz (w_X4_copyToSpareDay G kv km kg vw vh sl mk) (fun u : (Nat → Int32) => [oC kv 4 [.ref km, .ref kg, .int (nI vw), .int (nI vh), .int sl], iA G km 176 u])) (va_A (w_X4_copyToSpareDay G kv km kg vw vh sl mk) sz))
set_option maxHeartbeats 4000000 in
set_option maxRecDepth 100000 in
theorem c_X4_copyToSpareDay (l : Launch) (G : XG) (sz : Nat) (kv km kg : Nat) (vw vh : Nat) (sl : Int32) (mk : Nat → Int32) (d : Nat) (hd : d ≤ 9) : Met l yX4_copyToSpareDay wsX4_copyToSpareDay ({ frames := 1, cells := 0, slots := 0, locals := 18 } : Room) (va_Pc [.ref kv, .int (nI d)] (xWp G sz (w_X4_copyToSpareDay G kv km kg vw vh sl mk))) (Q_X4_copyToSpareDay G sz kv km kg vw vh sl mk d) 0 0 (va_A (w_X4_copyToSpareDay G kv km kg vw vh sl mk) sz) := by
  refine Met.ofW (cc := cX4_copyToSpareDay) (maxL := 2) (ret := none) (by decide) rfl ?_
  intro pp ee ss mm aa below mt cd s₁ BB hml hv
  obtain ⟨rfl, hsz, hP, hK, hD0⟩ := hv
  have hx := BB.exec
  have hb := BB.bytes
  have hr := BB.returns
  have hts := atoms_spec (ws := wsX4_copyToSpareDay) BB.pre
  have hown : ss.vm.findClass RX4 = some mm.cls := findClass_of_methodNamed BB.named
  have hlocks := BB.notSynchronized
  subst hsz
  have hD := hD0.self (sz := ss.heap.size)
  have hA : ∀ q : Nat, ss.heap.size ≤ q → va_A (w_X4_copyToSpareDay G kv km kg vw vh sl mk) ss.heap.size q := fun q h => Or.inr h
  have hS : va_S (va_A (w_X4_copyToSpareDay G kv km kg vw vh sl mk) ss.heap.size) ss.heap ss.heap [] := va_S.rf
  replace hD : va_D (va_A (w_X4_copyToSpareDay G kv km kg vw vh sl mk) ss.heap.size) [oC kv 4 [.ref km, .ref kg, .int (nI vw), .int (nI vh), .int sl], iA G km 176 mk] := hD
  replace hP : xP G [oC kv 4 [.ref km, .ref kg, .int (nI vw), .int (nI vh), .int sl], iA G km 176 mk] ss.heap := hP
  have hin4 : ∀ w ∈ u_ws RX4 TX4 5, w ∈ wsX4_copyToSpareDay := fun w h => List.mem_cons_of_mem _ (List.mem_append_right _ h)
  have hl := lv_entry ([.ref kv, .int (nI d)]) (n := 2) (Nat.le_of_ble_eq_true rfl)
  rw [lg_entry_eq]
  generalize (lg_sl ([.ref kv, .int (nI d)]) ++ List.replicate (2 - (lg_sl ([.ref kv, .int (nI d)])).length) Slot.unset).toArray = ls at hl ⊢
  replace hl : lv_has ls 2 [(0, .ref kv), (1, .int (nI d))] := hl
  refine lv_aload_n hx hb dX4_copyToSpareDay_0 rfl (lv_at hl 0 rfl) ?_
  refine va_get (D := G.1) (ci := 4) (v := .ref km) (C := RX4) (T := TX4) (N := 5) hx hb hts hin4 hown hK.1 hP 0 rfl rfl 0 (by decide) (hts (.fieldLink RX4 9 "BackLenses$Views" "marks" "[I") (List.mem_of_getElem? (i := 1) rfl)) (fun _ h9 => h9) rfl dX4_copyToSpareDay_1 ?_
  refine lv_iload_n hx hb dX4_copyToSpareDay_4 rfl (lv_at hl 1 rfl) ?_
  refine lv_bipush (v := nI 16) hx hb dX4_copyToSpareDay_5 (by decide) ?_
  refine xn_imul hx hb dX4_copyToSpareDay_7 ?_
  refine lv_aload_n hx hb dX4_copyToSpareDay_8 rfl (lv_at hl 0 rfl) ?_
  refine va_get (D := G.1) (ci := 4) (v := .ref km) (C := RX4) (T := TX4) (N := 5) hx hb hts hin4 hown hK.1 hP 0 rfl rfl 0 (by decide) (hts (.fieldLink RX4 9 "BackLenses$Views" "marks" "[I") (List.mem_of_getElem? (i := 1) rfl)) (fun _ h9 => h9) rfl dX4_copyToSpareDay_9 ?_
  refine lv_sipush (v := nI 160) hx hb dX4_copyToSpareDay_12 (by decide) ?_
  refine lv_bipush (v := nI 16) hx hb dX4_copyToSpareDay_15 (by decide) ?_
  refine xn_copyi (n := 16) (sp := d * 16) (dp := 160) hx hb (by rw [hml]; exact hl.1.symm) hown (hts (.methodLink RX4 47 arraycopyName) (List.mem_of_getElem? (i := 2) rfl)) (hts (.native arraycopyName) (List.mem_of_getElem? (i := 3) rfl)) (hts (.static arraycopyName) (List.mem_of_getElem? (i := 4) rfl)) (hts (.initialized "java/lang/System") (List.mem_of_getElem? (i := 5) rfl)) hK hP hD hS 1 1 rfl rfl (by omega) (by omega) (by omega) (by omega) (Nat.le_of_ble_eq_true rfl) (Nat.le_of_ble_eq_true rfl) dX4_copyToSpareDay_17 (fun H locs hP hD hS => ?_)
  replace hP : xP G [oC kv 4 [.ref km, .ref kg, .int (nI vw), .int (nI vh), .int sl], iA G km 176 (va_cpy mk mk (d * 16) 160 16)] H := hP
  replace hD : va_D (va_A (w_X4_copyToSpareDay G kv km kg vw vh sl mk) ss.heap.size) [oC kv 4 [.ref km, .ref kg, .int (nI vw), .int (nI vh), .int sl], iA G km 176 (va_cpy mk mk (d * 16) 160 16)] := hD
  have hP := hP.sub (ws' := [oC kv 4 [.ref km, .ref kg, .int (nI vw), .int (nI vh), .int sl], iA G km 176 (va_cpy mk mk (d * 16) 160 16)]) [0, 1] rfl
  have hD := hD.sub (ws' := [oC kv 4 [.ref km, .ref kg, .int (nI vw), .int (nI vh), .int sl], iA G km 176 (va_cpy mk mk (d * 16) 160 16)]) [0, 1] (by decide) rfl
  refine W.vret hx hb hr (fun t ht hW => ⟨⟨(va_cpy mk mk (d * 16) 160 16), rfl, ?_, by rw [ht]; exact hP, hD⟩, hS.F ht⟩) hS.2.2 dX4_copyToSpareDay_20
  rfl

abbrev w_X4_markOnSpareDay (G : XG) (kv km kg : Nat) (vw vh : Nat) (sl : Int32) (mk : Nat → Int32) : va_W := [oC kv 4 [.ref km, .ref kg, .int (nI vw), .int (nI vh), .int sl], iA G km 176 mk]
abbrev Q_X4_markOnSpareDay (G : XG) (sz : Nat) (kv km kg : Nat) (vw vh : Nat) (sl : Int32) (mk : Nat → Int32) (c : Nat) (m : Int32) : Array Value → State → Outcome → State → Prop := (va_Qv (fun (u : (Nat → Int32)) => u = upd mk (160 + c) m) (xWb G sz (w_X4_markOnSpareDay G kv km kg vw vh sl mk) (fun u : (Nat → Int32) => [oC kv 4 [.ref km, .ref kg, .int (nI vw), .int (nI vh), .int sl], iA G km 176 u])) (va_A (w_X4_markOnSpareDay G kv km kg vw vh sl mk) sz))
set_option maxHeartbeats 4000000 in
set_option maxRecDepth 100000 in
theorem c_X4_markOnSpareDay (l : Launch) (G : XG) (sz : Nat) (kv km kg : Nat) (vw vh : Nat) (sl : Int32) (mk : Nat → Int32) (c : Nat) (m : Int32) (kc : c < 16) : Met l yX4_markOnSpareDay wsX4_markOnSpareDay ({ frames := 0, cells := 0, slots := 0, locals := 0 } : Room) (va_Pc [.ref kv, .int (nI c), .int m] (xWp G sz (w_X4_markOnSpareDay G kv km kg vw vh sl mk))) (Q_X4_markOnSpareDay G sz kv km kg vw vh sl mk c m) 0 0 (va_A (w_X4_markOnSpareDay G kv km kg vw vh sl mk) sz) := by
  refine Met.ofW (cc := cX4_markOnSpareDay) (maxL := 3) (ret := none) (by decide) rfl ?_
  intro pp ee ss mm aa below mt cd s₁ BB hml hv
  obtain ⟨rfl, hsz, hP, hK, hD0⟩ := hv
  have hx := BB.exec
  have hb := BB.bytes
  have hr := BB.returns
  have hts := atoms_spec (ws := wsX4_markOnSpareDay) BB.pre
  have hown : ss.vm.findClass RX4 = some mm.cls := findClass_of_methodNamed BB.named
  have hlocks := BB.notSynchronized
  subst hsz
  have hD := hD0.self (sz := ss.heap.size)
  have hA : ∀ q : Nat, ss.heap.size ≤ q → va_A (w_X4_markOnSpareDay G kv km kg vw vh sl mk) ss.heap.size q := fun q h => Or.inr h
  have hS : va_S (va_A (w_X4_markOnSpareDay G kv km kg vw vh sl mk) ss.heap.size) ss.heap ss.heap [] := va_S.rf
  replace hD : va_D (va_A (w_X4_markOnSpareDay G kv km kg vw vh sl mk) ss.heap.size) [oC kv 4 [.ref km, .ref kg, .int (nI vw), .int (nI vh), .int sl], iA G km 176 mk] := hD
  replace hP : xP G [oC kv 4 [.ref km, .ref kg, .int (nI vw), .int (nI vh), .int sl], iA G km 176 mk] ss.heap := hP
  have hin4 : ∀ w ∈ u_ws RX4 TX4 5, w ∈ wsX4_markOnSpareDay := fun w h => List.mem_cons_of_mem _ (List.mem_append_right _ h)
  have hl := lv_entry ([.ref kv, .int (nI c), .int m]) (n := 3) (Nat.le_of_ble_eq_true rfl)
  rw [lg_entry_eq]
  generalize (lg_sl ([.ref kv, .int (nI c), .int m]) ++ List.replicate (3 - (lg_sl ([.ref kv, .int (nI c), .int m])).length) Slot.unset).toArray = ls at hl ⊢
  replace hl : lv_has ls 3 [(0, .ref kv), (1, .int (nI c)), (2, .int m)] := hl
  refine lv_aload_n hx hb dX4_markOnSpareDay_0 rfl (lv_at hl 0 rfl) ?_
  refine va_get (D := G.1) (ci := 4) (v := .ref km) (C := RX4) (T := TX4) (N := 5) hx hb hts hin4 hown hK.1 hP 0 rfl rfl 0 (by decide) (hts (.fieldLink RX4 9 "BackLenses$Views" "marks" "[I") (List.mem_of_getElem? (i := 1) rfl)) (fun _ h9 => h9) rfl dX4_markOnSpareDay_1 ?_
  refine lv_sipush (v := nI 160) hx hb dX4_markOnSpareDay_4 (by decide) ?_
  refine lv_iload_n hx hb dX4_markOnSpareDay_7 rfl (lv_at hl 1 rfl) ?_
  refine xn_iadd hx hb dX4_markOnSpareDay_8 ?_
  refine lv_iload_n hx hb dX4_markOnSpareDay_9 rfl (lv_at hl 2 rfl) ?_
  refine xn_iast hx hb hK hP hD hS 1 rfl (by omega) (by omega) dX4_markOnSpareDay_10 (fun H locs hP hD hS => ?_)
  replace hP : xP G [oC kv 4 [.ref km, .ref kg, .int (nI vw), .int (nI vh), .int sl], iA G km 176 (upd mk (160 + c) m)] H := hP
  replace hD : va_D (va_A (w_X4_markOnSpareDay G kv km kg vw vh sl mk) ss.heap.size) [oC kv 4 [.ref km, .ref kg, .int (nI vw), .int (nI vh), .int sl], iA G km 176 (upd mk (160 + c) m)] := hD
  have hP := hP.sub (ws' := [oC kv 4 [.ref km, .ref kg, .int (nI vw), .int (nI vh), .int sl], iA G km 176 (upd mk (160 + c) m)]) [0, 1] rfl
  have hD := hD.sub (ws' := [oC kv 4 [.ref km, .ref kg, .int (nI vw), .int (nI vh), .int sl], iA G km 176 (upd mk (160 + c) m)]) [0, 1] (by decide) rfl
  refine W.vret hx hb hr (fun t ht hW => ⟨⟨(upd mk (160 + c) m), rfl, ?_, by rw [ht]; exact hP, hD⟩, hS.F ht⟩) hS.2.2 dX4_markOnSpareDay_11
  rfl

abbrev w_X4_ray (G : XG) (kv km kg : Nat) (vw vh : Nat) (sl : Int32) (mk : Nat → Int32) : va_W := [oC kv 4 [.ref km, .ref kg, .int (nI vw), .int (nI vh), .int sl], iA G km 176 mk]
abbrev Q_X4_ray (G : XG) (kv km kg : Nat) (vw vh : Nat) (sl : Int32) (mk : Nat → Int32) (at0 x : Nat) (step : Int32) (st : Nat) (door : Int32) (cf : Nat → Nat) : Array Value → State → Outcome → State → Prop := (xRi (fun r => r = rayF (fun c => mk (at0 + c)) cf door st 1 (nI 0)))
set_option maxHeartbeats 4000000 in
set_option maxRecDepth 100000 in
theorem c_X4_ray (l : Launch) (G : XG) (kv km kg : Nat) (vw vh : Nat) (sl : Int32) (mk : Nat → Int32) (at0 x : Nat) (step : Int32) (st : Nat) (door : Int32) (cf : Nat → Nat) (hst : st ≤ 16) (hcf : ∀ i, 1 ≤ i → i ≤ st → nI x + nI i * step = nI (cf i) ∧ at0 + cf i < 176) : Met l yX4_ray wsX4_ray ({ frames := 0, cells := 0, slots := 0, locals := 0 } : Room) (va_Pc [.ref kv, .int (nI at0), .int (nI x), .int step, .int (nI st), .int door] (xRp G (w_X4_ray G kv km kg vw vh sl mk))) (Q_X4_ray G kv km kg vw vh sl mk at0 x step st door cf) 0 0 (fun _ => False) := by
  refine Met.ofW (cc := cX4_ray) (maxL := 10) (ret := (some .int)) (by decide) rfl ?_
  intro pp ee ss mm aa below mt cd s₁ BB hml hv
  obtain ⟨rfl, hP, hK⟩ := hv
  have hx := BB.exec
  have hb := BB.bytes
  have hr := BB.returns
  have hts := atoms_spec (ws := wsX4_ray) BB.pre
  have hown : ss.vm.findClass RX4 = some mm.cls := findClass_of_methodNamed BB.named
  have hlocks := BB.notSynchronized
  have hS : va_S (fun _ => False) ss.heap ss.heap [] := va_S.rf
  replace hP : xP G [oC kv 4 [.ref km, .ref kg, .int (nI vw), .int (nI vh), .int sl], iA G km 176 mk] ss.heap := hP
  have hin4 : ∀ w ∈ u_ws RX4 TX4 5, w ∈ wsX4_ray := fun w h => List.mem_cons_of_mem _ (List.mem_append_right _ h)
  have hl := lv_entry ([.ref kv, .int (nI at0), .int (nI x), .int step, .int (nI st), .int door]) (n := 10) (Nat.le_of_ble_eq_true rfl)
  rw [lg_entry_eq]
  generalize (lg_sl ([.ref kv, .int (nI at0), .int (nI x), .int step, .int (nI st), .int door]) ++ List.replicate (10 - (lg_sl ([.ref kv, .int (nI at0), .int (nI x), .int step, .int (nI st), .int door])).length) Slot.unset).toArray = ls at hl ⊢
  replace hl : lv_has ls 10 [(0, .ref kv), (1, .int (nI at0)), (2, .int (nI x)), (3, .int step), (4, .int (nI st)), (5, .int door)] := hl
  refine lv_iconst (v := nI 0) hx hb dX4_ray_0 (by decide) ?_
  refine lv_istore (lv' := [(6, .int (nI 0)), (0, .ref kv), (1, .int (nI at0)), (2, .int (nI x)), (3, .int step), (4, .int (nI st)), (5, .int door)]) hx hb dX4_ray_1 hl (by decide) rfl (fun ls hl => ?_)
  refine lv_iconst (v := nI 1) hx hb dX4_ray_3 (by decide) ?_
  refine lv_istore (lv' := [(7, .int (nI 1)), (6, .int (nI 0)), (0, .ref kv), (1, .int (nI at0)), (2, .int (nI x)), (3, .int step), (4, .int (nI st)), (5, .int door)]) hx hb dX4_ray_4 hl (by decide) rfl (fun ls hl => ?_)
  have hL6 : ∀ k : Nat, ∀ (i : Nat) (acc : Int32) (ls : Array Slot) (H : Heap) (locs : List Loc), st + 1 - i = k → (1 ≤ i) → (i ≤ st + 1) → (rayF (fun c => mk (at0 + c)) cf door st 1 (nI 0) = rayF (fun c => mk (at0 + c)) cf door (st + 1 - i) i acc) → lv_has ls 10 [(0, .ref kv), (1, .int (nI at0)), (2, .int (nI x)), (3, .int step), (4, .int (nI st)), (5, .int door), (6, .int acc), (7, .int (nI i))] → xP G [iA G km 176 mk, oC kv 4 [.ref km, .ref kg, .int (nI vw), .int (nI vh), .int sl]] H → va_S (fun _ => False) ss.heap H locs → W pp l ee ({ frames := 0, cells := 0, slots := 0, locals := 0 } : Room) ss mm ([.ref kv, .int (nI at0), .int (nI x), .int step, .int (nI st), .int door] : List Value).toArray below mt cd H locs 0 0 (MQ below (Q_X4_ray G kv km kg vw vh sl mk at0 x step st door cf) ([.ref kv, .int (nI at0), .int (nI x), .int step, .int (nI st), .int door] : List Value).toArray ss 0 0 (fun _ => False)) (F0 mm 6 ls []) := by
    intro k
    induction k using Nat.strongRecOn with
    | _ k ih6 =>
    intro i acc ls H locs hm6 h1i hi hacc hl hP hS
    refine lv_iload hx hb dX4_ray_6 (lv_at hl 7 rfl) ?_
    refine lv_iload hx hb dX4_ray_8 (lv_at hl 4 rfl) ?_
    refine xn_icmp_gt (tgt := 67) hx hb (by omega) (by omega) dX4_ray_10 rfl (fun b10 => ?_) (fun b10 => ?_)
    · skip
      refine lv_iload hx hb dX4_ray_67 (lv_at hl 6 rfl) ?_
      refine W.iret (v := acc) hx hb hr (fun t ht hW => ⟨⟨acc, (), rfl, ?_, trivial⟩, hS.F ht⟩) hS.2.2 dX4_ray_69
      first | (rw [hacc, show st + 1 - i = 0 by omega, rayF]) | (rw [hacc, show st + 1 - i = (st + 1 - (i + 1)) + 1 by omega, rayF, if_pos (by simp_all)])
    · skip
      refine lv_iload_n hx hb dX4_ray_13 rfl (lv_at hl 2 rfl) ?_
      refine lv_iload hx hb dX4_ray_14 (lv_at hl 7 rfl) ?_
      refine lv_iload_n hx hb dX4_ray_16 rfl (lv_at hl 3 rfl) ?_
      refine lv_imul hx hb dX4_ray_17 ?_
      refine lv_iadd hx hb dX4_ray_18 ?_
      refine xn_top (hcf i (by omega) (by omega)).1 ?_
      refine lv_istore (lv' := [(8, .int (nI (cf i))), (0, .ref kv), (1, .int (nI at0)), (2, .int (nI x)), (3, .int step), (4, .int (nI st)), (5, .int door), (6, .int acc), (7, .int (nI i))]) hx hb dX4_ray_19 hl (by decide) rfl (fun ls hl => ?_)
      refine lv_iload hx hb dX4_ray_21 (lv_at hl 7 rfl) ?_
      refine lv_iconst (v := nI 1) hx hb dX4_ray_23 (by decide) ?_
      refine lv_iload hx hb dX4_ray_24 (lv_at hl 0 rfl) ?_
      refine lv_ishl hx hb dX4_ray_26 ?_
      refine lv_ior hx hb dX4_ray_27 ?_
      refine lv_istore (lv' := [(6, .int (acc ||| ((nI 1) <<< ((nI (cf i)) &&& 31)))), (8, .int (nI (cf i))), (0, .ref kv), (1, .int (nI at0)), (2, .int (nI x)), (3, .int step), (4, .int (nI st)), (5, .int door), (7, .int (nI i))]) hx hb dX4_ray_28 hl (by decide) rfl (fun ls hl => ?_)
      refine lv_aload_n hx hb dX4_ray_30 rfl (lv_at hl 2 rfl) ?_
      refine va_get (D := G.1) (ci := 4) (v := .ref km) (C := RX4) (T := TX4) (N := 5) hx hb hts hin4 hown hK.1 hP 1 rfl rfl 0 (by decide) (hts (.fieldLink RX4 9 "BackLenses$Views" "marks" "[I") (List.mem_of_getElem? (i := 1) rfl)) (fun _ h9 => h9) rfl dX4_ray_31 ?_
      refine lv_iload_n hx hb dX4_ray_34 rfl (lv_at hl 3 rfl) ?_
      refine lv_iload hx hb dX4_ray_35 (lv_at hl 1 rfl) ?_
      refine xn_iadd hx hb dX4_ray_37 ?_
      refine xn_iald hx hb hK hP 0 rfl (by have := (hcf i (by omega) (by omega)).2; omega) (by omega) dX4_ray_38 ?_
      refine lv_istore (lv' := [(9, .int (mk (at0 + (cf i)))), (6, .int (acc ||| ((nI 1) <<< ((nI (cf i)) &&& 31)))), (8, .int (nI (cf i))), (0, .ref kv), (1, .int (nI at0)), (2, .int (nI x)), (3, .int step), (4, .int (nI st)), (5, .int door), (7, .int (nI i))]) hx hb dX4_ray_39 hl (by decide) rfl (fun ls hl => ?_)
      refine lv_iload hx hb dX4_ray_41 (lv_at hl 0 rfl) ?_
      refine lv_iconst (v := nI 4) hx hb dX4_ray_43 (by decide) ?_
      refine lv_icmp_eq (tgt := 67) hx hb dX4_ray_44 rfl (fun b44 => ?_) (fun b44 => ?_)
      · skip
        refine lv_iload hx hb dX4_ray_67 (lv_at hl 1 rfl) ?_
        refine W.iret (v := acc ||| ((nI 1) <<< ((nI (cf i)) &&& 31))) hx hb hr (fun t ht hW => ⟨⟨acc ||| ((nI 1) <<< ((nI (cf i)) &&& 31)), (), rfl, ?_, trivial⟩, hS.F ht⟩) hS.2.2 dX4_ray_69
        first | (rw [hacc, show st + 1 - i = 0 by omega, rayF]) | (rw [hacc, show st + 1 - i = (st + 1 - (i + 1)) + 1 by omega, rayF, if_pos (by simp_all)])
      · skip
        refine lv_iload hx hb dX4_ray_47 (lv_at hl 8 rfl) ?_
        refine lv_if_eq (tgt := 61) hx hb dX4_ray_49 rfl (fun b49 => ?_) (fun b49 => ?_)
        · skip
          refine lv_iinc (k := 9) (v := nI (i + 1)) (lv' := [(7, .int (nI (i + 1))), (9, .int (mk (at0 + (cf i)))), (6, .int (acc ||| ((nI 1) <<< ((nI (cf i)) &&& 31)))), (8, .int (nI (cf i))), (0, .ref kv), (1, .int (nI at0)), (2, .int (nI x)), (3, .int step), (4, .int (nI st)), (5, .int door)]) hx hb dX4_ray_61 hl rfl (xn_inc i 1) (by decide) rfl (fun ls hl => ?_)
          refine lv_goto (tgt := 6) hx hb dX4_ray_64 rfl ?_
          have hl := lv_sub hl (l' := [(0, .ref kv), (1, .int (nI at0)), (2, .int (nI x)), (3, .int step), (4, .int (nI st)), (5, .int door), (6, .int (acc ||| ((nI 1) <<< ((nI (cf i)) &&& 31)))), (7, .int (nI (i + 1)))]) [4, 5, 6, 7, 8, 9, 2, 0] rfl
          exact ih6 (st + 1 - (i + 1)) (by omega) (i + 1) (acc ||| ((nI 1) <<< ((nI (cf i)) &&& 31))) ls H locs rfl (by omega) (by omega) (by rw [hacc, show st + 1 - i = (st + 1 - (i + 1)) + 1 by omega, rayF, if_neg (by simp_all)]) hl hP hS
        · skip
          refine lv_iload hx hb dX4_ray_52 (lv_at hl 0 rfl) ?_
          refine lv_iconst (v := nI 5) hx hb dX4_ray_54 (by decide) ?_
          refine lv_icmp_ne (tgt := 61) hx hb dX4_ray_55 rfl (fun b55 => ?_) (fun b55 => ?_)
          · skip
            refine lv_iinc (k := 9) (v := nI (i + 1)) (lv' := [(7, .int (nI (i + 1))), (9, .int (mk (at0 + (cf i)))), (6, .int (acc ||| ((nI 1) <<< ((nI (cf i)) &&& 31)))), (8, .int (nI (cf i))), (0, .ref kv), (1, .int (nI at0)), (2, .int (nI x)), (3, .int step), (4, .int (nI st)), (5, .int door)]) hx hb dX4_ray_61 hl rfl (xn_inc i 1) (by decide) rfl (fun ls hl => ?_)
            refine lv_goto (tgt := 6) hx hb dX4_ray_64 rfl ?_
            have hl := lv_sub hl (l' := [(0, .ref kv), (1, .int (nI at0)), (2, .int (nI x)), (3, .int step), (4, .int (nI st)), (5, .int door), (6, .int (acc ||| ((nI 1) <<< ((nI (cf i)) &&& 31)))), (7, .int (nI (i + 1)))]) [4, 5, 6, 7, 8, 9, 2, 0] rfl
            exact ih6 (st + 1 - (i + 1)) (by omega) (i + 1) (acc ||| ((nI 1) <<< ((nI (cf i)) &&& 31))) ls H locs rfl (by omega) (by omega) (by rw [hacc, show st + 1 - i = (st + 1 - (i + 1)) + 1 by omega, rayF, if_neg (by simp_all)]) hl hP hS
          · skip
            refine lv_goto (tgt := 67) hx hb dX4_ray_58 rfl ?_
            refine lv_iload hx hb dX4_ray_67 (lv_at hl 1 rfl) ?_
            refine W.iret (v := acc ||| ((nI 1) <<< ((nI (cf i)) &&& 31))) hx hb hr (fun t ht hW => ⟨⟨acc ||| ((nI 1) <<< ((nI (cf i)) &&& 31)), (), rfl, ?_, trivial⟩, hS.F ht⟩) hS.2.2 dX4_ray_69
            first | (rw [hacc, show st + 1 - i = 0 by omega, rayF]) | (rw [hacc, show st + 1 - i = (st + 1 - (i + 1)) + 1 by omega, rayF, if_pos (by simp_all)])
  have hl := lv_sub hl (l' := [(0, .ref kv), (1, .int (nI at0)), (2, .int (nI x)), (3, .int step), (4, .int (nI st)), (5, .int door), (6, .int (nI 0)), (7, .int (nI 1))]) [2, 3, 4, 5, 6, 7, 1, 0] rfl
  have hP := hP.sub (ws' := [iA G km 176 mk, oC kv 4 [.ref km, .ref kg, .int (nI vw), .int (nI vh), .int sl]]) [1, 0] rfl
  exact hL6 (st + 1 - 1) 1 (nI 0) ls ss.heap [] rfl (by omega) (by omega) (by rfl) hl hP hS

abbrev w_X4_sight (G : XG) (kv km kg : Nat) (vw vh : Nat) (sl : Int32) (mk : Nat → Int32) : va_W := [oC kv 4 [.ref km, .ref kg, .int (nI vw), .int (nI vh), .int sl], iA G km 176 mk]
abbrev Q_X4_sight (G : XG) (kv km kg : Nat) (vw vh : Nat) (sl : Int32) (mk : Nat → Int32) (at0 x : Nat) : Array Value → State → Outcome → State → Prop := (xRi (fun r => r = sgF vw vh (fun c => mk (at0 + c)) x))
set_option maxHeartbeats 4000000 in
set_option maxRecDepth 100000 in
theorem c_X4_sight (l : Launch) (G : XG) (kv km kg : Nat) (vw vh : Nat) (sl : Int32) (mk : Nat → Int32) (at0 x : Nat) (hw : 1 ≤ vw) (hwb : vw ≤ 16) (hhb : vh ≤ 16) (kx : x < vw * vh) (hwh : vw * vh ≤ 16) (hat : at0 ≤ 160) : Met l yX4_sight wsX4_sight ({ frames := 1, cells := 0, slots := 0, locals := 29 } : Room) (va_Pc [.ref kv, .int (nI at0), .int (nI x)] (xRp G (w_X4_sight G kv km kg vw vh sl mk))) (Q_X4_sight G kv km kg vw vh sl mk at0 x) 0 0 (fun _ => False) := by
  refine Met.ofW (cc := cX4_sight) (maxL := 5) (ret := (some .int)) (by decide) rfl ?_
  intro pp ee ss mm aa below mt cd s₁ BB hml hv
  obtain ⟨rfl, hP, hK⟩ := hv
  have hx := BB.exec
  have hb := BB.bytes
  have hr := BB.returns
  have hts := atoms_spec (ws := wsX4_sight) BB.pre
  have hown : ss.vm.findClass RX4 = some mm.cls := findClass_of_methodNamed BB.named
  have hlocks := BB.notSynchronized
  have hS : va_S (fun _ => False) ss.heap ss.heap [] := va_S.rf
  replace hP : xP G [oC kv 4 [.ref km, .ref kg, .int (nI vw), .int (nI vh), .int sl], iA G km 176 mk] ss.heap := hP
  have hin4 : ∀ w ∈ u_ws RX4 TX4 5, w ∈ wsX4_sight := fun w h => List.mem_cons_of_mem _ (List.mem_append_right _ h)
  have hl := lv_entry ([.ref kv, .int (nI at0), .int (nI x)]) (n := 5) (Nat.le_of_ble_eq_true rfl)
  rw [lg_entry_eq]
  generalize (lg_sl ([.ref kv, .int (nI at0), .int (nI x)]) ++ List.replicate (5 - (lg_sl ([.ref kv, .int (nI at0), .int (nI x)])).length) Slot.unset).toArray = ls at hl ⊢
  replace hl : lv_has ls 5 [(0, .ref kv), (1, .int (nI at0)), (2, .int (nI x))] := hl
  obtain ⟨e1, e2, e3⟩ := xs_div (w := vw) (h := vh) (x := x) (by omega) kx
  have e0 : 0 < vh := Nat.lt_of_le_of_lt (Nat.zero_le _) e1
  refine lv_aload_n hx hb dX4_sight_0 rfl (lv_at hl 0 rfl) ?_
  refine va_get (D := G.1) (ci := 4) (v := .int (nI vw)) (C := RX4) (T := TX4) (N := 5) hx hb hts hin4 hown hK.1 hP 0 rfl rfl 2 (by decide) (hts (.fieldLink RX4 28 "BackLenses$Views" "wide" "I") (List.mem_of_getElem? (i := 1) rfl)) (fun _ h9 => h9) rfl dX4_sight_1 ?_
  refine xn_if_le (tgt := 16) hx hb (by omega) dX4_sight_4 rfl (fun b4 => absurd b4 (by omega)) (fun _ => ?_)
  refine lv_iload_n hx hb dX4_sight_7 rfl (lv_at hl 2 rfl) ?_
  refine lv_aload_n hx hb dX4_sight_8 rfl (lv_at hl 0 rfl) ?_
  refine va_get (D := G.1) (ci := 4) (v := .int (nI vw)) (C := RX4) (T := TX4) (N := 5) hx hb hts hin4 hown hK.1 hP 0 rfl rfl 2 (by decide) (hts (.fieldLink RX4 28 "BackLenses$Views" "wide" "I") (List.mem_of_getElem? (i := 1) rfl)) (fun _ h9 => h9) rfl dX4_sight_9 ?_
  refine xn_idiv hx hb (by omega) (by omega) (by omega) dX4_sight_12 ?_
  refine lv_goto (tgt := 17) hx hb dX4_sight_13 rfl ?_
  refine lv_istore_n (lv' := [(3, .int (nI (x / vw))), (0, .ref kv), (1, .int (nI at0)), (2, .int (nI x))]) hx hb dX4_sight_17 rfl hl (by decide) rfl (fun ls hl => ?_)
  refine lv_iload_n hx hb dX4_sight_18 rfl (lv_at hl 3 rfl) ?_
  refine lv_iload_n hx hb dX4_sight_19 rfl (lv_at hl 0 rfl) ?_
  refine lv_aload_n hx hb dX4_sight_20 rfl (lv_at hl 1 rfl) ?_
  refine va_get (D := G.1) (ci := 4) (v := .int (nI vw)) (C := RX4) (T := TX4) (N := 5) hx hb hts hin4 hown hK.1 hP 0 rfl rfl 2 (by decide) (hts (.fieldLink RX4 28 "BackLenses$Views" "wide" "I") (List.mem_of_getElem? (i := 1) rfl)) (fun _ h9 => h9) rfl dX4_sight_21 ?_
  refine xn_imul hx hb dX4_sight_24 ?_
  refine xn_isub hx hb (by omega) dX4_sight_25 ?_
  refine lv_istore (lv' := [(4, .int (nI (x - ((x / vw) * vw)))), (3, .int (nI (x / vw))), (0, .ref kv), (1, .int (nI at0)), (2, .int (nI x))]) hx hb dX4_sight_26 hl (by decide) rfl (fun ls hl => ?_)
  refine lv_iconst (v := nI 1) hx hb dX4_sight_28 (by decide) ?_
  refine lv_iload_n hx hb dX4_sight_29 rfl (lv_at hl 4 rfl) ?_
  refine lv_ishl hx hb dX4_sight_30 ?_
  refine lv_aload_n hx hb dX4_sight_31 rfl (lv_at hl 2 rfl) ?_
  refine lv_iload_n hx hb dX4_sight_32 rfl (lv_at hl 3 rfl) ?_
  refine lv_iload_n hx hb dX4_sight_33 rfl (lv_at hl 4 rfl) ?_
  refine lv_aload_n hx hb dX4_sight_34 rfl (lv_at hl 2 rfl) ?_
  refine va_get (D := G.1) (ci := 4) (v := .int (nI vw)) (C := RX4) (T := TX4) (N := 5) hx hb hts hin4 hown hK.1 hP 0 rfl rfl 2 (by decide) (hts (.fieldLink RX4 28 "BackLenses$Views" "wide" "I") (List.mem_of_getElem? (i := 1) rfl)) (fun _ h9 => h9) rfl dX4_sight_35 ?_
  refine lv_ineg hx hb dX4_sight_38 ?_
  refine lv_iload_n hx hb dX4_sight_39 rfl (lv_at hl 1 rfl) ?_
  refine lv_iconst (v := nI 1) hx hb dX4_sight_40 (by decide) ?_
  refine xr_i (As := [.int (nI at0), .int (nI x), .int (-(nI vw)), .int (nI (x / vw)), .int (nI 1)]) (rest := [.int ((nI 1) <<< ((nI x) &&& 31))]) ⟨hx, hb, hml, hown, hts⟩ (c_X4_ray l G kv km kg vw vh sl mk at0 x (-(nI vw)) (x / vw) (nI 1) (fun i => x - i * vw) (by first | assumption | omega) (by intro i h1 h2; have := xs_up (w := vw) (h := vh) (by omega) kx h2; exact ⟨xn_neg this, by first | omega | (dsimp only; omega)⟩)) (cwV 5 hts gX4_sight_X4_ray rfl rfl rfl (by decide +kernel) ⟨Nat.le_of_ble_eq_true rfl, Nat.le_of_ble_eq_true rfl⟩) hK hP hS [0, 1] rfl rfl rfl rfl hl.1 rfl (Nat.le_of_ble_eq_true rfl) dX4_sight_41 ⟨Nat.zero_le _, Nat.zero_le _⟩ (fun r41 H locs hp41 hP hS => ?_)
  obtain rfl : r41 = rayF (fun c => mk (at0 + c)) (fun i => x - i * vw) (nI 1) (x / vw) 1 (nI 0) := hp41
  refine lv_ior hx hb dX4_sight_44 ?_
  refine lv_aload_n hx hb dX4_sight_45 rfl (lv_at hl 2 rfl) ?_
  refine lv_iload_n hx hb dX4_sight_46 rfl (lv_at hl 3 rfl) ?_
  refine lv_iload_n hx hb dX4_sight_47 rfl (lv_at hl 4 rfl) ?_
  refine lv_aload_n hx hb dX4_sight_48 rfl (lv_at hl 2 rfl) ?_
  refine va_get (D := G.1) (ci := 4) (v := .int (nI vw)) (C := RX4) (T := TX4) (N := 5) hx hb hts hin4 hown hK.1 hP 0 rfl rfl 2 (by decide) (hts (.fieldLink RX4 28 "BackLenses$Views" "wide" "I") (List.mem_of_getElem? (i := 1) rfl)) (fun _ h9 => h9) rfl dX4_sight_49 ?_
  refine lv_aload_n hx hb dX4_sight_52 rfl (lv_at hl 2 rfl) ?_
  refine va_get (D := G.1) (ci := 4) (v := .int (nI vh)) (C := RX4) (T := TX4) (N := 5) hx hb hts hin4 hown hK.1 hP 0 rfl rfl 3 (by decide) (hts (.fieldLink RX4 32 "BackLenses$Views" "high" "I") (List.mem_of_getElem? (i := 2) rfl)) (fun _ h9 => h9) rfl dX4_sight_53 ?_
  refine lv_iconst (v := nI 1) hx hb dX4_sight_56 (by decide) ?_
  refine xn_isub hx hb (by omega) dX4_sight_57 ?_
  refine lv_iload_n hx hb dX4_sight_58 rfl (lv_at hl 1 rfl) ?_
  refine xn_isub hx hb (by exact Nat.le_sub_one_of_lt e1) dX4_sight_59 ?_
  refine lv_iconst (v := nI 1) hx hb dX4_sight_60 (by decide) ?_
  refine xr_i (As := [.int (nI at0), .int (nI x), .int (nI vw), .int (nI ((vh - 1) - (x / vw))), .int (nI 1)]) (rest := [.int (((nI 1) <<< ((nI x) &&& 31)) ||| (rayF (fun c => mk (at0 + c)) (fun i => x - i * vw) (nI 1) (x / vw) 1 (nI 0)))]) ⟨hx, hb, hml, hown, hts⟩ (c_X4_ray l G kv km kg vw vh sl mk at0 x (nI vw) ((vh - 1) - (x / vw)) (nI 1) (fun i => x + i * vw) (by exact Nat.le_trans (Nat.sub_le _ _) (Nat.le_trans (Nat.sub_le _ _) hhb)) (by intro i h1 h2; have := xs_down (w := vw) (h := vh) (by omega) kx h2; exact ⟨by rw [pk_mul, nI_add], by first | omega | (dsimp only; omega)⟩)) (cwV 5 hts gX4_sight_X4_ray rfl rfl rfl (by decide +kernel) ⟨Nat.le_of_ble_eq_true rfl, Nat.le_of_ble_eq_true rfl⟩) hK hP hS [0, 1] rfl rfl rfl rfl hl.1 rfl (Nat.le_of_ble_eq_true rfl) dX4_sight_61 ⟨Nat.zero_le _, Nat.zero_le _⟩ (fun r61 H locs hp61 hP hS => ?_)
  obtain rfl : r61 = rayF (fun c => mk (at0 + c)) (fun i => x + i * vw) (nI 1) ((vh - 1) - (x / vw)) 1 (nI 0) := hp61
  refine lv_ior hx hb dX4_sight_64 ?_
  refine lv_aload_n hx hb dX4_sight_65 rfl (lv_at hl 2 rfl) ?_
  refine lv_iload_n hx hb dX4_sight_66 rfl (lv_at hl 3 rfl) ?_
  refine lv_iload_n hx hb dX4_sight_67 rfl (lv_at hl 4 rfl) ?_
  refine lv_iconst (v := (-1)) hx hb dX4_sight_68 (by decide) ?_
  refine lv_iload hx hb dX4_sight_69 (lv_at hl 0 rfl) ?_
  refine lv_iconst (v := nI 0) hx hb dX4_sight_71 (by decide) ?_
  refine xr_i (As := [.int (nI at0), .int (nI x), .int (-1), .int (nI (x - ((x / vw) * vw))), .int (nI 0)]) (rest := [.int ((((nI 1) <<< ((nI x) &&& 31)) ||| (rayF (fun c => mk (at0 + c)) (fun i => x - i * vw) (nI 1) (x / vw) 1 (nI 0))) ||| (rayF (fun c => mk (at0 + c)) (fun i => x + i * vw) (nI 1) ((vh - 1) - (x / vw)) 1 (nI 0)))]) ⟨hx, hb, hml, hown, hts⟩ (c_X4_ray l G kv km kg vw vh sl mk at0 x (-1) (x - ((x / vw) * vw)) (nI 0) (fun i => x - i) (by first | assumption | omega) (by intro i h1 h2; have h3 := xn_neg (x := x) (i := i) (w := 1) (by omega); exact ⟨by rw [Nat.mul_one] at h3; exact h3, by first | omega | (dsimp only; omega)⟩)) (cwV 5 hts gX4_sight_X4_ray rfl rfl rfl (by decide +kernel) ⟨Nat.le_of_ble_eq_true rfl, Nat.le_of_ble_eq_true rfl⟩) hK hP hS [0, 1] rfl rfl rfl rfl hl.1 rfl (Nat.le_of_ble_eq_true rfl) dX4_sight_72 ⟨Nat.zero_le _, Nat.zero_le _⟩ (fun r72 H locs hp72 hP hS => ?_)
  obtain rfl : r72 = rayF (fun c => mk (at0 + c)) (fun i => x - i) (nI 0) (x - ((x / vw) * vw)) 1 (nI 0) := hp72
  refine lv_ior hx hb dX4_sight_75 ?_
  refine lv_aload_n hx hb dX4_sight_76 rfl (lv_at hl 2 rfl) ?_
  refine lv_iload_n hx hb dX4_sight_77 rfl (lv_at hl 3 rfl) ?_
  refine lv_iload_n hx hb dX4_sight_78 rfl (lv_at hl 4 rfl) ?_
  refine lv_iconst (v := nI 1) hx hb dX4_sight_79 (by decide) ?_
  refine lv_aload_n hx hb dX4_sight_80 rfl (lv_at hl 2 rfl) ?_
  refine va_get (D := G.1) (ci := 4) (v := .int (nI vw)) (C := RX4) (T := TX4) (N := 5) hx hb hts hin4 hown hK.1 hP 0 rfl rfl 2 (by decide) (hts (.fieldLink RX4 28 "BackLenses$Views" "wide" "I") (List.mem_of_getElem? (i := 1) rfl)) (fun _ h9 => h9) rfl dX4_sight_81 ?_
  refine lv_iconst (v := nI 1) hx hb dX4_sight_84 (by decide) ?_
  refine xn_isub hx hb (by omega) dX4_sight_85 ?_
  refine lv_iload hx hb dX4_sight_86 (lv_at hl 0 rfl) ?_
  refine xn_isub hx hb (by omega) dX4_sight_88 ?_
  refine lv_iconst (v := nI 0) hx hb dX4_sight_89 (by decide) ?_
  refine xr_i (As := [.int (nI at0), .int (nI x), .int (nI 1), .int (nI ((vw - 1) - (x - ((x / vw) * vw)))), .int (nI 0)]) (rest := [.int (((((nI 1) <<< ((nI x) &&& 31)) ||| (rayF (fun c => mk (at0 + c)) (fun i => x - i * vw) (nI 1) (x / vw) 1 (nI 0))) ||| (rayF (fun c => mk (at0 + c)) (fun i => x + i * vw) (nI 1) ((vh - 1) - (x / vw)) 1 (nI 0))) ||| (rayF (fun c => mk (at0 + c)) (fun i => x - i) (nI 0) (x - ((x / vw) * vw)) 1 (nI 0)))]) ⟨hx, hb, hml, hown, hts⟩ (c_X4_ray l G kv km kg vw vh sl mk at0 x (nI 1) ((vw - 1) - (x - ((x / vw) * vw))) (nI 0) (fun i => x + i) (by first | assumption | omega) (by intro i h1 h2; have := xs_right (w := vw) (h := vh) (by omega) kx h2; exact ⟨by rw [pk_mul, nI_add, Nat.mul_one], by first | omega | (dsimp only; omega)⟩)) (cwV 5 hts gX4_sight_X4_ray rfl rfl rfl (by decide +kernel) ⟨Nat.le_of_ble_eq_true rfl, Nat.le_of_ble_eq_true rfl⟩) hK hP hS [0, 1] rfl rfl rfl rfl hl.1 rfl (Nat.le_of_ble_eq_true rfl) dX4_sight_90 ⟨Nat.zero_le _, Nat.zero_le _⟩ (fun r90 H locs hp90 hP hS => ?_)
  obtain rfl : r90 = rayF (fun c => mk (at0 + c)) (fun i => x + i) (nI 0) ((vw - 1) - (x - ((x / vw) * vw))) 1 (nI 0) := hp90
  refine lv_ior hx hb dX4_sight_93 ?_
  refine W.iret (v := (((((nI 1) <<< ((nI x) &&& 31)) ||| (rayF (fun c => mk (at0 + c)) (fun i => x - i * vw) (nI 1) (x / vw) 1 (nI 0))) ||| (rayF (fun c => mk (at0 + c)) (fun i => x + i * vw) (nI 1) ((vh - 1) - (x / vw)) 1 (nI 0))) ||| (rayF (fun c => mk (at0 + c)) (fun i => x - i) (nI 0) (x - ((x / vw) * vw)) 1 (nI 0))) ||| (rayF (fun c => mk (at0 + c)) (fun i => x + i) (nI 0) ((vw - 1) - (x - ((x / vw) * vw))) 1 (nI 0))) hx hb hr (fun t ht hW => ⟨⟨(((((nI 1) <<< ((nI x) &&& 31)) ||| (rayF (fun c => mk (at0 + c)) (fun i => x - i * vw) (nI 1) (x / vw) 1 (nI 0))) ||| (rayF (fun c => mk (at0 + c)) (fun i => x + i * vw) (nI 1) ((vh - 1) - (x / vw)) 1 (nI 0))) ||| (rayF (fun c => mk (at0 + c)) (fun i => x - i) (nI 0) (x - ((x / vw) * vw)) 1 (nI 0))) ||| (rayF (fun c => mk (at0 + c)) (fun i => x + i) (nI 0) ((vw - 1) - (x - ((x / vw) * vw))) 1 (nI 0)), (), rfl, ?_, trivial⟩, hS.F ht⟩) hS.2.2 dX4_sight_94
  rfl

abbrev w_X4_sightOnSpareDay (G : XG) (kv km kg : Nat) (vw vh : Nat) (sl : Int32) (mk : Nat → Int32) : va_W := [oC kv 4 [.ref km, .ref kg, .int (nI vw), .int (nI vh), .int sl], iA G km 176 mk]
abbrev Q_X4_sightOnSpareDay (G : XG) (kv km kg : Nat) (vw vh : Nat) (sl : Int32) (mk : Nat → Int32) (x : Nat) : Array Value → State → Outcome → State → Prop := (xRi (fun r => r = sgF vw vh (fun c => mk (160 + c)) x))
set_option maxHeartbeats 4000000 in
set_option maxRecDepth 100000 in
theorem c_X4_sightOnSpareDay (l : Launch) (G : XG) (kv km kg : Nat) (vw vh : Nat) (sl : Int32) (mk : Nat → Int32) (x : Nat) (hw : 1 ≤ vw) (hwb : vw ≤ 16) (hhb : vh ≤ 16) (kx : x < vw * vh) (hwh : vw * vh ≤ 16) : Met l yX4_sightOnSpareDay wsX4_sightOnSpareDay ({ frames := 2, cells := 0, slots := 0, locals := 53 } : Room) (va_Pc [.ref kv, .int (nI x)] (xRp G (w_X4_sightOnSpareDay G kv km kg vw vh sl mk))) (Q_X4_sightOnSpareDay G kv km kg vw vh sl mk x) 0 0 (fun _ => False) := by
  refine Met.ofW (cc := cX4_sightOnSpareDay) (maxL := 2) (ret := (some .int)) (by decide) rfl ?_
  intro pp ee ss mm aa below mt cd s₁ BB hml hv
  obtain ⟨rfl, hP, hK⟩ := hv
  have hx := BB.exec
  have hb := BB.bytes
  have hr := BB.returns
  have hts := atoms_spec (ws := wsX4_sightOnSpareDay) BB.pre
  have hown : ss.vm.findClass RX4 = some mm.cls := findClass_of_methodNamed BB.named
  have hlocks := BB.notSynchronized
  have hS : va_S (fun _ => False) ss.heap ss.heap [] := va_S.rf
  replace hP : xP G [oC kv 4 [.ref km, .ref kg, .int (nI vw), .int (nI vh), .int sl], iA G km 176 mk] ss.heap := hP
  have hin4 : ∀ w ∈ u_ws RX4 TX4 5, w ∈ wsX4_sightOnSpareDay := fun w h => List.mem_cons_of_mem _ (List.mem_append_right _ h)
  have hl := lv_entry ([.ref kv, .int (nI x)]) (n := 2) (Nat.le_of_ble_eq_true rfl)
  rw [lg_entry_eq]
  generalize (lg_sl ([.ref kv, .int (nI x)]) ++ List.replicate (2 - (lg_sl ([.ref kv, .int (nI x)])).length) Slot.unset).toArray = ls at hl ⊢
  replace hl : lv_has ls 2 [(0, .ref kv), (1, .int (nI x))] := hl
  refine lv_aload_n hx hb dX4_sightOnSpareDay_0 rfl (lv_at hl 0 rfl) ?_
  refine lv_sipush (v := nI 160) hx hb dX4_sightOnSpareDay_1 (by decide) ?_
  refine lv_iload_n hx hb dX4_sightOnSpareDay_4 rfl (lv_at hl 1 rfl) ?_
  refine xr_i (As := [.int (nI 160), .int (nI x)]) (rest := []) ⟨hx, hb, hml, hown, hts⟩ (c_X4_sight l G kv km kg vw vh sl mk 160 x (by first | assumption | omega) (by first | assumption | omega) (by first | assumption | omega) (by first | assumption | omega) (by first | assumption | omega) (by first | assumption | omega)) (cwV 2 hts gX4_sightOnSpareDay_X4_sight rfl rfl rfl (by decide +kernel) ⟨Nat.le_of_ble_eq_true rfl, Nat.le_of_ble_eq_true rfl⟩) hK hP hS [0, 1] rfl rfl rfl rfl hl.1 rfl (Nat.le_of_ble_eq_true rfl) dX4_sightOnSpareDay_5 ⟨Nat.zero_le _, Nat.zero_le _⟩ (fun r5 H locs hp5 hP hS => ?_)
  obtain rfl : r5 = sgF vw vh (fun c => mk (160 + c)) x := hp5
  refine W.iret (v := sgF vw vh (fun c => mk (160 + c)) x) hx hb hr (fun t ht hW => ⟨⟨sgF vw vh (fun c => mk (160 + c)) x, (), rfl, ?_, trivial⟩, hS.F ht⟩) hS.2.2 dX4_sightOnSpareDay_8
  rfl

abbrev w_X4_buildMarks (G : XG) (kv km kg : Nat) (vw vh : Nat) (sl : Int32) (mk : Nat → Int32) (kb ka kc kcn kl kn : Nat) (w h la : Nat) (af : Nat → Int32) (nc : Nat) (fc : Nat → Int32) : va_W := [oC kv 4 [.ref km, .ref kg, .int (nI vw), .int (nI vh), .int sl], iA G km 176 mk, oC kb 0 [.int (nI w), .int (nI h), .int (nI la), .ref ka, .ref kc, .ref kl, .ref kn], iA G ka 16 af, oC kc 2 [.ref kcn, .int (nI 10), .int (nI nc)], iA G kcn (3 * 10) fc]
abbrev Q_X4_buildMarks (G : XG) (sz : Nat) (kv km kg : Nat) (vw vh : Nat) (sl : Int32) (mk : Nat → Int32) (kb ka kc kcn kl kn : Nat) (w h la : Nat) (af : Nat → Int32) (nc : Nat) (fc : Nat → Int32) (d : Nat) : Array Value → State → Outcome → State → Prop := (va_Qv (fun (u : (Nat → Int32)) => ((∀ j, j < d * 16 → u j = mk j) ∧ ∀ c, c < 16 → u (d * 16 + c) = mkS af nc fc c d)) (xWb G sz (w_X4_buildMarks G kv km kg vw vh sl mk kb ka kc kcn kl kn w h la af nc fc) (fun u : (Nat → Int32) => [oC kv 4 [.ref km, .ref kg, .int (nI vw), .int (nI vh), .int sl], iA G km 176 u, oC kb 0 [.int (nI w), .int (nI h), .int (nI la), .ref ka, .ref kc, .ref kl, .ref kn], iA G ka 16 af, oC kc 2 [.ref kcn, .int (nI 10), .int (nI nc)], iA G kcn (3 * 10) fc])) (va_A (w_X4_buildMarks G kv km kg vw vh sl mk kb ka kc kcn kl kn w h la af nc fc) sz))
set_option maxHeartbeats 4000000 in
set_option maxRecDepth 100000 in
theorem c_X4_buildMarks (l : Launch) (G : XG) (sz : Nat) (kv km kg : Nat) (vw vh : Nat) (sl : Int32) (mk : Nat → Int32) (kb ka kc kcn kl kn : Nat) (w h la : Nat) (af : Nat → Int32) (nc : Nat) (fc : Nat → Int32) (d : Nat) (hd : d ≤ 9) (hnc : nc ≤ 10) (hcell : ∀ i, i < nc → inR (fc (3 * i + 1)) 16) (hprev : d = 0 ∨ ∀ c, c < 16 → mk ((d - 1) * 16 + c) = mkS af nc fc c (d - 1)) : Met l yX4_buildMarks wsX4_buildMarks ({ frames := 1, cells := 0, slots := 0, locals := 22 } : Room) (va_Pc [.ref kv, .ref kb, .int (nI d)] (xWp G sz (w_X4_buildMarks G kv km kg vw vh sl mk kb ka kc kcn kl kn w h la af nc fc))) (Q_X4_buildMarks G sz kv km kg vw vh sl mk kb ka kc kcn kl kn w h la af nc fc d) 0 0 (va_A (w_X4_buildMarks G kv km kg vw vh sl mk kb ka kc kcn kl kn w h la af nc fc) sz) := by
  refine Met.ofW (cc := cX4_buildMarks) (maxL := 5) (ret := none) (by decide) rfl ?_
  intro pp ee ss mm aa below mt cd s₁ BB hml hv
  obtain ⟨rfl, hsz, hP, hK, hD0⟩ := hv
  have hx := BB.exec
  have hb := BB.bytes
  have hr := BB.returns
  have hts := atoms_spec (ws := wsX4_buildMarks) BB.pre
  have hown : ss.vm.findClass RX4 = some mm.cls := findClass_of_methodNamed BB.named
  have hlocks := BB.notSynchronized
  subst hsz
  have hD := hD0.self (sz := ss.heap.size)
  have hA : ∀ q : Nat, ss.heap.size ≤ q → va_A (w_X4_buildMarks G kv km kg vw vh sl mk kb ka kc kcn kl kn w h la af nc fc) ss.heap.size q := fun q h => Or.inr h
  have hS : va_S (va_A (w_X4_buildMarks G kv km kg vw vh sl mk kb ka kc kcn kl kn w h la af nc fc) ss.heap.size) ss.heap ss.heap [] := va_S.rf
  replace hD : va_D (va_A (w_X4_buildMarks G kv km kg vw vh sl mk kb ka kc kcn kl kn w h la af nc fc) ss.heap.size) [oC kv 4 [.ref km, .ref kg, .int (nI vw), .int (nI vh), .int sl], iA G km 176 mk, oC kb 0 [.int (nI w), .int (nI h), .int (nI la), .ref ka, .ref kc, .ref kl, .ref kn], iA G ka 16 af, oC kc 2 [.ref kcn, .int (nI 10), .int (nI nc)], iA G kcn (3 * 10) fc] := hD
  replace hP : xP G [oC kv 4 [.ref km, .ref kg, .int (nI vw), .int (nI vh), .int sl], iA G km 176 mk, oC kb 0 [.int (nI w), .int (nI h), .int (nI la), .ref ka, .ref kc, .ref kl, .ref kn], iA G ka 16 af, oC kc 2 [.ref kcn, .int (nI 10), .int (nI nc)], iA G kcn (3 * 10) fc] ss.heap := hP
  have hin0 : ∀ w ∈ u_ws RX0 TX0 7, w ∈ wsX4_buildMarks := fun w h => List.mem_cons_of_mem _ (List.mem_append_left _ (List.mem_append_left _ (List.mem_append_right _ h)))
  have hin2 : ∀ w ∈ u_ws RX2 TX2 3, w ∈ wsX4_buildMarks := fun w h => List.mem_cons_of_mem _ (List.mem_append_right _ h)
  have hin4 : ∀ w ∈ u_ws RX4 TX4 5, w ∈ wsX4_buildMarks := fun w h => List.mem_cons_of_mem _ (List.mem_append_left _ (List.mem_append_right _ h))
  have hl := lv_entry ([.ref kv, .ref kb, .int (nI d)]) (n := 5) (Nat.le_of_ble_eq_true rfl)
  rw [lg_entry_eq]
  generalize (lg_sl ([.ref kv, .ref kb, .int (nI d)]) ++ List.replicate (5 - (lg_sl ([.ref kv, .ref kb, .int (nI d)])).length) Slot.unset).toArray = ls at hl ⊢
  replace hl : lv_has ls 5 [(0, .ref kv), (1, .ref kb), (2, .int (nI d))] := hl
  refine lv_iload_n hx hb dX4_buildMarks_0 rfl (lv_at hl 2 rfl) ?_
  refine lv_bipush (v := nI 16) hx hb dX4_buildMarks_1 (by decide) ?_
  refine xn_imul hx hb dX4_buildMarks_3 ?_
  refine lv_istore_n (lv' := [(3, .int (nI (d * 16))), (0, .ref kv), (1, .ref kb), (2, .int (nI d))]) hx hb dX4_buildMarks_4 rfl hl (by decide) rfl (fun ls hl => ?_)
  have hL48 : ∀ k : Nat, ∀ (i : Nat) (mk2 : Nat → Int32) (ls : Array Slot) (H : Heap) (locs : List Loc), nc - i = k → (i ≤ nc) → (∀ j, j < d * 16 → mk2 j = mk j) → (∀ c, c < 16 → mk2 (d * 16 + c) = chD fc d c (mkB af nc fc c d) i) → lv_has ls 5 [(0, .ref kv), (1, .ref kb), (2, .int (nI d)), (3, .int (nI (d * 16))), (4, .int (nI i))] → xP G [iA G ka 16 af, oC kb 0 [.int (nI w), .int (nI h), .int (nI la), .ref ka, .ref kc, .ref kl, .ref kn], oC kc 2 [.ref kcn, .int (nI 10), .int (nI nc)], iA G kcn (3 * 10) fc, iA G km 176 mk2, oC kv 4 [.ref km, .ref kg, .int (nI vw), .int (nI vh), .int sl]] H → va_D (va_A (w_X4_buildMarks G kv km kg vw vh sl mk kb ka kc kcn kl kn w h la af nc fc) ss.heap.size) [iA G ka 16 af, oC kb 0 [.int (nI w), .int (nI h), .int (nI la), .ref ka, .ref kc, .ref kl, .ref kn], oC kc 2 [.ref kcn, .int (nI 10), .int (nI nc)], iA G kcn (3 * 10) fc, iA G km 176 mk2, oC kv 4 [.ref km, .ref kg, .int (nI vw), .int (nI vh), .int sl]] → va_S (va_A (w_X4_buildMarks G kv km kg vw vh sl mk kb ka kc kcn kl kn w h la af nc fc) ss.heap.size) ss.heap H locs → W pp l ee ({ frames := 1, cells := 0, slots := 0, locals := 22 } : Room) ss mm ([.ref kv, .ref kb, .int (nI d)] : List Value).toArray below mt cd H locs 0 0 (MQ below (Q_X4_buildMarks G ss.heap.size kv km kg vw vh sl mk kb ka kc kcn kl kn w h la af nc fc d) ([.ref kv, .ref kb, .int (nI d)] : List Value).toArray ss 0 0 (va_A (w_X4_buildMarks G kv km kg vw vh sl mk kb ka kc kcn kl kn w h la af nc fc) ss.heap.size)) (F0 mm 48 ls []) := by
    intro k
    induction k using Nat.strongRecOn with
    | _ k ih48 =>
    intro i mk2 ls H locs hm48 hi hold hrow hl hP hD hS
    refine lv_iload hx hb dX4_buildMarks_48 (lv_at hl 4 rfl) ?_
    refine lv_aload_n hx hb dX4_buildMarks_50 rfl (lv_at hl 1 rfl) ?_
    refine va_getN (D := G.1) (ci := 0) (v := .ref kc) (C := RX0) (T := TX0) (N := 7) hx hb hts hin0 hown hK.1 hP 1 rfl rfl 4 (by decide) (va_Nw.use rfl (hK.2 (Cond.fieldLinkNest "BackLenses$Views" (53 : Nat) "BackLenses$Book" "changes" "LBackLenses$Rows;" "BackLenses") (List.mem_of_getElem? (i := 16) rfl))) (fun _ h9 => h9) rfl dX4_buildMarks_51 ?_
    refine va_getN (D := G.1) (ci := 2) (v := .int (nI nc)) (C := RX2) (T := TX2) (N := 3) hx hb hts hin2 hown hK.1 hP 2 rfl rfl 2 (by decide) (va_Nw.use rfl (hK.2 (Cond.fieldLinkNest "BackLenses$Views" (57 : Nat) "BackLenses$Rows" "size" "I" "BackLenses") (List.mem_of_getElem? (i := 1) rfl))) (fun _ h9 => h9) rfl dX4_buildMarks_54 ?_
    refine xn_icmp_ge (tgt := 107) hx hb (by omega) (by omega) dX4_buildMarks_57 rfl (fun b57 => ?_) (fun b57 => ?_)
    · skip
      have hP := hP.sub (ws' := [oC kv 4 [.ref km, .ref kg, .int (nI vw), .int (nI vh), .int sl], iA G km 176 mk2, oC kb 0 [.int (nI w), .int (nI h), .int (nI la), .ref ka, .ref kc, .ref kl, .ref kn], iA G ka 16 af, oC kc 2 [.ref kcn, .int (nI 10), .int (nI nc)], iA G kcn (3 * 10) fc]) [5, 4, 1, 0, 2, 3] rfl
      have hD := hD.sub (ws' := [oC kv 4 [.ref km, .ref kg, .int (nI vw), .int (nI vh), .int sl], iA G km 176 mk2, oC kb 0 [.int (nI w), .int (nI h), .int (nI la), .ref ka, .ref kc, .ref kl, .ref kn], iA G ka 16 af, oC kc 2 [.ref kcn, .int (nI 10), .int (nI nc)], iA G kcn (3 * 10) fc]) [5, 4, 1, 0, 2, 3] (by decide) rfl
      refine W.vret hx hb hr (fun t ht hW => ⟨⟨(mk2), rfl, ?_, by rw [ht]; exact hP, hD⟩, hS.F ht⟩) hS.2.2 dX4_buildMarks_107
      exact ⟨hold, fun c kc => by rw [hrow c kc, mkS_eq, show i = nc by omega]⟩
    · skip
      refine lv_aload_n hx hb dX4_buildMarks_60 rfl (lv_at hl 1 rfl) ?_
      refine va_getN (D := G.1) (ci := 0) (v := .ref kc) (C := RX0) (T := TX0) (N := 7) hx hb hts hin0 hown hK.1 hP 1 rfl rfl 4 (by decide) (va_Nw.use rfl (hK.2 (Cond.fieldLinkNest "BackLenses$Views" (53 : Nat) "BackLenses$Book" "changes" "LBackLenses$Rows;" "BackLenses") (List.mem_of_getElem? (i := 16) rfl))) (fun _ h9 => h9) rfl dX4_buildMarks_61 ?_
      refine lv_iload hx hb dX4_buildMarks_64 (lv_at hl 4 rfl) ?_
      refine lv_iconst (v := nI 0) hx hb dX4_buildMarks_66 (by decide) ?_
      refine xr_i (As := [.int (nI i), .int (nI 0)]) (rest := []) ⟨hx, hb, hml, hown, hts⟩ (c_X2_number l G kc kcn 10 nc fc i 0 (by first | assumption | omega) (by first | assumption | omega)) (cwV 2 hts gX4_buildMarks_X2_number rfl rfl rfl (by decide +kernel) ⟨Nat.le_of_ble_eq_true rfl, Nat.le_of_ble_eq_true rfl⟩) hK hP hS [2, 3] rfl rfl rfl rfl hl.1 rfl (Nat.le_of_ble_eq_true rfl) dX4_buildMarks_67 ⟨Nat.zero_le _, Nat.zero_le _⟩ (fun r67 H locs hp67 hP hS => ?_)
      obtain rfl : r67 = fc (3 * i + 0) := hp67
      refine lv_iload_n hx hb dX4_buildMarks_70 rfl (lv_at hl 2 rfl) ?_
      refine lv_icmp_ne (tgt := 101) hx hb dX4_buildMarks_71 rfl (fun b71 => ?_) (fun b71 => ?_)
      · skip
        refine lv_iinc (k := 4) (v := nI (i + 1)) (lv' := [(4, .int (nI (i + 1))), (0, .ref kv), (1, .ref kb), (2, .int (nI d)), (3, .int (nI (d * 16)))]) hx hb dX4_buildMarks_101 hl rfl (xn_inc i 1) (by decide) rfl (fun ls hl => ?_)
        refine lv_goto (tgt := 48) hx hb dX4_buildMarks_104 rfl ?_
        have hl := lv_sub hl (l' := [(0, .ref kv), (1, .ref kb), (2, .int (nI d)), (3, .int (nI (d * 16))), (4, .int (nI (i + 1)))]) [1, 2, 3, 4, 0] rfl
        exact ih48 (nc - (i + 1)) (by omega) (i + 1) mk2 ls H locs rfl (by omega) (by first | exact hold | (intro j hj; unfold upd; rw [if_neg (by omega)]; exact hold j hj)) (by intro c kc; rw [chD]; first | (rw [if_neg (fun q => b71 q.1)]; exact hrow c kc) | (unfold upd; by_cases hq : c = kk; (subst hq; rw [if_pos rfl]; exact (if_pos ⟨b71, hek⟩).symm); (rw [if_neg (by omega), if_neg (fun q => hq ((nI_eq (by omega) (by omega)).mp (hek.symm.trans q.2)).symm)]; exact hrow c kc))) hl hP hD hS
      · skip
        refine lv_aload_n hx hb dX4_buildMarks_74 rfl (lv_at hl 0 rfl) ?_
        refine va_get (D := G.1) (ci := 4) (v := .ref km) (C := RX4) (T := TX4) (N := 5) hx hb hts hin4 hown hK.1 hP 5 rfl rfl 0 (by decide) (hts (.fieldLink RX4 9 "BackLenses$Views" "marks" "[I") (List.mem_of_getElem? (i := 1) rfl)) (fun _ h9 => h9) rfl dX4_buildMarks_75 ?_
        refine lv_iload_n hx hb dX4_buildMarks_78 rfl (lv_at hl 3 rfl) ?_
        refine lv_aload_n hx hb dX4_buildMarks_79 rfl (lv_at hl 1 rfl) ?_
        refine va_getN (D := G.1) (ci := 0) (v := .ref kc) (C := RX0) (T := TX0) (N := 7) hx hb hts hin0 hown hK.1 hP 1 rfl rfl 4 (by decide) (va_Nw.use rfl (hK.2 (Cond.fieldLinkNest "BackLenses$Views" (53 : Nat) "BackLenses$Book" "changes" "LBackLenses$Rows;" "BackLenses") (List.mem_of_getElem? (i := 16) rfl))) (fun _ h9 => h9) rfl dX4_buildMarks_80 ?_
        refine lv_iload hx hb dX4_buildMarks_83 (lv_at hl 4 rfl) ?_
        refine lv_iconst (v := nI 1) hx hb dX4_buildMarks_85 (by decide) ?_
        refine xr_i (As := [.int (nI i), .int (nI 1)]) (rest := [.int (nI (d * 16)), .ref km]) ⟨hx, hb, hml, hown, hts⟩ (c_X2_number l G kc kcn 10 nc fc i 1 (by first | assumption | omega) (by first | assumption | omega)) (cwV 2 hts gX4_buildMarks_X2_number rfl rfl rfl (by decide +kernel) ⟨Nat.le_of_ble_eq_true rfl, Nat.le_of_ble_eq_true rfl⟩) hK hP hS [2, 3] rfl rfl rfl rfl hl.1 rfl (Nat.le_of_ble_eq_true rfl) dX4_buildMarks_86 ⟨Nat.zero_le _, Nat.zero_le _⟩ (fun r86 H locs hp86 hP hS => ?_)
        obtain rfl : r86 = fc (3 * i + 1) := hp86
        obtain ⟨kk, hkk, hek⟩ := inR_nat (hcell i (by omega))
        refine xn_top hek ?_
        refine xn_iadd hx hb dX4_buildMarks_89 ?_
        refine lv_aload_n hx hb dX4_buildMarks_90 rfl (lv_at hl 1 rfl) ?_
        refine va_getN (D := G.1) (ci := 0) (v := .ref kc) (C := RX0) (T := TX0) (N := 7) hx hb hts hin0 hown hK.1 hP 1 rfl rfl 4 (by decide) (va_Nw.use rfl (hK.2 (Cond.fieldLinkNest "BackLenses$Views" (53 : Nat) "BackLenses$Book" "changes" "LBackLenses$Rows;" "BackLenses") (List.mem_of_getElem? (i := 16) rfl))) (fun _ h9 => h9) rfl dX4_buildMarks_91 ?_
        refine lv_iload hx hb dX4_buildMarks_94 (lv_at hl 4 rfl) ?_
        refine lv_iconst (v := nI 2) hx hb dX4_buildMarks_96 (by decide) ?_
        refine xr_i (As := [.int (nI i), .int (nI 2)]) (rest := [.int (nI ((d * 16) + kk)), .ref km]) ⟨hx, hb, hml, hown, hts⟩ (c_X2_number l G kc kcn 10 nc fc i 2 (by first | assumption | omega) (by first | assumption | omega)) (cwV 2 hts gX4_buildMarks_X2_number rfl rfl rfl (by decide +kernel) ⟨Nat.le_of_ble_eq_true rfl, Nat.le_of_ble_eq_true rfl⟩) hK hP hS [2, 3] rfl rfl rfl rfl hl.1 rfl (Nat.le_of_ble_eq_true rfl) dX4_buildMarks_97 ⟨Nat.zero_le _, Nat.zero_le _⟩ (fun r97 H locs hp97 hP hS => ?_)
        obtain rfl : r97 = fc (3 * i + 2) := hp97
        refine xn_iast hx hb hK hP hD hS 4 rfl (by omega) (by omega) dX4_buildMarks_100 (fun H locs hP hD hS => ?_)
        replace hP : xP G [iA G ka 16 af, oC kb 0 [.int (nI w), .int (nI h), .int (nI la), .ref ka, .ref kc, .ref kl, .ref kn], oC kc 2 [.ref kcn, .int (nI 10), .int (nI nc)], iA G kcn (3 * 10) fc, iA G km 176 (upd mk2 ((d * 16) + kk) (fc (3 * i + 2))), oC kv 4 [.ref km, .ref kg, .int (nI vw), .int (nI vh), .int sl]] H := hP
        replace hD : va_D (va_A (w_X4_buildMarks G kv km kg vw vh sl mk kb ka kc kcn kl kn w h la af nc fc) ss.heap.size) [iA G ka 16 af, oC kb 0 [.int (nI w), .int (nI h), .int (nI la), .ref ka, .ref kc, .ref kl, .ref kn], oC kc 2 [.ref kcn, .int (nI 10), .int (nI nc)], iA G kcn (3 * 10) fc, iA G km 176 (upd mk2 ((d * 16) + kk) (fc (3 * i + 2))), oC kv 4 [.ref km, .ref kg, .int (nI vw), .int (nI vh), .int sl]] := hD
        refine lv_iinc (k := 4) (v := nI (i + 1)) (lv' := [(4, .int (nI (i + 1))), (0, .ref kv), (1, .ref kb), (2, .int (nI d)), (3, .int (nI (d * 16)))]) hx hb dX4_buildMarks_101 hl rfl (xn_inc i 1) (by decide) rfl (fun ls hl => ?_)
        refine lv_goto (tgt := 48) hx hb dX4_buildMarks_104 rfl ?_
        have hl := lv_sub hl (l' := [(0, .ref kv), (1, .ref kb), (2, .int (nI d)), (3, .int (nI (d * 16))), (4, .int (nI (i + 1)))]) [1, 2, 3, 4, 0] rfl
        exact ih48 (nc - (i + 1)) (by omega) (i + 1) (upd mk2 ((d * 16) + kk) (fc (3 * i + 2))) ls H locs rfl (by omega) (by first | exact hold | (intro j hj; unfold upd; rw [if_neg (by omega)]; exact hold j hj)) (by intro c kc; rw [chD]; first | (rw [if_neg (fun q => b71 q.1)]; exact hrow c kc) | (unfold upd; by_cases hq : c = kk; (subst hq; rw [if_pos rfl]; exact (if_pos ⟨b71, hek⟩).symm); (rw [if_neg (by omega), if_neg (fun q => hq ((nI_eq (by omega) (by omega)).mp (hek.symm.trans q.2)).symm)]; exact hrow c kc))) hl hP hD hS
  refine lv_iload_n hx hb dX4_buildMarks_5 rfl (lv_at hl 3 rfl) ?_
  refine xn_if_ne (tgt := 27) hx hb (by omega) dX4_buildMarks_6 rfl (fun b6 => ?_) (fun b6 => ?_)
  · skip
    refine lv_aload_n hx hb dX4_buildMarks_27 rfl (lv_at hl 1 rfl) ?_
    refine va_get (D := G.1) (ci := 4) (v := .ref km) (C := RX4) (T := TX4) (N := 5) hx hb hts hin4 hown hK.1 hP 0 rfl rfl 0 (by decide) (hts (.fieldLink RX4 9 "BackLenses$Views" "marks" "[I") (List.mem_of_getElem? (i := 1) rfl)) (fun _ h9 => h9) rfl dX4_buildMarks_28 ?_
    refine lv_iload_n hx hb dX4_buildMarks_31 rfl (lv_at hl 0 rfl) ?_
    refine lv_bipush (v := nI 16) hx hb dX4_buildMarks_32 (by decide) ?_
    refine xn_isub hx hb (by omega) dX4_buildMarks_34 ?_
    refine lv_aload_n hx hb dX4_buildMarks_35 rfl (lv_at hl 1 rfl) ?_
    refine va_get (D := G.1) (ci := 4) (v := .ref km) (C := RX4) (T := TX4) (N := 5) hx hb hts hin4 hown hK.1 hP 0 rfl rfl 0 (by decide) (hts (.fieldLink RX4 9 "BackLenses$Views" "marks" "[I") (List.mem_of_getElem? (i := 1) rfl)) (fun _ h9 => h9) rfl dX4_buildMarks_36 ?_
    refine lv_iload_n hx hb dX4_buildMarks_39 rfl (lv_at hl 0 rfl) ?_
    refine lv_bipush (v := nI 16) hx hb dX4_buildMarks_40 (by decide) ?_
    refine xn_copyi (n := 16) (sp := (d * 16) - 16) (dp := d * 16) hx hb (by rw [hml]; exact hl.1.symm) hown (hts (.methodLink RX4 47 arraycopyName) (List.mem_of_getElem? (i := 2) rfl)) (hts (.native arraycopyName) (List.mem_of_getElem? (i := 3) rfl)) (hts (.static arraycopyName) (List.mem_of_getElem? (i := 4) rfl)) (hts (.initialized "java/lang/System") (List.mem_of_getElem? (i := 5) rfl)) hK hP hD hS 1 1 rfl rfl (by omega) (by omega) (by omega) (by omega) (Nat.le_of_ble_eq_true rfl) (Nat.le_of_ble_eq_true rfl) dX4_buildMarks_42 (fun H locs hP hD hS => ?_)
    replace hP : xP G [oC kv 4 [.ref km, .ref kg, .int (nI vw), .int (nI vh), .int sl], iA G km 176 (va_cpy mk mk ((d * 16) - 16) (d * 16) 16), oC kb 0 [.int (nI w), .int (nI h), .int (nI la), .ref ka, .ref kc, .ref kl, .ref kn], iA G ka 16 af, oC kc 2 [.ref kcn, .int (nI 10), .int (nI nc)], iA G kcn (3 * 10) fc] H := hP
    replace hD : va_D (va_A (w_X4_buildMarks G kv km kg vw vh sl mk kb ka kc kcn kl kn w h la af nc fc) ss.heap.size) [oC kv 4 [.ref km, .ref kg, .int (nI vw), .int (nI vh), .int sl], iA G km 176 (va_cpy mk mk ((d * 16) - 16) (d * 16) 16), oC kb 0 [.int (nI w), .int (nI h), .int (nI la), .ref ka, .ref kc, .ref kl, .ref kn], iA G ka 16 af, oC kc 2 [.ref kcn, .int (nI 10), .int (nI nc)], iA G kcn (3 * 10) fc] := hD
    refine lv_iconst (v := nI 0) hx hb dX4_buildMarks_45 (by decide) ?_
    refine lv_istore (lv' := [(4, .int (nI 0)), (3, .int (nI (d * 16))), (0, .ref kv), (1, .ref kb), (2, .int (nI d))]) hx hb dX4_buildMarks_46 hl (by decide) rfl (fun ls hl => ?_)
    have hl := lv_sub hl (l' := [(0, .ref kv), (1, .ref kb), (2, .int (nI d)), (3, .int (nI (d * 16))), (4, .int (nI 0))]) [2, 3, 4, 1, 0] rfl
    have hP := hP.sub (ws' := [iA G ka 16 af, oC kb 0 [.int (nI w), .int (nI h), .int (nI la), .ref ka, .ref kc, .ref kl, .ref kn], oC kc 2 [.ref kcn, .int (nI 10), .int (nI nc)], iA G kcn (3 * 10) fc, iA G km 176 (va_cpy mk mk ((d * 16) - 16) (d * 16) 16), oC kv 4 [.ref km, .ref kg, .int (nI vw), .int (nI vh), .int sl]]) [3, 2, 4, 5, 1, 0] rfl
    have hD := hD.sub (ws' := [iA G ka 16 af, oC kb 0 [.int (nI w), .int (nI h), .int (nI la), .ref ka, .ref kc, .ref kl, .ref kn], oC kc 2 [.ref kcn, .int (nI 10), .int (nI nc)], iA G kcn (3 * 10) fc, iA G km 176 (va_cpy mk mk ((d * 16) - 16) (d * 16) 16), oC kv 4 [.ref km, .ref kg, .int (nI vw), .int (nI vh), .int sl]]) [3, 2, 4, 5, 1, 0] (by decide) rfl
    exact hL48 (nc - 0) 0 (va_cpy mk mk ((d * 16) - 16) (d * 16) 16) ls H locs rfl (by omega) (by intro j hj; unfold va_cpy; rw [if_neg (by omega)]) (by intro c kc; unfold va_cpy; rw [if_pos (by omega), chD]; first | (subst b6; simp [mkB]) | (rcases hprev with hq | hq; exact absurd hq b6; obtain ⟨d, rfl⟩ : ∃ z, d = z + 1 := ⟨d - 1, by omega⟩; have hq2 := hq c kc; simp only [Nat.add_sub_cancel] at hq2; rw [mkB, ← hq2]; congr 1; omega)) hl hP hD hS
  · skip
    refine lv_aload_n hx hb dX4_buildMarks_9 rfl (lv_at hl 2 rfl) ?_
    refine va_getN (D := G.1) (ci := 0) (v := .ref ka) (C := RX0) (T := TX0) (N := 7) hx hb hts hin0 hown hK.1 hP 2 rfl rfl 3 (by decide) (va_Nw.use rfl (hK.2 (Cond.fieldLinkNest "BackLenses$Views" (44 : Nat) "BackLenses$Book" "atFirst" "[I" "BackLenses") (List.mem_of_getElem? (i := 13) rfl))) (fun _ h9 => h9) rfl dX4_buildMarks_10 ?_
    refine lv_iconst (v := nI 0) hx hb dX4_buildMarks_13 (by decide) ?_
    refine lv_aload_n hx hb dX4_buildMarks_14 rfl (lv_at hl 1 rfl) ?_
    refine va_get (D := G.1) (ci := 4) (v := .ref km) (C := RX4) (T := TX4) (N := 5) hx hb hts hin4 hown hK.1 hP 0 rfl rfl 0 (by decide) (hts (.fieldLink RX4 9 "BackLenses$Views" "marks" "[I") (List.mem_of_getElem? (i := 1) rfl)) (fun _ h9 => h9) rfl dX4_buildMarks_15 ?_
    refine lv_iconst (v := nI 0) hx hb dX4_buildMarks_18 (by decide) ?_
    refine lv_bipush (v := nI 16) hx hb dX4_buildMarks_19 (by decide) ?_
    refine xn_copyi (n := 16) (sp := 0) (dp := 0) hx hb (by rw [hml]; exact hl.1.symm) hown (hts (.methodLink RX4 47 arraycopyName) (List.mem_of_getElem? (i := 2) rfl)) (hts (.native arraycopyName) (List.mem_of_getElem? (i := 3) rfl)) (hts (.static arraycopyName) (List.mem_of_getElem? (i := 4) rfl)) (hts (.initialized "java/lang/System") (List.mem_of_getElem? (i := 5) rfl)) hK hP hD hS 3 1 rfl rfl (by omega) (by omega) (by omega) (by omega) (Nat.le_of_ble_eq_true rfl) (Nat.le_of_ble_eq_true rfl) dX4_buildMarks_21 (fun H locs hP hD hS => ?_)
    replace hP : xP G [oC kv 4 [.ref km, .ref kg, .int (nI vw), .int (nI vh), .int sl], iA G km 176 (va_cpy af mk 0 0 16), oC kb 0 [.int (nI w), .int (nI h), .int (nI la), .ref ka, .ref kc, .ref kl, .ref kn], iA G ka 16 af, oC kc 2 [.ref kcn, .int (nI 10), .int (nI nc)], iA G kcn (3 * 10) fc] H := hP
    replace hD : va_D (va_A (w_X4_buildMarks G kv km kg vw vh sl mk kb ka kc kcn kl kn w h la af nc fc) ss.heap.size) [oC kv 4 [.ref km, .ref kg, .int (nI vw), .int (nI vh), .int sl], iA G km 176 (va_cpy af mk 0 0 16), oC kb 0 [.int (nI w), .int (nI h), .int (nI la), .ref ka, .ref kc, .ref kl, .ref kn], iA G ka 16 af, oC kc 2 [.ref kcn, .int (nI 10), .int (nI nc)], iA G kcn (3 * 10) fc] := hD
    refine lv_goto (tgt := 45) hx hb dX4_buildMarks_24 rfl ?_
    refine lv_iconst (v := nI 0) hx hb dX4_buildMarks_45 (by decide) ?_
    refine lv_istore (lv' := [(4, .int (nI 0)), (3, .int (nI (d * 16))), (0, .ref kv), (1, .ref kb), (2, .int (nI d))]) hx hb dX4_buildMarks_46 hl (by decide) rfl (fun ls hl => ?_)
    have hl := lv_sub hl (l' := [(0, .ref kv), (1, .ref kb), (2, .int (nI d)), (3, .int (nI (d * 16))), (4, .int (nI 0))]) [2, 3, 4, 1, 0] rfl
    have hP := hP.sub (ws' := [iA G ka 16 af, oC kb 0 [.int (nI w), .int (nI h), .int (nI la), .ref ka, .ref kc, .ref kl, .ref kn], oC kc 2 [.ref kcn, .int (nI 10), .int (nI nc)], iA G kcn (3 * 10) fc, iA G km 176 (va_cpy af mk 0 0 16), oC kv 4 [.ref km, .ref kg, .int (nI vw), .int (nI vh), .int sl]]) [3, 2, 4, 5, 1, 0] rfl
    have hD := hD.sub (ws' := [iA G ka 16 af, oC kb 0 [.int (nI w), .int (nI h), .int (nI la), .ref ka, .ref kc, .ref kl, .ref kn], oC kc 2 [.ref kcn, .int (nI 10), .int (nI nc)], iA G kcn (3 * 10) fc, iA G km 176 (va_cpy af mk 0 0 16), oC kv 4 [.ref km, .ref kg, .int (nI vw), .int (nI vh), .int sl]]) [3, 2, 4, 5, 1, 0] (by decide) rfl
    exact hL48 (nc - 0) 0 (va_cpy af mk 0 0 16) ls H locs rfl (by omega) (by intro j hj; unfold va_cpy; rw [if_neg (by omega)]) (by intro c kc; unfold va_cpy; rw [if_pos (by omega), chD]; first | (subst b6; simp [mkB]) | (rcases hprev with hq | hq; exact absurd hq b6; obtain ⟨d, rfl⟩ : ∃ z, d = z + 1 := ⟨d - 1, by omega⟩; have hq2 := hq c kc; simp only [Nat.add_sub_cancel] at hq2; rw [mkB, ← hq2]; congr 1; omega)) hl hP hD hS

abbrev w_X4_build (G : XG) (kv km kg : Nat) (vw vh : Nat) (sl : Int32) (mk : Nat → Int32) (sg : Nat → Int32) (kb ka kc kcn kl kn : Nat) (w h la : Nat) (af : Nat → Int32) (nc : Nat) (fc : Nat → Int32) : va_W := [oC kv 4 [.ref km, .ref kg, .int (nI vw), .int (nI vh), .int sl], iA G km 176 mk, iA G kg 160 sg, oC kb 0 [.int (nI w), .int (nI h), .int (nI la), .ref ka, .ref kc, .ref kl, .ref kn], iA G ka 16 af, oC kc 2 [.ref kcn, .int (nI 10), .int (nI nc)], iA G kcn (3 * 10) fc]
abbrev Q_X4_build (G : XG) (sz : Nat) (kv km kg : Nat) (vw vh : Nat) (sl : Int32) (mk : Nat → Int32) (sg : Nat → Int32) (kb ka kc kcn kl kn : Nat) (w h la : Nat) (af : Nat → Int32) (nc : Nat) (fc : Nat → Int32) : Array Value → State → Outcome → State → Prop := (va_Qv (fun (u : (Nat → Int32) × (Nat → Int32)) => FR w h la af nc fc u.1 u.2) (xWb G sz (w_X4_build G kv km kg vw vh sl mk sg kb ka kc kcn kl kn w h la af nc fc) (fun u : (Nat → Int32) × (Nat → Int32) => [oC kv 4 [.ref km, .ref kg, .int (nI w), .int (nI h), .int (nI 0)], iA G km 176 u.1, iA G kg 160 u.2, oC kb 0 [.int (nI w), .int (nI h), .int (nI la), .ref ka, .ref kc, .ref kl, .ref kn], iA G ka 16 af, oC kc 2 [.ref kcn, .int (nI 10), .int (nI nc)], iA G kcn (3 * 10) fc])) (va_A (w_X4_build G kv km kg vw vh sl mk sg kb ka kc kcn kl kn w h la af nc fc) sz))
set_option maxHeartbeats 4000000 in
set_option maxRecDepth 100000 in
theorem c_X4_build (l : Launch) (G : XG) (sz : Nat) (kv km kg : Nat) (vw vh : Nat) (sl : Int32) (mk : Nat → Int32) (sg : Nat → Int32) (kb ka kc kcn kl kn : Nat) (w h la : Nat) (af : Nat → Int32) (nc : Nat) (fc : Nat → Int32) (hw : 1 ≤ w) (hwb : w ≤ 16) (hhb : h ≤ 16) (hwh : w * h ≤ 16) (hla : la ≤ 9) (hnc : nc ≤ 10) (hcell : ∀ i, i < nc → inR (fc (3 * i + 1)) 16) : Met l yX4_build wsX4_build ({ frames := 2, cells := 0, slots := 0, locals := 53 } : Room) (va_Pc [.ref kv, .ref kb] (xWp G sz (w_X4_build G kv km kg vw vh sl mk sg kb ka kc kcn kl kn w h la af nc fc))) (Q_X4_build G sz kv km kg vw vh sl mk sg kb ka kc kcn kl kn w h la af nc fc) 0 0 (va_A (w_X4_build G kv km kg vw vh sl mk sg kb ka kc kcn kl kn w h la af nc fc) sz) := by
  refine Met.ofW (cc := cX4_build) (maxL := 4) (ret := none) (by decide) rfl ?_
  intro pp ee ss mm aa below mt cd s₁ BB hml hv
  obtain ⟨rfl, hsz, hP, hK, hD0⟩ := hv
  have hx := BB.exec
  have hb := BB.bytes
  have hr := BB.returns
  have hts := atoms_spec (ws := wsX4_build) BB.pre
  have hown : ss.vm.findClass RX4 = some mm.cls := findClass_of_methodNamed BB.named
  have hlocks := BB.notSynchronized
  subst hsz
  have hD := hD0.self (sz := ss.heap.size)
  have hA : ∀ q : Nat, ss.heap.size ≤ q → va_A (w_X4_build G kv km kg vw vh sl mk sg kb ka kc kcn kl kn w h la af nc fc) ss.heap.size q := fun q h => Or.inr h
  have hS : va_S (va_A (w_X4_build G kv km kg vw vh sl mk sg kb ka kc kcn kl kn w h la af nc fc) ss.heap.size) ss.heap ss.heap [] := va_S.rf
  replace hD : va_D (va_A (w_X4_build G kv km kg vw vh sl mk sg kb ka kc kcn kl kn w h la af nc fc) ss.heap.size) [oC kv 4 [.ref km, .ref kg, .int (nI vw), .int (nI vh), .int sl], iA G km 176 mk, iA G kg 160 sg, oC kb 0 [.int (nI w), .int (nI h), .int (nI la), .ref ka, .ref kc, .ref kl, .ref kn], iA G ka 16 af, oC kc 2 [.ref kcn, .int (nI 10), .int (nI nc)], iA G kcn (3 * 10) fc] := hD
  replace hP : xP G [oC kv 4 [.ref km, .ref kg, .int (nI vw), .int (nI vh), .int sl], iA G km 176 mk, iA G kg 160 sg, oC kb 0 [.int (nI w), .int (nI h), .int (nI la), .ref ka, .ref kc, .ref kl, .ref kn], iA G ka 16 af, oC kc 2 [.ref kcn, .int (nI 10), .int (nI nc)], iA G kcn (3 * 10) fc] ss.heap := hP
  have hin0 : ∀ w ∈ u_ws RX0 TX0 7, w ∈ wsX4_build := fun w h => List.mem_cons_of_mem _ (List.mem_append_left _ (List.mem_append_left _ (List.mem_append_right _ h)))
  have hin2 : ∀ w ∈ u_ws RX2 TX2 3, w ∈ wsX4_build := fun w h => List.mem_cons_of_mem _ (List.mem_append_right _ h)
  have hin4 : ∀ w ∈ u_ws RX4 TX4 5, w ∈ wsX4_build := fun w h => List.mem_cons_of_mem _ (List.mem_append_left _ (List.mem_append_right _ h))
  have hl := lv_entry ([.ref kv, .ref kb]) (n := 4) (Nat.le_of_ble_eq_true rfl)
  rw [lg_entry_eq]
  generalize (lg_sl ([.ref kv, .ref kb]) ++ List.replicate (4 - (lg_sl ([.ref kv, .ref kb])).length) Slot.unset).toArray = ls at hl ⊢
  replace hl : lv_has ls 4 [(0, .ref kv), (1, .ref kb)] := hl
  refine lv_aload_n hx hb dX4_build_0 rfl (lv_at hl 0 rfl) ?_
  refine lv_aload_n hx hb dX4_build_1 rfl (lv_at hl 1 rfl) ?_
  refine va_getN (D := G.1) (ci := 0) (v := .int (nI w)) (C := RX0) (T := TX0) (N := 7) hx hb hts hin0 hown hK.1 hP 3 rfl rfl 0 (by decide) (va_Nw.use rfl (hK.2 (Cond.fieldLinkNest "BackLenses$Views" (22 : Nat) "BackLenses$Book" "wide" "I" "BackLenses") (List.mem_of_getElem? (i := 4) rfl))) (fun _ h9 => h9) rfl dX4_build_2 ?_
  refine va_put (D := G.1) (ci := 4) (v := .int (nI w)) (ty := .int) (C := RX4) (T := TX4) (N := 5) hx hb hts hin4 tyX4 tyX4_ok nmX4 hown hK.1 hP hD hS 0 rfl rfl 2 (by decide) (hts (.fieldLink RX4 28 "BackLenses$Views" "wide" "I") (List.mem_of_getElem? (i := 1) rfl)) (fun _ h9 => h9) rfl (by decide +kernel) rfl rfl (Nat.le_of_ble_eq_true rfl) dX4_build_5 (fun H locs hP hD hS => ?_)
  replace hP : xP G [oC kv 4 [.ref km, .ref kg, .int (nI w), .int (nI vh), .int sl], iA G km 176 mk, iA G kg 160 sg, oC kb 0 [.int (nI w), .int (nI h), .int (nI la), .ref ka, .ref kc, .ref kl, .ref kn], iA G ka 16 af, oC kc 2 [.ref kcn, .int (nI 10), .int (nI nc)], iA G kcn (3 * 10) fc] H := hP
  replace hD : va_D (va_A (w_X4_build G kv km kg vw vh sl mk sg kb ka kc kcn kl kn w h la af nc fc) ss.heap.size) [oC kv 4 [.ref km, .ref kg, .int (nI w), .int (nI vh), .int sl], iA G km 176 mk, iA G kg 160 sg, oC kb 0 [.int (nI w), .int (nI h), .int (nI la), .ref ka, .ref kc, .ref kl, .ref kn], iA G ka 16 af, oC kc 2 [.ref kcn, .int (nI 10), .int (nI nc)], iA G kcn (3 * 10) fc] := hD
  refine lv_aload_n hx hb dX4_build_8 rfl (lv_at hl 0 rfl) ?_
  refine lv_aload_n hx hb dX4_build_9 rfl (lv_at hl 1 rfl) ?_
  refine va_getN (D := G.1) (ci := 0) (v := .int (nI h)) (C := RX0) (T := TX0) (N := 7) hx hb hts hin0 hown hK.1 hP 3 rfl rfl 1 (by decide) (va_Nw.use rfl (hK.2 (Cond.fieldLinkNest "BackLenses$Views" (29 : Nat) "BackLenses$Book" "high" "I" "BackLenses") (List.mem_of_getElem? (i := 7) rfl))) (fun _ h9 => h9) rfl dX4_build_10 ?_
  refine va_put (D := G.1) (ci := 4) (v := .int (nI h)) (ty := .int) (C := RX4) (T := TX4) (N := 5) hx hb hts hin4 tyX4 tyX4_ok nmX4 hown hK.1 hP hD hS 0 rfl rfl 3 (by decide) (hts (.fieldLink RX4 32 "BackLenses$Views" "high" "I") (List.mem_of_getElem? (i := 2) rfl)) (fun _ h9 => h9) rfl (by decide +kernel) rfl rfl (Nat.le_of_ble_eq_true rfl) dX4_build_13 (fun H locs hP hD hS => ?_)
  replace hP : xP G [oC kv 4 [.ref km, .ref kg, .int (nI w), .int (nI h), .int sl], iA G km 176 mk, iA G kg 160 sg, oC kb 0 [.int (nI w), .int (nI h), .int (nI la), .ref ka, .ref kc, .ref kl, .ref kn], iA G ka 16 af, oC kc 2 [.ref kcn, .int (nI 10), .int (nI nc)], iA G kcn (3 * 10) fc] H := hP
  replace hD : va_D (va_A (w_X4_build G kv km kg vw vh sl mk sg kb ka kc kcn kl kn w h la af nc fc) ss.heap.size) [oC kv 4 [.ref km, .ref kg, .int (nI w), .int (nI h), .int sl], iA G km 176 mk, iA G kg 160 sg, oC kb 0 [.int (nI w), .int (nI h), .int (nI la), .ref ka, .ref kc, .ref kl, .ref kn], iA G ka 16 af, oC kc 2 [.ref kcn, .int (nI 10), .int (nI nc)], iA G kcn (3 * 10) fc] := hD
  refine lv_iconst (v := nI 0) hx hb dX4_build_16 (by decide) ?_
  refine lv_istore_n (lv' := [(2, .int (nI 0)), (0, .ref kv), (1, .ref kb)]) hx hb dX4_build_17 rfl hl (by decide) rfl (fun ls hl => ?_)
  have hL18 : ∀ k : Nat, ∀ (d : Nat) (mk2 : Nat → Int32) (sg2 : Nat → Int32) (ls : Array Slot) (H : Heap) (locs : List Loc), la + 1 - d = k → (d ≤ la + 1) → (∀ d2, d2 < d → (∀ c, c < 16 → mk2 (d2 * 16 + c) = mkS af nc fc c d2) ∧ ∀ x, x < w * h → sg2 (d2 * 16 + x) = sgF w h (fun c => mkS af nc fc c d2) x) → lv_has ls 4 [(0, .ref kv), (1, .ref kb), (2, .int (nI d))] → xP G [iA G ka 16 af, oC kb 0 [.int (nI w), .int (nI h), .int (nI la), .ref ka, .ref kc, .ref kl, .ref kn], oC kc 2 [.ref kcn, .int (nI 10), .int (nI nc)], iA G kcn (3 * 10) fc, iA G kg 160 sg2, iA G km 176 mk2, oC kv 4 [.ref km, .ref kg, .int (nI w), .int (nI h), .int sl]] H → va_D (va_A (w_X4_build G kv km kg vw vh sl mk sg kb ka kc kcn kl kn w h la af nc fc) ss.heap.size) [iA G ka 16 af, oC kb 0 [.int (nI w), .int (nI h), .int (nI la), .ref ka, .ref kc, .ref kl, .ref kn], oC kc 2 [.ref kcn, .int (nI 10), .int (nI nc)], iA G kcn (3 * 10) fc, iA G kg 160 sg2, iA G km 176 mk2, oC kv 4 [.ref km, .ref kg, .int (nI w), .int (nI h), .int sl]] → va_S (va_A (w_X4_build G kv km kg vw vh sl mk sg kb ka kc kcn kl kn w h la af nc fc) ss.heap.size) ss.heap H locs → W pp l ee ({ frames := 2, cells := 0, slots := 0, locals := 53 } : Room) ss mm ([.ref kv, .ref kb] : List Value).toArray below mt cd H locs 0 0 (MQ below (Q_X4_build G ss.heap.size kv km kg vw vh sl mk sg kb ka kc kcn kl kn w h la af nc fc) ([.ref kv, .ref kb] : List Value).toArray ss 0 0 (va_A (w_X4_build G kv km kg vw vh sl mk sg kb ka kc kcn kl kn w h la af nc fc) ss.heap.size)) (F0 mm 18 ls []) := by
    intro k
    induction k using Nat.strongRecOn with
    | _ k ih18 =>
    intro d mk2 sg2 ls H locs hm18 hd hfr hl hP hD hS
    refine lv_iload_n hx hb dX4_build_18 rfl (lv_at hl 2 rfl) ?_
    refine lv_aload_n hx hb dX4_build_19 rfl (lv_at hl 1 rfl) ?_
    refine va_getN (D := G.1) (ci := 0) (v := .int (nI la)) (C := RX0) (T := TX0) (N := 7) hx hb hts hin0 hown hK.1 hP 1 rfl rfl 2 (by decide) (va_Nw.use rfl (hK.2 (Cond.fieldLinkNest "BackLenses$Views" (33 : Nat) "BackLenses$Book" "last" "I" "BackLenses") (List.mem_of_getElem? (i := 10) rfl))) (fun _ h9 => h9) rfl dX4_build_20 ?_
    refine xn_icmp_gt (tgt := 79) hx hb (by omega) (by omega) dX4_build_23 rfl (fun b23 => ?_) (fun b23 => ?_)
    · skip
      refine lv_aload_n hx hb dX4_build_79 rfl (lv_at hl 0 rfl) ?_
      refine lv_iconst (v := nI 0) hx hb dX4_build_80 (by decide) ?_
      refine va_put (D := G.1) (ci := 4) (v := .int (nI 0)) (ty := .boolean) (C := RX4) (T := TX4) (N := 5) hx hb hts hin4 tyX4 tyX4_ok nmX4 hown hK.1 hP hD hS 6 rfl rfl 4 (by decide) (hts (.fieldLink RX4 18 "BackLenses$Views" "stale" "Z") (List.mem_of_getElem? (i := 4) rfl)) (fun _ h9 => h9) rfl (by decide +kernel) (by decide) (by decide) (Nat.le_of_ble_eq_true rfl) dX4_build_81 (fun H locs hP hD hS => ?_)
      replace hP : xP G [iA G ka 16 af, oC kb 0 [.int (nI w), .int (nI h), .int (nI la), .ref ka, .ref kc, .ref kl, .ref kn], oC kc 2 [.ref kcn, .int (nI 10), .int (nI nc)], iA G kcn (3 * 10) fc, iA G kg 160 sg2, iA G km 176 mk2, oC kv 4 [.ref km, .ref kg, .int (nI w), .int (nI h), .int (nI 0)]] H := hP
      replace hD : va_D (va_A (w_X4_build G kv km kg vw vh sl mk sg kb ka kc kcn kl kn w h la af nc fc) ss.heap.size) [iA G ka 16 af, oC kb 0 [.int (nI w), .int (nI h), .int (nI la), .ref ka, .ref kc, .ref kl, .ref kn], oC kc 2 [.ref kcn, .int (nI 10), .int (nI nc)], iA G kcn (3 * 10) fc, iA G kg 160 sg2, iA G km 176 mk2, oC kv 4 [.ref km, .ref kg, .int (nI w), .int (nI h), .int (nI 0)]] := hD
      have hP := hP.sub (ws' := [oC kv 4 [.ref km, .ref kg, .int (nI w), .int (nI h), .int (nI 0)], iA G km 176 mk2, iA G kg 160 sg2, oC kb 0 [.int (nI w), .int (nI h), .int (nI la), .ref ka, .ref kc, .ref kl, .ref kn], iA G ka 16 af, oC kc 2 [.ref kcn, .int (nI 10), .int (nI nc)], iA G kcn (3 * 10) fc]) [6, 5, 4, 1, 0, 2, 3] rfl
      have hD := hD.sub (ws' := [oC kv 4 [.ref km, .ref kg, .int (nI w), .int (nI h), .int (nI 0)], iA G km 176 mk2, iA G kg 160 sg2, oC kb 0 [.int (nI w), .int (nI h), .int (nI la), .ref ka, .ref kc, .ref kl, .ref kn], iA G ka 16 af, oC kc 2 [.ref kcn, .int (nI 10), .int (nI nc)], iA G kcn (3 * 10) fc]) [6, 5, 4, 1, 0, 2, 3] (by decide) rfl
      refine W.vret hx hb hr (fun t ht hW => ⟨⟨(mk2, sg2), rfl, ?_, by rw [ht]; exact hP, hD⟩, hS.F ht⟩) hS.2.2 dX4_build_84
      try dsimp only
      intro d2 q2; exact hfr d2 (by omega)
    · skip
      refine lv_aload_n hx hb dX4_build_26 rfl (lv_at hl 0 rfl) ?_
      refine lv_aload_n hx hb dX4_build_27 rfl (lv_at hl 1 rfl) ?_
      refine lv_iload_n hx hb dX4_build_28 rfl (lv_at hl 2 rfl) ?_
      refine xw_v (As := [.ref kb, .int (nI d)]) (rest := []) (wr := [iA G kg 160 sg2]) ⟨hx, hb, hml, hown, hts⟩ (c_X4_buildMarks l G H.size kv km kg w h sl mk2 kb ka kc kcn kl kn w h la af nc fc d (by first | assumption | omega) (by first | assumption | omega) (by first | assumption | omega) (by by_cases q1 : d = 0; exact Or.inl q1; exact Or.inr (fun c q2 => (hfr (d - 1) (by omega)).1 c q2))) (cwV 2 hts gX4_build_X4_buildMarks rfl rfl rfl (by decide +kernel) ⟨Nat.le_of_ble_eq_true rfl, Nat.le_of_ble_eq_true rfl⟩) hK hP hD hS hA [6, 5, 1, 0, 2, 3] [4] rfl rfl (by decide) (by decide) (by decide) rfl rfl rfl hl.1 rfl (Nat.le_of_ble_eq_true rfl) dX4_build_29 ⟨Nat.le_of_ble_eq_true rfl, Nat.le_of_ble_eq_true rfl⟩ (fun u H locs hp29 hP hD hS => ?_)
      obtain ⟨mk2_29, rfl⟩ : ∃ z, z = u := ⟨_, rfl⟩
      try dsimp only at hp29 hP hD
      have he29 := hp29
      replace hP : xP G [iA G kg 160 sg2, oC kv 4 [.ref km, .ref kg, .int (nI w), .int (nI h), .int sl], iA G km 176 mk2_29, oC kb 0 [.int (nI w), .int (nI h), .int (nI la), .ref ka, .ref kc, .ref kl, .ref kn], iA G ka 16 af, oC kc 2 [.ref kcn, .int (nI 10), .int (nI nc)], iA G kcn (3 * 10) fc] H := hP
      replace hD : va_D (va_A (w_X4_build G kv km kg vw vh sl mk sg kb ka kc kcn kl kn w h la af nc fc) ss.heap.size) [iA G kg 160 sg2, oC kv 4 [.ref km, .ref kg, .int (nI w), .int (nI h), .int sl], iA G km 176 mk2_29, oC kb 0 [.int (nI w), .int (nI h), .int (nI la), .ref ka, .ref kc, .ref kl, .ref kn], iA G ka 16 af, oC kc 2 [.ref kcn, .int (nI 10), .int (nI nc)], iA G kcn (3 * 10) fc] := hD
      refine lv_iconst (v := nI 0) hx hb dX4_build_32 (by decide) ?_
      refine lv_istore_n (lv' := [(3, .int (nI 0)), (0, .ref kv), (1, .ref kb), (2, .int (nI d))]) hx hb dX4_build_33 rfl hl (by decide) rfl (fun ls hl => ?_)
      have hL34 : ∀ k : Nat, ∀ (x : Nat) (sg3 : Nat → Int32) (ls : Array Slot) (H : Heap) (locs : List Loc), w * h - x = k → (x ≤ w * h) → (∀ d2, d2 < d → (∀ c, c < 16 → mk2_29 (d2 * 16 + c) = mkS af nc fc c d2) ∧ ∀ x, x < w * h → sg3 (d2 * 16 + x) = sgF w h (fun c => mkS af nc fc c d2) x) → (∀ x2, x2 < x → sg3 (d * 16 + x2) = sgF w h (fun c => mkS af nc fc c d) x2) → lv_has ls 4 [(0, .ref kv), (1, .ref kb), (2, .int (nI d)), (3, .int (nI x))] → xP G [iA G ka 16 af, oC kb 0 [.int (nI w), .int (nI h), .int (nI la), .ref ka, .ref kc, .ref kl, .ref kn], oC kc 2 [.ref kcn, .int (nI 10), .int (nI nc)], iA G kcn (3 * 10) fc, iA G kg 160 sg3, iA G km 176 mk2_29, oC kv 4 [.ref km, .ref kg, .int (nI w), .int (nI h), .int sl]] H → va_D (va_A (w_X4_build G kv km kg vw vh sl mk sg kb ka kc kcn kl kn w h la af nc fc) ss.heap.size) [iA G ka 16 af, oC kb 0 [.int (nI w), .int (nI h), .int (nI la), .ref ka, .ref kc, .ref kl, .ref kn], oC kc 2 [.ref kcn, .int (nI 10), .int (nI nc)], iA G kcn (3 * 10) fc, iA G kg 160 sg3, iA G km 176 mk2_29, oC kv 4 [.ref km, .ref kg, .int (nI w), .int (nI h), .int sl]] → va_S (va_A (w_X4_build G kv km kg vw vh sl mk sg kb ka kc kcn kl kn w h la af nc fc) ss.heap.size) ss.heap H locs → W pp l ee ({ frames := 2, cells := 0, slots := 0, locals := 53 } : Room) ss mm ([.ref kv, .ref kb] : List Value).toArray below mt cd H locs 0 0 (MQ below (Q_X4_build G ss.heap.size kv km kg vw vh sl mk sg kb ka kc kcn kl kn w h la af nc fc) ([.ref kv, .ref kb] : List Value).toArray ss 0 0 (va_A (w_X4_build G kv km kg vw vh sl mk sg kb ka kc kcn kl kn w h la af nc fc) ss.heap.size)) (F0 mm 34 ls []) := by
        intro k
        induction k using Nat.strongRecOn with
        | _ k ih34 =>
        intro x sg3 ls H locs hm34 hxi hfr2 hrow hl hP hD hS
        refine lv_iload_n hx hb dX4_build_34 rfl (lv_at hl 3 rfl) ?_
        refine lv_aload_n hx hb dX4_build_35 rfl (lv_at hl 0 rfl) ?_
        refine va_get (D := G.1) (ci := 4) (v := .int (nI w)) (C := RX4) (T := TX4) (N := 5) hx hb hts hin4 hown hK.1 hP 6 rfl rfl 2 (by decide) (hts (.fieldLink RX4 28 "BackLenses$Views" "wide" "I") (List.mem_of_getElem? (i := 1) rfl)) (fun _ h9 => h9) rfl dX4_build_36 ?_
        refine lv_aload_n hx hb dX4_build_39 rfl (lv_at hl 0 rfl) ?_
        refine va_get (D := G.1) (ci := 4) (v := .int (nI h)) (C := RX4) (T := TX4) (N := 5) hx hb hts hin4 hown hK.1 hP 6 rfl rfl 3 (by decide) (hts (.fieldLink RX4 32 "BackLenses$Views" "high" "I") (List.mem_of_getElem? (i := 2) rfl)) (fun _ h9 => h9) rfl dX4_build_40 ?_
        refine xn_imul hx hb dX4_build_43 ?_
        refine xn_icmp_ge (tgt := 73) hx hb (by omega) (by omega) dX4_build_44 rfl (fun b44 => ?_) (fun b44 => ?_)
        · skip
          refine lv_iinc (k := 2) (v := nI (d + 1)) (lv' := [(2, .int (nI (d + 1))), (0, .ref kv), (1, .ref kb), (3, .int (nI x))]) hx hb dX4_build_73 hl rfl (xn_inc d 1) (by decide) rfl (fun ls hl => ?_)
          refine lv_goto (tgt := 18) hx hb dX4_build_76 rfl ?_
          have hl := lv_sub hl (l' := [(0, .ref kv), (1, .ref kb), (2, .int (nI (d + 1)))]) [1, 2, 0] rfl
          exact ih18 (la + 1 - (d + 1)) (by omega) (d + 1) mk2_29 sg3 ls H locs rfl (by omega) (by intro d2 q2; by_cases q3 : d2 < d; exact hfr2 d2 q3; obtain rfl : d2 = d := (by omega); exact ⟨he29.2, fun x2 q4 => hrow x2 (by omega)⟩) hl hP hD hS
        · skip
          refine lv_aload_n hx hb dX4_build_47 rfl (lv_at hl 0 rfl) ?_
          refine va_get (D := G.1) (ci := 4) (v := .ref kg) (C := RX4) (T := TX4) (N := 5) hx hb hts hin4 hown hK.1 hP 6 rfl rfl 1 (by decide) (hts (.fieldLink RX4 15 "BackLenses$Views" "sights" "[I") (List.mem_of_getElem? (i := 3) rfl)) (fun _ h9 => h9) rfl dX4_build_48 ?_
          refine lv_iload_n hx hb dX4_build_51 rfl (lv_at hl 2 rfl) ?_
          refine lv_bipush (v := nI 16) hx hb dX4_build_52 (by decide) ?_
          refine xn_imul hx hb dX4_build_54 ?_
          refine lv_iload_n hx hb dX4_build_55 rfl (lv_at hl 3 rfl) ?_
          refine xn_iadd hx hb dX4_build_56 ?_
          refine lv_aload_n hx hb dX4_build_57 rfl (lv_at hl 0 rfl) ?_
          refine lv_iload_n hx hb dX4_build_58 rfl (lv_at hl 2 rfl) ?_
          refine lv_bipush (v := nI 16) hx hb dX4_build_59 (by decide) ?_
          refine xn_imul hx hb dX4_build_61 ?_
          refine lv_iload_n hx hb dX4_build_62 rfl (lv_at hl 3 rfl) ?_
          refine xr_i (As := [.int (nI (d * 16)), .int (nI x)]) (rest := [.int (nI ((d * 16) + x)), .ref kg]) ⟨hx, hb, hml, hown, hts⟩ (c_X4_sight l G kv km kg w h sl mk2_29 (d * 16) x (by first | assumption | omega) (by first | assumption | omega) (by first | assumption | omega) (by first | assumption | omega) (by first | assumption | omega) (by first | assumption | omega)) (cwV 2 hts gX4_build_X4_sight rfl rfl rfl (by decide +kernel) ⟨Nat.le_of_ble_eq_true rfl, Nat.le_of_ble_eq_true rfl⟩) hK hP hS [6, 5] rfl rfl rfl rfl hl.1 rfl (Nat.le_of_ble_eq_true rfl) dX4_build_63 ⟨Nat.zero_le _, Nat.zero_le _⟩ (fun r63 H locs hp63 hP hS => ?_)
          obtain rfl : r63 = sgF w h (fun c => mk2_29 ((d * 16) + c)) x := hp63
          refine xn_iast hx hb hK hP hD hS 4 rfl (by omega) (by omega) dX4_build_66 (fun H locs hP hD hS => ?_)
          replace hP : xP G [iA G ka 16 af, oC kb 0 [.int (nI w), .int (nI h), .int (nI la), .ref ka, .ref kc, .ref kl, .ref kn], oC kc 2 [.ref kcn, .int (nI 10), .int (nI nc)], iA G kcn (3 * 10) fc, iA G kg 160 (upd sg3 ((d * 16) + x) (sgF w h (fun c => mk2_29 ((d * 16) + c)) x)), iA G km 176 mk2_29, oC kv 4 [.ref km, .ref kg, .int (nI w), .int (nI h), .int sl]] H := hP
          replace hD : va_D (va_A (w_X4_build G kv km kg vw vh sl mk sg kb ka kc kcn kl kn w h la af nc fc) ss.heap.size) [iA G ka 16 af, oC kb 0 [.int (nI w), .int (nI h), .int (nI la), .ref ka, .ref kc, .ref kl, .ref kn], oC kc 2 [.ref kcn, .int (nI 10), .int (nI nc)], iA G kcn (3 * 10) fc, iA G kg 160 (upd sg3 ((d * 16) + x) (sgF w h (fun c => mk2_29 ((d * 16) + c)) x)), iA G km 176 mk2_29, oC kv 4 [.ref km, .ref kg, .int (nI w), .int (nI h), .int sl]] := hD
          refine lv_iinc (k := 3) (v := nI (x + 1)) (lv' := [(3, .int (nI (x + 1))), (0, .ref kv), (1, .ref kb), (2, .int (nI d))]) hx hb dX4_build_67 hl rfl (xn_inc x 1) (by decide) rfl (fun ls hl => ?_)
          refine lv_goto (tgt := 34) hx hb dX4_build_70 rfl ?_
          have hl := lv_sub hl (l' := [(0, .ref kv), (1, .ref kb), (2, .int (nI d)), (3, .int (nI (x + 1)))]) [1, 2, 3, 0] rfl
          exact ih34 (w * h - (x + 1)) (by omega) (x + 1) (upd sg3 ((d * 16) + x) (sgF w h (fun c => mk2_29 ((d * 16) + c)) x)) ls H locs rfl (by omega) (by intro d2 q2; exact ⟨(hfr2 d2 q2).1, fun x2 q3 => by unfold upd; rw [if_neg (by omega)]; exact (hfr2 d2 q2).2 x2 q3⟩) (by intro x2 q2; unfold upd; by_cases q3 : x2 = x; subst q3; rw [if_pos rfl]; exact sgF_congr (by omega) (by omega) (fun c q4 => he29.2 c (by omega)); rw [if_neg (by omega)]; exact hrow x2 (by omega)) hl hP hD hS
      have hl := lv_sub hl (l' := [(0, .ref kv), (1, .ref kb), (2, .int (nI d)), (3, .int (nI 0))]) [1, 2, 3, 0] rfl
      have hP := hP.sub (ws' := [iA G ka 16 af, oC kb 0 [.int (nI w), .int (nI h), .int (nI la), .ref ka, .ref kc, .ref kl, .ref kn], oC kc 2 [.ref kcn, .int (nI 10), .int (nI nc)], iA G kcn (3 * 10) fc, iA G kg 160 sg2, iA G km 176 mk2_29, oC kv 4 [.ref km, .ref kg, .int (nI w), .int (nI h), .int sl]]) [4, 3, 5, 6, 0, 2, 1] rfl
      have hD := hD.sub (ws' := [iA G ka 16 af, oC kb 0 [.int (nI w), .int (nI h), .int (nI la), .ref ka, .ref kc, .ref kl, .ref kn], oC kc 2 [.ref kcn, .int (nI 10), .int (nI nc)], iA G kcn (3 * 10) fc, iA G kg 160 sg2, iA G km 176 mk2_29, oC kv 4 [.ref km, .ref kg, .int (nI w), .int (nI h), .int sl]]) [4, 3, 5, 6, 0, 2, 1] (by decide) rfl
      exact hL34 (w * h - 0) 0 sg2 ls H locs rfl (by omega) (by intro d2 q2; exact ⟨fun c q3 => by rw [he29.1 _ (by omega)]; exact (hfr d2 q2).1 c q3, (hfr d2 q2).2⟩) (by intro x2 q2; exact absurd q2 (Nat.not_lt_zero _)) hl hP hD hS
  have hl := lv_sub hl (l' := [(0, .ref kv), (1, .ref kb), (2, .int (nI 0))]) [1, 2, 0] rfl
  have hP := hP.sub (ws' := [iA G ka 16 af, oC kb 0 [.int (nI w), .int (nI h), .int (nI la), .ref ka, .ref kc, .ref kl, .ref kn], oC kc 2 [.ref kcn, .int (nI 10), .int (nI nc)], iA G kcn (3 * 10) fc, iA G kg 160 sg, iA G km 176 mk, oC kv 4 [.ref km, .ref kg, .int (nI w), .int (nI h), .int sl]]) [4, 3, 5, 6, 2, 1, 0] rfl
  have hD := hD.sub (ws' := [iA G ka 16 af, oC kb 0 [.int (nI w), .int (nI h), .int (nI la), .ref ka, .ref kc, .ref kl, .ref kn], oC kc 2 [.ref kcn, .int (nI 10), .int (nI nc)], iA G kcn (3 * 10) fc, iA G kg 160 sg, iA G km 176 mk, oC kv 4 [.ref km, .ref kg, .int (nI w), .int (nI h), .int sl]]) [4, 3, 5, 6, 2, 1, 0] (by decide) rfl
  exact hL18 (la + 1 - 0) 0 mk sg ls H locs rfl (by omega) (by intro d2 q2; exact absurd q2 (Nat.not_lt_zero _)) hl hP hD hS
end
section
abbrev w_X5_freshViews (G : XG) (kx kim kit kre ksh kwa kta : Nat) (tf rf : Int32) (kb ka kc kcn kl kn : Nat) (w h la : Nat) (af : Nat → Int32) (nc : Nat) (fc : Nat → Int32) (kv km kg : Nat) (vw vh : Nat) (sl : Int32) (mk sg : Nat → Int32) : va_W := [oC kx 5 [.ref kb, .ref kim, .ref kit, .ref kv, .ref kre, .int tf, .ref ksh, .int rf, .ref kwa, .ref kta], oC kb 0 [.int (nI w), .int (nI h), .int (nI la), .ref ka, .ref kc, .ref kl, .ref kn], iA G ka 16 af, oC kc 2 [.ref kcn, .int (nI 10), .int (nI nc)], iA G kcn (3 * 10) fc, oC kv 4 [.ref km, .ref kg, .int (nI vw), .int (nI vh), .int sl], iA G km 176 mk, iA G kg 160 sg]
abbrev Q_X5_freshViews (G : XG) (sz : Nat) (kx kim kit kre ksh kwa kta : Nat) (tf rf : Int32) (kb ka kc kcn kl kn : Nat) (w h la : Nat) (af : Nat → Int32) (nc : Nat) (fc : Nat → Int32) (kv km kg : Nat) (vw vh : Nat) (sl : Int32) (mk sg : Nat → Int32) : Array Value → State → Outcome → State → Prop := (va_Qr (fun (u : (Nat → Int32) × (Nat → Int32)) => FR w h la af nc fc u.1 u.2) (fun (u : (Nat → Int32) × (Nat → Int32)) (a : Nat) (t : State) => a = kv ∧ xWb G sz (w_X5_freshViews G kx kim kit kre ksh kwa kta tf rf kb ka kc kcn kl kn w h la af nc fc kv km kg vw vh sl mk sg) (fun u : (Nat → Int32) × (Nat → Int32) => [oC kx 5 [.ref kb, .ref kim, .ref kit, .ref kv, .ref kre, .int tf, .ref ksh, .int rf, .ref kwa, .ref kta], oC kb 0 [.int (nI w), .int (nI h), .int (nI la), .ref ka, .ref kc, .ref kl, .ref kn], iA G ka 16 af, oC kc 2 [.ref kcn, .int (nI 10), .int (nI nc)], iA G kcn (3 * 10) fc, oC kv 4 [.ref km, .ref kg, .int (nI w), .int (nI h), .int (nI 0)], iA G km 176 u.1, iA G kg 160 u.2]) u t) (va_A (w_X5_freshViews G kx kim kit kre ksh kwa kta tf rf kb ka kc kcn kl kn w h la af nc fc kv km kg vw vh sl mk sg) sz))
set_option maxHeartbeats 4000000 in
set_option maxRecDepth 100000 in
theorem c_X5_freshViews (l : Launch) (G : XG) (sz : Nat) (kx kim kit kre ksh kwa kta : Nat) (tf rf : Int32) (kb ka kc kcn kl kn : Nat) (w h la : Nat) (af : Nat → Int32) (nc : Nat) (fc : Nat → Int32) (kv km kg : Nat) (vw vh : Nat) (sl : Int32) (mk sg : Nat → Int32) (hw : 1 ≤ w) (hwb : w ≤ 16) (hhb : h ≤ 16) (hwh : w * h ≤ 16) (hla : la ≤ 9) (hnc : nc ≤ 10) (hcell : ∀ i, i < nc → inR (fc (3 * i + 1)) 16) (hvok : VOK w h la af nc fc mk sg vw vh sl) : Met l yX5_freshViews wsX5_freshViews ({ frames := 3, cells := 0, slots := 0, locals := 76 } : Room) (va_Pc [.ref kx] (xWp G sz (w_X5_freshViews G kx kim kit kre ksh kwa kta tf rf kb ka kc kcn kl kn w h la af nc fc kv km kg vw vh sl mk sg))) (Q_X5_freshViews G sz kx kim kit kre ksh kwa kta tf rf kb ka kc kcn kl kn w h la af nc fc kv km kg vw vh sl mk sg) 0 0 (va_A (w_X5_freshViews G kx kim kit kre ksh kwa kta tf rf kb ka kc kcn kl kn w h la af nc fc kv km kg vw vh sl mk sg) sz) := by
  refine Met.ofW (cc := cX5_freshViews) (maxL := 1) (ret := (some (.object "BackLenses$Views"))) (by decide) rfl ?_
  intro pp ee ss mm aa below mt cd s₁ BB hml hv
  obtain ⟨rfl, hsz, hP, hK, hD0⟩ := hv
  have hx := BB.exec
  have hb := BB.bytes
  have hr := BB.returns
  have hts := atoms_spec (ws := wsX5_freshViews) BB.pre
  have hown : ss.vm.findClass RX5 = some mm.cls := findClass_of_methodNamed BB.named
  have hlocks := BB.notSynchronized
  subst hsz
  have hD := hD0.self (sz := ss.heap.size)
  have hA : ∀ q : Nat, ss.heap.size ≤ q → va_A (w_X5_freshViews G kx kim kit kre ksh kwa kta tf rf kb ka kc kcn kl kn w h la af nc fc kv km kg vw vh sl mk sg) ss.heap.size q := fun q h => Or.inr h
  have hS : va_S (va_A (w_X5_freshViews G kx kim kit kre ksh kwa kta tf rf kb ka kc kcn kl kn w h la af nc fc kv km kg vw vh sl mk sg) ss.heap.size) ss.heap ss.heap [] := va_S.rf
  replace hD : va_D (va_A (w_X5_freshViews G kx kim kit kre ksh kwa kta tf rf kb ka kc kcn kl kn w h la af nc fc kv km kg vw vh sl mk sg) ss.heap.size) [oC kx 5 [.ref kb, .ref kim, .ref kit, .ref kv, .ref kre, .int tf, .ref ksh, .int rf, .ref kwa, .ref kta], oC kb 0 [.int (nI w), .int (nI h), .int (nI la), .ref ka, .ref kc, .ref kl, .ref kn], iA G ka 16 af, oC kc 2 [.ref kcn, .int (nI 10), .int (nI nc)], iA G kcn (3 * 10) fc, oC kv 4 [.ref km, .ref kg, .int (nI vw), .int (nI vh), .int sl], iA G km 176 mk, iA G kg 160 sg] := hD
  replace hP : xP G [oC kx 5 [.ref kb, .ref kim, .ref kit, .ref kv, .ref kre, .int tf, .ref ksh, .int rf, .ref kwa, .ref kta], oC kb 0 [.int (nI w), .int (nI h), .int (nI la), .ref ka, .ref kc, .ref kl, .ref kn], iA G ka 16 af, oC kc 2 [.ref kcn, .int (nI 10), .int (nI nc)], iA G kcn (3 * 10) fc, oC kv 4 [.ref km, .ref kg, .int (nI vw), .int (nI vh), .int sl], iA G km 176 mk, iA G kg 160 sg] ss.heap := hP
  have hin0 : ∀ w ∈ u_ws RX0 TX0 7, w ∈ wsX5_freshViews := fun w h => List.mem_cons_of_mem _ (List.mem_append_left _ (List.mem_append_right _ h))
  have hin2 : ∀ w ∈ u_ws RX2 TX2 3, w ∈ wsX5_freshViews := fun w h => List.mem_cons_of_mem _ (List.mem_append_right _ h)
  have hin4 : ∀ w ∈ u_ws RX4 TX4 5, w ∈ wsX5_freshViews := fun w h => List.mem_cons_of_mem _ (List.mem_append_left _ (List.mem_append_left _ (List.mem_append_right _ h)))
  have hin5 : ∀ w ∈ u_ws RX5 TX5 10, w ∈ wsX5_freshViews := fun w h => List.mem_cons_of_mem _ (List.mem_append_left _ (List.mem_append_left _ (List.mem_append_left _ (List.mem_append_right _ h))))
  have hl := lv_entry ([.ref kx]) (n := 1) (Nat.le_of_ble_eq_true rfl)
  rw [lg_entry_eq]
  generalize (lg_sl ([.ref kx]) ++ List.replicate (1 - (lg_sl ([.ref kx])).length) Slot.unset).toArray = ls at hl ⊢
  replace hl : lv_has ls 1 [(0, .ref kx)] := hl
  refine lv_aload_n hx hb dX5_freshViews_0 rfl (lv_at hl 0 rfl) ?_
  refine va_get (D := G.1) (ci := 5) (v := .ref kv) (C := RX5) (T := TX5) (N := 10) hx hb hts hin5 hown hK.1 hP 0 rfl rfl 3 (by decide) (hts (.fieldLink RX5 27 "BackLenses" "views" "LBackLenses$Views;") (List.mem_of_getElem? (i := 1) rfl)) (fun _ h9 => h9) rfl dX5_freshViews_1 ?_
  refine va_getN (D := G.1) (ci := 4) (v := .int sl) (C := RX4) (T := TX4) (N := 5) hx hb hts hin4 hown hK.1 hP 5 rfl rfl 4 (by decide) (va_Nw.use rfl (hK.2 (Cond.fieldLinkNest "BackLenses" (77 : Nat) "BackLenses$Views" "stale" "Z" "BackLenses") (List.mem_of_getElem? (i := 22) rfl))) (fun _ h9 => h9) rfl dX5_freshViews_4 ?_
  refine lv_if_eq (tgt := 21) hx hb dX5_freshViews_7 rfl (fun b7 => ?_) (fun b7 => ?_)
  · skip
    obtain ⟨e1, e2, e3⟩ := hvok b7
    have e1 := e1.symm
    have e2 := e2.symm
    subst e1
    subst e2
    subst b7
    refine lv_aload_n hx hb dX5_freshViews_21 rfl (lv_at hl 0 rfl) ?_
    refine va_get (D := G.1) (ci := 5) (v := .ref kv) (C := RX5) (T := TX5) (N := 10) hx hb hts hin5 hown hK.1 hP 0 rfl rfl 3 (by decide) (hts (.fieldLink RX5 27 "BackLenses" "views" "LBackLenses$Views;") (List.mem_of_getElem? (i := 1) rfl)) (fun _ h9 => h9) rfl dX5_freshViews_22 ?_
    have hP := hP.sub (ws' := [oC kx 5 [.ref kb, .ref kim, .ref kit, .ref kv, .ref kre, .int tf, .ref ksh, .int rf, .ref kwa, .ref kta], oC kb 0 [.int (nI w), .int (nI h), .int (nI la), .ref ka, .ref kc, .ref kl, .ref kn], iA G ka 16 af, oC kc 2 [.ref kcn, .int (nI 10), .int (nI nc)], iA G kcn (3 * 10) fc, oC kv 4 [.ref km, .ref kg, .int (nI w), .int (nI h), .int 0], iA G km 176 mk, iA G kg 160 sg]) [0, 1, 2, 3, 4, 5, 6, 7] rfl
    have hD := hD.sub (ws' := [oC kx 5 [.ref kb, .ref kim, .ref kit, .ref kv, .ref kre, .int tf, .ref ksh, .int rf, .ref kwa, .ref kta], oC kb 0 [.int (nI w), .int (nI h), .int (nI la), .ref ka, .ref kc, .ref kl, .ref kn], iA G ka 16 af, oC kc 2 [.ref kcn, .int (nI 10), .int (nI nc)], iA G kcn (3 * 10) fc, oC kv 4 [.ref km, .ref kg, .int (nI w), .int (nI h), .int 0], iA G km 176 mk, iA G kg 160 sg]) [0, 1, 2, 3, 4, 5, 6, 7] (by decide) rfl
    refine W.aret (v := .ref kv) hx hb hr (Or.inl ⟨_, rfl⟩) (Or.inr ⟨_, rfl⟩) (fun t ht hW => ⟨⟨(mk, sg), _, rfl, ?_, rfl, by rw [ht]; exact hP, hD⟩, hS.F ht⟩) hS.2.2 dX5_freshViews_25
    try dsimp only
    first | exact e3 | exact he18
  · skip
    refine lv_aload_n hx hb dX5_freshViews_10 rfl (lv_at hl 0 rfl) ?_
    refine va_get (D := G.1) (ci := 5) (v := .ref kv) (C := RX5) (T := TX5) (N := 10) hx hb hts hin5 hown hK.1 hP 0 rfl rfl 3 (by decide) (hts (.fieldLink RX5 27 "BackLenses" "views" "LBackLenses$Views;") (List.mem_of_getElem? (i := 1) rfl)) (fun _ h9 => h9) rfl dX5_freshViews_11 ?_
    refine lv_aload_n hx hb dX5_freshViews_14 rfl (lv_at hl 0 rfl) ?_
    refine va_get (D := G.1) (ci := 5) (v := .ref kb) (C := RX5) (T := TX5) (N := 10) hx hb hts hin5 hown hK.1 hP 0 rfl rfl 0 (by decide) (hts (.fieldLink RX5 10 "BackLenses" "book" "LBackLenses$Book;") (List.mem_of_getElem? (i := 2) rfl)) (fun _ h9 => h9) rfl dX5_freshViews_15 ?_
    refine xw_v (As := [.ref kb]) (rest := []) (wr := [oC kx 5 [.ref kb, .ref kim, .ref kit, .ref kv, .ref kre, .int tf, .ref ksh, .int rf, .ref kwa, .ref kta]]) ⟨hx, hb, hml, hown, hts⟩ (c_X4_build l G ss.heap.size kv km kg vw vh sl mk sg kb ka kc kcn kl kn w h la af nc fc (by first | assumption | omega) (by first | assumption | omega) (by first | assumption | omega) (by first | assumption | omega) (by first | assumption | omega) (by first | assumption | omega) (by first | assumption | omega)) (cwV 1 hts gX5_freshViews_X4_build rfl rfl rfl (by decide +kernel) ⟨Nat.le_of_ble_eq_true rfl, Nat.le_of_ble_eq_true rfl⟩) hK hP hD hS hA [5, 6, 7, 1, 2, 3, 4] [0] rfl rfl (by decide) (by decide) (by decide) rfl rfl rfl hl.1 rfl (Nat.le_of_ble_eq_true rfl) dX5_freshViews_18 ⟨Nat.le_of_ble_eq_true rfl, Nat.le_of_ble_eq_true rfl⟩ (fun u H locs hp18 hP hD hS => ?_)
    obtain ⟨mk2_18, sg2_18⟩ := u
    try dsimp only at hp18 hP hD
    have he18 := hp18
    replace hP : xP G [oC kx 5 [.ref kb, .ref kim, .ref kit, .ref kv, .ref kre, .int tf, .ref ksh, .int rf, .ref kwa, .ref kta], oC kv 4 [.ref km, .ref kg, .int (nI w), .int (nI h), .int (nI 0)], iA G km 176 mk2_18, iA G kg 160 sg2_18, oC kb 0 [.int (nI w), .int (nI h), .int (nI la), .ref ka, .ref kc, .ref kl, .ref kn], iA G ka 16 af, oC kc 2 [.ref kcn, .int (nI 10), .int (nI nc)], iA G kcn (3 * 10) fc] H := hP
    replace hD : va_D (va_A (w_X5_freshViews G kx kim kit kre ksh kwa kta tf rf kb ka kc kcn kl kn w h la af nc fc kv km kg vw vh sl mk sg) ss.heap.size) [oC kx 5 [.ref kb, .ref kim, .ref kit, .ref kv, .ref kre, .int tf, .ref ksh, .int rf, .ref kwa, .ref kta], oC kv 4 [.ref km, .ref kg, .int (nI w), .int (nI h), .int (nI 0)], iA G km 176 mk2_18, iA G kg 160 sg2_18, oC kb 0 [.int (nI w), .int (nI h), .int (nI la), .ref ka, .ref kc, .ref kl, .ref kn], iA G ka 16 af, oC kc 2 [.ref kcn, .int (nI 10), .int (nI nc)], iA G kcn (3 * 10) fc] := hD
    refine lv_aload_n hx hb dX5_freshViews_21 rfl (lv_at hl 0 rfl) ?_
    refine va_get (D := G.1) (ci := 5) (v := .ref kv) (C := RX5) (T := TX5) (N := 10) hx hb hts hin5 hown hK.1 hP 0 rfl rfl 3 (by decide) (hts (.fieldLink RX5 27 "BackLenses" "views" "LBackLenses$Views;") (List.mem_of_getElem? (i := 1) rfl)) (fun _ h9 => h9) rfl dX5_freshViews_22 ?_
    have hP := hP.sub (ws' := [oC kx 5 [.ref kb, .ref kim, .ref kit, .ref kv, .ref kre, .int tf, .ref ksh, .int rf, .ref kwa, .ref kta], oC kb 0 [.int (nI w), .int (nI h), .int (nI la), .ref ka, .ref kc, .ref kl, .ref kn], iA G ka 16 af, oC kc 2 [.ref kcn, .int (nI 10), .int (nI nc)], iA G kcn (3 * 10) fc, oC kv 4 [.ref km, .ref kg, .int (nI w), .int (nI h), .int (nI 0)], iA G km 176 mk2_18, iA G kg 160 sg2_18]) [0, 4, 5, 6, 7, 1, 2, 3] rfl
    have hD := hD.sub (ws' := [oC kx 5 [.ref kb, .ref kim, .ref kit, .ref kv, .ref kre, .int tf, .ref ksh, .int rf, .ref kwa, .ref kta], oC kb 0 [.int (nI w), .int (nI h), .int (nI la), .ref ka, .ref kc, .ref kl, .ref kn], iA G ka 16 af, oC kc 2 [.ref kcn, .int (nI 10), .int (nI nc)], iA G kcn (3 * 10) fc, oC kv 4 [.ref km, .ref kg, .int (nI w), .int (nI h), .int (nI 0)], iA G km 176 mk2_18, iA G kg 160 sg2_18]) [0, 4, 5, 6, 7, 1, 2, 3] (by decide) rfl
    refine W.aret (v := .ref kv) hx hb hr (Or.inl ⟨_, rfl⟩) (Or.inr ⟨_, rfl⟩) (fun t ht hW => ⟨⟨(mk2_18, sg2_18), _, rfl, ?_, rfl, by rw [ht]; exact hP, hD⟩, hS.F ht⟩) hS.2.2 dX5_freshViews_25
    try dsimp only
    first | exact e3 | exact he18

abbrev w_X5_mark (G : XG) (kx kim kit kre ksh kwa kta : Nat) (tf rf : Int32) (kb ka kc kcn kl kn : Nat) (w h la : Nat) (af : Nat → Int32) (nc : Nat) (fc : Nat → Int32) (kv km kg : Nat) (vw vh : Nat) (sl : Int32) (mk sg : Nat → Int32) : va_W := [oC kx 5 [.ref kb, .ref kim, .ref kit, .ref kv, .ref kre, .int tf, .ref ksh, .int rf, .ref kwa, .ref kta], oC kb 0 [.int (nI w), .int (nI h), .int (nI la), .ref ka, .ref kc, .ref kl, .ref kn], iA G ka 16 af, oC kc 2 [.ref kcn, .int (nI 10), .int (nI nc)], iA G kcn (3 * 10) fc, oC kv 4 [.ref km, .ref kg, .int (nI vw), .int (nI vh), .int sl], iA G km 176 mk, iA G kg 160 sg]
abbrev Q_X5_mark (G : XG) (sz : Nat) (kx kim kit kre ksh kwa kta : Nat) (tf rf : Int32) (kb ka kc kcn kl kn : Nat) (w h la : Nat) (af : Nat → Int32) (nc : Nat) (fc : Nat → Int32) (kv km kg : Nat) (vw vh : Nat) (sl : Int32) (mk sg : Nat → Int32) (c d : Int32) : Array Value → State → Outcome → State → Prop := (va_Qi (fun (r : Int32) (u : (Nat → Int32) × (Nat → Int32) × Nat × Nat × Int32) => r = (if inR c (w * h) ∧ inR d (la + 1) then mkS af nc fc (tn c) (tn d) else (-1)) ∧ VOK w h la af nc fc u.1 u.2.1 u.2.2.1 u.2.2.2.1 u.2.2.2.2) (xWb G sz (w_X5_mark G kx kim kit kre ksh kwa kta tf rf kb ka kc kcn kl kn w h la af nc fc kv km kg vw vh sl mk sg) (fun u : (Nat → Int32) × (Nat → Int32) × Nat × Nat × Int32 => [oC kx 5 [.ref kb, .ref kim, .ref kit, .ref kv, .ref kre, .int tf, .ref ksh, .int rf, .ref kwa, .ref kta], oC kb 0 [.int (nI w), .int (nI h), .int (nI la), .ref ka, .ref kc, .ref kl, .ref kn], iA G ka 16 af, oC kc 2 [.ref kcn, .int (nI 10), .int (nI nc)], iA G kcn (3 * 10) fc, oC kv 4 [.ref km, .ref kg, .int (nI u.2.2.1), .int (nI u.2.2.2.1), .int u.2.2.2.2], iA G km 176 u.1, iA G kg 160 u.2.1])) (va_A (w_X5_mark G kx kim kit kre ksh kwa kta tf rf kb ka kc kcn kl kn w h la af nc fc kv km kg vw vh sl mk sg) sz))
set_option maxHeartbeats 4000000 in
set_option maxRecDepth 100000 in
theorem c_X5_mark (l : Launch) (G : XG) (sz : Nat) (kx kim kit kre ksh kwa kta : Nat) (tf rf : Int32) (kb ka kc kcn kl kn : Nat) (w h la : Nat) (af : Nat → Int32) (nc : Nat) (fc : Nat → Int32) (kv km kg : Nat) (vw vh : Nat) (sl : Int32) (mk sg : Nat → Int32) (c d : Int32) (hw : 1 ≤ w) (hwb : w ≤ 16) (hhb : h ≤ 16) (hwh : w * h ≤ 16) (hla : la ≤ 9) (hnc : nc ≤ 10) (hcell : ∀ i, i < nc → inR (fc (3 * i + 1)) 16) (hvok : VOK w h la af nc fc mk sg vw vh sl) : Met l yX5_mark wsX5_mark ({ frames := 4, cells := 0, slots := 0, locals := 96 } : Room) (va_Pc [.ref kx, .int c, .int d] (xWp G sz (w_X5_mark G kx kim kit kre ksh kwa kta tf rf kb ka kc kcn kl kn w h la af nc fc kv km kg vw vh sl mk sg))) (Q_X5_mark G sz kx kim kit kre ksh kwa kta tf rf kb ka kc kcn kl kn w h la af nc fc kv km kg vw vh sl mk sg c d) 0 0 (va_A (w_X5_mark G kx kim kit kre ksh kwa kta tf rf kb ka kc kcn kl kn w h la af nc fc kv km kg vw vh sl mk sg) sz) := by
  refine Met.ofW (cc := cX5_mark) (maxL := 3) (ret := (some .int)) (by decide) rfl ?_
  intro pp ee ss mm aa below mt cd s₁ BB hml hv
  obtain ⟨rfl, hsz, hP, hK, hD0⟩ := hv
  have hx := BB.exec
  have hb := BB.bytes
  have hr := BB.returns
  have hts := atoms_spec (ws := wsX5_mark) BB.pre
  have hown : ss.vm.findClass RX5 = some mm.cls := findClass_of_methodNamed BB.named
  have hlocks := BB.notSynchronized
  subst hsz
  have hD := hD0.self (sz := ss.heap.size)
  have hA : ∀ q : Nat, ss.heap.size ≤ q → va_A (w_X5_mark G kx kim kit kre ksh kwa kta tf rf kb ka kc kcn kl kn w h la af nc fc kv km kg vw vh sl mk sg) ss.heap.size q := fun q h => Or.inr h
  have hS : va_S (va_A (w_X5_mark G kx kim kit kre ksh kwa kta tf rf kb ka kc kcn kl kn w h la af nc fc kv km kg vw vh sl mk sg) ss.heap.size) ss.heap ss.heap [] := va_S.rf
  replace hD : va_D (va_A (w_X5_mark G kx kim kit kre ksh kwa kta tf rf kb ka kc kcn kl kn w h la af nc fc kv km kg vw vh sl mk sg) ss.heap.size) [oC kx 5 [.ref kb, .ref kim, .ref kit, .ref kv, .ref kre, .int tf, .ref ksh, .int rf, .ref kwa, .ref kta], oC kb 0 [.int (nI w), .int (nI h), .int (nI la), .ref ka, .ref kc, .ref kl, .ref kn], iA G ka 16 af, oC kc 2 [.ref kcn, .int (nI 10), .int (nI nc)], iA G kcn (3 * 10) fc, oC kv 4 [.ref km, .ref kg, .int (nI vw), .int (nI vh), .int sl], iA G km 176 mk, iA G kg 160 sg] := hD
  replace hP : xP G [oC kx 5 [.ref kb, .ref kim, .ref kit, .ref kv, .ref kre, .int tf, .ref ksh, .int rf, .ref kwa, .ref kta], oC kb 0 [.int (nI w), .int (nI h), .int (nI la), .ref ka, .ref kc, .ref kl, .ref kn], iA G ka 16 af, oC kc 2 [.ref kcn, .int (nI 10), .int (nI nc)], iA G kcn (3 * 10) fc, oC kv 4 [.ref km, .ref kg, .int (nI vw), .int (nI vh), .int sl], iA G km 176 mk, iA G kg 160 sg] ss.heap := hP
  have hin0 : ∀ w ∈ u_ws RX0 TX0 7, w ∈ wsX5_mark := fun w h => List.mem_cons_of_mem _ (List.mem_append_left _ (List.mem_append_left _ (List.mem_append_right _ h)))
  have hin2 : ∀ w ∈ u_ws RX2 TX2 3, w ∈ wsX5_mark := fun w h => List.mem_cons_of_mem _ (List.mem_append_right _ h)
  have hin4 : ∀ w ∈ u_ws RX4 TX4 5, w ∈ wsX5_mark := fun w h => List.mem_cons_of_mem _ (List.mem_append_left _ (List.mem_append_right _ h))
  have hin5 : ∀ w ∈ u_ws RX5 TX5 10, w ∈ wsX5_mark := fun w h => List.mem_cons_of_mem _ (List.mem_append_left _ (List.mem_append_left _ (List.mem_append_left _ (List.mem_append_right _ h))))
  have hl := lv_entry ([.ref kx, .int c, .int d]) (n := 3) (Nat.le_of_ble_eq_true rfl)
  rw [lg_entry_eq]
  generalize (lg_sl ([.ref kx, .int c, .int d]) ++ List.replicate (3 - (lg_sl ([.ref kx, .int c, .int d])).length) Slot.unset).toArray = ls at hl ⊢
  replace hl : lv_has ls 3 [(0, .ref kx), (1, .int c), (2, .int d)] := hl
  refine lv_aload_n hx hb dX5_mark_0 rfl (lv_at hl 0 rfl) ?_
  refine va_get (D := G.1) (ci := 5) (v := .ref kb) (C := RX5) (T := TX5) (N := 10) hx hb hts hin5 hown hK.1 hP 0 rfl rfl 0 (by decide) (hts (.fieldLink RX5 10 "BackLenses" "book" "LBackLenses$Book;") (List.mem_of_getElem? (i := 1) rfl)) (fun _ h9 => h9) rfl dX5_mark_1 ?_
  refine lv_iload_n hx hb dX5_mark_4 rfl (lv_at hl 1 rfl) ?_
  refine xr_i (As := [.int c]) (rest := []) ⟨hx, hb, hml, hown, hts⟩ (c_X0_hasCell l G kb ka kc kl kn w h la c (by first | assumption | omega)) (cwV 1 hts gX5_mark_X0_hasCell rfl rfl rfl (by decide +kernel) ⟨Nat.le_of_ble_eq_true rfl, Nat.le_of_ble_eq_true rfl⟩) hK hP hS [1] rfl rfl rfl rfl hl.1 rfl (Nat.le_of_ble_eq_true rfl) dX5_mark_5 ⟨Nat.zero_le _, Nat.zero_le _⟩ (fun r5 H locs hp5 hP hS => ?_)
  obtain rfl : r5 = xb (inR c (w * h)) := hp5
  refine xb_if_eq (tgt := 22) hx hb dX5_mark_8 rfl (fun b8 => ?_) (fun b8 => ?_)
  · skip
    refine lv_iconst (v := (-1)) hx hb dX5_mark_22 (by decide) ?_
    have hP := hP.sub (ws' := [oC kx 5 [.ref kb, .ref kim, .ref kit, .ref kv, .ref kre, .int tf, .ref ksh, .int rf, .ref kwa, .ref kta], oC kb 0 [.int (nI w), .int (nI h), .int (nI la), .ref ka, .ref kc, .ref kl, .ref kn], iA G ka 16 af, oC kc 2 [.ref kcn, .int (nI 10), .int (nI nc)], iA G kcn (3 * 10) fc, oC kv 4 [.ref km, .ref kg, .int (nI vw), .int (nI vh), .int sl], iA G km 176 mk, iA G kg 160 sg]) [0, 1, 2, 3, 4, 5, 6, 7] rfl
    have hD := hD.sub (ws' := [oC kx 5 [.ref kb, .ref kim, .ref kit, .ref kv, .ref kre, .int tf, .ref ksh, .int rf, .ref kwa, .ref kta], oC kb 0 [.int (nI w), .int (nI h), .int (nI la), .ref ka, .ref kc, .ref kl, .ref kn], iA G ka 16 af, oC kc 2 [.ref kcn, .int (nI 10), .int (nI nc)], iA G kcn (3 * 10) fc, oC kv 4 [.ref km, .ref kg, .int (nI vw), .int (nI vh), .int sl], iA G km 176 mk, iA G kg 160 sg]) [0, 1, 2, 3, 4, 5, 6, 7] (by decide) rfl
    refine W.iret (v := (-1)) hx hb hr (fun t ht hW => ⟨⟨(-1), (mk, sg, vw, vh, sl), rfl, ?_, by rw [ht]; exact hP, hD⟩, hS.F ht⟩) hS.2.2 dX5_mark_23
    try dsimp only
    first | exact ⟨(if_neg (fun q => b8 q.1)).symm, hvok⟩ | exact ⟨(if_neg (fun q => b19 q.2)).symm, hvok⟩ | (refine ⟨?_, VOK_fr he25⟩; rw [if_pos ⟨inR_nI hc0 (by omega), inR_nI hd0 (by omega)⟩, tn_nI (by omega), tn_nI (by omega)]; exact (he25 d0 (by omega)).1 c0 (by omega))
  · skip
    refine lv_aload_n hx hb dX5_mark_11 rfl (lv_at hl 0 rfl) ?_
    refine va_get (D := G.1) (ci := 5) (v := .ref kb) (C := RX5) (T := TX5) (N := 10) hx hb hts hin5 hown hK.1 hP 0 rfl rfl 0 (by decide) (hts (.fieldLink RX5 10 "BackLenses" "book" "LBackLenses$Book;") (List.mem_of_getElem? (i := 1) rfl)) (fun _ h9 => h9) rfl dX5_mark_12 ?_
    refine lv_iload_n hx hb dX5_mark_15 rfl (lv_at hl 2 rfl) ?_
    refine xr_i (As := [.int d]) (rest := []) ⟨hx, hb, hml, hown, hts⟩ (c_X0_hasDay l G kb ka kc kl kn w h la d (by first | assumption | omega)) (cwV 1 hts gX5_mark_X0_hasDay rfl rfl rfl (by decide +kernel) ⟨Nat.le_of_ble_eq_true rfl, Nat.le_of_ble_eq_true rfl⟩) hK hP hS [1] rfl rfl rfl rfl hl.1 rfl (Nat.le_of_ble_eq_true rfl) dX5_mark_16 ⟨Nat.zero_le _, Nat.zero_le _⟩ (fun r16 H locs hp16 hP hS => ?_)
    obtain rfl : r16 = xb (inR d (la + 1)) := hp16
    refine xb_if_ne (tgt := 24) hx hb dX5_mark_19 rfl (fun b19 => ?_) (fun b19 => ?_)
    · skip
      obtain ⟨c0, hc0, rfl⟩ := inR_nat b8
      obtain ⟨d0, hd0, rfl⟩ := inR_nat b19
      refine lv_aload_n hx hb dX5_mark_24 rfl (lv_at hl 0 rfl) ?_
      refine xw_r (As := []) (rest := []) (wr := []) ⟨hx, hb, hml, hown, hts⟩ (c_X5_freshViews l G H.size kx kim kit kre ksh kwa kta tf rf kb ka kc kcn kl kn w h la af nc fc kv km kg vw vh sl mk sg (by first | assumption | omega) (by first | assumption | omega) (by first | assumption | omega) (by first | assumption | omega) (by first | assumption | omega) (by first | assumption | omega) (by first | assumption | omega) (by first | assumption | omega)) (cwV 0 hts gX5_mark_X5_freshViews rfl rfl rfl (by decide +kernel) ⟨Nat.le_of_ble_eq_true rfl, Nat.le_of_ble_eq_true rfl⟩) hK hP hD hS hA [0, 1, 2, 3, 4, 5, 6, 7] [] rfl rfl (by decide) (by decide) (by decide) rfl rfl rfl hl.1 rfl (Nat.le_of_ble_eq_true rfl) dX5_mark_25 ⟨Nat.le_of_ble_eq_true rfl, Nat.le_of_ble_eq_true rfl⟩ (fun u H locs hp25 hP hD hS => ?_)
      obtain ⟨mk2_25, sg2_25⟩ := u
      try dsimp only at hp25 hP hD
      have he25 := hp25
      replace hP : xP G [oC kx 5 [.ref kb, .ref kim, .ref kit, .ref kv, .ref kre, .int tf, .ref ksh, .int rf, .ref kwa, .ref kta], oC kb 0 [.int (nI w), .int (nI h), .int (nI la), .ref ka, .ref kc, .ref kl, .ref kn], iA G ka 16 af, oC kc 2 [.ref kcn, .int (nI 10), .int (nI nc)], iA G kcn (3 * 10) fc, oC kv 4 [.ref km, .ref kg, .int (nI w), .int (nI h), .int (nI 0)], iA G km 176 mk2_25, iA G kg 160 sg2_25] H := hP
      replace hD : va_D (va_A (w_X5_mark G kx kim kit kre ksh kwa kta tf rf kb ka kc kcn kl kn w h la af nc fc kv km kg vw vh sl mk sg) ss.heap.size) [oC kx 5 [.ref kb, .ref kim, .ref kit, .ref kv, .ref kre, .int tf, .ref ksh, .int rf, .ref kwa, .ref kta], oC kb 0 [.int (nI w), .int (nI h), .int (nI la), .ref ka, .ref kc, .ref kl, .ref kn], iA G ka 16 af, oC kc 2 [.ref kcn, .int (nI 10), .int (nI nc)], iA G kcn (3 * 10) fc, oC kv 4 [.ref km, .ref kg, .int (nI w), .int (nI h), .int (nI 0)], iA G km 176 mk2_25, iA G kg 160 sg2_25] := hD
      refine lv_iload_n hx hb dX5_mark_28 rfl (lv_at hl 1 rfl) ?_
      refine lv_iload_n hx hb dX5_mark_29 rfl (lv_at hl 2 rfl) ?_
      refine xr_i (As := [.int (nI c0), .int (nI d0)]) (rest := []) ⟨hx, hb, hml, hown, hts⟩ (c_X4_markOf l G kv km kg w h (nI 0) mk2_25 c0 d0 (by first | assumption | omega)) (cwV 2 hts gX5_mark_X4_markOf rfl rfl rfl (by decide +kernel) ⟨Nat.le_of_ble_eq_true rfl, Nat.le_of_ble_eq_true rfl⟩) hK hP hS [5, 6] rfl rfl rfl rfl hl.1 rfl (Nat.le_of_ble_eq_true rfl) dX5_mark_30 ⟨Nat.zero_le _, Nat.zero_le _⟩ (fun r30 H locs hp30 hP hS => ?_)
      obtain rfl : r30 = mk2_25 (d0 * 16 + c0) := hp30
      have hP := hP.sub (ws' := [oC kx 5 [.ref kb, .ref kim, .ref kit, .ref kv, .ref kre, .int tf, .ref ksh, .int rf, .ref kwa, .ref kta], oC kb 0 [.int (nI w), .int (nI h), .int (nI la), .ref ka, .ref kc, .ref kl, .ref kn], iA G ka 16 af, oC kc 2 [.ref kcn, .int (nI 10), .int (nI nc)], iA G kcn (3 * 10) fc, oC kv 4 [.ref km, .ref kg, .int (nI w), .int (nI h), .int (nI 0)], iA G km 176 mk2_25, iA G kg 160 sg2_25]) [0, 1, 2, 3, 4, 5, 6, 7] rfl
      have hD := hD.sub (ws' := [oC kx 5 [.ref kb, .ref kim, .ref kit, .ref kv, .ref kre, .int tf, .ref ksh, .int rf, .ref kwa, .ref kta], oC kb 0 [.int (nI w), .int (nI h), .int (nI la), .ref ka, .ref kc, .ref kl, .ref kn], iA G ka 16 af, oC kc 2 [.ref kcn, .int (nI 10), .int (nI nc)], iA G kcn (3 * 10) fc, oC kv 4 [.ref km, .ref kg, .int (nI w), .int (nI h), .int (nI 0)], iA G km 176 mk2_25, iA G kg 160 sg2_25]) [0, 1, 2, 3, 4, 5, 6, 7] (by decide) rfl
      refine W.iret (v := mk2_25 (d0 * 16 + c0)) hx hb hr (fun t ht hW => ⟨⟨mk2_25 (d0 * 16 + c0), (mk2_25, sg2_25, w, h, nI 0), rfl, ?_, by rw [ht]; exact hP, hD⟩, hS.F ht⟩) hS.2.2 dX5_mark_33
      try dsimp only
      first | exact ⟨(if_neg (fun q => b8 q.1)).symm, hvok⟩ | exact ⟨(if_neg (fun q => b19 q.2)).symm, hvok⟩ | (refine ⟨?_, VOK_fr he25⟩; rw [if_pos ⟨inR_nI hc0 (by omega), inR_nI hd0 (by omega)⟩, tn_nI (by omega), tn_nI (by omega)]; exact (he25 d0 (by omega)).1 c0 (by omega))
    · skip
      refine lv_iconst (v := (-1)) hx hb dX5_mark_22 (by decide) ?_
      have hP := hP.sub (ws' := [oC kx 5 [.ref kb, .ref kim, .ref kit, .ref kv, .ref kre, .int tf, .ref ksh, .int rf, .ref kwa, .ref kta], oC kb 0 [.int (nI w), .int (nI h), .int (nI la), .ref ka, .ref kc, .ref kl, .ref kn], iA G ka 16 af, oC kc 2 [.ref kcn, .int (nI 10), .int (nI nc)], iA G kcn (3 * 10) fc, oC kv 4 [.ref km, .ref kg, .int (nI vw), .int (nI vh), .int sl], iA G km 176 mk, iA G kg 160 sg]) [0, 1, 2, 3, 4, 5, 6, 7] rfl
      have hD := hD.sub (ws' := [oC kx 5 [.ref kb, .ref kim, .ref kit, .ref kv, .ref kre, .int tf, .ref ksh, .int rf, .ref kwa, .ref kta], oC kb 0 [.int (nI w), .int (nI h), .int (nI la), .ref ka, .ref kc, .ref kl, .ref kn], iA G ka 16 af, oC kc 2 [.ref kcn, .int (nI 10), .int (nI nc)], iA G kcn (3 * 10) fc, oC kv 4 [.ref km, .ref kg, .int (nI vw), .int (nI vh), .int sl], iA G km 176 mk, iA G kg 160 sg]) [0, 1, 2, 3, 4, 5, 6, 7] (by decide) rfl
      refine W.iret (v := (-1)) hx hb hr (fun t ht hW => ⟨⟨(-1), (mk, sg, vw, vh, sl), rfl, ?_, by rw [ht]; exact hP, hD⟩, hS.F ht⟩) hS.2.2 dX5_mark_23
      try dsimp only
      first | exact ⟨(if_neg (fun q => b8 q.1)).symm, hvok⟩ | exact ⟨(if_neg (fun q => b19 q.2)).symm, hvok⟩ | (refine ⟨?_, VOK_fr he25⟩; rw [if_pos ⟨inR_nI hc0 (by omega), inR_nI hd0 (by omega)⟩, tn_nI (by omega), tn_nI (by omega)]; exact (he25 d0 (by omega)).1 c0 (by omega))

abbrev w_X5_sees (G : XG) (kx kim kit kre ksh kwa kta : Nat) (tf rf : Int32) (kb ka kc kcn kl kn : Nat) (w h la : Nat) (af : Nat → Int32) (nc : Nat) (fc : Nat → Int32) (kv km kg : Nat) (vw vh : Nat) (sl : Int32) (mk sg : Nat → Int32) : va_W := [oC kx 5 [.ref kb, .ref kim, .ref kit, .ref kv, .ref kre, .int tf, .ref ksh, .int rf, .ref kwa, .ref kta], oC kb 0 [.int (nI w), .int (nI h), .int (nI la), .ref ka, .ref kc, .ref kl, .ref kn], iA G ka 16 af, oC kc 2 [.ref kcn, .int (nI 10), .int (nI nc)], iA G kcn (3 * 10) fc, oC kv 4 [.ref km, .ref kg, .int (nI vw), .int (nI vh), .int sl], iA G km 176 mk, iA G kg 160 sg]
abbrev Q_X5_sees (G : XG) (sz : Nat) (kx kim kit kre ksh kwa kta : Nat) (tf rf : Int32) (kb ka kc kcn kl kn : Nat) (w h la : Nat) (af : Nat → Int32) (nc : Nat) (fc : Nat → Int32) (kv km kg : Nat) (vw vh : Nat) (sl : Int32) (mk sg : Nat → Int32) (c d : Int32) : Array Value → State → Outcome → State → Prop := (va_Qi (fun (r : Int32) (u : (Nat → Int32) × (Nat → Int32) × Nat × Nat × Int32) => r = (if inR c (w * h) ∧ inR d (la + 1) then sgS w h af nc fc (tn c) (tn d) else (-1)) ∧ VOK w h la af nc fc u.1 u.2.1 u.2.2.1 u.2.2.2.1 u.2.2.2.2) (xWb G sz (w_X5_sees G kx kim kit kre ksh kwa kta tf rf kb ka kc kcn kl kn w h la af nc fc kv km kg vw vh sl mk sg) (fun u : (Nat → Int32) × (Nat → Int32) × Nat × Nat × Int32 => [oC kx 5 [.ref kb, .ref kim, .ref kit, .ref kv, .ref kre, .int tf, .ref ksh, .int rf, .ref kwa, .ref kta], oC kb 0 [.int (nI w), .int (nI h), .int (nI la), .ref ka, .ref kc, .ref kl, .ref kn], iA G ka 16 af, oC kc 2 [.ref kcn, .int (nI 10), .int (nI nc)], iA G kcn (3 * 10) fc, oC kv 4 [.ref km, .ref kg, .int (nI u.2.2.1), .int (nI u.2.2.2.1), .int u.2.2.2.2], iA G km 176 u.1, iA G kg 160 u.2.1])) (va_A (w_X5_sees G kx kim kit kre ksh kwa kta tf rf kb ka kc kcn kl kn w h la af nc fc kv km kg vw vh sl mk sg) sz))
set_option maxHeartbeats 4000000 in
set_option maxRecDepth 100000 in
theorem c_X5_sees (l : Launch) (G : XG) (sz : Nat) (kx kim kit kre ksh kwa kta : Nat) (tf rf : Int32) (kb ka kc kcn kl kn : Nat) (w h la : Nat) (af : Nat → Int32) (nc : Nat) (fc : Nat → Int32) (kv km kg : Nat) (vw vh : Nat) (sl : Int32) (mk sg : Nat → Int32) (c d : Int32) (hw : 1 ≤ w) (hwb : w ≤ 16) (hhb : h ≤ 16) (hwh : w * h ≤ 16) (hla : la ≤ 9) (hnc : nc ≤ 10) (hcell : ∀ i, i < nc → inR (fc (3 * i + 1)) 16) (hvok : VOK w h la af nc fc mk sg vw vh sl) : Met l yX5_sees wsX5_sees ({ frames := 4, cells := 0, slots := 0, locals := 96 } : Room) (va_Pc [.ref kx, .int c, .int d] (xWp G sz (w_X5_sees G kx kim kit kre ksh kwa kta tf rf kb ka kc kcn kl kn w h la af nc fc kv km kg vw vh sl mk sg))) (Q_X5_sees G sz kx kim kit kre ksh kwa kta tf rf kb ka kc kcn kl kn w h la af nc fc kv km kg vw vh sl mk sg c d) 0 0 (va_A (w_X5_sees G kx kim kit kre ksh kwa kta tf rf kb ka kc kcn kl kn w h la af nc fc kv km kg vw vh sl mk sg) sz) := by
  refine Met.ofW (cc := cX5_sees) (maxL := 3) (ret := (some .int)) (by decide) rfl ?_
  intro pp ee ss mm aa below mt cd s₁ BB hml hv
  obtain ⟨rfl, hsz, hP, hK, hD0⟩ := hv
  have hx := BB.exec
  have hb := BB.bytes
  have hr := BB.returns
  have hts := atoms_spec (ws := wsX5_sees) BB.pre
  have hown : ss.vm.findClass RX5 = some mm.cls := findClass_of_methodNamed BB.named
  have hlocks := BB.notSynchronized
  subst hsz
  have hD := hD0.self (sz := ss.heap.size)
  have hA : ∀ q : Nat, ss.heap.size ≤ q → va_A (w_X5_sees G kx kim kit kre ksh kwa kta tf rf kb ka kc kcn kl kn w h la af nc fc kv km kg vw vh sl mk sg) ss.heap.size q := fun q h => Or.inr h
  have hS : va_S (va_A (w_X5_sees G kx kim kit kre ksh kwa kta tf rf kb ka kc kcn kl kn w h la af nc fc kv km kg vw vh sl mk sg) ss.heap.size) ss.heap ss.heap [] := va_S.rf
  replace hD : va_D (va_A (w_X5_sees G kx kim kit kre ksh kwa kta tf rf kb ka kc kcn kl kn w h la af nc fc kv km kg vw vh sl mk sg) ss.heap.size) [oC kx 5 [.ref kb, .ref kim, .ref kit, .ref kv, .ref kre, .int tf, .ref ksh, .int rf, .ref kwa, .ref kta], oC kb 0 [.int (nI w), .int (nI h), .int (nI la), .ref ka, .ref kc, .ref kl, .ref kn], iA G ka 16 af, oC kc 2 [.ref kcn, .int (nI 10), .int (nI nc)], iA G kcn (3 * 10) fc, oC kv 4 [.ref km, .ref kg, .int (nI vw), .int (nI vh), .int sl], iA G km 176 mk, iA G kg 160 sg] := hD
  replace hP : xP G [oC kx 5 [.ref kb, .ref kim, .ref kit, .ref kv, .ref kre, .int tf, .ref ksh, .int rf, .ref kwa, .ref kta], oC kb 0 [.int (nI w), .int (nI h), .int (nI la), .ref ka, .ref kc, .ref kl, .ref kn], iA G ka 16 af, oC kc 2 [.ref kcn, .int (nI 10), .int (nI nc)], iA G kcn (3 * 10) fc, oC kv 4 [.ref km, .ref kg, .int (nI vw), .int (nI vh), .int sl], iA G km 176 mk, iA G kg 160 sg] ss.heap := hP
  have hin0 : ∀ w ∈ u_ws RX0 TX0 7, w ∈ wsX5_sees := fun w h => List.mem_cons_of_mem _ (List.mem_append_left _ (List.mem_append_left _ (List.mem_append_right _ h)))
  have hin2 : ∀ w ∈ u_ws RX2 TX2 3, w ∈ wsX5_sees := fun w h => List.mem_cons_of_mem _ (List.mem_append_right _ h)
  have hin4 : ∀ w ∈ u_ws RX4 TX4 5, w ∈ wsX5_sees := fun w h => List.mem_cons_of_mem _ (List.mem_append_left _ (List.mem_append_right _ h))
  have hin5 : ∀ w ∈ u_ws RX5 TX5 10, w ∈ wsX5_sees := fun w h => List.mem_cons_of_mem _ (List.mem_append_left _ (List.mem_append_left _ (List.mem_append_left _ (List.mem_append_right _ h))))
  have hl := lv_entry ([.ref kx, .int c, .int d]) (n := 3) (Nat.le_of_ble_eq_true rfl)
  rw [lg_entry_eq]
  generalize (lg_sl ([.ref kx, .int c, .int d]) ++ List.replicate (3 - (lg_sl ([.ref kx, .int c, .int d])).length) Slot.unset).toArray = ls at hl ⊢
  replace hl : lv_has ls 3 [(0, .ref kx), (1, .int c), (2, .int d)] := hl
  refine lv_aload_n hx hb dX5_sees_0 rfl (lv_at hl 0 rfl) ?_
  refine va_get (D := G.1) (ci := 5) (v := .ref kb) (C := RX5) (T := TX5) (N := 10) hx hb hts hin5 hown hK.1 hP 0 rfl rfl 0 (by decide) (hts (.fieldLink RX5 10 "BackLenses" "book" "LBackLenses$Book;") (List.mem_of_getElem? (i := 1) rfl)) (fun _ h9 => h9) rfl dX5_sees_1 ?_
  refine lv_iload_n hx hb dX5_sees_4 rfl (lv_at hl 1 rfl) ?_
  refine xr_i (As := [.int c]) (rest := []) ⟨hx, hb, hml, hown, hts⟩ (c_X0_hasCell l G kb ka kc kl kn w h la c (by first | assumption | omega)) (cwV 1 hts gX5_sees_X0_hasCell rfl rfl rfl (by decide +kernel) ⟨Nat.le_of_ble_eq_true rfl, Nat.le_of_ble_eq_true rfl⟩) hK hP hS [1] rfl rfl rfl rfl hl.1 rfl (Nat.le_of_ble_eq_true rfl) dX5_sees_5 ⟨Nat.zero_le _, Nat.zero_le _⟩ (fun r5 H locs hp5 hP hS => ?_)
  obtain rfl : r5 = xb (inR c (w * h)) := hp5
  refine xb_if_eq (tgt := 22) hx hb dX5_sees_8 rfl (fun b8 => ?_) (fun b8 => ?_)
  · skip
    refine lv_iconst (v := (-1)) hx hb dX5_sees_22 (by decide) ?_
    have hP := hP.sub (ws' := [oC kx 5 [.ref kb, .ref kim, .ref kit, .ref kv, .ref kre, .int tf, .ref ksh, .int rf, .ref kwa, .ref kta], oC kb 0 [.int (nI w), .int (nI h), .int (nI la), .ref ka, .ref kc, .ref kl, .ref kn], iA G ka 16 af, oC kc 2 [.ref kcn, .int (nI 10), .int (nI nc)], iA G kcn (3 * 10) fc, oC kv 4 [.ref km, .ref kg, .int (nI vw), .int (nI vh), .int sl], iA G km 176 mk, iA G kg 160 sg]) [0, 1, 2, 3, 4, 5, 6, 7] rfl
    have hD := hD.sub (ws' := [oC kx 5 [.ref kb, .ref kim, .ref kit, .ref kv, .ref kre, .int tf, .ref ksh, .int rf, .ref kwa, .ref kta], oC kb 0 [.int (nI w), .int (nI h), .int (nI la), .ref ka, .ref kc, .ref kl, .ref kn], iA G ka 16 af, oC kc 2 [.ref kcn, .int (nI 10), .int (nI nc)], iA G kcn (3 * 10) fc, oC kv 4 [.ref km, .ref kg, .int (nI vw), .int (nI vh), .int sl], iA G km 176 mk, iA G kg 160 sg]) [0, 1, 2, 3, 4, 5, 6, 7] (by decide) rfl
    refine W.iret (v := (-1)) hx hb hr (fun t ht hW => ⟨⟨(-1), (mk, sg, vw, vh, sl), rfl, ?_, by rw [ht]; exact hP, hD⟩, hS.F ht⟩) hS.2.2 dX5_sees_23
    try dsimp only
    first | exact ⟨(if_neg (fun q => b8 q.1)).symm, hvok⟩ | exact ⟨(if_neg (fun q => b19 q.2)).symm, hvok⟩ | (refine ⟨?_, VOK_fr he25⟩; rw [if_pos ⟨inR_nI hc0 (by omega), inR_nI hd0 (by omega)⟩, tn_nI (by omega), tn_nI (by omega)]; exact (he25 d0 (by omega)).2 c0 (by omega))
  · skip
    refine lv_aload_n hx hb dX5_sees_11 rfl (lv_at hl 0 rfl) ?_
    refine va_get (D := G.1) (ci := 5) (v := .ref kb) (C := RX5) (T := TX5) (N := 10) hx hb hts hin5 hown hK.1 hP 0 rfl rfl 0 (by decide) (hts (.fieldLink RX5 10 "BackLenses" "book" "LBackLenses$Book;") (List.mem_of_getElem? (i := 1) rfl)) (fun _ h9 => h9) rfl dX5_sees_12 ?_
    refine lv_iload_n hx hb dX5_sees_15 rfl (lv_at hl 2 rfl) ?_
    refine xr_i (As := [.int d]) (rest := []) ⟨hx, hb, hml, hown, hts⟩ (c_X0_hasDay l G kb ka kc kl kn w h la d (by first | assumption | omega)) (cwV 1 hts gX5_sees_X0_hasDay rfl rfl rfl (by decide +kernel) ⟨Nat.le_of_ble_eq_true rfl, Nat.le_of_ble_eq_true rfl⟩) hK hP hS [1] rfl rfl rfl rfl hl.1 rfl (Nat.le_of_ble_eq_true rfl) dX5_sees_16 ⟨Nat.zero_le _, Nat.zero_le _⟩ (fun r16 H locs hp16 hP hS => ?_)
    obtain rfl : r16 = xb (inR d (la + 1)) := hp16
    refine xb_if_ne (tgt := 24) hx hb dX5_sees_19 rfl (fun b19 => ?_) (fun b19 => ?_)
    · skip
      obtain ⟨c0, hc0, rfl⟩ := inR_nat b8
      obtain ⟨d0, hd0, rfl⟩ := inR_nat b19
      refine lv_aload_n hx hb dX5_sees_24 rfl (lv_at hl 0 rfl) ?_
      refine xw_r (As := []) (rest := []) (wr := []) ⟨hx, hb, hml, hown, hts⟩ (c_X5_freshViews l G H.size kx kim kit kre ksh kwa kta tf rf kb ka kc kcn kl kn w h la af nc fc kv km kg vw vh sl mk sg (by first | assumption | omega) (by first | assumption | omega) (by first | assumption | omega) (by first | assumption | omega) (by first | assumption | omega) (by first | assumption | omega) (by first | assumption | omega) (by first | assumption | omega)) (cwV 0 hts gX5_sees_X5_freshViews rfl rfl rfl (by decide +kernel) ⟨Nat.le_of_ble_eq_true rfl, Nat.le_of_ble_eq_true rfl⟩) hK hP hD hS hA [0, 1, 2, 3, 4, 5, 6, 7] [] rfl rfl (by decide) (by decide) (by decide) rfl rfl rfl hl.1 rfl (Nat.le_of_ble_eq_true rfl) dX5_sees_25 ⟨Nat.le_of_ble_eq_true rfl, Nat.le_of_ble_eq_true rfl⟩ (fun u H locs hp25 hP hD hS => ?_)
      obtain ⟨mk2_25, sg2_25⟩ := u
      try dsimp only at hp25 hP hD
      have he25 := hp25
      replace hP : xP G [oC kx 5 [.ref kb, .ref kim, .ref kit, .ref kv, .ref kre, .int tf, .ref ksh, .int rf, .ref kwa, .ref kta], oC kb 0 [.int (nI w), .int (nI h), .int (nI la), .ref ka, .ref kc, .ref kl, .ref kn], iA G ka 16 af, oC kc 2 [.ref kcn, .int (nI 10), .int (nI nc)], iA G kcn (3 * 10) fc, oC kv 4 [.ref km, .ref kg, .int (nI w), .int (nI h), .int (nI 0)], iA G km 176 mk2_25, iA G kg 160 sg2_25] H := hP
      replace hD : va_D (va_A (w_X5_sees G kx kim kit kre ksh kwa kta tf rf kb ka kc kcn kl kn w h la af nc fc kv km kg vw vh sl mk sg) ss.heap.size) [oC kx 5 [.ref kb, .ref kim, .ref kit, .ref kv, .ref kre, .int tf, .ref ksh, .int rf, .ref kwa, .ref kta], oC kb 0 [.int (nI w), .int (nI h), .int (nI la), .ref ka, .ref kc, .ref kl, .ref kn], iA G ka 16 af, oC kc 2 [.ref kcn, .int (nI 10), .int (nI nc)], iA G kcn (3 * 10) fc, oC kv 4 [.ref km, .ref kg, .int (nI w), .int (nI h), .int (nI 0)], iA G km 176 mk2_25, iA G kg 160 sg2_25] := hD
      refine lv_iload_n hx hb dX5_sees_28 rfl (lv_at hl 1 rfl) ?_
      refine lv_iload_n hx hb dX5_sees_29 rfl (lv_at hl 2 rfl) ?_
      refine xr_i (As := [.int (nI c0), .int (nI d0)]) (rest := []) ⟨hx, hb, hml, hown, hts⟩ (c_X4_sightOf l G kv km kg w h (nI 0) sg2_25 c0 d0 (by first | assumption | omega)) (cwV 2 hts gX5_sees_X4_sightOf rfl rfl rfl (by decide +kernel) ⟨Nat.le_of_ble_eq_true rfl, Nat.le_of_ble_eq_true rfl⟩) hK hP hS [5, 7] rfl rfl rfl rfl hl.1 rfl (Nat.le_of_ble_eq_true rfl) dX5_sees_30 ⟨Nat.zero_le _, Nat.zero_le _⟩ (fun r30 H locs hp30 hP hS => ?_)
      obtain rfl : r30 = sg2_25 (d0 * 16 + c0) := hp30
      have hP := hP.sub (ws' := [oC kx 5 [.ref kb, .ref kim, .ref kit, .ref kv, .ref kre, .int tf, .ref ksh, .int rf, .ref kwa, .ref kta], oC kb 0 [.int (nI w), .int (nI h), .int (nI la), .ref ka, .ref kc, .ref kl, .ref kn], iA G ka 16 af, oC kc 2 [.ref kcn, .int (nI 10), .int (nI nc)], iA G kcn (3 * 10) fc, oC kv 4 [.ref km, .ref kg, .int (nI w), .int (nI h), .int (nI 0)], iA G km 176 mk2_25, iA G kg 160 sg2_25]) [0, 1, 2, 3, 4, 5, 6, 7] rfl
      have hD := hD.sub (ws' := [oC kx 5 [.ref kb, .ref kim, .ref kit, .ref kv, .ref kre, .int tf, .ref ksh, .int rf, .ref kwa, .ref kta], oC kb 0 [.int (nI w), .int (nI h), .int (nI la), .ref ka, .ref kc, .ref kl, .ref kn], iA G ka 16 af, oC kc 2 [.ref kcn, .int (nI 10), .int (nI nc)], iA G kcn (3 * 10) fc, oC kv 4 [.ref km, .ref kg, .int (nI w), .int (nI h), .int (nI 0)], iA G km 176 mk2_25, iA G kg 160 sg2_25]) [0, 1, 2, 3, 4, 5, 6, 7] (by decide) rfl
      refine W.iret (v := sg2_25 (d0 * 16 + c0)) hx hb hr (fun t ht hW => ⟨⟨sg2_25 (d0 * 16 + c0), (mk2_25, sg2_25, w, h, nI 0), rfl, ?_, by rw [ht]; exact hP, hD⟩, hS.F ht⟩) hS.2.2 dX5_sees_33
      try dsimp only
      first | exact ⟨(if_neg (fun q => b8 q.1)).symm, hvok⟩ | exact ⟨(if_neg (fun q => b19 q.2)).symm, hvok⟩ | (refine ⟨?_, VOK_fr he25⟩; rw [if_pos ⟨inR_nI hc0 (by omega), inR_nI hd0 (by omega)⟩, tn_nI (by omega), tn_nI (by omega)]; exact (he25 d0 (by omega)).2 c0 (by omega))
    · skip
      refine lv_iconst (v := (-1)) hx hb dX5_sees_22 (by decide) ?_
      have hP := hP.sub (ws' := [oC kx 5 [.ref kb, .ref kim, .ref kit, .ref kv, .ref kre, .int tf, .ref ksh, .int rf, .ref kwa, .ref kta], oC kb 0 [.int (nI w), .int (nI h), .int (nI la), .ref ka, .ref kc, .ref kl, .ref kn], iA G ka 16 af, oC kc 2 [.ref kcn, .int (nI 10), .int (nI nc)], iA G kcn (3 * 10) fc, oC kv 4 [.ref km, .ref kg, .int (nI vw), .int (nI vh), .int sl], iA G km 176 mk, iA G kg 160 sg]) [0, 1, 2, 3, 4, 5, 6, 7] rfl
      have hD := hD.sub (ws' := [oC kx 5 [.ref kb, .ref kim, .ref kit, .ref kv, .ref kre, .int tf, .ref ksh, .int rf, .ref kwa, .ref kta], oC kb 0 [.int (nI w), .int (nI h), .int (nI la), .ref ka, .ref kc, .ref kl, .ref kn], iA G ka 16 af, oC kc 2 [.ref kcn, .int (nI 10), .int (nI nc)], iA G kcn (3 * 10) fc, oC kv 4 [.ref km, .ref kg, .int (nI vw), .int (nI vh), .int sl], iA G km 176 mk, iA G kg 160 sg]) [0, 1, 2, 3, 4, 5, 6, 7] (by decide) rfl
      refine W.iret (v := (-1)) hx hb hr (fun t ht hW => ⟨⟨(-1), (mk, sg, vw, vh, sl), rfl, ?_, by rw [ht]; exact hP, hD⟩, hS.F ht⟩) hS.2.2 dX5_sees_23
      try dsimp only
      first | exact ⟨(if_neg (fun q => b8 q.1)).symm, hvok⟩ | exact ⟨(if_neg (fun q => b19 q.2)).symm, hvok⟩ | (refine ⟨?_, VOK_fr he25⟩; rw [if_pos ⟨inR_nI hc0 (by omega), inR_nI hd0 (by omega)⟩, tn_nI (by omega), tn_nI (by omega)]; exact (he25 d0 (by omega)).2 c0 (by omega))

abbrev w_X5_between (G : XG) (kx kim kit kre ksh kwa kta : Nat) (tf rf : Int32) (kb ka kc kcn kl kn : Nat) (w h la : Nat) (af : Nat → Int32) (nc : Nat) (fc : Nat → Int32) (kv km kg : Nat) (vw vh : Nat) (sl : Int32) (mk sg : Nat → Int32) : va_W := [oC kx 5 [.ref kb, .ref kim, .ref kit, .ref kv, .ref kre, .int tf, .ref ksh, .int rf, .ref kwa, .ref kta], oC kb 0 [.int (nI w), .int (nI h), .int (nI la), .ref ka, .ref kc, .ref kl, .ref kn], iA G ka 16 af, oC kc 2 [.ref kcn, .int (nI 10), .int (nI nc)], iA G kcn (3 * 10) fc, oC kv 4 [.ref km, .ref kg, .int (nI vw), .int (nI vh), .int sl], iA G km 176 mk, iA G kg 160 sg]
abbrev Q_X5_between (G : XG) (sz : Nat) (kx kim kit kre ksh kwa kta : Nat) (tf rf : Int32) (kb ka kc kcn kl kn : Nat) (w h la : Nat) (af : Nat → Int32) (nc : Nat) (fc : Nat → Int32) (kv km kg : Nat) (vw vh : Nat) (sl : Int32) (mk sg : Nat → Int32) (d e : Int32) : Array Value → State → Outcome → State → Prop := (va_Qi (fun (r : Int32) (u : (Nat → Int32) × (Nat → Int32) × Nat × Nat × Int32) => r = (if inR d (la + 1) ∧ inR e (la + 1) then unS w h af nc fc (tn d) (tn e) else (-1)) ∧ VOK w h la af nc fc u.1 u.2.1 u.2.2.1 u.2.2.2.1 u.2.2.2.2) (xWb G sz (w_X5_between G kx kim kit kre ksh kwa kta tf rf kb ka kc kcn kl kn w h la af nc fc kv km kg vw vh sl mk sg) (fun u : (Nat → Int32) × (Nat → Int32) × Nat × Nat × Int32 => [oC kx 5 [.ref kb, .ref kim, .ref kit, .ref kv, .ref kre, .int tf, .ref ksh, .int rf, .ref kwa, .ref kta], oC kb 0 [.int (nI w), .int (nI h), .int (nI la), .ref ka, .ref kc, .ref kl, .ref kn], iA G ka 16 af, oC kc 2 [.ref kcn, .int (nI 10), .int (nI nc)], iA G kcn (3 * 10) fc, oC kv 4 [.ref km, .ref kg, .int (nI u.2.2.1), .int (nI u.2.2.2.1), .int u.2.2.2.2], iA G km 176 u.1, iA G kg 160 u.2.1])) (va_A (w_X5_between G kx kim kit kre ksh kwa kta tf rf kb ka kc kcn kl kn w h la af nc fc kv km kg vw vh sl mk sg) sz))
set_option maxHeartbeats 4000000 in
set_option maxRecDepth 100000 in
theorem c_X5_between (l : Launch) (G : XG) (sz : Nat) (kx kim kit kre ksh kwa kta : Nat) (tf rf : Int32) (kb ka kc kcn kl kn : Nat) (w h la : Nat) (af : Nat → Int32) (nc : Nat) (fc : Nat → Int32) (kv km kg : Nat) (vw vh : Nat) (sl : Int32) (mk sg : Nat → Int32) (d e : Int32) (hw : 1 ≤ w) (hwb : w ≤ 16) (hhb : h ≤ 16) (hwh : w * h ≤ 16) (hla : la ≤ 9) (hnc : nc ≤ 10) (hcell : ∀ i, i < nc → inR (fc (3 * i + 1)) 16) (hvok : VOK w h la af nc fc mk sg vw vh sl) : Met l yX5_between wsX5_between ({ frames := 4, cells := 0, slots := 0, locals := 96 } : Room) (va_Pc [.ref kx, .int d, .int e] (xWp G sz (w_X5_between G kx kim kit kre ksh kwa kta tf rf kb ka kc kcn kl kn w h la af nc fc kv km kg vw vh sl mk sg))) (Q_X5_between G sz kx kim kit kre ksh kwa kta tf rf kb ka kc kcn kl kn w h la af nc fc kv km kg vw vh sl mk sg d e) 0 0 (va_A (w_X5_between G kx kim kit kre ksh kwa kta tf rf kb ka kc kcn kl kn w h la af nc fc kv km kg vw vh sl mk sg) sz) := by
  refine Met.ofW (cc := cX5_between) (maxL := 3) (ret := (some .int)) (by decide) rfl ?_
  intro pp ee ss mm aa below mt cd s₁ BB hml hv
  obtain ⟨rfl, hsz, hP, hK, hD0⟩ := hv
  have hx := BB.exec
  have hb := BB.bytes
  have hr := BB.returns
  have hts := atoms_spec (ws := wsX5_between) BB.pre
  have hown : ss.vm.findClass RX5 = some mm.cls := findClass_of_methodNamed BB.named
  have hlocks := BB.notSynchronized
  subst hsz
  have hD := hD0.self (sz := ss.heap.size)
  have hA : ∀ q : Nat, ss.heap.size ≤ q → va_A (w_X5_between G kx kim kit kre ksh kwa kta tf rf kb ka kc kcn kl kn w h la af nc fc kv km kg vw vh sl mk sg) ss.heap.size q := fun q h => Or.inr h
  have hS : va_S (va_A (w_X5_between G kx kim kit kre ksh kwa kta tf rf kb ka kc kcn kl kn w h la af nc fc kv km kg vw vh sl mk sg) ss.heap.size) ss.heap ss.heap [] := va_S.rf
  replace hD : va_D (va_A (w_X5_between G kx kim kit kre ksh kwa kta tf rf kb ka kc kcn kl kn w h la af nc fc kv km kg vw vh sl mk sg) ss.heap.size) [oC kx 5 [.ref kb, .ref kim, .ref kit, .ref kv, .ref kre, .int tf, .ref ksh, .int rf, .ref kwa, .ref kta], oC kb 0 [.int (nI w), .int (nI h), .int (nI la), .ref ka, .ref kc, .ref kl, .ref kn], iA G ka 16 af, oC kc 2 [.ref kcn, .int (nI 10), .int (nI nc)], iA G kcn (3 * 10) fc, oC kv 4 [.ref km, .ref kg, .int (nI vw), .int (nI vh), .int sl], iA G km 176 mk, iA G kg 160 sg] := hD
  replace hP : xP G [oC kx 5 [.ref kb, .ref kim, .ref kit, .ref kv, .ref kre, .int tf, .ref ksh, .int rf, .ref kwa, .ref kta], oC kb 0 [.int (nI w), .int (nI h), .int (nI la), .ref ka, .ref kc, .ref kl, .ref kn], iA G ka 16 af, oC kc 2 [.ref kcn, .int (nI 10), .int (nI nc)], iA G kcn (3 * 10) fc, oC kv 4 [.ref km, .ref kg, .int (nI vw), .int (nI vh), .int sl], iA G km 176 mk, iA G kg 160 sg] ss.heap := hP
  have hin0 : ∀ w ∈ u_ws RX0 TX0 7, w ∈ wsX5_between := fun w h => List.mem_cons_of_mem _ (List.mem_append_left _ (List.mem_append_left _ (List.mem_append_right _ h)))
  have hin2 : ∀ w ∈ u_ws RX2 TX2 3, w ∈ wsX5_between := fun w h => List.mem_cons_of_mem _ (List.mem_append_right _ h)
  have hin4 : ∀ w ∈ u_ws RX4 TX4 5, w ∈ wsX5_between := fun w h => List.mem_cons_of_mem _ (List.mem_append_left _ (List.mem_append_right _ h))
  have hin5 : ∀ w ∈ u_ws RX5 TX5 10, w ∈ wsX5_between := fun w h => List.mem_cons_of_mem _ (List.mem_append_left _ (List.mem_append_left _ (List.mem_append_left _ (List.mem_append_right _ h))))
  have hl := lv_entry ([.ref kx, .int d, .int e]) (n := 3) (Nat.le_of_ble_eq_true rfl)
  rw [lg_entry_eq]
  generalize (lg_sl ([.ref kx, .int d, .int e]) ++ List.replicate (3 - (lg_sl ([.ref kx, .int d, .int e])).length) Slot.unset).toArray = ls at hl ⊢
  replace hl : lv_has ls 3 [(0, .ref kx), (1, .int d), (2, .int e)] := hl
  refine lv_aload_n hx hb dX5_between_0 rfl (lv_at hl 0 rfl) ?_
  refine va_get (D := G.1) (ci := 5) (v := .ref kb) (C := RX5) (T := TX5) (N := 10) hx hb hts hin5 hown hK.1 hP 0 rfl rfl 0 (by decide) (hts (.fieldLink RX5 10 "BackLenses" "book" "LBackLenses$Book;") (List.mem_of_getElem? (i := 1) rfl)) (fun _ h9 => h9) rfl dX5_between_1 ?_
  refine lv_iload_n hx hb dX5_between_4 rfl (lv_at hl 1 rfl) ?_
  refine xr_i (As := [.int d]) (rest := []) ⟨hx, hb, hml, hown, hts⟩ (c_X0_hasDay l G kb ka kc kl kn w h la d (by first | assumption | omega)) (cwV 1 hts gX5_between_X0_hasDay rfl rfl rfl (by decide +kernel) ⟨Nat.le_of_ble_eq_true rfl, Nat.le_of_ble_eq_true rfl⟩) hK hP hS [1] rfl rfl rfl rfl hl.1 rfl (Nat.le_of_ble_eq_true rfl) dX5_between_5 ⟨Nat.zero_le _, Nat.zero_le _⟩ (fun r5 H locs hp5 hP hS => ?_)
  obtain rfl : r5 = xb (inR d (la + 1)) := hp5
  refine xb_if_eq (tgt := 22) hx hb dX5_between_8 rfl (fun b8 => ?_) (fun b8 => ?_)
  · skip
    refine lv_iconst (v := (-1)) hx hb dX5_between_22 (by decide) ?_
    have hP := hP.sub (ws' := [oC kx 5 [.ref kb, .ref kim, .ref kit, .ref kv, .ref kre, .int tf, .ref ksh, .int rf, .ref kwa, .ref kta], oC kb 0 [.int (nI w), .int (nI h), .int (nI la), .ref ka, .ref kc, .ref kl, .ref kn], iA G ka 16 af, oC kc 2 [.ref kcn, .int (nI 10), .int (nI nc)], iA G kcn (3 * 10) fc, oC kv 4 [.ref km, .ref kg, .int (nI vw), .int (nI vh), .int sl], iA G km 176 mk, iA G kg 160 sg]) [0, 1, 2, 3, 4, 5, 6, 7] rfl
    have hD := hD.sub (ws' := [oC kx 5 [.ref kb, .ref kim, .ref kit, .ref kv, .ref kre, .int tf, .ref ksh, .int rf, .ref kwa, .ref kta], oC kb 0 [.int (nI w), .int (nI h), .int (nI la), .ref ka, .ref kc, .ref kl, .ref kn], iA G ka 16 af, oC kc 2 [.ref kcn, .int (nI 10), .int (nI nc)], iA G kcn (3 * 10) fc, oC kv 4 [.ref km, .ref kg, .int (nI vw), .int (nI vh), .int sl], iA G km 176 mk, iA G kg 160 sg]) [0, 1, 2, 3, 4, 5, 6, 7] (by decide) rfl
    refine W.iret (v := (-1)) hx hb hr (fun t ht hW => ⟨⟨(-1), (mk, sg, vw, vh, sl), rfl, ?_, by rw [ht]; exact hP, hD⟩, hS.F ht⟩) hS.2.2 dX5_between_23
    try dsimp only
    first | exact ⟨(if_neg (fun q => b8 q.1)).symm, hvok⟩ | exact ⟨(if_neg (fun q => b19 q.2)).symm, hvok⟩ | (refine ⟨?_, VOK_fr he25⟩; rw [if_pos ⟨inR_nI hd0 (by omega), inR_nI he0 (by omega)⟩, tn_nI (by omega), tn_nI (by omega)]; exact FR_unl he25 hwh (by omega) (by omega))
  · skip
    refine lv_aload_n hx hb dX5_between_11 rfl (lv_at hl 0 rfl) ?_
    refine va_get (D := G.1) (ci := 5) (v := .ref kb) (C := RX5) (T := TX5) (N := 10) hx hb hts hin5 hown hK.1 hP 0 rfl rfl 0 (by decide) (hts (.fieldLink RX5 10 "BackLenses" "book" "LBackLenses$Book;") (List.mem_of_getElem? (i := 1) rfl)) (fun _ h9 => h9) rfl dX5_between_12 ?_
    refine lv_iload_n hx hb dX5_between_15 rfl (lv_at hl 2 rfl) ?_
    refine xr_i (As := [.int e]) (rest := []) ⟨hx, hb, hml, hown, hts⟩ (c_X0_hasDay l G kb ka kc kl kn w h la e (by first | assumption | omega)) (cwV 1 hts gX5_between_X0_hasDay rfl rfl rfl (by decide +kernel) ⟨Nat.le_of_ble_eq_true rfl, Nat.le_of_ble_eq_true rfl⟩) hK hP hS [1] rfl rfl rfl rfl hl.1 rfl (Nat.le_of_ble_eq_true rfl) dX5_between_16 ⟨Nat.zero_le _, Nat.zero_le _⟩ (fun r16 H locs hp16 hP hS => ?_)
    obtain rfl : r16 = xb (inR e (la + 1)) := hp16
    refine xb_if_ne (tgt := 24) hx hb dX5_between_19 rfl (fun b19 => ?_) (fun b19 => ?_)
    · skip
      obtain ⟨d0, hd0, rfl⟩ := inR_nat b8
      obtain ⟨e0, he0, rfl⟩ := inR_nat b19
      refine lv_aload_n hx hb dX5_between_24 rfl (lv_at hl 0 rfl) ?_
      refine xw_r (As := []) (rest := []) (wr := []) ⟨hx, hb, hml, hown, hts⟩ (c_X5_freshViews l G H.size kx kim kit kre ksh kwa kta tf rf kb ka kc kcn kl kn w h la af nc fc kv km kg vw vh sl mk sg (by first | assumption | omega) (by first | assumption | omega) (by first | assumption | omega) (by first | assumption | omega) (by first | assumption | omega) (by first | assumption | omega) (by first | assumption | omega) (by first | assumption | omega)) (cwV 0 hts gX5_between_X5_freshViews rfl rfl rfl (by decide +kernel) ⟨Nat.le_of_ble_eq_true rfl, Nat.le_of_ble_eq_true rfl⟩) hK hP hD hS hA [0, 1, 2, 3, 4, 5, 6, 7] [] rfl rfl (by decide) (by decide) (by decide) rfl rfl rfl hl.1 rfl (Nat.le_of_ble_eq_true rfl) dX5_between_25 ⟨Nat.le_of_ble_eq_true rfl, Nat.le_of_ble_eq_true rfl⟩ (fun u H locs hp25 hP hD hS => ?_)
      obtain ⟨mk2_25, sg2_25⟩ := u
      try dsimp only at hp25 hP hD
      have he25 := hp25
      replace hP : xP G [oC kx 5 [.ref kb, .ref kim, .ref kit, .ref kv, .ref kre, .int tf, .ref ksh, .int rf, .ref kwa, .ref kta], oC kb 0 [.int (nI w), .int (nI h), .int (nI la), .ref ka, .ref kc, .ref kl, .ref kn], iA G ka 16 af, oC kc 2 [.ref kcn, .int (nI 10), .int (nI nc)], iA G kcn (3 * 10) fc, oC kv 4 [.ref km, .ref kg, .int (nI w), .int (nI h), .int (nI 0)], iA G km 176 mk2_25, iA G kg 160 sg2_25] H := hP
      replace hD : va_D (va_A (w_X5_between G kx kim kit kre ksh kwa kta tf rf kb ka kc kcn kl kn w h la af nc fc kv km kg vw vh sl mk sg) ss.heap.size) [oC kx 5 [.ref kb, .ref kim, .ref kit, .ref kv, .ref kre, .int tf, .ref ksh, .int rf, .ref kwa, .ref kta], oC kb 0 [.int (nI w), .int (nI h), .int (nI la), .ref ka, .ref kc, .ref kl, .ref kn], iA G ka 16 af, oC kc 2 [.ref kcn, .int (nI 10), .int (nI nc)], iA G kcn (3 * 10) fc, oC kv 4 [.ref km, .ref kg, .int (nI w), .int (nI h), .int (nI 0)], iA G km 176 mk2_25, iA G kg 160 sg2_25] := hD
      refine lv_iload_n hx hb dX5_between_28 rfl (lv_at hl 1 rfl) ?_
      refine lv_iload_n hx hb dX5_between_29 rfl (lv_at hl 2 rfl) ?_
      refine xr_i (As := [.int (nI d0), .int (nI e0)]) (rest := []) ⟨hx, hb, hml, hown, hts⟩ (c_X4_unlike l G kv km kg w h (nI 0) mk2_25 d0 e0 (by first | assumption | omega) (by first | assumption | omega) (by first | assumption | omega)) (cwV 2 hts gX5_between_X4_unlike rfl rfl rfl (by decide +kernel) ⟨Nat.le_of_ble_eq_true rfl, Nat.le_of_ble_eq_true rfl⟩) hK hP hS [5, 6] rfl rfl rfl rfl hl.1 rfl (Nat.le_of_ble_eq_true rfl) dX5_between_30 ⟨Nat.zero_le _, Nat.zero_le _⟩ (fun r30 H locs hp30 hP hS => ?_)
      obtain rfl : r30 = xbits (fun c => !decide (mk2_25 (d0 * 16 + c) = mk2_25 (e0 * 16 + c))) (w * h) := hp30
      have hP := hP.sub (ws' := [oC kx 5 [.ref kb, .ref kim, .ref kit, .ref kv, .ref kre, .int tf, .ref ksh, .int rf, .ref kwa, .ref kta], oC kb 0 [.int (nI w), .int (nI h), .int (nI la), .ref ka, .ref kc, .ref kl, .ref kn], iA G ka 16 af, oC kc 2 [.ref kcn, .int (nI 10), .int (nI nc)], iA G kcn (3 * 10) fc, oC kv 4 [.ref km, .ref kg, .int (nI w), .int (nI h), .int (nI 0)], iA G km 176 mk2_25, iA G kg 160 sg2_25]) [0, 1, 2, 3, 4, 5, 6, 7] rfl
      have hD := hD.sub (ws' := [oC kx 5 [.ref kb, .ref kim, .ref kit, .ref kv, .ref kre, .int tf, .ref ksh, .int rf, .ref kwa, .ref kta], oC kb 0 [.int (nI w), .int (nI h), .int (nI la), .ref ka, .ref kc, .ref kl, .ref kn], iA G ka 16 af, oC kc 2 [.ref kcn, .int (nI 10), .int (nI nc)], iA G kcn (3 * 10) fc, oC kv 4 [.ref km, .ref kg, .int (nI w), .int (nI h), .int (nI 0)], iA G km 176 mk2_25, iA G kg 160 sg2_25]) [0, 1, 2, 3, 4, 5, 6, 7] (by decide) rfl
      refine W.iret (v := xbits (fun c => !decide (mk2_25 (d0 * 16 + c) = mk2_25 (e0 * 16 + c))) (w * h)) hx hb hr (fun t ht hW => ⟨⟨xbits (fun c => !decide (mk2_25 (d0 * 16 + c) = mk2_25 (e0 * 16 + c))) (w * h), (mk2_25, sg2_25, w, h, nI 0), rfl, ?_, by rw [ht]; exact hP, hD⟩, hS.F ht⟩) hS.2.2 dX5_between_33
      try dsimp only
      first | exact ⟨(if_neg (fun q => b8 q.1)).symm, hvok⟩ | exact ⟨(if_neg (fun q => b19 q.2)).symm, hvok⟩ | (refine ⟨?_, VOK_fr he25⟩; rw [if_pos ⟨inR_nI hd0 (by omega), inR_nI he0 (by omega)⟩, tn_nI (by omega), tn_nI (by omega)]; exact FR_unl he25 hwh (by omega) (by omega))
    · skip
      refine lv_iconst (v := (-1)) hx hb dX5_between_22 (by decide) ?_
      have hP := hP.sub (ws' := [oC kx 5 [.ref kb, .ref kim, .ref kit, .ref kv, .ref kre, .int tf, .ref ksh, .int rf, .ref kwa, .ref kta], oC kb 0 [.int (nI w), .int (nI h), .int (nI la), .ref ka, .ref kc, .ref kl, .ref kn], iA G ka 16 af, oC kc 2 [.ref kcn, .int (nI 10), .int (nI nc)], iA G kcn (3 * 10) fc, oC kv 4 [.ref km, .ref kg, .int (nI vw), .int (nI vh), .int sl], iA G km 176 mk, iA G kg 160 sg]) [0, 1, 2, 3, 4, 5, 6, 7] rfl
      have hD := hD.sub (ws' := [oC kx 5 [.ref kb, .ref kim, .ref kit, .ref kv, .ref kre, .int tf, .ref ksh, .int rf, .ref kwa, .ref kta], oC kb 0 [.int (nI w), .int (nI h), .int (nI la), .ref ka, .ref kc, .ref kl, .ref kn], iA G ka 16 af, oC kc 2 [.ref kcn, .int (nI 10), .int (nI nc)], iA G kcn (3 * 10) fc, oC kv 4 [.ref km, .ref kg, .int (nI vw), .int (nI vh), .int sl], iA G km 176 mk, iA G kg 160 sg]) [0, 1, 2, 3, 4, 5, 6, 7] (by decide) rfl
      refine W.iret (v := (-1)) hx hb hr (fun t ht hW => ⟨⟨(-1), (mk, sg, vw, vh, sl), rfl, ?_, by rw [ht]; exact hP, hD⟩, hS.F ht⟩) hS.2.2 dX5_between_23
      try dsimp only
      first | exact ⟨(if_neg (fun q => b8 q.1)).symm, hvok⟩ | exact ⟨(if_neg (fun q => b19 q.2)).symm, hvok⟩ | (refine ⟨?_, VOK_fr he25⟩; rw [if_pos ⟨inR_nI hd0 (by omega), inR_nI he0 (by omega)⟩, tn_nI (by omega), tn_nI (by omega)]; exact FR_unl he25 hwh (by omega) (by omega))

abbrev w_X5_all (G : XG) (kx kim kit kre ksh kwa kta : Nat) (tf rf : Int32) (kb ka kc kcn kl kn : Nat) (w h la : Nat) (af : Nat → Int32) (nc : Nat) (fc : Nat → Int32) (kv km kg : Nat) (vw vh : Nat) (sl : Int32) (mk sg : Nat → Int32) : va_W := [oC kx 5 [.ref kb, .ref kim, .ref kit, .ref kv, .ref kre, .int tf, .ref ksh, .int rf, .ref kwa, .ref kta], oC kb 0 [.int (nI w), .int (nI h), .int (nI la), .ref ka, .ref kc, .ref kl, .ref kn], iA G ka 16 af, oC kc 2 [.ref kcn, .int (nI 10), .int (nI nc)], iA G kcn (3 * 10) fc, oC kv 4 [.ref km, .ref kg, .int (nI vw), .int (nI vh), .int sl], iA G km 176 mk, iA G kg 160 sg]
abbrev Q_X5_all (G : XG) (sz : Nat) (kx kim kit kre ksh kwa kta : Nat) (tf rf : Int32) (kb ka kc kcn kl kn : Nat) (w h la : Nat) (af : Nat → Int32) (nc : Nat) (fc : Nat → Int32) (kv km kg : Nat) (vw vh : Nat) (sl : Int32) (mk sg : Nat → Int32) (m d : Int32) : Array Value → State → Outcome → State → Prop := (va_Qi (fun (r : Int32) (u : (Nat → Int32) × (Nat → Int32) × Nat × Nat × Int32) => r = (if inR m 6 ∧ inR d (la + 1) then xbits (fun c => decide (mkS af nc fc c (tn d) = m)) (w * h) else (-1)) ∧ VOK w h la af nc fc u.1 u.2.1 u.2.2.1 u.2.2.2.1 u.2.2.2.2) (xWb G sz (w_X5_all G kx kim kit kre ksh kwa kta tf rf kb ka kc kcn kl kn w h la af nc fc kv km kg vw vh sl mk sg) (fun u : (Nat → Int32) × (Nat → Int32) × Nat × Nat × Int32 => [oC kx 5 [.ref kb, .ref kim, .ref kit, .ref kv, .ref kre, .int tf, .ref ksh, .int rf, .ref kwa, .ref kta], oC kb 0 [.int (nI w), .int (nI h), .int (nI la), .ref ka, .ref kc, .ref kl, .ref kn], iA G ka 16 af, oC kc 2 [.ref kcn, .int (nI 10), .int (nI nc)], iA G kcn (3 * 10) fc, oC kv 4 [.ref km, .ref kg, .int (nI u.2.2.1), .int (nI u.2.2.2.1), .int u.2.2.2.2], iA G km 176 u.1, iA G kg 160 u.2.1])) (va_A (w_X5_all G kx kim kit kre ksh kwa kta tf rf kb ka kc kcn kl kn w h la af nc fc kv km kg vw vh sl mk sg) sz))
set_option maxHeartbeats 4000000 in
set_option maxRecDepth 100000 in
theorem c_X5_all (l : Launch) (G : XG) (sz : Nat) (kx kim kit kre ksh kwa kta : Nat) (tf rf : Int32) (kb ka kc kcn kl kn : Nat) (w h la : Nat) (af : Nat → Int32) (nc : Nat) (fc : Nat → Int32) (kv km kg : Nat) (vw vh : Nat) (sl : Int32) (mk sg : Nat → Int32) (m d : Int32) (hw : 1 ≤ w) (hwb : w ≤ 16) (hhb : h ≤ 16) (hwh : w * h ≤ 16) (hla : la ≤ 9) (hnc : nc ≤ 10) (hcell : ∀ i, i < nc → inR (fc (3 * i + 1)) 16) (hvok : VOK w h la af nc fc mk sg vw vh sl) : Met l yX5_all wsX5_all ({ frames := 4, cells := 0, slots := 0, locals := 96 } : Room) (va_Pc [.ref kx, .int m, .int d] (xWp G sz (w_X5_all G kx kim kit kre ksh kwa kta tf rf kb ka kc kcn kl kn w h la af nc fc kv km kg vw vh sl mk sg))) (Q_X5_all G sz kx kim kit kre ksh kwa kta tf rf kb ka kc kcn kl kn w h la af nc fc kv km kg vw vh sl mk sg m d) 0 0 (va_A (w_X5_all G kx kim kit kre ksh kwa kta tf rf kb ka kc kcn kl kn w h la af nc fc kv km kg vw vh sl mk sg) sz) := by
  refine Met.ofW (cc := cX5_all) (maxL := 3) (ret := (some .int)) (by decide) rfl ?_
  intro pp ee ss mm aa below mt cd s₁ BB hml hv
  obtain ⟨rfl, hsz, hP, hK, hD0⟩ := hv
  have hx := BB.exec
  have hb := BB.bytes
  have hr := BB.returns
  have hts := atoms_spec (ws := wsX5_all) BB.pre
  have hown : ss.vm.findClass RX5 = some mm.cls := findClass_of_methodNamed BB.named
  have hlocks := BB.notSynchronized
  subst hsz
  have hD := hD0.self (sz := ss.heap.size)
  have hA : ∀ q : Nat, ss.heap.size ≤ q → va_A (w_X5_all G kx kim kit kre ksh kwa kta tf rf kb ka kc kcn kl kn w h la af nc fc kv km kg vw vh sl mk sg) ss.heap.size q := fun q h => Or.inr h
  have hS : va_S (va_A (w_X5_all G kx kim kit kre ksh kwa kta tf rf kb ka kc kcn kl kn w h la af nc fc kv km kg vw vh sl mk sg) ss.heap.size) ss.heap ss.heap [] := va_S.rf
  replace hD : va_D (va_A (w_X5_all G kx kim kit kre ksh kwa kta tf rf kb ka kc kcn kl kn w h la af nc fc kv km kg vw vh sl mk sg) ss.heap.size) [oC kx 5 [.ref kb, .ref kim, .ref kit, .ref kv, .ref kre, .int tf, .ref ksh, .int rf, .ref kwa, .ref kta], oC kb 0 [.int (nI w), .int (nI h), .int (nI la), .ref ka, .ref kc, .ref kl, .ref kn], iA G ka 16 af, oC kc 2 [.ref kcn, .int (nI 10), .int (nI nc)], iA G kcn (3 * 10) fc, oC kv 4 [.ref km, .ref kg, .int (nI vw), .int (nI vh), .int sl], iA G km 176 mk, iA G kg 160 sg] := hD
  replace hP : xP G [oC kx 5 [.ref kb, .ref kim, .ref kit, .ref kv, .ref kre, .int tf, .ref ksh, .int rf, .ref kwa, .ref kta], oC kb 0 [.int (nI w), .int (nI h), .int (nI la), .ref ka, .ref kc, .ref kl, .ref kn], iA G ka 16 af, oC kc 2 [.ref kcn, .int (nI 10), .int (nI nc)], iA G kcn (3 * 10) fc, oC kv 4 [.ref km, .ref kg, .int (nI vw), .int (nI vh), .int sl], iA G km 176 mk, iA G kg 160 sg] ss.heap := hP
  have hin0 : ∀ w ∈ u_ws RX0 TX0 7, w ∈ wsX5_all := fun w h => List.mem_cons_of_mem _ (List.mem_append_left _ (List.mem_append_left _ (List.mem_append_right _ h)))
  have hin2 : ∀ w ∈ u_ws RX2 TX2 3, w ∈ wsX5_all := fun w h => List.mem_cons_of_mem _ (List.mem_append_right _ h)
  have hin4 : ∀ w ∈ u_ws RX4 TX4 5, w ∈ wsX5_all := fun w h => List.mem_cons_of_mem _ (List.mem_append_left _ (List.mem_append_right _ h))
  have hin5 : ∀ w ∈ u_ws RX5 TX5 10, w ∈ wsX5_all := fun w h => List.mem_cons_of_mem _ (List.mem_append_left _ (List.mem_append_left _ (List.mem_append_left _ (List.mem_append_right _ h))))
  have hl := lv_entry ([.ref kx, .int m, .int d]) (n := 3) (Nat.le_of_ble_eq_true rfl)
  rw [lg_entry_eq]
  generalize (lg_sl ([.ref kx, .int m, .int d]) ++ List.replicate (3 - (lg_sl ([.ref kx, .int m, .int d])).length) Slot.unset).toArray = ls at hl ⊢
  replace hl : lv_has ls 3 [(0, .ref kx), (1, .int m), (2, .int d)] := hl
  refine lv_iload_n hx hb dX5_all_0 rfl (lv_at hl 1 rfl) ?_
  refine xs_i (As := [.int m]) (rest := []) ⟨hx, hb, hml, hown, hts⟩ (c_X5_isMark l G m ) (va_cwS 1 hts gX5_all_X5_isMark rfl rfl rfl (by decide +kernel) ⟨Nat.le_of_ble_eq_true rfl, Nat.le_of_ble_eq_true rfl⟩) hP hS rfl hl.1 rfl (Nat.le_of_ble_eq_true rfl) dX5_all_1 ⟨Nat.zero_le _, Nat.zero_le _⟩ (fun r1 H locs hp1 hP hS => ?_)
  obtain rfl : r1 = xb (inR m 6) := hp1
  refine xb_if_eq (tgt := 18) hx hb dX5_all_4 rfl (fun b4 => ?_) (fun b4 => ?_)
  · skip
    refine lv_iconst (v := (-1)) hx hb dX5_all_18 (by decide) ?_
    have hP := hP.sub (ws' := [oC kx 5 [.ref kb, .ref kim, .ref kit, .ref kv, .ref kre, .int tf, .ref ksh, .int rf, .ref kwa, .ref kta], oC kb 0 [.int (nI w), .int (nI h), .int (nI la), .ref ka, .ref kc, .ref kl, .ref kn], iA G ka 16 af, oC kc 2 [.ref kcn, .int (nI 10), .int (nI nc)], iA G kcn (3 * 10) fc, oC kv 4 [.ref km, .ref kg, .int (nI vw), .int (nI vh), .int sl], iA G km 176 mk, iA G kg 160 sg]) [0, 1, 2, 3, 4, 5, 6, 7] rfl
    have hD := hD.sub (ws' := [oC kx 5 [.ref kb, .ref kim, .ref kit, .ref kv, .ref kre, .int tf, .ref ksh, .int rf, .ref kwa, .ref kta], oC kb 0 [.int (nI w), .int (nI h), .int (nI la), .ref ka, .ref kc, .ref kl, .ref kn], iA G ka 16 af, oC kc 2 [.ref kcn, .int (nI 10), .int (nI nc)], iA G kcn (3 * 10) fc, oC kv 4 [.ref km, .ref kg, .int (nI vw), .int (nI vh), .int sl], iA G km 176 mk, iA G kg 160 sg]) [0, 1, 2, 3, 4, 5, 6, 7] (by decide) rfl
    refine W.iret (v := (-1)) hx hb hr (fun t ht hW => ⟨⟨(-1), (mk, sg, vw, vh, sl), rfl, ?_, by rw [ht]; exact hP, hD⟩, hS.F ht⟩) hS.2.2 dX5_all_19
    try dsimp only
    first | exact ⟨(if_neg (fun q => b4 q.1)).symm, hvok⟩ | exact ⟨(if_neg (fun q => b15 q.2)).symm, hvok⟩ | (refine ⟨?_, VOK_fr he21⟩; rw [if_pos ⟨b4, inR_nI hd0 (by omega)⟩, tn_nI (by omega)]; exact FR_all he21 hwh (by omega) m)
  · skip
    refine lv_aload_n hx hb dX5_all_7 rfl (lv_at hl 0 rfl) ?_
    refine va_get (D := G.1) (ci := 5) (v := .ref kb) (C := RX5) (T := TX5) (N := 10) hx hb hts hin5 hown hK.1 hP 0 rfl rfl 0 (by decide) (hts (.fieldLink RX5 10 "BackLenses" "book" "LBackLenses$Book;") (List.mem_of_getElem? (i := 1) rfl)) (fun _ h9 => h9) rfl dX5_all_8 ?_
    refine lv_iload_n hx hb dX5_all_11 rfl (lv_at hl 2 rfl) ?_
    refine xr_i (As := [.int d]) (rest := []) ⟨hx, hb, hml, hown, hts⟩ (c_X0_hasDay l G kb ka kc kl kn w h la d (by first | assumption | omega)) (cwV 1 hts gX5_all_X0_hasDay rfl rfl rfl (by decide +kernel) ⟨Nat.le_of_ble_eq_true rfl, Nat.le_of_ble_eq_true rfl⟩) hK hP hS [1] rfl rfl rfl rfl hl.1 rfl (Nat.le_of_ble_eq_true rfl) dX5_all_12 ⟨Nat.zero_le _, Nat.zero_le _⟩ (fun r12 H locs hp12 hP hS => ?_)
    obtain rfl : r12 = xb (inR d (la + 1)) := hp12
    refine xb_if_ne (tgt := 20) hx hb dX5_all_15 rfl (fun b15 => ?_) (fun b15 => ?_)
    · skip
      obtain ⟨d0, hd0, rfl⟩ := inR_nat b15
      refine lv_aload_n hx hb dX5_all_20 rfl (lv_at hl 0 rfl) ?_
      refine xw_r (As := []) (rest := []) (wr := []) ⟨hx, hb, hml, hown, hts⟩ (c_X5_freshViews l G H.size kx kim kit kre ksh kwa kta tf rf kb ka kc kcn kl kn w h la af nc fc kv km kg vw vh sl mk sg (by first | assumption | omega) (by first | assumption | omega) (by first | assumption | omega) (by first | assumption | omega) (by first | assumption | omega) (by first | assumption | omega) (by first | assumption | omega) (by first | assumption | omega)) (cwV 0 hts gX5_all_X5_freshViews rfl rfl rfl (by decide +kernel) ⟨Nat.le_of_ble_eq_true rfl, Nat.le_of_ble_eq_true rfl⟩) hK hP hD hS hA [0, 1, 2, 3, 4, 5, 6, 7] [] rfl rfl (by decide) (by decide) (by decide) rfl rfl rfl hl.1 rfl (Nat.le_of_ble_eq_true rfl) dX5_all_21 ⟨Nat.le_of_ble_eq_true rfl, Nat.le_of_ble_eq_true rfl⟩ (fun u H locs hp21 hP hD hS => ?_)
      obtain ⟨mk2_21, sg2_21⟩ := u
      try dsimp only at hp21 hP hD
      have he21 := hp21
      replace hP : xP G [oC kx 5 [.ref kb, .ref kim, .ref kit, .ref kv, .ref kre, .int tf, .ref ksh, .int rf, .ref kwa, .ref kta], oC kb 0 [.int (nI w), .int (nI h), .int (nI la), .ref ka, .ref kc, .ref kl, .ref kn], iA G ka 16 af, oC kc 2 [.ref kcn, .int (nI 10), .int (nI nc)], iA G kcn (3 * 10) fc, oC kv 4 [.ref km, .ref kg, .int (nI w), .int (nI h), .int (nI 0)], iA G km 176 mk2_21, iA G kg 160 sg2_21] H := hP
      replace hD : va_D (va_A (w_X5_all G kx kim kit kre ksh kwa kta tf rf kb ka kc kcn kl kn w h la af nc fc kv km kg vw vh sl mk sg) ss.heap.size) [oC kx 5 [.ref kb, .ref kim, .ref kit, .ref kv, .ref kre, .int tf, .ref ksh, .int rf, .ref kwa, .ref kta], oC kb 0 [.int (nI w), .int (nI h), .int (nI la), .ref ka, .ref kc, .ref kl, .ref kn], iA G ka 16 af, oC kc 2 [.ref kcn, .int (nI 10), .int (nI nc)], iA G kcn (3 * 10) fc, oC kv 4 [.ref km, .ref kg, .int (nI w), .int (nI h), .int (nI 0)], iA G km 176 mk2_21, iA G kg 160 sg2_21] := hD
      refine lv_iload_n hx hb dX5_all_24 rfl (lv_at hl 1 rfl) ?_
      refine lv_iload_n hx hb dX5_all_25 rfl (lv_at hl 2 rfl) ?_
      refine xr_i (As := [.int m, .int (nI d0)]) (rest := []) ⟨hx, hb, hml, hown, hts⟩ (c_X4_cellsWith l G kv km kg w h (nI 0) mk2_21 m d0 (by first | assumption | omega) (by first | assumption | omega)) (cwV 2 hts gX5_all_X4_cellsWith rfl rfl rfl (by decide +kernel) ⟨Nat.le_of_ble_eq_true rfl, Nat.le_of_ble_eq_true rfl⟩) hK hP hS [5, 6] rfl rfl rfl rfl hl.1 rfl (Nat.le_of_ble_eq_true rfl) dX5_all_26 ⟨Nat.zero_le _, Nat.zero_le _⟩ (fun r26 H locs hp26 hP hS => ?_)
      obtain rfl : r26 = xbits (fun c => decide (mk2_21 (d0 * 16 + c) = m)) (w * h) := hp26
      have hP := hP.sub (ws' := [oC kx 5 [.ref kb, .ref kim, .ref kit, .ref kv, .ref kre, .int tf, .ref ksh, .int rf, .ref kwa, .ref kta], oC kb 0 [.int (nI w), .int (nI h), .int (nI la), .ref ka, .ref kc, .ref kl, .ref kn], iA G ka 16 af, oC kc 2 [.ref kcn, .int (nI 10), .int (nI nc)], iA G kcn (3 * 10) fc, oC kv 4 [.ref km, .ref kg, .int (nI w), .int (nI h), .int (nI 0)], iA G km 176 mk2_21, iA G kg 160 sg2_21]) [0, 1, 2, 3, 4, 5, 6, 7] rfl
      have hD := hD.sub (ws' := [oC kx 5 [.ref kb, .ref kim, .ref kit, .ref kv, .ref kre, .int tf, .ref ksh, .int rf, .ref kwa, .ref kta], oC kb 0 [.int (nI w), .int (nI h), .int (nI la), .ref ka, .ref kc, .ref kl, .ref kn], iA G ka 16 af, oC kc 2 [.ref kcn, .int (nI 10), .int (nI nc)], iA G kcn (3 * 10) fc, oC kv 4 [.ref km, .ref kg, .int (nI w), .int (nI h), .int (nI 0)], iA G km 176 mk2_21, iA G kg 160 sg2_21]) [0, 1, 2, 3, 4, 5, 6, 7] (by decide) rfl
      refine W.iret (v := xbits (fun c => decide (mk2_21 (d0 * 16 + c) = m)) (w * h)) hx hb hr (fun t ht hW => ⟨⟨xbits (fun c => decide (mk2_21 (d0 * 16 + c) = m)) (w * h), (mk2_21, sg2_21, w, h, nI 0), rfl, ?_, by rw [ht]; exact hP, hD⟩, hS.F ht⟩) hS.2.2 dX5_all_29
      try dsimp only
      first | exact ⟨(if_neg (fun q => b4 q.1)).symm, hvok⟩ | exact ⟨(if_neg (fun q => b15 q.2)).symm, hvok⟩ | (refine ⟨?_, VOK_fr he21⟩; rw [if_pos ⟨b4, inR_nI hd0 (by omega)⟩, tn_nI (by omega)]; exact FR_all he21 hwh (by omega) m)
    · skip
      refine lv_iconst (v := (-1)) hx hb dX5_all_18 (by decide) ?_
      have hP := hP.sub (ws' := [oC kx 5 [.ref kb, .ref kim, .ref kit, .ref kv, .ref kre, .int tf, .ref ksh, .int rf, .ref kwa, .ref kta], oC kb 0 [.int (nI w), .int (nI h), .int (nI la), .ref ka, .ref kc, .ref kl, .ref kn], iA G ka 16 af, oC kc 2 [.ref kcn, .int (nI 10), .int (nI nc)], iA G kcn (3 * 10) fc, oC kv 4 [.ref km, .ref kg, .int (nI vw), .int (nI vh), .int sl], iA G km 176 mk, iA G kg 160 sg]) [0, 1, 2, 3, 4, 5, 6, 7] rfl
      have hD := hD.sub (ws' := [oC kx 5 [.ref kb, .ref kim, .ref kit, .ref kv, .ref kre, .int tf, .ref ksh, .int rf, .ref kwa, .ref kta], oC kb 0 [.int (nI w), .int (nI h), .int (nI la), .ref ka, .ref kc, .ref kl, .ref kn], iA G ka 16 af, oC kc 2 [.ref kcn, .int (nI 10), .int (nI nc)], iA G kcn (3 * 10) fc, oC kv 4 [.ref km, .ref kg, .int (nI vw), .int (nI vh), .int sl], iA G km 176 mk, iA G kg 160 sg]) [0, 1, 2, 3, 4, 5, 6, 7] (by decide) rfl
      refine W.iret (v := (-1)) hx hb hr (fun t ht hW => ⟨⟨(-1), (mk, sg, vw, vh, sl), rfl, ?_, by rw [ht]; exact hP, hD⟩, hS.F ht⟩) hS.2.2 dX5_all_19
      try dsimp only
      first | exact ⟨(if_neg (fun q => b4 q.1)).symm, hvok⟩ | exact ⟨(if_neg (fun q => b15 q.2)).symm, hvok⟩ | (refine ⟨?_, VOK_fr he21⟩; rw [if_pos ⟨b4, inR_nI hd0 (by omega)⟩, tn_nI (by omega)]; exact FR_all he21 hwh (by omega) m)

abbrev w_X5_apart (G : XG) (kx kim kit kre ksh kwa kta : Nat) (tf rf : Int32) (kb ka kc kcn kl kn : Nat) (w h la : Nat) (af : Nat → Int32) (nc : Nat) (fc : Nat → Int32) (kv km kg : Nat) (vw vh : Nat) (sl : Int32) (mk sg : Nat → Int32) : va_W := [oC kx 5 [.ref kb, .ref kim, .ref kit, .ref kv, .ref kre, .int tf, .ref ksh, .int rf, .ref kwa, .ref kta], oC kb 0 [.int (nI w), .int (nI h), .int (nI la), .ref ka, .ref kc, .ref kl, .ref kn], iA G ka 16 af, oC kc 2 [.ref kcn, .int (nI 10), .int (nI nc)], iA G kcn (3 * 10) fc, oC kv 4 [.ref km, .ref kg, .int (nI vw), .int (nI vh), .int sl], iA G km 176 mk, iA G kg 160 sg]
abbrev Q_X5_apart (G : XG) (sz : Nat) (kx kim kit kre ksh kwa kta : Nat) (tf rf : Int32) (kb ka kc kcn kl kn : Nat) (w h la : Nat) (af : Nat → Int32) (nc : Nat) (fc : Nat → Int32) (kv km kg : Nat) (vw vh : Nat) (sl : Int32) (mk sg : Nat → Int32) (d e : Int32) : Array Value → State → Outcome → State → Prop := (va_Qi (fun (r : Int32) (u : (Nat → Int32) × (Nat → Int32) × Nat × Nat × Int32) => r = (if inR d (la + 1) ∧ inR e (la + 1) then apS w h af nc fc (tn d) (tn e) else (-1)) ∧ VOK w h la af nc fc u.1 u.2.1 u.2.2.1 u.2.2.2.1 u.2.2.2.2) (xWb G sz (w_X5_apart G kx kim kit kre ksh kwa kta tf rf kb ka kc kcn kl kn w h la af nc fc kv km kg vw vh sl mk sg) (fun u : (Nat → Int32) × (Nat → Int32) × Nat × Nat × Int32 => [oC kx 5 [.ref kb, .ref kim, .ref kit, .ref kv, .ref kre, .int tf, .ref ksh, .int rf, .ref kwa, .ref kta], oC kb 0 [.int (nI w), .int (nI h), .int (nI la), .ref ka, .ref kc, .ref kl, .ref kn], iA G ka 16 af, oC kc 2 [.ref kcn, .int (nI 10), .int (nI nc)], iA G kcn (3 * 10) fc, oC kv 4 [.ref km, .ref kg, .int (nI u.2.2.1), .int (nI u.2.2.2.1), .int u.2.2.2.2], iA G km 176 u.1, iA G kg 160 u.2.1])) (va_A (w_X5_apart G kx kim kit kre ksh kwa kta tf rf kb ka kc kcn kl kn w h la af nc fc kv km kg vw vh sl mk sg) sz))
set_option maxHeartbeats 4000000 in
set_option maxRecDepth 100000 in
theorem c_X5_apart (l : Launch) (G : XG) (sz : Nat) (kx kim kit kre ksh kwa kta : Nat) (tf rf : Int32) (kb ka kc kcn kl kn : Nat) (w h la : Nat) (af : Nat → Int32) (nc : Nat) (fc : Nat → Int32) (kv km kg : Nat) (vw vh : Nat) (sl : Int32) (mk sg : Nat → Int32) (d e : Int32) (hw : 1 ≤ w) (hwb : w ≤ 16) (hhb : h ≤ 16) (hwh : w * h ≤ 16) (hla : la ≤ 9) (hnc : nc ≤ 10) (hcell : ∀ i, i < nc → inR (fc (3 * i + 1)) 16) (hvok : VOK w h la af nc fc mk sg vw vh sl) : Met l yX5_apart wsX5_apart ({ frames := 4, cells := 0, slots := 0, locals := 96 } : Room) (va_Pc [.ref kx, .int d, .int e] (xWp G sz (w_X5_apart G kx kim kit kre ksh kwa kta tf rf kb ka kc kcn kl kn w h la af nc fc kv km kg vw vh sl mk sg))) (Q_X5_apart G sz kx kim kit kre ksh kwa kta tf rf kb ka kc kcn kl kn w h la af nc fc kv km kg vw vh sl mk sg d e) 0 0 (va_A (w_X5_apart G kx kim kit kre ksh kwa kta tf rf kb ka kc kcn kl kn w h la af nc fc kv km kg vw vh sl mk sg) sz) := by
  refine Met.ofW (cc := cX5_apart) (maxL := 3) (ret := (some .int)) (by decide) rfl ?_
  intro pp ee ss mm aa below mt cd s₁ BB hml hv
  obtain ⟨rfl, hsz, hP, hK, hD0⟩ := hv
  have hx := BB.exec
  have hb := BB.bytes
  have hr := BB.returns
  have hts := atoms_spec (ws := wsX5_apart) BB.pre
  have hown : ss.vm.findClass RX5 = some mm.cls := findClass_of_methodNamed BB.named
  have hlocks := BB.notSynchronized
  subst hsz
  have hD := hD0.self (sz := ss.heap.size)
  have hA : ∀ q : Nat, ss.heap.size ≤ q → va_A (w_X5_apart G kx kim kit kre ksh kwa kta tf rf kb ka kc kcn kl kn w h la af nc fc kv km kg vw vh sl mk sg) ss.heap.size q := fun q h => Or.inr h
  have hS : va_S (va_A (w_X5_apart G kx kim kit kre ksh kwa kta tf rf kb ka kc kcn kl kn w h la af nc fc kv km kg vw vh sl mk sg) ss.heap.size) ss.heap ss.heap [] := va_S.rf
  replace hD : va_D (va_A (w_X5_apart G kx kim kit kre ksh kwa kta tf rf kb ka kc kcn kl kn w h la af nc fc kv km kg vw vh sl mk sg) ss.heap.size) [oC kx 5 [.ref kb, .ref kim, .ref kit, .ref kv, .ref kre, .int tf, .ref ksh, .int rf, .ref kwa, .ref kta], oC kb 0 [.int (nI w), .int (nI h), .int (nI la), .ref ka, .ref kc, .ref kl, .ref kn], iA G ka 16 af, oC kc 2 [.ref kcn, .int (nI 10), .int (nI nc)], iA G kcn (3 * 10) fc, oC kv 4 [.ref km, .ref kg, .int (nI vw), .int (nI vh), .int sl], iA G km 176 mk, iA G kg 160 sg] := hD
  replace hP : xP G [oC kx 5 [.ref kb, .ref kim, .ref kit, .ref kv, .ref kre, .int tf, .ref ksh, .int rf, .ref kwa, .ref kta], oC kb 0 [.int (nI w), .int (nI h), .int (nI la), .ref ka, .ref kc, .ref kl, .ref kn], iA G ka 16 af, oC kc 2 [.ref kcn, .int (nI 10), .int (nI nc)], iA G kcn (3 * 10) fc, oC kv 4 [.ref km, .ref kg, .int (nI vw), .int (nI vh), .int sl], iA G km 176 mk, iA G kg 160 sg] ss.heap := hP
  have hin0 : ∀ w ∈ u_ws RX0 TX0 7, w ∈ wsX5_apart := fun w h => List.mem_cons_of_mem _ (List.mem_append_left _ (List.mem_append_left _ (List.mem_append_right _ h)))
  have hin2 : ∀ w ∈ u_ws RX2 TX2 3, w ∈ wsX5_apart := fun w h => List.mem_cons_of_mem _ (List.mem_append_right _ h)
  have hin4 : ∀ w ∈ u_ws RX4 TX4 5, w ∈ wsX5_apart := fun w h => List.mem_cons_of_mem _ (List.mem_append_left _ (List.mem_append_right _ h))
  have hin5 : ∀ w ∈ u_ws RX5 TX5 10, w ∈ wsX5_apart := fun w h => List.mem_cons_of_mem _ (List.mem_append_left _ (List.mem_append_left _ (List.mem_append_left _ (List.mem_append_right _ h))))
  have hl := lv_entry ([.ref kx, .int d, .int e]) (n := 3) (Nat.le_of_ble_eq_true rfl)
  rw [lg_entry_eq]
  generalize (lg_sl ([.ref kx, .int d, .int e]) ++ List.replicate (3 - (lg_sl ([.ref kx, .int d, .int e])).length) Slot.unset).toArray = ls at hl ⊢
  replace hl : lv_has ls 3 [(0, .ref kx), (1, .int d), (2, .int e)] := hl
  refine lv_aload_n hx hb dX5_apart_0 rfl (lv_at hl 0 rfl) ?_
  refine va_get (D := G.1) (ci := 5) (v := .ref kb) (C := RX5) (T := TX5) (N := 10) hx hb hts hin5 hown hK.1 hP 0 rfl rfl 0 (by decide) (hts (.fieldLink RX5 10 "BackLenses" "book" "LBackLenses$Book;") (List.mem_of_getElem? (i := 1) rfl)) (fun _ h9 => h9) rfl dX5_apart_1 ?_
  refine lv_iload_n hx hb dX5_apart_4 rfl (lv_at hl 1 rfl) ?_
  refine xr_i (As := [.int d]) (rest := []) ⟨hx, hb, hml, hown, hts⟩ (c_X0_hasDay l G kb ka kc kl kn w h la d (by first | assumption | omega)) (cwV 1 hts gX5_apart_X0_hasDay rfl rfl rfl (by decide +kernel) ⟨Nat.le_of_ble_eq_true rfl, Nat.le_of_ble_eq_true rfl⟩) hK hP hS [1] rfl rfl rfl rfl hl.1 rfl (Nat.le_of_ble_eq_true rfl) dX5_apart_5 ⟨Nat.zero_le _, Nat.zero_le _⟩ (fun r5 H locs hp5 hP hS => ?_)
  obtain rfl : r5 = xb (inR d (la + 1)) := hp5
  refine xb_if_eq (tgt := 22) hx hb dX5_apart_8 rfl (fun b8 => ?_) (fun b8 => ?_)
  · skip
    refine lv_iconst (v := (-1)) hx hb dX5_apart_22 (by decide) ?_
    have hP := hP.sub (ws' := [oC kx 5 [.ref kb, .ref kim, .ref kit, .ref kv, .ref kre, .int tf, .ref ksh, .int rf, .ref kwa, .ref kta], oC kb 0 [.int (nI w), .int (nI h), .int (nI la), .ref ka, .ref kc, .ref kl, .ref kn], iA G ka 16 af, oC kc 2 [.ref kcn, .int (nI 10), .int (nI nc)], iA G kcn (3 * 10) fc, oC kv 4 [.ref km, .ref kg, .int (nI vw), .int (nI vh), .int sl], iA G km 176 mk, iA G kg 160 sg]) [0, 1, 2, 3, 4, 5, 6, 7] rfl
    have hD := hD.sub (ws' := [oC kx 5 [.ref kb, .ref kim, .ref kit, .ref kv, .ref kre, .int tf, .ref ksh, .int rf, .ref kwa, .ref kta], oC kb 0 [.int (nI w), .int (nI h), .int (nI la), .ref ka, .ref kc, .ref kl, .ref kn], iA G ka 16 af, oC kc 2 [.ref kcn, .int (nI 10), .int (nI nc)], iA G kcn (3 * 10) fc, oC kv 4 [.ref km, .ref kg, .int (nI vw), .int (nI vh), .int sl], iA G km 176 mk, iA G kg 160 sg]) [0, 1, 2, 3, 4, 5, 6, 7] (by decide) rfl
    refine W.iret (v := (-1)) hx hb hr (fun t ht hW => ⟨⟨(-1), (mk, sg, vw, vh, sl), rfl, ?_, by rw [ht]; exact hP, hD⟩, hS.F ht⟩) hS.2.2 dX5_apart_23
    try dsimp only
    first | exact ⟨(if_neg (fun q => b8 q.1)).symm, hvok⟩ | exact ⟨(if_neg (fun q => b19 q.2)).symm, hvok⟩ | (refine ⟨?_, VOK_fr he25⟩; rw [if_pos ⟨inR_nI hd0 (by omega), inR_nI he0 (by omega)⟩, tn_nI (by omega), tn_nI (by omega)]; exact FR_apart he25 hwh (by omega) (by omega))
  · skip
    refine lv_aload_n hx hb dX5_apart_11 rfl (lv_at hl 0 rfl) ?_
    refine va_get (D := G.1) (ci := 5) (v := .ref kb) (C := RX5) (T := TX5) (N := 10) hx hb hts hin5 hown hK.1 hP 0 rfl rfl 0 (by decide) (hts (.fieldLink RX5 10 "BackLenses" "book" "LBackLenses$Book;") (List.mem_of_getElem? (i := 1) rfl)) (fun _ h9 => h9) rfl dX5_apart_12 ?_
    refine lv_iload_n hx hb dX5_apart_15 rfl (lv_at hl 2 rfl) ?_
    refine xr_i (As := [.int e]) (rest := []) ⟨hx, hb, hml, hown, hts⟩ (c_X0_hasDay l G kb ka kc kl kn w h la e (by first | assumption | omega)) (cwV 1 hts gX5_apart_X0_hasDay rfl rfl rfl (by decide +kernel) ⟨Nat.le_of_ble_eq_true rfl, Nat.le_of_ble_eq_true rfl⟩) hK hP hS [1] rfl rfl rfl rfl hl.1 rfl (Nat.le_of_ble_eq_true rfl) dX5_apart_16 ⟨Nat.zero_le _, Nat.zero_le _⟩ (fun r16 H locs hp16 hP hS => ?_)
    obtain rfl : r16 = xb (inR e (la + 1)) := hp16
    refine xb_if_ne (tgt := 24) hx hb dX5_apart_19 rfl (fun b19 => ?_) (fun b19 => ?_)
    · skip
      obtain ⟨d0, hd0, rfl⟩ := inR_nat b8
      obtain ⟨e0, he0, rfl⟩ := inR_nat b19
      refine lv_aload_n hx hb dX5_apart_24 rfl (lv_at hl 0 rfl) ?_
      refine xw_r (As := []) (rest := []) (wr := []) ⟨hx, hb, hml, hown, hts⟩ (c_X5_freshViews l G H.size kx kim kit kre ksh kwa kta tf rf kb ka kc kcn kl kn w h la af nc fc kv km kg vw vh sl mk sg (by first | assumption | omega) (by first | assumption | omega) (by first | assumption | omega) (by first | assumption | omega) (by first | assumption | omega) (by first | assumption | omega) (by first | assumption | omega) (by first | assumption | omega)) (cwV 0 hts gX5_apart_X5_freshViews rfl rfl rfl (by decide +kernel) ⟨Nat.le_of_ble_eq_true rfl, Nat.le_of_ble_eq_true rfl⟩) hK hP hD hS hA [0, 1, 2, 3, 4, 5, 6, 7] [] rfl rfl (by decide) (by decide) (by decide) rfl rfl rfl hl.1 rfl (Nat.le_of_ble_eq_true rfl) dX5_apart_25 ⟨Nat.le_of_ble_eq_true rfl, Nat.le_of_ble_eq_true rfl⟩ (fun u H locs hp25 hP hD hS => ?_)
      obtain ⟨mk2_25, sg2_25⟩ := u
      try dsimp only at hp25 hP hD
      have he25 := hp25
      replace hP : xP G [oC kx 5 [.ref kb, .ref kim, .ref kit, .ref kv, .ref kre, .int tf, .ref ksh, .int rf, .ref kwa, .ref kta], oC kb 0 [.int (nI w), .int (nI h), .int (nI la), .ref ka, .ref kc, .ref kl, .ref kn], iA G ka 16 af, oC kc 2 [.ref kcn, .int (nI 10), .int (nI nc)], iA G kcn (3 * 10) fc, oC kv 4 [.ref km, .ref kg, .int (nI w), .int (nI h), .int (nI 0)], iA G km 176 mk2_25, iA G kg 160 sg2_25] H := hP
      replace hD : va_D (va_A (w_X5_apart G kx kim kit kre ksh kwa kta tf rf kb ka kc kcn kl kn w h la af nc fc kv km kg vw vh sl mk sg) ss.heap.size) [oC kx 5 [.ref kb, .ref kim, .ref kit, .ref kv, .ref kre, .int tf, .ref ksh, .int rf, .ref kwa, .ref kta], oC kb 0 [.int (nI w), .int (nI h), .int (nI la), .ref ka, .ref kc, .ref kl, .ref kn], iA G ka 16 af, oC kc 2 [.ref kcn, .int (nI 10), .int (nI nc)], iA G kcn (3 * 10) fc, oC kv 4 [.ref km, .ref kg, .int (nI w), .int (nI h), .int (nI 0)], iA G km 176 mk2_25, iA G kg 160 sg2_25] := hD
      refine lv_iload_n hx hb dX5_apart_28 rfl (lv_at hl 1 rfl) ?_
      refine lv_iload_n hx hb dX5_apart_29 rfl (lv_at hl 2 rfl) ?_
      refine lv_aload_n hx hb dX5_apart_30 rfl (lv_at hl 0 rfl) ?_
      refine va_get (D := G.1) (ci := 5) (v := .ref kb) (C := RX5) (T := TX5) (N := 10) hx hb hts hin5 hown hK.1 hP 0 rfl rfl 0 (by decide) (hts (.fieldLink RX5 10 "BackLenses" "book" "LBackLenses$Book;") (List.mem_of_getElem? (i := 1) rfl)) (fun _ h9 => h9) rfl dX5_apart_31 ?_
      refine xr_i (As := []) (rest := [.int (nI e0), .int (nI d0), .ref kv]) ⟨hx, hb, hml, hown, hts⟩ (c_X0_cells l G kb ka kc kl kn w h la ) (cwV 0 hts gX5_apart_X0_cells rfl rfl rfl (by decide +kernel) ⟨Nat.le_of_ble_eq_true rfl, Nat.le_of_ble_eq_true rfl⟩) hK hP hS [1] rfl rfl rfl rfl hl.1 rfl (Nat.le_of_ble_eq_true rfl) dX5_apart_34 ⟨Nat.zero_le _, Nat.zero_le _⟩ (fun r34 H locs hp34 hP hS => ?_)
      obtain rfl : r34 = nI (w * h) := hp34
      refine xr_i (As := [.int (nI d0), .int (nI e0), .int (nI (w * h))]) (rest := []) ⟨hx, hb, hml, hown, hts⟩ (c_X4_tellingApart l G kv km kg w h (nI 0) mk2_25 sg2_25 d0 e0 (w * h) (by first | assumption | omega) (by first | assumption | omega) (by first | assumption | omega) (by first | assumption | omega)) (cwV 3 hts gX5_apart_X4_tellingApart rfl rfl rfl (by decide +kernel) ⟨Nat.le_of_ble_eq_true rfl, Nat.le_of_ble_eq_true rfl⟩) hK hP hS [5, 6, 7] rfl rfl rfl rfl hl.1 rfl (Nat.le_of_ble_eq_true rfl) dX5_apart_37 ⟨Nat.zero_le _, Nat.zero_le _⟩ (fun r37 H locs hp37 hP hS => ?_)
      obtain rfl : r37 = xbits (fun x => !decide (sg2_25 (d0 * 16 + x) = sg2_25 (e0 * 16 + x)) || !decide (sg2_25 (d0 * 16 + x) &&& xbits (fun c => !decide (mk2_25 (d0 * 16 + c) = mk2_25 (e0 * 16 + c))) (w * h) = 0)) (w * h) := hp37
      have hP := hP.sub (ws' := [oC kx 5 [.ref kb, .ref kim, .ref kit, .ref kv, .ref kre, .int tf, .ref ksh, .int rf, .ref kwa, .ref kta], oC kb 0 [.int (nI w), .int (nI h), .int (nI la), .ref ka, .ref kc, .ref kl, .ref kn], iA G ka 16 af, oC kc 2 [.ref kcn, .int (nI 10), .int (nI nc)], iA G kcn (3 * 10) fc, oC kv 4 [.ref km, .ref kg, .int (nI w), .int (nI h), .int (nI 0)], iA G km 176 mk2_25, iA G kg 160 sg2_25]) [0, 1, 2, 3, 4, 5, 6, 7] rfl
      have hD := hD.sub (ws' := [oC kx 5 [.ref kb, .ref kim, .ref kit, .ref kv, .ref kre, .int tf, .ref ksh, .int rf, .ref kwa, .ref kta], oC kb 0 [.int (nI w), .int (nI h), .int (nI la), .ref ka, .ref kc, .ref kl, .ref kn], iA G ka 16 af, oC kc 2 [.ref kcn, .int (nI 10), .int (nI nc)], iA G kcn (3 * 10) fc, oC kv 4 [.ref km, .ref kg, .int (nI w), .int (nI h), .int (nI 0)], iA G km 176 mk2_25, iA G kg 160 sg2_25]) [0, 1, 2, 3, 4, 5, 6, 7] (by decide) rfl
      refine W.iret (v := xbits (fun x => !decide (sg2_25 (d0 * 16 + x) = sg2_25 (e0 * 16 + x)) || !decide (sg2_25 (d0 * 16 + x) &&& xbits (fun c => !decide (mk2_25 (d0 * 16 + c) = mk2_25 (e0 * 16 + c))) (w * h) = 0)) (w * h)) hx hb hr (fun t ht hW => ⟨⟨xbits (fun x => !decide (sg2_25 (d0 * 16 + x) = sg2_25 (e0 * 16 + x)) || !decide (sg2_25 (d0 * 16 + x) &&& xbits (fun c => !decide (mk2_25 (d0 * 16 + c) = mk2_25 (e0 * 16 + c))) (w * h) = 0)) (w * h), (mk2_25, sg2_25, w, h, nI 0), rfl, ?_, by rw [ht]; exact hP, hD⟩, hS.F ht⟩) hS.2.2 dX5_apart_40
      try dsimp only
      first | exact ⟨(if_neg (fun q => b8 q.1)).symm, hvok⟩ | exact ⟨(if_neg (fun q => b19 q.2)).symm, hvok⟩ | (refine ⟨?_, VOK_fr he25⟩; rw [if_pos ⟨inR_nI hd0 (by omega), inR_nI he0 (by omega)⟩, tn_nI (by omega), tn_nI (by omega)]; exact FR_apart he25 hwh (by omega) (by omega))
    · skip
      refine lv_iconst (v := (-1)) hx hb dX5_apart_22 (by decide) ?_
      have hP := hP.sub (ws' := [oC kx 5 [.ref kb, .ref kim, .ref kit, .ref kv, .ref kre, .int tf, .ref ksh, .int rf, .ref kwa, .ref kta], oC kb 0 [.int (nI w), .int (nI h), .int (nI la), .ref ka, .ref kc, .ref kl, .ref kn], iA G ka 16 af, oC kc 2 [.ref kcn, .int (nI 10), .int (nI nc)], iA G kcn (3 * 10) fc, oC kv 4 [.ref km, .ref kg, .int (nI vw), .int (nI vh), .int sl], iA G km 176 mk, iA G kg 160 sg]) [0, 1, 2, 3, 4, 5, 6, 7] rfl
      have hD := hD.sub (ws' := [oC kx 5 [.ref kb, .ref kim, .ref kit, .ref kv, .ref kre, .int tf, .ref ksh, .int rf, .ref kwa, .ref kta], oC kb 0 [.int (nI w), .int (nI h), .int (nI la), .ref ka, .ref kc, .ref kl, .ref kn], iA G ka 16 af, oC kc 2 [.ref kcn, .int (nI 10), .int (nI nc)], iA G kcn (3 * 10) fc, oC kv 4 [.ref km, .ref kg, .int (nI vw), .int (nI vh), .int sl], iA G km 176 mk, iA G kg 160 sg]) [0, 1, 2, 3, 4, 5, 6, 7] (by decide) rfl
      refine W.iret (v := (-1)) hx hb hr (fun t ht hW => ⟨⟨(-1), (mk, sg, vw, vh, sl), rfl, ?_, by rw [ht]; exact hP, hD⟩, hS.F ht⟩) hS.2.2 dX5_apart_23
      try dsimp only
      first | exact ⟨(if_neg (fun q => b8 q.1)).symm, hvok⟩ | exact ⟨(if_neg (fun q => b19 q.2)).symm, hvok⟩ | (refine ⟨?_, VOK_fr he25⟩; rw [if_pos ⟨inR_nI hd0 (by omega), inR_nI he0 (by omega)⟩, tn_nI (by omega), tn_nI (by omega)]; exact FR_apart he25 hwh (by omega) (by omega))
end

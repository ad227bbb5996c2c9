/-! new rows and objects, in the pictures of the class; constructors -/
section XN
variable {p : Program} {l : Launch} {e : Env} {R : Room} {s : State} {m : MethodId} {args : Array Value} {below : List Frame} {meth : Method} {c : Code} {H : Heap} {locs : List Loc} {cells slots : Nat} {Q : State → Prop}
variable {cc : ByteArray} {pc : Nat} {ls : Array Slot} {rest st0 : List Value} {G : XG} {ws wc wr : va_W} {A : Nat → Prop} {H0 : Heap} {a : Nat}
variable {y : MethodName} {bytes : ByteArray} {maxL nL mc ms n index : Nat} {ret : Option FieldType} {wy : List Cond} {rm : Room} {Ts : List Cond} {own C : String} {b : Addr} {As : List Value}

theorem xn_newi {N' : Nat} (hexec : p.tables.exec = Jvm.exec) (hb : c.code = cc) (harr : (Cond.arrayClass .int).before args s = true) (hK : xK G s) (hP : xP G ws H) (hD : va_D A ws) (hS : va_S A H0 H locs) (hA : ∀ q : Nat, H0.size ≤ q → A q) (hN : N' ≤ 100000) (hcells : cells + 1 ≤ R.cells) (hslots : slots + N' ≤ R.slots) (hdg : decode cc pc = .ok (.newarray .int, 2))
    (kk : ∀ (q : Nat) (H1 : Heap), xP G (ws ++ [iA G q N' (fun _ => nI 0)]) H1 → va_D A (ws ++ [iA G q N' (fun _ => nI 0)]) → va_S A H0 H1 locs → W p l e R s m args below meth c H1 locs (cells + 1) (slots + N') Q (F0 m (pc + 2) ls (.ref q :: rest))) : W p l e R s m args below meth c H locs cells slots Q (F0 m pc ls (.int (nI N') :: rest)) := by
  refine va_newa (atype := .int) (ty := .int) (a0 := (N', .inl (fun _ => nI 0))) hexec hb harr rfl hK.1 hP hD hS hA (fun _ => rfl) (nI_pos (by omega)) (nI_clamp (by omega)) (show N' * 4 ≤ 536870912 by omega) hcells hslots hdg (fun q cA H1 hK1 hP1 hD1 hS1 => ?_)
  have h1 := (hK1.2 5 _ rfl).2
  have h0 := (hK.1.2 0 _ rfl).2
  have he : cA = G.2 0 := Option.some.inj (h1.symm.trans h0)
  subst he
  exact kk q H1 hP1 hD1 hS1
theorem xn_newb {N' : Nat} (hexec : p.tables.exec = Jvm.exec) (hb : c.code = cc) (harr : (Cond.arrayClass .byte).before args s = true) (hK : xK G s) (hP : xP G ws H) (hD : va_D A ws) (hS : va_S A H0 H locs) (hA : ∀ q : Nat, H0.size ≤ q → A q) (hN : N' ≤ 100000) (hcells : cells + 1 ≤ R.cells) (hslots : slots + N' ≤ R.slots) (hdg : decode cc pc = .ok (.newarray .byte, 2))
    (kk : ∀ (q : Nat) (H1 : Heap), xP G (ws ++ [bA G q N' (fun _ => nI 0)]) H1 → va_D A (ws ++ [bA G q N' (fun _ => nI 0)]) → va_S A H0 H1 locs → W p l e R s m args below meth c H1 locs (cells + 1) (slots + N') Q (F0 m (pc + 2) ls (.ref q :: rest))) : W p l e R s m args below meth c H locs cells slots Q (F0 m pc ls (.int (nI N') :: rest)) := by
  refine va_newa (atype := .byte) (ty := .byte) (a0 := (N', .inl (fun _ => nI 0))) hexec hb harr rfl hK.1 hP hD hS hA (fun _ => rfl) (nI_pos (by omega)) (nI_clamp (by omega)) (show N' * 1 ≤ 536870912 by omega) hcells hslots hdg (fun q cA H1 hK1 hP1 hD1 hS1 => ?_)
  have h1 := (hK1.2 5 _ rfl).2
  have h0 := (hK.1.2 1 _ rfl).2
  have he : cA = G.2 1 := Option.some.inj (h1.symm.trans h0)
  subst he
  exact kk q H1 hP1 hD1 hS1
theorem xn_newz {N' : Nat} (hexec : p.tables.exec = Jvm.exec) (hb : c.code = cc) (harr : (Cond.arrayClass .boolean).before args s = true) (hK : xK G s) (hP : xP G ws H) (hD : va_D A ws) (hS : va_S A H0 H locs) (hA : ∀ q : Nat, H0.size ≤ q → A q) (hN : N' ≤ 100000) (hcells : cells + 1 ≤ R.cells) (hslots : slots + N' ≤ R.slots) (hdg : decode cc pc = .ok (.newarray .boolean, 2))
    (kk : ∀ (q : Nat) (H1 : Heap), xP G (ws ++ [zA G q N' (fun _ => nI 0)]) H1 → va_D A (ws ++ [zA G q N' (fun _ => nI 0)]) → va_S A H0 H1 locs → W p l e R s m args below meth c H1 locs (cells + 1) (slots + N') Q (F0 m (pc + 2) ls (.ref q :: rest))) : W p l e R s m args below meth c H locs cells slots Q (F0 m pc ls (.int (nI N') :: rest)) := by
  refine va_newa (atype := .boolean) (ty := .boolean) (a0 := (N', .inl (fun _ => nI 0))) hexec hb harr rfl hK.1 hP hD hS hA (fun _ => rfl) (nI_pos (by omega)) (nI_clamp (by omega)) (show N' * 1 ≤ 536870912 by omega) hcells hslots hdg (fun q cA H1 hK1 hP1 hD1 hS1 => ?_)
  have h1 := (hK1.2 5 _ rfl).2
  have h0 := (hK.1.2 2 _ rfl).2
  have he : cA = G.2 2 := Option.some.inj (h1.symm.trans h0)
  subst he
  exact kk q H1 hP1 hD1 hS1
theorem xn_newk {N' : Nat} (hexec : p.tables.exec = Jvm.exec) (hb : c.code = cc) (hown : s.vm.findClass own = some m.cls) (hcl : (Cond.classLink own index "BackLenses$Book").before args s = true) (hao : va_AO "BackLenses$Book" s) (hK : xK G s) (hP : xP G ws H) (hD : va_D A ws) (hS : va_S A H0 H locs) (hA : ∀ q : Nat, H0.size ≤ q → A q) (hN : N' ≤ 100000) (hcells : cells + 1 ≤ R.cells) (hslots : slots + N' ≤ R.slots) (hdg : decode cc pc = .ok (.anewarray index, 3))
    (kk : ∀ (q : Nat) (H1 : Heap), xP G (ws ++ [kA G q N' (fun _ => none)]) H1 → va_D A (ws ++ [kA G q N' (fun _ => none)]) → va_S A H0 H1 locs → W p l e R s m args below meth c H1 locs (cells + 1) (slots + N') Q (F0 m (pc + 3) ls (.ref q :: rest))) : W p l e R s m args below meth c H locs cells slots Q (F0 m pc ls (.int (nI N') :: rest)) := by
  refine va_newq (C := "BackLenses$Book") hexec hb hown hcl hao hK.1 hP hD hS hA (nI_pos (by omega)) (nI_clamp (by omega)) (show N' * 4 ≤ 536870912 by omega) hcells hslots hdg (fun q cA H1 hK1 hP1 hD1 hS1 => ?_)
  obtain ⟨-, -, -, -, -, h1⟩ := (hK1.2 5 _ rfl).2
  obtain ⟨-, -, -, -, -, h0⟩ := (hK.1.2 3 _ rfl).2
  have he : cA = G.2 3 := Option.some.inj (h1.symm.trans h0)
  subst he
  exact kk q H1 hP1 hD1 hS1
theorem xn_astk {i n v : Nat} {fs : List Value} {f : Nat → Option Nat} (hexec : p.tables.exec = Jvm.exec) (hb : c.code = cc) (hK : xK G s) (hP : xP G ws H) (hD : va_D A ws) (hS : va_S A H0 H locs) (q0 qk : Nat) (ha : ws[q0]? = some (kA G a n f)) (hv : ws[qk]? = some (oC v 0 fs)) (hi : i < n) (hn : n < 2 ^ 31) (hdg : decode cc pc = .ok (.aastore, 1))
    (kk : ∀ (H1 : Heap) (locs1 : List Loc), xP G (ws.set q0 (kA G a n (va_up f i (some v)))) H1 → va_D A (ws.set q0 (kA G a n (va_up f i (some v)))) → va_S A H0 H1 locs1 → W p l e R s m args below meth c H1 locs1 cells slots Q (F0 m (pc + 1) ls rest)) : W p l e R s m args below meth c H locs cells slots Q (F0 m pc ls (.ref v :: .int (nI i) :: .ref a :: rest)) :=
  va_astq hexec hb hK.1 hP hD hS q0 3 qk 0 ha rfl hv rfl (vp_in_nI hi hn) hdg (by rw [nI_clamp (Nat.lt_trans hi hn)]; exact kk)
theorem xn_news {N' : Nat} (hexec : p.tables.exec = Jvm.exec) (hb : c.code = cc) (hown : s.vm.findClass own = some m.cls) (hcl : (Cond.classLink own index "BackLenses$Sheet").before args s = true) (hao : va_AO "BackLenses$Sheet" s) (hK : xK G s) (hP : xP G ws H) (hD : va_D A ws) (hS : va_S A H0 H locs) (hA : ∀ q : Nat, H0.size ≤ q → A q) (hN : N' ≤ 100000) (hcells : cells + 1 ≤ R.cells) (hslots : slots + N' ≤ R.slots) (hdg : decode cc pc = .ok (.anewarray index, 3))
    (kk : ∀ (q : Nat) (H1 : Heap), xP G (ws ++ [sA G q N' (fun _ => none)]) H1 → va_D A (ws ++ [sA G q N' (fun _ => none)]) → va_S A H0 H1 locs → W p l e R s m args below meth c H1 locs (cells + 1) (slots + N') Q (F0 m (pc + 3) ls (.ref q :: rest))) : W p l e R s m args below meth c H locs cells slots Q (F0 m pc ls (.int (nI N') :: rest)) := by
  refine va_newq (C := "BackLenses$Sheet") hexec hb hown hcl hao hK.1 hP hD hS hA (nI_pos (by omega)) (nI_clamp (by omega)) (show N' * 4 ≤ 536870912 by omega) hcells hslots hdg (fun q cA H1 hK1 hP1 hD1 hS1 => ?_)
  obtain ⟨-, -, -, -, -, h1⟩ := (hK1.2 5 _ rfl).2
  obtain ⟨-, -, -, -, -, h0⟩ := (hK.1.2 4 _ rfl).2
  have he : cA = G.2 4 := Option.some.inj (h1.symm.trans h0)
  subst he
  exact kk q H1 hP1 hD1 hS1
theorem xn_asts {i n v : Nat} {fs : List Value} {f : Nat → Option Nat} (hexec : p.tables.exec = Jvm.exec) (hb : c.code = cc) (hK : xK G s) (hP : xP G ws H) (hD : va_D A ws) (hS : va_S A H0 H locs) (q0 qk : Nat) (ha : ws[q0]? = some (sA G a n f)) (hv : ws[qk]? = some (oC v 3 fs)) (hi : i < n) (hn : n < 2 ^ 31) (hdg : decode cc pc = .ok (.aastore, 1))
    (kk : ∀ (H1 : Heap) (locs1 : List Loc), xP G (ws.set q0 (sA G a n (va_up f i (some v)))) H1 → va_D A (ws.set q0 (sA G a n (va_up f i (some v)))) → va_S A H0 H1 locs1 → W p l e R s m args below meth c H1 locs1 cells slots Q (F0 m (pc + 1) ls rest)) : W p l e R s m args below meth c H locs cells slots Q (F0 m pc ls (.ref v :: .int (nI i) :: .ref a :: rest)) :=
  va_astq hexec hb hK.1 hP hD hS q0 4 qk 3 ha rfl hv rfl (vp_in_nI hi hn) hdg (by rw [nI_clamp (Nat.lt_trans hi hn)]; exact kk)
abbrev xOWp (G : XG) (sz : Nat) (ws : va_W) : State → Prop := fun U => xWp G sz ws U ∧ va_AO "BackLenses$Book" U ∧ va_AO "BackLenses$Sheet" U
theorem xOWp_blind {G : XG} {sz : Nat} {ws : va_W} {av : List Value} : FrameBlind (va_Pc av (xOWp G sz ws)) := fun a U g mk q => ⟨q.1, ⟨q.2.1.1, q.2.1.2.1, xK_same (U := U) (V := U.calling g mk a) rfl q.2.1.2.2.1, q.2.1.2.2.2⟩, va_AO.moved (u := U) (U := U.calling g mk a) (Vm.Alike.refl U.vm) q.2.2.1, va_AO.moved (u := U) (U := U.calling g mk a) (Vm.Alike.refl U.vm) q.2.2.2⟩
theorem xI_v {S' : Type} {post : S' → Prop} {w1 : S' → va_W} (S : CallFix p m c cc nL s args Ts own) (hM : Met l y wy rm (va_Pc (.ref b :: As) (xWp G H.size wc)) (va_Qv post (xWb G H.size wc w1) (va_A wc H.size)) mc ms (va_A wc H.size)) (cw : CallB R s args own index y bytes maxL none wy rm mc ms n ∧ y.name = "<init>" ∧ (Cond.instanceMethod y).before args s = true) (hK : xK G s) (hP : xP G ws H) (hD : va_D A ws) (hS : va_S A H0 H locs) (hA : ∀ q : Nat, H0.size ≤ q → A q) (isC isR : List Nat) (hC : isC.map (fun i => ws[i]?) = wc.map some) (hR : isR.map (fun i => ws[i]?) = wr.map some) (hnC : va_nd isC = true) (hnR : va_nd isR = true) (hdis : ∀ i ∈ isR, i ∉ isC) (hn : As.length = n) (hl : ls.size = nL) (hst : st0 = As.reverse ++ .ref b :: rest) (hw : (rest.map fun v => v.category).sum ≤ 8) (hdg : decode cc pc = .ok (.invokespecial index, 3)) (hf : cells + mc ≤ R.cells ∧ slots + ms ≤ R.slots) (kk : ∀ (u : S') (H1 : Heap) (locs1 : List Loc), post u → xP G (wr ++ w1 u) H1 → va_D A (wr ++ w1 u) → va_S A H0 H1 locs1 → W p l e R s m args below meth c H1 locs1 (cells + mc) (slots + ms) Q (F0 m (pc + 3) ls rest)) : W p l e R s m args below meth c H locs (cells) (slots) Q (F0 m pc ls st0) := by
  have hDc : va_D A wc := va_D.sub hD isC hnC hC
  have hPc : xP G wc H := xP_sub hP isC hC
  have hFc := va_free (wc := wc) hD hS hA isC hC
  refine va_callv (va_runI (As := As) (rest := rest) (b := b) S hM cw ⟨xWp_blind, fun U hU hW => ⟨rfl, by rw [hU], by rw [hU]; exact hPc, xK_warm hW hK, hDc.weaken (fun _ _ _ _ => trivial)⟩⟩ rfl hn hl hst (lv_room hw) hdg hf) hS (fun q _ h => hFc q h) hFc (fun u t H1 locs1 ht hvm hp hB hz hk hS1 => ?_)
  have hP1 : xP G (w1 u) H1 := by rw [← ht]; exact hB.1
  obtain ⟨hP2, hD2⟩ := va_join (wr := wr) (w1 := w1 u) hP hD isC isR hC hR hnR hdis hk hFc hP1 hB.2
  exact kk u H1 locs1 hp hP2 hD2 hS1
theorem xIO_v {S' : Type} {post : S' → Prop} {w1 : S' → va_W} (S : CallFix p m c cc nL s args Ts own) (hM : Met l y wy rm (va_Pc (.ref b :: As) (xOWp G H.size wc)) (va_Qv post (xWb G H.size wc w1) (va_A wc H.size)) mc ms (va_A wc H.size)) (cw : CallB R s args own index y bytes maxL none wy rm mc ms n ∧ y.name = "<init>" ∧ (Cond.instanceMethod y).before args s = true) (hAO : va_AO "BackLenses$Book" s ∧ va_AO "BackLenses$Sheet" s) (hK : xK G s) (hP : xP G ws H) (hD : va_D A ws) (hS : va_S A H0 H locs) (hA : ∀ q : Nat, H0.size ≤ q → A q) (isC isR : List Nat) (hC : isC.map (fun i => ws[i]?) = wc.map some) (hR : isR.map (fun i => ws[i]?) = wr.map some) (hnC : va_nd isC = true) (hnR : va_nd isR = true) (hdis : ∀ i ∈ isR, i ∉ isC) (hn : As.length = n) (hl : ls.size = nL) (hst : st0 = As.reverse ++ .ref b :: rest) (hw : (rest.map fun v => v.category).sum ≤ 8) (hdg : decode cc pc = .ok (.invokespecial index, 3)) (hf : cells + mc ≤ R.cells ∧ slots + ms ≤ R.slots) (kk : ∀ (u : S') (H1 : Heap) (locs1 : List Loc), post u → xP G (wr ++ w1 u) H1 → va_D A (wr ++ w1 u) → va_S A H0 H1 locs1 → W p l e R s m args below meth c H1 locs1 (cells + mc) (slots + ms) Q (F0 m (pc + 3) ls rest)) : W p l e R s m args below meth c H locs (cells) (slots) Q (F0 m pc ls st0) := by
  have hDc : va_D A wc := va_D.sub hD isC hnC hC
  have hPc : xP G wc H := xP_sub hP isC hC
  have hFc := va_free (wc := wc) hD hS hA isC hC
  refine va_callv (va_runI (As := As) (rest := rest) (b := b) S hM cw ⟨xOWp_blind, fun U hU hW => ⟨rfl, ⟨by rw [hU], by rw [hU]; exact hPc, xK_warm hW hK, hDc.weaken (fun _ _ _ _ => trivial)⟩, va_AO.moved hW.alike hAO.1, va_AO.moved hW.alike hAO.2⟩⟩ rfl hn hl hst (lv_room hw) hdg hf) hS (fun q _ h => hFc q h) hFc (fun u t H1 locs1 ht hvm hp hB hz hk hS1 => ?_)
  have hP1 : xP G (w1 u) H1 := by rw [← ht]; exact hB.1
  obtain ⟨hP2, hD2⟩ := va_join (wr := wr) (w1 := w1 u) hP hD isC isR hC hR hnR hdis hk hFc hP1 hB.2
  exact kk u H1 locs1 hp hP2 hD2 hS1
end XN

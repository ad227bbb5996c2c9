/-! the five names that the class's own text holds, as the start gives them: their places (ad), their bytes -/
abbrev XAd : Type := (Nat → Nat) × (Nat → Nat)
def sLen : List Nat := [5, 4, 4, 4, 4]
def sByt : List (List Int32) := [[104, 111, 117, 115, 101], [108, 97, 115, 116], [99, 101, 108, 108], [116, 117, 114, 110], [108, 101, 110, 115]]
def sC (i k : Nat) : Int32 := (sByt.getD i []).getD k 0
def sIx (i : Nat) : Nat := [98, 107, 112, 117, 122].getD i 0
def sTx (i : Nat) : String := ["house", "last", "cell", "turn", "lens"].getD i ""
def xStr (ad : XAd) (A : Nat → Prop) (U : State) (H : Heap) : Prop := vk_S 5 sLen sByt ad.1 ad.2 A U H ∧ (∀ i : Nat, i < 5 → vk_R RX1 (sIx i) (sTx i) (ad.1 i) U) ∧ va_Z "java/lang/String" "COMPACT_STRINGS" "Z" (.int (nI 1)) A U H ∧ va_Zq "jdk/internal/util/Preconditions" "SIOOBE_FORMATTER" "Ljava/util/function/BiFunction;" A U H
theorem xStr_at {ad : XAd} {A B : Nat → Prop} {s U : State} {H : Heap} {locs : List Loc} (hZ : xStr ad A s s.heap) (hS : va_S A s.heap H locs) (hU : U.heap = H) (hW : s.WarmedH U.vm) (hB : ∀ q, B q → A q) : xStr ad B U U.heap := by
  rw [hU]
  obtain ⟨h1, h2, h3, h4⟩ := hZ
  exact ⟨((h1.kept hS.2.1).moved hW.alike).narrow hB, fun i hi => (h2 i hi).warm hW, ((h3.kept hS.2.1).moved hW.alike).narrow hB, ((h4.kept hS.2.1).moved hW.alike).narrow hB⟩
theorem xStr_same {ad : XAd} {A : Nat → Prop} {U V : State} {H : Heap} (hv : U.vm = V.vm) (hZ : xStr ad A U H) : xStr ad A V H := by
  have hA : U.vm.Alike V.vm := by rw [hv]; exact Vm.Alike.refl V.vm
  obtain ⟨h1, h2, h3, h4⟩ := hZ
  exact ⟨h1.moved hA, fun i hi => (h2 i hi).same hv.symm, h3.moved hA, h4.moved hA⟩
abbrev xZp (ad : XAd) : State → Prop := fun U => xStr ad (fun _ => False) U U.heap
abbrev xZRp (G : XG) (ad : XAd) (ws : va_W) : State → Prop := fun U => xRp G ws U ∧ xStr ad (fun _ => False) U U.heap
abbrev xZWp (G : XG) (sz : Nat) (ad : XAd) (ws : va_W) : State → Prop := fun U => xWp G sz ws U ∧ xStr ad (va_A ws sz) U U.heap
theorem xZp_blind {ad : XAd} {av : List Value} : FrameBlind (va_Pc av (xZp ad)) := fun a U g mk q => ⟨q.1, xStr_same (U := U) (V := U.calling g mk a) rfl q.2⟩
theorem xZRp_blind {G : XG} {ad : XAd} {ws : va_W} {av : List Value} : FrameBlind (va_Pc av (xZRp G ad ws)) := fun a U g mk q => ⟨q.1, ⟨q.2.1.1, xK_same (U := U) (V := U.calling g mk a) rfl q.2.1.2⟩, xStr_same (U := U) (V := U.calling g mk a) rfl q.2.2⟩
theorem xZWp_blind {G : XG} {sz : Nat} {ad : XAd} {ws : va_W} {av : List Value} : FrameBlind (va_Pc av (xZWp G sz ad ws)) := fun a U g mk q => ⟨q.1, ⟨q.2.1.1, q.2.1.2.1, xK_same (U := U) (V := U.calling g mk a) rfl q.2.1.2.2.1, q.2.1.2.2.2⟩, xStr_same (U := U) (V := U.calling g mk a) rfl q.2.2⟩
section XZ
variable {p : Program} {l : Launch} {e : Env} {R : Room} {s : State} {m : MethodId} {args : Array Value} {below : List Frame} {meth : Method} {c : Code} {H : Heap} {locs : List Loc} {cells slots : Nat} {Q : State → Prop}
variable {cc : ByteArray} {pc : Nat} {ls : Array Slot} {rest st0 : List Value} {G : XG} {ws wc wr : va_W} {A : Nat → Prop}
variable {y : MethodName} {bytes : ByteArray} {maxL nL mc ms n index : Nat} {ret : Option FieldType} {wy : List Cond} {rm : Room} {Ts : List Cond} {own C : String} {b : Addr} {As : List Value} {ad : XAd} {i : Nat}
theorem xz_i {post : Int32 → Prop} (S : CallFix p m c cc nL s args Ts own) (hM : Met l y wy rm (va_Pc (.ref (ad.1 i) :: As) (xZp ad)) (xRi post) 0 0 (fun _ => False)) (cw : CallW R s args own "java/lang/String" index y bytes maxL ret wy rm 0 0 n) (hZ : xStr ad A s s.heap) (hi : i < 5) (hP : xP G ws H) (hS : va_S A s.heap H locs) (hn : As.length = n) (hl : ls.size = nL) (hst : st0 = As.reverse ++ .ref (ad.1 i) :: rest) (hw : (rest.map fun v => v.category).sum ≤ 8) (hdg : decode cc pc = .ok (.invokevirtual index, 3)) (hf : cells + 0 ≤ R.cells ∧ slots + 0 ≤ R.slots) (kk : ∀ (r : Int32) (H1 : Heap) (locs1 : List Loc), post r → xP G ws H1 → va_S A s.heap H1 locs1 → W p l e R s m args below meth c H1 locs1 (cells) (slots) Q (F0 m (pc + 3) ls (.int r :: rest))) : W p l e R s m args below meth c H locs (cells) (slots) Q (F0 m pc ls st0) := by
  refine va_calli (va_runV (As := As) (rest := rest) (b := ad.1 i) S hM cw ⟨xZp_blind, vk_recv hZ.1 hi hS, fun U hU hW => ⟨rfl, xStr_at hZ hS hU hW (fun _ h => h.elim)⟩⟩ rfl hn hl hst (lv_room hw) hdg hf) hS (fun q _ h => h.elim) (fun q h => h.elim) (fun r u t H1 locs1 ht hvm hp hB hz hk hS1 => ?_)
  exact kk r H1 locs1 hp (xP_kept hP hk) hS1
theorem xzs_i {post : Int32 → Prop} (S : CallFix p m c cc nL s args Ts own) (hM : Met l y wy rm (va_Pc As (xZp ad)) (xRi post) 0 0 (fun _ => False)) (cw : CallB R s args own index y bytes maxL ret wy rm 0 0 n ∧ (Cond.static y).before args s = true) (hZ : xStr ad A s s.heap) (hP : xP G ws H) (hS : va_S A s.heap H locs) (hn : As.length = n) (hl : ls.size = nL) (hst : st0 = As.reverse ++ rest) (hw : (rest.map fun v => v.category).sum ≤ 8) (hdg : decode cc pc = .ok (.invokestatic index, 3)) (hf : cells + 0 ≤ R.cells ∧ slots + 0 ≤ R.slots) (kk : ∀ (r : Int32) (H1 : Heap) (locs1 : List Loc), post r → xP G ws H1 → va_S A s.heap H1 locs1 → W p l e R s m args below meth c H1 locs1 (cells) (slots) Q (F0 m (pc + 3) ls (.int r :: rest))) : W p l e R s m args below meth c H locs (cells) (slots) Q (F0 m pc ls st0) := by
  refine va_calli (va_runS (As := As) (rest := rest) S hM cw ⟨xZp_blind, fun U hU hW => ⟨rfl, xStr_at hZ hS hU hW (fun _ h => h.elim)⟩⟩ rfl hn hl hst (lv_room hw) hdg hf) hS (fun q _ h => h.elim) (fun q h => h.elim) (fun r u t H1 locs1 ht hvm hp hB hz hk hS1 => ?_)
  exact kk r H1 locs1 hp (xP_kept hP hk) hS1
theorem xzs_v (S : CallFix p m c cc nL s args Ts own) (hM : Met l y wy rm (va_Pc As (xZp ad)) (va_Qv (fun (_ : Unit) => True) (fun _ _ => True) (fun _ => False)) 0 0 (fun _ => False)) (cw : CallB R s args own index y bytes maxL ret wy rm 0 0 n ∧ (Cond.static y).before args s = true) (hZ : xStr ad A s s.heap) (hP : xP G ws H) (hS : va_S A s.heap H locs) (hn : As.length = n) (hl : ls.size = nL) (hst : st0 = As.reverse ++ rest) (hw : (rest.map fun v => v.category).sum ≤ 8) (hdg : decode cc pc = .ok (.invokestatic index, 3)) (hf : cells + 0 ≤ R.cells ∧ slots + 0 ≤ R.slots) (kk : ∀ (H1 : Heap) (locs1 : List Loc), xP G ws H1 → va_S A s.heap H1 locs1 → W p l e R s m args below meth c H1 locs1 (cells) (slots) Q (F0 m (pc + 3) ls rest)) : W p l e R s m args below meth c H locs (cells) (slots) Q (F0 m pc ls st0) := by
  refine va_callv (va_runS (As := As) (rest := rest) S hM cw ⟨xZp_blind, fun U hU hW => ⟨rfl, xStr_at hZ hS hU hW (fun _ h => h.elim)⟩⟩ rfl hn hl hst (lv_room hw) hdg hf) hS (fun q _ h => h.elim) (fun q h => h.elim) (fun u t H1 locs1 ht hvm hp hB hz hk hS1 => ?_)
  exact kk H1 locs1 (xP_kept hP hk) hS1
theorem xzr_i {post : Int32 → Prop} (S : CallFix p m c cc nL s args Ts own) (hM : Met l y wy rm (va_Pc (.ref b :: As) (xZRp G ad wc)) (xRi post) 0 0 (fun _ => False)) (cw : CallW R s args own C index y bytes maxL ret wy rm 0 0 n) (hZ : xStr ad A s s.heap) (hK : xK G s) (hP : xP G ws H) (hS : va_S A s.heap H locs) (is : List Nat) (hs : is.filterMap (fun i => ws[i]?) = wc) {ci N : Nat} {fs : List Value} {T : u_T} (he : wc[0]? = some (oC b ci fs)) (hc : vwCl[ci]? = some (C, T, N)) (hn : As.length = n) (hl : ls.size = nL) (hst : st0 = As.reverse ++ .ref b :: rest) (hw : (rest.map fun v => v.category).sum ≤ 8) (hdg : decode cc pc = .ok (.invokevirtual index, 3)) (hf : cells + 0 ≤ R.cells ∧ slots + 0 ≤ R.slots) (kk : ∀ (r : Int32) (H1 : Heap) (locs1 : List Loc), post r → xP G ws H1 → va_S A s.heap H1 locs1 → W p l e R s m args below meth c H1 locs1 (cells) (slots) Q (F0 m (pc + 3) ls (.int r :: rest))) : W p l e R s m args below meth c H locs (cells) (slots) Q (F0 m pc ls st0) := by
  have hPc : xP G wc H := va_P.sub hP is hs
  refine va_calli (va_runV (As := As) (rest := rest) (b := b) S hM cw ⟨xZRp_blind, va_recv hK.1 hPc hc he, fun U hU hW => ⟨rfl, ⟨by rw [hU]; exact hPc, xK_warm hW hK⟩, xStr_at hZ hS hU hW (fun _ h => h.elim)⟩⟩ rfl hn hl hst (lv_room hw) hdg hf) hS (fun q _ h => h.elim) (fun q h => h.elim) (fun r u t H1 locs1 ht hvm hp hB hz hk hS1 => ?_)
  exact kk r H1 locs1 hp (xP_kept hP hk) hS1
theorem xzw_i {S' : Type} {post : Int32 → S' → Prop} {w1 : S' → va_W} (S : CallFix p m c cc nL s args Ts own) (hM : Met l y wy rm (va_Pc (.ref b :: As) (xZWp G H.size ad wc)) (va_Qi post (xWb G H.size wc w1) (va_A wc H.size)) mc ms (va_A wc H.size)) (cw : CallW R s args own C index y bytes maxL ret wy rm mc ms n) (hZ : xStr ad A s s.heap) (hK : xK G s) (hP : xP G ws H) (hD : va_D A ws) (hS : va_S A s.heap H locs) (hA : ∀ q : Nat, s.heap.size ≤ q → A q) (isC isR : List Nat) (hC : isC.map (fun i => ws[i]?) = wc.map some) (hR : isR.map (fun i => ws[i]?) = wr.map some) (hnC : va_nd isC = true) (hnR : va_nd isR = true) (hdis : ∀ i ∈ isR, i ∉ isC) {ci N : Nat} {fs : List Value} {T : u_T} (he : wc[0]? = some (oC b ci fs)) (hc : vwCl[ci]? = some (C, T, N)) (hn : As.length = n) (hl : ls.size = nL) (hst : st0 = As.reverse ++ .ref b :: rest) (hw : (rest.map fun v => v.category).sum ≤ 8) (hdg : decode cc pc = .ok (.invokevirtual index, 3)) (hf : cells + mc ≤ R.cells ∧ slots + ms ≤ R.slots) (kk : ∀ (r : Int32) (u : S') (H1 : Heap) (locs1 : List Loc), post r u → xP G (wr ++ w1 u) H1 → va_D A (wr ++ w1 u) → va_S A s.heap H1 locs1 → W p l e R s m args below meth c H1 locs1 (cells + mc) (slots + ms) Q (F0 m (pc + 3) ls (.int r :: rest))) : W p l e R s m args below meth c H locs (cells) (slots) Q (F0 m pc ls st0) := by
  have hDc : va_D A wc := va_D.sub hD isC hnC hC
  have hPc : xP G wc H := xP_sub hP isC hC
  have hFc := va_free (wc := wc) hD hS hA isC hC
  refine va_calli (va_runV (As := As) (rest := rest) (b := b) S hM cw ⟨xZWp_blind, va_recv hK.1 hPc hc he, fun U hU hW => ⟨rfl, ⟨by rw [hU], by rw [hU]; exact hPc, xK_warm hW hK, hDc.weaken (fun _ _ _ _ => trivial)⟩, xStr_at hZ hS hU hW hFc⟩⟩ rfl hn hl hst (lv_room hw) hdg hf) hS (fun q _ h => hFc q h) hFc (fun r u t H1 locs1 ht hvm hp hB hz hk hS1 => ?_)
  have hP1 : xP G (w1 u) H1 := by rw [← ht]; exact hB.1
  obtain ⟨hP2, hD2⟩ := va_join (wr := wr) (w1 := w1 u) hP hD isC isR hC hR hnR hdis hk hFc hP1 hB.2
  exact kk r u H1 locs1 hp hP2 hD2 hS1
end XZ
theorem sC_nar : ∀ i, i < 5 → ∀ k, k < 5 → ((sC i k &&& nI 255).toUInt32 % 65536).toInt32 = sC i k ∧ narrow .char (.int (sC i k)) = .int (sC i k) := by decide +kernel
theorem sLen_le : ∀ i, i < 5 → sLen.getD i 0 ≤ 5 ∧ nI (sLen.getD i 0) >>> (nI 0 &&& 31) = nI (sLen.getD i 0) := by decide +kernel
abbrev nmP (t : Nat → Int32) (nx sr i : Nat) : Prop := nx - sr = sLen.getD i 0 ∧ ∀ k, k < sLen.getD i 0 → t (sr + k) = sC i k
/-- all that the reader changes: token; told house, last, cells; wide, high, last; marks at first; changes; lenses -/
abbrev PS : Type := TS × (Int32 × Int32 × Int32) × (Nat × Nat × Nat) × (Nat → Int32) × (Nat × (Nat → Int32)) × (Nat × (Nat → Int32))
def fLin (t : Nat → Int32) (rl : Nat) (s : TS) (ho lo ct : Int32) (w h la : Nat) (af : Nat → Int32) (nc : Nat) (fc : Nat → Int32) (nl : Nat) (fl : Nat → Int32) : Bool × PS :=
  if s.2.1 = 1 then
    if nmP t s.1 s.2.2.1 0 then ((fHou t rl ho w h s).1, ((fHou t rl ho w h s).2.1, ((fHou t rl ho w h s).2.2.1, lo, ct), ((fHou t rl ho w h s).2.2.2.1, (fHou t rl ho w h s).2.2.2.2, la), af, (nc, fc), (nl, fl)))
    else if nmP t s.1 s.2.2.1 1 then ((fLas t rl lo la s).1, ((fLas t rl lo la s).2.1, (ho, (fLas t rl lo la s).2.2.1, ct), (w, h, (fLas t rl lo la s).2.2.2), af, (nc, fc), (nl, fl)))
    else if nmP t s.1 s.2.2.1 2 then ((fCel t rl ct af s).1, ((fCel t rl ct af s).2.1, (ho, lo, (fCel t rl ct af s).2.2.1), (w, h, la), (fCel t rl ct af s).2.2.2, (nc, fc), (nl, fl)))
    else if nmP t s.1 s.2.2.1 3 then ((fTur t rl nc fc s).1, ((fTur t rl nc fc s).2.1, (ho, lo, ct), (w, h, la), af, (fTur t rl nc fc s).2.2, (nl, fl)))
    else if nmP t s.1 s.2.2.1 4 then ((fLen t rl nl fl s).1, ((fLen t rl nl fl s).2.1, (ho, lo, ct), (w, h, la), af, (nc, fc), (fLen t rl nl fl s).2.2))
    else (false, (fRef (nI 2) s, (ho, lo, ct), (w, h, la), af, (nc, fc), (nl, fl)))
  else (false, (fRef (nI 2) s, (ho, lo, ct), (w, h, la), af, (nc, fc), (nl, fl)))

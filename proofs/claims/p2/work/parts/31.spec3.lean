section XL
variable {p : Program} {l : Launch} {e : Env} {R : Room} {s : State} {m : MethodId} {args : Array Value} {below : List Frame} {meth : Method} {c : Code} {H : Heap} {locs : List Loc} {cells slots : Nat} {Q : State → Prop}
variable {cc : ByteArray} {pc : Nat} {ls : Array Slot} {rest st0 : List Value} {G : XG} {ws wc wr : va_W} {A : Nat → Prop} {H0 : Heap}
variable {y : MethodName} {bytes : ByteArray} {maxL nL mc ms n index : Nat} {ret : Option FieldType} {wy : List Cond} {rm : Room} {Ts : List Cond} {own C : String} {b : Addr} {As : List Value}
theorem xw_l {S' : Type} {post : Int64 → S' → Prop} {w1 : S' → va_W} (S : CallFix p m c cc nL s args Ts own) (hM : Met l y wy rm (va_Pc (.ref b :: As) (xWp G H.size wc)) (va_Ql post (xWb G H.size wc w1) (va_A wc H.size)) mc ms (va_A wc H.size)) (cw : CallW R s args own C index y bytes maxL ret wy rm mc ms n) (hK : xK G s) (hP : xP G ws H) (hD : va_D A ws) (hS : va_S A H0 H locs) (hA : ∀ q : Nat, H0.size ≤ q → A q) (isC isR : List Nat) (hC : isC.map (fun i => ws[i]?) = wc.map some) (hR : isR.map (fun i => ws[i]?) = wr.map some) (hnC : va_nd isC = true) (hnR : va_nd isR = true) (hdis : ∀ i ∈ isR, i ∉ isC) {ci N : Nat} {fs : List Value} {T : u_T} (he : wc[0]? = some (oC b ci fs)) (hc : vwCl[ci]? = some (C, T, N)) (hn : As.length = n) (hl : ls.size = nL) (hst : st0 = As.reverse ++ .ref b :: rest) (hw : (rest.map fun v => v.category).sum ≤ 8) (hdg : decode cc pc = .ok (.invokevirtual index, 3)) (hf : cells + mc ≤ R.cells ∧ slots + ms ≤ R.slots) (kk : ∀ (r : Int64) (u : S') (H1 : Heap) (locs1 : List Loc), post r u → xP G (wr ++ w1 u) H1 → va_D A (wr ++ w1 u) → va_S A H0 H1 locs1 → W p l e R s m args below meth c H1 locs1 (cells + mc) (slots + ms) Q (F0 m (pc + 3) ls (.long r :: rest))) : W p l e R s m args below meth c H locs (cells) (slots) Q (F0 m pc ls st0) := by
  have hDc : va_D A wc := va_D.sub hD isC hnC hC
  have hPc : xP G wc H := xP_sub hP isC hC
  have hFc := va_free (wc := wc) hD hS hA isC hC
  refine va_calll (va_runV (As := As) (rest := rest) (b := b) S hM cw ⟨xWp_blind, va_recv hK.1 hPc hc he, fun U hU hW => ⟨rfl, by rw [hU], by rw [hU]; exact hPc, xK_warm hW hK, hDc.weaken (fun _ _ _ _ => trivial)⟩⟩ rfl hn hl hst (lv_room hw) hdg hf) hS (fun q _ h => hFc q h) hFc (fun r u t H1 locs1 ht hvm hp hB hz hk hS1 => ?_)
  have hP1 : xP G (w1 u) H1 := by rw [← ht]; exact hB.1
  obtain ⟨hP2, hD2⟩ := va_join (wr := wr) (w1 := w1 u) hP hD isC isR hC hR hnR hdis hk hFc hP1 hB.2
  exact kk r u H1 locs1 hp hP2 hD2 hS1
end XL
/-- Euclid, at most so many steps -/
def gcL : Nat → Int64 → Int64 → Int64
  | 0, d, _ => d
  | k + 1, d, r => if r = lN 0 then d else gcL k r (d - d / r * r)
def frS (top below : Int64) (what : Int32) : Int64 := if gcL 100 below top = lN 0 then (-1) else (if what = 0 then top else below) / gcL 100 below top
/-- the product over the lenses: v for those that show, ten for the others -/
def abF (v : Int32) (n : Nat) : Nat → Int64
  | 0 => lN 1
  | i + 1 => abF v n i * (if i < n then v.toInt64 else lN 10)
theorem and1 (y : Int32) : y &&& nI 1 = nI 0 ∨ y &&& nI 1 = nI 1 := by
  obtain ⟨j, hj, he⟩ := pk_andE y (m := nI 1) 1 (by decide)
  rw [he]
  rcases (show j = 0 ∨ j = 1 by omega) with rfl | rfl
  · exact Or.inl rfl
  · exact Or.inr rfl
/-- is bit c of y set -/
abbrev bitB (y : Int32) (c : Nat) : Bool := !decide ((y >>> (nI c &&& 31)) &&& nI 1 = 0)
theorem cnt_and {p : Nat → Bool} {i : Nat} {y : Int32} (h : p i = !decide (y &&& nI 1 = 0)) : nI (cntF p i) + (y &&& nI 1) = nI (cntF p (i + 1)) := by
  rcases and1 y with q | q
  · rw [q] at h ⊢
    rw [cntF, h, if_neg (by decide), nI_add]
    rfl
  · rw [q] at h ⊢
    rw [cntF, h, if_pos (by decide), nI_add]
/-- a drawn number before the remainder -/
def drw (s : Int32) : Nat := (xu s (nI 16)).toBitVec.toNat % 2 ^ 15
theorem drw_and (s : Int32) : xu s (nI 16) &&& nI 32767 = nI (drw s) := pk_and _ 15 (by decide)
theorem drw_lt (s : Int32) : drw s < 32768 := Nat.mod_lt _ (by decide)
def nxD (s : Int32) : Int32 := s * nI 1103515245 + nI 12345
/-- a row of marks behind k drawn changes -/
def drF (cells : Nat) : Nat → Int32 → (Nat → Int32) → Nat → Int32
  | 0, _, row => row
  | k + 1, s, row => drF cells k (nxD (nxD s)) (upd row (drw (nxD s) % cells) (nI (drw (nxD (nxD s)) % 6)))
/-- how many days are told alike, by the slot -/
def tlF (sl : Nat → Nat) (fb : Nat → Bool) : Nat → Nat → Nat
  | 0, _ => 0
  | d + 1, k => if fb d = true ∧ k = sl d then tlF sl fb d k + 1 else tlF sl fb d k
def woF (sl : Nat → Nat) (fb : Nat → Bool) : Nat → Nat
  | 0 => 0
  | d + 1 => if fb d then (if woF sl fb d < tlF sl fb d (sl d) + 1 then tlF sl fb d (sl d) + 1 else woF sl fb d) else woF sl fb d
theorem tlF_le (sl : Nat → Nat) (fb : Nat → Bool) : ∀ d k, tlF sl fb d k ≤ d
  | 0, _ => Nat.le_refl _
  | d + 1, k => by have := tlF_le sl fb d k; unfold tlF; split <;> omega
theorem woF_le (sl : Nat → Nat) (fb : Nat → Bool) : ∀ d, woF sl fb d ≤ d
  | 0 => Nat.le_refl _
  | d + 1 => by have := woF_le sl fb d; have := tlF_le sl fb d (sl d); unfold woF; split; (split <;> omega); omega
/-- the slot of an answer -/
abbrev slA (a : Int32) : Nat := if a = (-4) then 6 else tn a
abbrev woS (w h la : Nat) (af : Nat → Int32) (nc : Nat) (fc : Nat → Int32) (x c : Nat) (fits : Int32) : Nat := woF (fun d => slA (anS w h af nc fc x c d)) (fun d => bitB fits d) (la + 1)
/-- the least answer of a sweep: what is found, where -/
def lkC (wo : Nat → Nat) (at0 : Nat) : Nat → Int32 × Int32 → Int32 × Int32
  | 0, s => s
  | c + 1, s => if (wo c : Int) < (lkC wo at0 c s).1.toInt then (nI (wo c), nI (16 * at0 + c)) else lkC wo at0 c s
def lkX (wo : Nat → Nat → Nat) (n : Nat) : Nat → Int32 × Int32 → Int32 × Int32
  | 0, s => s
  | x + 1, s => lkC (wo x) x n (lkX wo n x s)

/-! more answers -/
section Q2
variable {w h la : Nat} {af : Nat → Int32} {nc : Nat} {fc : Nat → Int32} {nl : Nat} {fl : Nat → Int32} {ns : Nat} {fs mS : Nat → Int32}
theorem un_comm {d e : Nat} : unM w h mS nc d e = unM w h mS nc e d :=
  xbits_congr _ (fun c _ => congrArg Bool.not (decide_eq_decide.mpr ⟨Eq.symm, Eq.symm⟩))
theorem or_same (b x : Int32) : (b ||| x) ||| x = b ||| x := by
  refine b_ext (fun i _ => ?_)
  rw [b_or, b_or, Bool.or_assoc, Bool.or_self]
theorem agI_any {p : Nat → Bool} {d : Nat} {b : Int32} : ∀ n, agI p d b n = if anyF p n = true then b ||| xbit d else b
  | 0 => by rw [agI, anyF, if_neg (by decide)]
  | n + 1 => by
    have z : nI 0 <<< (nI d &&& 31) = 0 := by rw [show nI 0 = (0 : Int32) from rfl]; exact Int32.zero_shiftLeft
    rw [agI, agI_any n, anyF]
    cases hp : p n with
    | true =>
      rw [if_pos rfl, Bool.or_true, if_pos rfl]
      split
      · exact or_same _ _
      · rfl
    | false =>
      rw [if_neg (show ¬ false = true by decide), Bool.or_false, z, Int32.or_zero]
theorem agM_any {p : Nat → Nat → Bool} : ∀ n, agM p n = xbits (fun d => anyF (p d) d) n
  | 0 => rfl
  | n + 1 => by rw [agM, agI_any, xbits, agM_any n]
theorem anyF_congr {p q : Nat → Bool} : ∀ n, (∀ i, i < n → p i = q i) → anyF p n = anyF q n
  | 0, _ => rfl
  | n + 1, hh => by rw [anyF, anyF, anyF_congr n (fun i hi => hh i (by omega)), hh n (by omega)]
theorem an_again (H : RB w h la af nc fc nl fl ns fs mS) : xbits (fun d => anyF (fun e => decide (unS w h af nc fc e d = 0)) d) (la + 1) = agM (fun d e => decide (unM w h mS nc d e = 0)) (la + 1) := by
  have hla := H.1.2.2.2.2
  rw [agM_any]
  exact xbits_congr _ (fun d hd => anyF_congr _ (fun e he => by rw [un_eq H (by omega) (by omega), un_comm]))
theorem orF_bits {g : Nat → Int32} : ∀ n, orF (fun l => (g l &&& nI 1) <<< (nI l &&& 31)) n = xbits (fun l => !decide (g l &&& nI 1 = 0)) n
  | 0 => rfl
  | n + 1 => by
    have z : nI 0 <<< (nI n &&& 31) = 0 := by rw [show nI 0 = (0 : Int32) from rfl]; exact Int32.zero_shiftLeft
    rw [orF, orF_bits n, xbits]
    rcases and1 (g n) with q | q
    · rw [q, z, Int32.or_zero, if_neg (by decide)]
    · rw [q, if_pos (by decide)]
theorem an_could (H : RB w h la af nc fc nl fl ns fs mS) : xbits (fun l => !decide ((fitS w h la af nc fc fs ns >>> (fl (3 * l) &&& 31)) &&& nI 1 = 0)) nl = orF (fun l => ((dyM w h la mS nc ns >>> (mS (48 + 2 * l) &&& 31)) &&& nI 1) <<< (nI l &&& 31)) nl := by
  rw [orF_bits (g := fun l => dyM w h la mS nc ns >>> (mS (48 + 2 * l) &&& 31)), fit_eq H (Nat.le_refl _)]
  refine xbits_congr _ (fun l hl => ?_)
  have e0 := H.2.2.2.2.2.2.1 l 0 hl (by omega)
  rw [Nat.add_zero, Nat.add_zero] at e0
  rw [e0]
theorem anF_or {f : Nat → Int32} {b : Int32} : ∀ n, anF f b n = (orF f n ^^^ (-1)) &&& b
  | 0 => by
    refine b_ext (fun i hi => ?_)
    rw [anF, orF, b_and, b_xor, b_m1 i hi, show nI 0 = (0 : Int32) from rfl, b_0, Bool.false_xor, Bool.true_and]
  | n + 1 => by
    refine b_ext (fun i hi => ?_)
    rw [anF, anF_or n, orF, b_and, b_and, b_xor, b_xor, b_and, b_xor, b_or, b_m1 i hi]
    cases bt (orF f n) i <;> cases bt (f n) i <;> cases bt b i <;> rfl
theorem orF_congr {f g : Nat → Int32} : ∀ n, (∀ i, i < n → f i = g i) → orF f n = orF g n
  | 0, _ => rfl
  | n + 1, hh => by rw [orF, orF, orF_congr n (fun i hi => hh i (by omega)), hh n (by omega)]
theorem an_hide {x : Int32} (H : RB w h la af nc fc nl fl ns fs mS) : (if inR x (w * h) then (if nl = 0 then (-2) else (orF (fun l => sgS w h af nc fc (tn x) (tn (fl (3 * l)))) nl ^^^ (-1)) &&& (nI 1 <<< (nI (w * h) &&& 31) - nI 1)) else (-1)) = (if inR x (w * h) then (if nl = 0 then (-2) else anF (fun l => sgM w h mS nc (tn x) (tn (mS (48 + 2 * l)))) (nI 1 <<< (nI (w * h) &&& 31) - nI 1) nl) else (-1)) := by
  have hla := H.1.2.2.2.2
  by_cases hq : inR x (w * h)
  · have t1 := (tn_lt hq).1
    rw [if_pos hq, if_pos hq, anF_or]
    by_cases h0 : nl = 0
    · rw [if_pos h0, if_pos h0]
    · rw [if_neg h0, if_neg h0, orF_congr nl (fun l hl => ?_)]
      have e0 := H.2.2.2.2.2.2.1 l 0 hl (by omega)
      rw [Nat.add_zero, Nat.add_zero] at e0
      have ho := (tn_lt (H.2.1.2.2.2.2.2.1 l hl).1).1
      show sgS w h af nc fc (tn x) (tn (fl (3 * l))) = sgM w h mS nc (tn x) (tn (mS (48 + 2 * l)))
      rw [e0, sg_eq H t1 (by omega)]
  · rw [if_neg hq, if_neg hq]
theorem drF_cg {cells : Nat} : ∀ (k : Nat) (s : Int32) (row row' : Nat → Int32), (∀ c, c < cells → row c = row' c) → ∀ c, c < cells → drF cells k s row c = drF cells k s row' c
  | 0, _, _, _, hh, c, hc => hh c hc
  | k + 1, s, row, row', hh, c, hc => by
    rw [drF, drF]
    refine drF_cg k _ _ _ (fun c hc => ?_) c hc
    unfold upd
    split
    · rfl
    · exact hh c hc
theorem an_drift {seed n a : Int32} (H : RB w h la af nc fc nl fl ns fs mS) : (if (1 ≤ n.toInt ∧ n.toInt ≤ 60) ∧ inR a 2 then (if a = 0 then xbits (fun c => decide ((drF (w * h) (tn n) seed (fun c => mkS af nc fc c la)) c = nI 0)) (w * h) else sgF w h (drF (w * h) (tn n) seed (fun c => mkS af nc fc c la)) 0) else (-1)) = (if (1 ≤ n.toInt ∧ n.toInt ≤ 60) ∧ inR a 2 then (if a = 0 then xbits (fun c => decide ((drF (w * h) (tn n) seed (fun c => mkM mS nc c la)) c = nI 0)) (w * h) else sgF w h (drF (w * h) (tn n) seed (fun c => mkM mS nc c la)) 0) else (-1)) := by
  have hw := H.1.wh
  have hla := H.1.2.2.2.2
  have h2 := H.1.1
  have hr := drF_cg (cells := w * h) (tn n) seed (fun c => mkS af nc fc c la) (fun c => mkM mS nc c la) (fun c hc => mk_eq H (show c < 16 by omega) la hla)
  rw [xbits_congr _ (fun c hc => by rw [hr c hc]), sgF_congr (by omega) (by omega) hr]
theorem an_count1 {a b c d : Int32} (h1 : a = 0 ↔ b = 0) (h2 : c = 0 ↔ d = 0) : (if a = 0 then nI 0 else nI 1) + (if c = 0 then nI 0 else nI 1) = (if b = 0 then nI 0 else nI 1) + (if d = 0 then nI 0 else nI 1) := by
  rw [an_keep h1, an_keep h2]
theorem an_count3 {ln sz : Int32} {f ml ms mc : Nat → Int32} (H : SH 0 ln sz f ml ms mc) : (if sz = (-1) then (-4) else sz) = (if ml 0 = (-4) then (-4) else ms 0) := by
  obtain ⟨_, b, z, c1, c2, c3⟩ := H
  by_cases hq : sz = (-1)
  · rw [if_pos hq, if_pos (b.mp hq)]
  · rw [if_neg hq, if_neg (fun z => hq (b.mpr z)), (c3 hq).1, c2]
theorem an_count5 (H : RB w h la af nc fc nl fl ns fs mS) : nI (cntF (fun d => decide (¬ unS w h af nc fc d (d + 1) = 0)) la) = nI (cntF (fun d => decide (¬ unM w h mS nc (d + 1) d = 0)) la) := by
  have hla := H.1.2.2.2.2
  rw [cntF_congr la (fun d hd => by rw [un_eq H (by omega) (by omega), un_comm])]
end Q2

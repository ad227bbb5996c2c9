/-! marks, sights: the class's way and the reference's -/
section Mk
variable {w h la : Nat} {af : Nat → Int32} {nc : Nat} {fc : Nat → Int32} {nl : Nat} {fl : Nat → Int32} {ns : Nat} {fs mS : Nat → Int32}
theorem mk_0 {c : Nat} (hc : c < 16) (e1 : ∀ j, j < 16 → mS j = af j) : ∀ n, (∀ i k, i < n → k < 3 → mS (17 + 3 * i + k) = fc (3 * i + k)) → (∀ i, i < n → inR (fc (3 * i)) 10) → (mkR mS c 0 n).1 = chD fc 0 c (af c) n ∧ (mkR mS c 0 n).2.toInt ≤ 0
  | 0, _, _ => ⟨e1 c hc, by show (-4 : Int32).toInt ≤ 0; decide⟩
  | n + 1, e3, hd => by
    obtain ⟨ih1, ih2⟩ := mk_0 hc e1 n (fun i k hi hk => e3 i k (by omega) hk) (fun i hi => hd i (by omega))
    have d0 := e3 n 0 (by omega) (by omega)
    have d1 := e3 n 1 (by omega) (by omega)
    have d2 := e3 n 2 (by omega) (by omega)
    rw [Nat.add_zero, Nat.add_zero] at d0
    have hb := hd n (by omega)
    rw [mkR, chD, d0, d1, d2]
    by_cases hC : fc (3 * n + 1) = nI c
    · obtain ⟨t1, t2⟩ := tn_lt hb
      by_cases hD : fc (3 * n) = nI 0
      · rw [if_pos ⟨hC, by rw [hD]; decide, by rw [hD]; exact ih2⟩, if_pos ⟨hD, hC⟩]
        exact ⟨rfl, by show (fc (3 * n)).toInt ≤ 0; rw [hD]; decide⟩
      · have hp : ¬ (fc (3 * n)).toInt ≤ ((0 : Nat) : Int) := fun q => hD (by
          have := hb.1
          apply Int32.toInt_inj.mp
          rw [nI_toInt (by omega)]
          omega)
        rw [if_neg (fun q => hp q.2.1), if_neg (fun q => hD q.1)]
        exact ⟨ih1, ih2⟩
    · rw [if_neg (fun q => hC q.1), if_neg (fun q => hC q.2)]
      exact ⟨ih1, ih2⟩
theorem mk_bd {c d : Nat} : ∀ n, (mkR mS c d n).2.toInt ≤ (d : Int)
  | 0 => by show (-4 : Int32).toInt ≤ (d : Int); have : (-4 : Int32).toInt = -4 := by decide
            omega
  | n + 1 => by
    rw [mkR]
    split
    · rename_i q; exact q.2.1
    · exact mk_bd n
theorem mk_st {c d : Nat} {g : Int32} (hd10 : d < 10) : ∀ n, (∀ i k, i < n → k < 3 → mS (17 + 3 * i + k) = fc (3 * i + k)) → (∀ i, i < n → inR (fc (3 * i)) 10) → (mkR mS c (d + 1) n = mkR mS c d n ∧ chD fc (d + 1) c g n = g) ∨ mkR mS c (d + 1) n = (chD fc (d + 1) c g n, nI (d + 1))
  | 0, _, _ => Or.inl ⟨rfl, rfl⟩
  | n + 1, e3, hd => by
    have ih := mk_st (c := c) (d := d) (g := g) hd10 n (fun i k hi hk => e3 i k (by omega) hk) (fun i hi => hd i (by omega))
    have hbd := mk_bd (mS := mS) (c := c) (d := d) n
    have d0 := e3 n 0 (by omega) (by omega)
    have d1 := e3 n 1 (by omega) (by omega)
    have d2 := e3 n 2 (by omega) (by omega)
    rw [Nat.add_zero, Nat.add_zero] at d0
    have hb := hd n (by omega)
    have eD := nI_toInt (n := d + 1) (by omega)
    rw [mkR, mkR, chD, d0, d1, d2]
    by_cases hC : fc (3 * n + 1) = nI c
    · by_cases hD : fc (3 * n) = nI (d + 1)
      · have hx : (fc (3 * n)).toInt = ((d + 1 : Nat) : Int) := by rw [hD, eD]
        rw [if_pos (show fc (3 * n) = nI (d + 1) ∧ fc (3 * n + 1) = nI c from ⟨hD, hC⟩)]
        refine Or.inr ?_
        have hbest : (mkR mS c (d + 1) n).2.toInt ≤ (fc (3 * n)).toInt := by
          rcases ih with ⟨i1, _⟩ | i1
          · rw [i1]; omega
          · rw [i1]; show (nI (d + 1)).toInt ≤ _; omega
        rw [if_pos ⟨hC, by omega, hbest⟩, hD]
      · rw [if_neg (show ¬ (fc (3 * n) = nI (d + 1) ∧ fc (3 * n + 1) = nI c) from fun q => hD q.1)]
        have hne : ¬ (fc (3 * n)).toInt = ((d + 1 : Nat) : Int) := fun q => hD (by apply Int32.toInt_inj.mp; rw [eD]; exact q)
        rcases ih with ⟨i1, i2⟩ | i1
        · refine Or.inl ⟨?_, i2⟩
          rw [i1]
          by_cases hq : fc (3 * n + 1) = nI c ∧ (fc (3 * n)).toInt ≤ (d : Int) ∧ (mkR mS c d n).2.toInt ≤ (fc (3 * n)).toInt
          · rw [if_pos hq, if_pos ⟨hq.1, by omega, hq.2.2⟩]
          · rw [if_neg hq, if_neg (fun z => hq ⟨z.1, by omega, z.2.2⟩)]
        · refine Or.inr ?_
          rw [i1, if_neg (fun z => ?_)]
          have z1 := z.2.1
          have z2 : (nI (d + 1)).toInt ≤ (fc (3 * n)).toInt := z.2.2
          omega
    · rw [if_neg (show ¬ (fc (3 * n) = nI (d + 1) ∧ fc (3 * n + 1) = nI c) from fun q => hC q.2), if_neg (fun q => hC q.1), if_neg (fun q => hC q.1)]
      exact ih
theorem mk_eq (H : RB w h la af nc fc nl fl ns fs mS) {c : Nat} (hc : c < 16) : ∀ d, d ≤ 9 → mkS af nc fc c d = mkM mS nc c d
  | 0, _ => by
    obtain ⟨⟨_, _, _, _, d5⟩, ⟨o1, o2, o3, o4, o5, o6, o7⟩, e1, e2, e3, e4, e5, e6, e7⟩ := H
    rw [mkS]
    exact (mk_0 hc e1 nc e3 (fun i hi => by have := (o5 i hi).1; unfold inR at this ⊢; omega)).1.symm
  | d + 1, hd => by
    have ih := mk_eq H hc d (by omega)
    obtain ⟨⟨_, _, _, _, d5⟩, ⟨o1, o2, o3, o4, o5, o6, o7⟩, e1, e2, e3, e4, e5, e6, e7⟩ := H
    have hst := mk_st (mS := mS) (c := c) (d := d) (g := mkS af nc fc c d) (by omega) nc e3 (fun i hi => by have := (o5 i hi).1; unfold inR at this ⊢; omega)
    rw [mkS]
    rcases hst with ⟨i1, i2⟩ | i1
    · rw [i2, ih]
      show (mkR mS c d nc).1 = (mkR mS c (d + 1) nc).1
      rw [i1]
    · show _ = (mkR mS c (d + 1) nc).1
      rw [i1]
theorem sg_eq (H : RB w h la af nc fc nl fl ns fs mS) {x d : Nat} (hx : x < w * h) (hd : d ≤ 9) : sgS w h af nc fc x d = sgM w h mS nc x d := by
  have hw := H.1.wh
  have h2 := H.1.1
  exact sgF_congr (by omega) hx (fun c hc => mk_eq H (by omega) d hd)
theorem un_eq (H : RB w h la af nc fc nl fl ns fs mS) {d e : Nat} (hd : d ≤ 9) (he : e ≤ 9) : unS w h af nc fc d e = unM w h mS nc d e := by
  have hw := H.1.wh
  exact xbits_congr _ (fun c hc => by rw [mk_eq H (show c < 16 by omega) d hd, mk_eq H (show c < 16 by omega) e he])
theorem ap_eq (H : RB w h la af nc fc nl fl ns fs mS) {d e : Nat} (hd : d ≤ 9) (he : e ≤ 9) : apS w h af nc fc d e = apM w h mS nc d e :=
  xbits_congr _ (fun x hx => by rw [sg_eq H hx hd, sg_eq H hx he, un_eq H hd he])
theorem an_eq (H : RB w h la af nc fc nl fl ns fs mS) {x c d : Nat} (hx : x < w * h) (hc : c < 16) (hd : d ≤ 9) : anS w h af nc fc x c d = anM w h mS nc x c d := by
  unfold anS anM
  rw [sg_eq H hx hd, mk_eq H hc d hd]
  by_cases hq : (sgM w h mS nc x d >>> (nI c &&& 31)) &&& nI 1 = 0
  · rw [if_pos hq, if_neg (fun z => bit1.mp z hq)]
  · rw [if_neg hq, if_pos (bit1.mpr hq)]
theorem fit_eq (H : RB w h la af nc fc nl fl ns fs mS) {n : Nat} (hn : n ≤ ns) : fitS w h la af nc fc fs n = dyM w h la mS nc n := by
  have hw := H.1.wh
  have hla := H.1.2.2.2.2
  refine xbits_congr _ (fun d hd => allF_congr _ (fun i hi => ?_))
  have e0 := H.2.2.2.2.2.2.2.2 i 0 (by omega) (by omega)
  have e1 := H.2.2.2.2.2.2.2.2 i 1 (by omega) (by omega)
  have e2 := H.2.2.2.2.2.2.2.2 i 2 (by omega) (by omega)
  rw [Nat.add_zero, Nat.add_zero] at e0
  have ho := H.2.1.2.2.2.2.2.2 i (by omega)
  have t0 := (tn_lt ho.1).1
  have t1 := (tn_lt ho.2.1).1
  unfold fitP fitM
  rw [e0, e1, e2, an_eq H t0 (by omega) (by omega)]
theorem sh_eq (H : RB w h la af nc fc nl fl ns fs mS) {l x : Nat} (hl : l < nl) (hx : x < w * h) : shS w h af nc fc fl l x = shM w h mS nc l x := by
  have hla := H.1.2.2.2.2
  have e0 := H.2.2.2.2.2.2.1 l 0 hl (by omega)
  have e1 := H.2.2.2.2.2.2.1 l 1 hl (by omega)
  rw [Nat.add_zero, Nat.add_zero] at e0
  have ho := (tn_lt (H.2.1.2.2.2.2.2.1 l hl).1).1
  unfold shS shM
  rw [e0, e1, sg_eq H hx (by omega)]
end Mk
section Qu
variable {w h la : Nat} {af : Nat → Int32} {nc : Nat} {fc : Nat → Int32} {nl : Nat} {fl : Nat → Int32} {ns : Nat} {fs mS : Nat → Int32}
theorem an_mark {c d : Int32} (H : RB w h la af nc fc nl fl ns fs mS) : (if inR c (w * h) ∧ inR d (la + 1) then mkS af nc fc (tn c) (tn d) else (-1)) = (if inR c (w * h) ∧ inR d (la + 1) then mkM mS nc (tn c) (tn d) else (-1)) := by
  have hw := H.1.wh
  have hla := H.1.2.2.2.2
  by_cases hq : inR c (w * h) ∧ inR d (la + 1)
  · have t1 := (tn_lt hq.1).1
    have t2 := (tn_lt hq.2).1
    rw [if_pos hq, if_pos hq, mk_eq H (by omega) _ (by omega)]
  · rw [if_neg hq, if_neg hq]
theorem an_sees {x d : Int32} (H : RB w h la af nc fc nl fl ns fs mS) : (if inR x (w * h) ∧ inR d (la + 1) then sgS w h af nc fc (tn x) (tn d) else (-1)) = (if inR x (w * h) ∧ inR d (la + 1) then sgM w h mS nc (tn x) (tn d) else (-1)) := by
  have hla := H.1.2.2.2.2
  by_cases hq : inR x (w * h) ∧ inR d (la + 1)
  · have t1 := (tn_lt hq.1).1
    have t2 := (tn_lt hq.2).1
    rw [if_pos hq, if_pos hq, sg_eq H t1 (by omega)]
  · rw [if_neg hq, if_neg hq]
theorem an_shows {l x c : Int32} (H : RB w h la af nc fc nl fl ns fs mS) : (if inR l nl ∧ inR x (w * h) ∧ inR c (w * h) then (if (shS w h af nc fc fl (tn l) (tn x) >>> (nI (tn c) &&& 31)) &&& nI 1 = 0 then (-4) else mkS af nc fc (tn c) (tn (fl (3 * tn l)))) else (-1)) = (if inR l nl ∧ inR x (w * h) ∧ inR c (w * h) then (if (shM w h mS nc (tn l) (tn x) >>> (nI (tn c) &&& 31)) &&& nI 1 = nI 1 then mkM mS nc (tn c) (tn (mS (48 + 2 * tn l))) else (-4)) else (-1)) := by
  have hw := H.1.wh
  have hla := H.1.2.2.2.2
  by_cases hq : inR l nl ∧ inR x (w * h) ∧ inR c (w * h)
  · have t1 := (tn_lt hq.1).1
    have t2 := (tn_lt hq.2.1).1
    have t3 := (tn_lt hq.2.2).1
    have e0 := H.2.2.2.2.2.2.1 (tn l) 0 t1 (by omega)
    rw [Nat.add_zero, Nat.add_zero] at e0
    have ho := (tn_lt (H.2.1.2.2.2.2.2.1 (tn l) t1).1).1
    rw [if_pos hq, if_pos hq, sh_eq H t1 t2, e0, mk_eq H (show tn c < 16 by omega) _ (by omega)]
    by_cases hb : (shM w h mS nc (tn l) (tn x) >>> (nI (tn c) &&& 31)) &&& nI 1 = 0
    · rw [if_pos hb, if_neg (fun z => bit1.mp z hb)]
    · rw [if_neg hb, if_pos (bit1.mpr hb)]
  · rw [if_neg hq, if_neg hq]
theorem an_frame {l k x : Int32} (H : RB w h la af nc fc nl fl ns fs mS) : (if inR l nl ∧ inR k nl ∧ inR x (w * h) then ((shS w h af nc fc fl (tn l) (tn x) &&& shS w h af nc fc fl (tn k) (tn x)) &&& unS w h af nc fc (tn (fl (3 * tn l))) (tn (fl (3 * tn k)))) else (-1)) = (if inR l nl ∧ inR k nl ∧ inR x (w * h) then ((shM w h mS nc (tn l) (tn x) &&& shM w h mS nc (tn k) (tn x)) &&& unM w h mS nc (tn (mS (48 + 2 * tn l))) (tn (mS (48 + 2 * tn k)))) else (-1)) := by
  have hla := H.1.2.2.2.2
  by_cases hq : inR l nl ∧ inR k nl ∧ inR x (w * h)
  · have t1 := (tn_lt hq.1).1
    have t2 := (tn_lt hq.2.1).1
    have t3 := (tn_lt hq.2.2).1
    have e0 := H.2.2.2.2.2.2.1 (tn l) 0 t1 (by omega)
    have e1 := H.2.2.2.2.2.2.1 (tn k) 0 t2 (by omega)
    rw [Nat.add_zero, Nat.add_zero] at e0 e1
    have ho := (tn_lt (H.2.1.2.2.2.2.2.1 (tn l) t1).1).1
    have ho2 := (tn_lt (H.2.1.2.2.2.2.2.1 (tn k) t2).1).1
    rw [if_pos hq, if_pos hq, sh_eq H t1 t3, sh_eq H t2 t3, e0, e1, un_eq H (by omega) (by omega)]
  · rw [if_neg hq, if_neg hq]
theorem an_between {d e : Int32} (H : RB w h la af nc fc nl fl ns fs mS) : (if inR d (la + 1) ∧ inR e (la + 1) then unS w h af nc fc (tn d) (tn e) else (-1)) = (if inR d (la + 1) ∧ inR e (la + 1) then unM w h mS nc (tn d) (tn e) else (-1)) := by
  have hla := H.1.2.2.2.2
  by_cases hq : inR d (la + 1) ∧ inR e (la + 1)
  · have t1 := (tn_lt hq.1).1
    have t2 := (tn_lt hq.2).1
    rw [if_pos hq, if_pos hq, un_eq H (by omega) (by omega)]
  · rw [if_neg hq, if_neg hq]
theorem an_all {m d : Int32} (H : RB w h la af nc fc nl fl ns fs mS) : (if inR m 6 ∧ inR d (la + 1) then xbits (fun c => decide (mkS af nc fc c (tn d) = m)) (w * h) else (-1)) = (if inR m 6 ∧ inR d (la + 1) then xbits (fun c => decide (mkM mS nc c (tn d) = m)) (w * h) else (-1)) := by
  have hw := H.1.wh
  have hla := H.1.2.2.2.2
  by_cases hq : inR m 6 ∧ inR d (la + 1)
  · have t2 := (tn_lt hq.2).1
    rw [if_pos hq, if_pos hq]
    exact xbits_congr _ (fun c hc => by rw [mk_eq H (show c < 16 by omega) _ (by omega)])
  · rw [if_neg hq, if_neg hq]
theorem an_apart {d e : Int32} (H : RB w h la af nc fc nl fl ns fs mS) : (if inR d (la + 1) ∧ inR e (la + 1) then apS w h af nc fc (tn d) (tn e) else (-1)) = (if inR d (la + 1) ∧ inR e (la + 1) then apM w h mS nc (tn d) (tn e) else (-1)) := by
  have hla := H.1.2.2.2.2
  by_cases hq : inR d (la + 1) ∧ inR e (la + 1)
  · have t1 := (tn_lt hq.1).1
    have t2 := (tn_lt hq.2).1
    rw [if_pos hq, if_pos hq, ap_eq H (by omega) (by omega)]
  · rw [if_neg hq, if_neg hq]
theorem sinDn_congr {p q : Nat → Bool} : ∀ n, (∀ i, i ≤ n → p i = q i) → sinDn p n = sinDn q n
  | 0, _ => rfl
  | n + 1, hh => by rw [sinDn, sinDn, hh n (by omega), sinDn_congr n (fun i hi => hh i (by omega))]
theorem sinUp_congr {p q : Nat → Bool} : ∀ k n, (∀ i, i ≤ n + k → p i = q i) → sinUp p k n = sinUp q k n
  | 0, _, _ => rfl
  | k + 1, n, hh => by rw [sinUp, sinUp, hh (n + 1) (by omega), sinUp_congr k (n + 1) (fun i hi => hh i (by omega))]
theorem an_since {c d a : Int32} (H : RB w h la af nc fc nl fl ns fs mS) : (if inR c (w * h) ∧ inR d (la + 1) ∧ inR a 2 then (if a = 0 then nI (sinDn (fun e => decide (mkS af nc fc (tn c) e = mkS af nc fc (tn c) (tn d))) (tn d)) else nI (sinUp (fun e => decide (mkS af nc fc (tn c) e = mkS af nc fc (tn c) (tn d))) (la - tn d) (tn d))) else (-1)) = (if inR c (w * h) ∧ inR d (la + 1) ∧ inR a 2 then (if a = 0 then nI (sinDn (fun e => decide (mkM mS nc (tn c) e = mkM mS nc (tn c) (tn d))) (tn d)) else nI (sinUp (fun e => decide (mkM mS nc (tn c) e = mkM mS nc (tn c) (tn d))) (la - tn d) (tn d))) else (-1)) := by
  have hw := H.1.wh
  have hla := H.1.2.2.2.2
  by_cases hq : inR c (w * h) ∧ inR d (la + 1) ∧ inR a 2
  · have t1 := (tn_lt hq.1).1
    have t2 := (tn_lt hq.2.1).1
    have he : ∀ e, e ≤ 9 → decide (mkS af nc fc (tn c) e = mkS af nc fc (tn c) (tn d)) = decide (mkM mS nc (tn c) e = mkM mS nc (tn c) (tn d)) := fun e he => by rw [mk_eq H (show tn c < 16 by omega) e he, mk_eq H (show tn c < 16 by omega) (tn d) (by omega)]
    rw [if_pos hq, if_pos hq, sinDn_congr _ (fun i hi => he i (by omega)), sinUp_congr _ _ (fun i hi => he i (by omega))]
  · rw [if_neg hq, if_neg hq]
theorem an_days (H : RB w h la af nc fc nl fl ns fs mS) : fitS w h la af nc fc fs ns = dyM w h la mS nc ns := fit_eq H (Nat.le_refl _)
theorem firstF_congr {p q : Nat → Bool} : ∀ k i, (∀ j, i ≤ j → j < i + k → p j = q j) → firstF p k i = firstF q k i
  | 0, _, _ => rfl
  | k + 1, i, hh => by rw [firstF, firstF, hh i (by omega) (by omega), firstF_congr k (i + 1) (fun j h1 h2 => hh j (by omega) (by omega))]
theorem an_lie (H : RB w h la af nc fc nl fl ns fs mS) : firstF (fun i => decide (fitS w h la af nc fc fs (i + 1) = 0)) ns 0 = firstF (fun i => decide (dyM w h la mS nc (i + 1) = 0)) ns 0 :=
  firstF_congr _ _ (fun j _ hj => by rw [fit_eq H (by omega)])
end Qu

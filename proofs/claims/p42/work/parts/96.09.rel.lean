/-! text() on both sides -/
theorem M_text {rl : Nat} {tb : Nat → Int32} {kd sr fr so : Nat} {vlx mvx wax : Int32} {w h la : Nat} {af : Nat → Int32} {nc : Nat} {fc : Nat → Int32} {nl : Nat} {fl : Nat → Int32} {ns : Nat} {fs mS mk sg : Nat → Int32} {vw vh : Nat} {sl : Int32} {it kp : Nat → Int32}
    {iw0 ih0 il0 : Nat} {ia0 : Nat → Int32} {ic0 : Nat} {ifc0 : Nat → Int32} {iln0 : Nat} {ifl0 : Nat → Int32} {isn0 : Nat} {ifs0 : Nat → Int32} {iw1 ih1 il1 : Nat} {ia1 : Nat → Int32} {ic1 : Nat} {ifc1 : Nat → Int32} {iln1 : Nat} {ifl1 : Nat → Int32} {isn1 : Nat} {ifs1 : Nat → Int32}
    {fct flt fst : Nat → Int32} {nx2 kd2 sr2 : Nat} {vl2 fo2 pl2 ht2 lt2 ct2 : Int32} {w2 h2 la2 : Nat} {af2 : Nat → Int32} {nc2 : Nat} {fc2 : Nat → Int32} {nl2 : Nat} {fl2 : Nat → Int32} {li2 : Nat} {af0 : Nat → Int32} {fo3 pl3 : Int32}
    {w5 h5 la5 : Nat} {af5 : Nat → Int32} {nc5 : Nat} {fc5 : Nat → Int32} {nl5 : Nat} {fl5 : Nat → Int32} {ns5 : Nat} {fs5 : Nat → Int32} {sl5 : Int32} {it5 : Nat → Int32}
    {ps2 fr2 so2 : Nat} {mv2 : Int32} {ft2 : Nat} {wa2 : Int32} {dw2 dh2 dl2 : Nat} {tl2 tc2 hc2 hd2 : Int32} {D2 : Nat → Int32} {mw mh mla : Nat} {S2 kp2 D0 : Nat → Int32} {ft3 : Nat} {wa3 : Int32} {n9 : Nat}
    (H : RB w h la af nc fc nl fl ns fs mS) (V : VOK w h la af nc fc mk sg vw vh sl) (I0 : IM1 w h la (it 0) (kp 0) iw0 ih0 il0 ia0 ic0 ifc0 iln0 ifl0 isn0 ifs0 (fun j => mS (85 + j))) (I1 : IM1 w h la (it 1) (kp 1) iw1 ih1 il1 ia1 ic1 ifc1 iln1 ifl1 isn1 ifs1 (fun j => mS (170 + j)))
    (hX : (∀ j, j < 16 → af0 j = nI 0) ∧ (((nx2, kd2, sr2, vl2, fo3, pl3), (ht2, lt2, ct2), (w2, h2, la2), af2, (nc2, fc2), (nl2, fl2)), li2) = fLp tb rl (rl + 1) (ps0 kd sr vlx af0 fct flt) 0 ∧ (fo2, pl2) = fEnd rl ((nx2, kd2, sr2, vl2, fo3, pl3), (ht2, lt2, ct2), (w2, h2, la2), af2, (nc2, fc2), (nl2, fl2)) ∧
      (w5, h5, la5, af5, nc5, fc5, nl5, fl5, ns5, fs5, sl5, it5) = (if fo2 = nI 0 then (w2, h2, la2, va_cpy af2 af 0 0 16, nc2, va_cpy fc2 fc 0 0 (3 * 10), nl2, va_cpy fl2 fl 0 0 (3 * 6), 0, va_cpy fst fs 0 0 (3 * 8), nI 1, upd (upd it 0 (nI 0)) 1 (nI 0)) else (w, h, la, af, nc, fc, nl, fl, ns, fs, sl, it)))
    (hM : (∀ j, j < 85 → D0 j = nI 0) ∧ (((ps2, fr2, so2, mv2, ft3, wa3), (dw2, dh2, dl2), (tl2, tc2, hc2, hd2), D2), n9) = mLp tb rl (rl + 2) (mTok tb rl (0, fr, so, mvx, 0, wax), (3, 3, 9), (nI 0, nI 0, (-4), (-4)), D0) 0 ∧ (ft2, wa2) = mFin ((ps2, fr2, so2, mv2, ft3, wa3), (dw2, dh2, dl2), (tl2, tc2, hc2, hd2), D2) ∧
      (mw, mh, mla, S2, kp2) = (if ft2 = 0 then (dw2, dh2, dl2, (fun j => if j < 85 then D2 j else mS j), upd (upd kp 0 (nI 0)) 1 (nI 0)) else (w, h, la, mS, kp))) :
    mw = w5 ∧ mh = h5 ∧ mla = la5 ∧ fo2 = nI ft2 ∧ RB w5 h5 la5 af5 nc5 fc5 nl5 fl5 ns5 fs5 S2 ∧ VOK w5 h5 la5 af5 nc5 fc5 mk sg vw vh sl5 ∧ IM1 w5 h5 la5 (it5 0) (kp2 0) iw0 ih0 il0 ia0 ic0 ifc0 iln0 ifl0 isn0 ifs0 (fun j => S2 (85 + j)) ∧ IM1 w5 h5 la5 (it5 1) (kp2 1) iw1 ih1 il1 ia1 ic1 ifc1 iln1 ifl1 isn1 ifs1 (fun j => S2 (170 + j)) ∧
    (if fo2 = nI 0 then nI li2 else (-10) - pl2) = (if ft2 = 0 then nI n9 else (-10) - wa2) := by
  obtain ⟨x1, x2, x3, x4⟩ := hX
  obtain ⟨m1, m2, m3, m4⟩ := hM
  rcases text_rel x1 m1 x2 x3 m2 m3 with ⟨f1, f2, f3, f4, f5, f6⟩ | ⟨c, c1, c2, c3, c4, c5⟩
  · rw [if_pos f1] at x4 ⊢
    rw [if_pos f2] at m4 ⊢
    simp only [Prod.mk.injEq] at x4 m4
    obtain ⟨a1, a2, a3, a4, a5, a6, a7, a8, a9, a10, a11, a12⟩ := x4
    obtain ⟨b1, b2, b3, b4, b5⟩ := m4
    obtain ⟨d1, d2, d3, d4, d5, d6, d7, d8, d9, d10, d11, d12⟩ := f4
    obtain ⟨o1, o2, ⟨o3, o4, o5⟩, o6, ⟨o7, o8⟩, o9, o10⟩ := f5
    obtain ⟨p1, p2, p3⟩ := f6
    dsimp only at d1 d5 d6 d7 d8 d9 d10 o3 o4 o5 o6 o7 o8 o9 o10 p1 p2 p3
    simp only [Prod.mk.injEq] at d1
    obtain ⟨e1, e2, e3⟩ := d1
    subst a4 a6 a8 a9 a10 a11 a12 b4 b5
    have hD : DIM w2 h2 la2 := ⟨o3.1, o3.2, o4.1, o4.2, o5⟩
    have hwh := hD.wh
    have hO : BKo w2 h2 la2 af2 nc2 fc2 nl2 fl2 0 fst := by
      refine ⟨o7, o9, by omega, o6, fun i hi => ⟨(p1 i hi).1, (p1 i hi).2, (o8 i hi).2.2⟩, fun i hi => ⟨(p2 i hi).1, (xu_shift _ _ (by omega)).mp (p2 i hi).2⟩, fun i hi => absurd hi (Nat.not_lt_zero _)⟩
    have hS : BKs af2 nc2 fc2 nl2 fl2 0 fst D2 := ⟨d5, d6, d7, d8, d9, d10, fun i k hi => absurd hi (Nat.not_lt_zero _)⟩
    rw [a1, a2, a3, a5, a7]
    refine ⟨by rw [b1, e1], by rw [b2, e2], by rw [b3, e3], by rw [f1, f2], ⟨hD, BKo_cpy hO, BKs_cpy ⟨o7, o9, by omega⟩ (BKs_congr ⟨o7, o9, by omega⟩ (fun j hj => if_pos hj) hS)⟩, VOK_1, IM1_none rfl rfl, IM1_none rfl rfl, by rw [f3]⟩
  · have hne : ¬ fo2 = nI 0 := fun q => c1 (nI_inj (by omega) (by omega) (c4.symm.trans q))
    have hne2 : ¬ ft2 = 0 := fun q => c1 (c3.symm.trans q)
    rw [if_neg hne] at x4 ⊢
    rw [if_neg hne2] at m4 ⊢
    simp only [Prod.mk.injEq] at x4 m4
    obtain ⟨a1, a2, a3, a4, a5, a6, a7, a8, a9, a10, a11, a12⟩ := x4
    obtain ⟨b1, b2, b3, b4, b5⟩ := m4
    rw [a1, a2, a3, a4, a5, a6, a7, a8, a9, a10, a11, a12, b1, b2, b3, b4, b5]
    exact ⟨rfl, rfl, rfl, by rw [c4, c3], H, V, I0, I1, by rw [c5]⟩
/-! answers -/
section An
variable {w h la : Nat} {af : Nat → Int32} {nc : Nat} {fc : Nat → Int32} {nl : Nat} {fl : Nat → Int32} {ns : Nat} {fs mS : Nat → Int32}
theorem an_change {i a : Int32} (H : RB w h la af nc fc nl fl ns fs mS) : (if inR i nc ∧ inR a 3 then fc (3 * tn i + tn a) else (-1)) = (if inR i nc ∧ inR a 3 then mS (17 + 3 * tn i + tn a) else (-1)) := by
  by_cases hq : inR i nc ∧ inR a 3
  · rw [if_pos hq, if_pos hq]
    exact (H.2.2.2.2.1 (tn i) (tn a) (tn_lt hq.1).1 (tn_lt hq.2).1).symm
  · rw [if_neg hq, if_neg hq]
theorem an_lens {i a : Int32} (H : RB w h la af nc fc nl fl ns fs mS) : (if inR i nl ∧ inR a 2 then fl (3 * tn i + tn a) else (-1)) = (if inR i nl ∧ inR a 2 then mS (48 + 2 * tn i + tn a) else (-1)) := by
  by_cases hq : inR i nl ∧ inR a 2
  · rw [if_pos hq, if_pos hq]
    exact (H.2.2.2.2.2.2.1 (tn i) (tn a) (tn_lt hq.1).1 (tn_lt hq.2).1).symm
  · rw [if_neg hq, if_neg hq]
theorem an_first {c m : Int32} (H : RB w h la af nc fc nl fl ns fs mS) : (if (inR c (w * h) ∧ inR m 6) then af (tn c) else (-1)) = (if inR c (w * h) ∧ inR m 6 then mS (tn c) else (-1)) := by
  have hw := H.1.wh
  by_cases hq : inR c (w * h) ∧ inR m 6
  · have := (tn_lt hq.1).1
    rw [if_pos hq, if_pos hq]
    exact (H.2.2.1 (tn c) (by omega)).symm
  · rw [if_neg hq, if_neg hq]
theorem an_grind {d bl : Int32} (H : RB w h la af nc fc nl fl ns fs mS) : (if (inR d (la + 1) ∧ xu bl (nI (w * h)) = 0) then (if nl < 6 then nI (nl + 1) else (-3)) else (-1)) = (if (inR d (la + 1) ∧ inR bl (2 ^ (w * h))) then (if nl < 6 then nI (nl + 1) else (-3)) else (-1)) := by
  have hw := H.1.wh
  have hx := xu_shift bl (w * h) (by omega)
  by_cases hq : inR d (la + 1) ∧ inR bl (2 ^ (w * h))
  · rw [if_pos hq, if_pos ⟨hq.1, hx.mpr hq.2⟩]
  · rw [if_neg hq, if_neg (fun z => hq ⟨z.1, hx.mp z.2⟩)]
theorem an_regrind {i d : Int32} (H : RB w h la af nc fc nl fl ns fs mS) : (if inR i nl ∧ inR d (la + 1) then fl (3 * tn i) else (-1)) = (if inR i nl ∧ inR d (la + 1) then mS (48 + 2 * tn i) else (-1)) := by
  by_cases hq : inR i nl ∧ inR d (la + 1)
  · rw [if_pos hq, if_pos hq]
    exact (H.2.2.2.2.2.2.1 (tn i) 0 (tn_lt hq.1).1 (by omega)).symm
  · rw [if_neg hq, if_neg hq]
theorem and_xbit {x : Int32} {c : Nat} (hc : c < 32) : x &&& xbit c = 0 ↔ bt x c = false := by
  constructor
  · intro q
    have h2 : bt (x &&& xbit c) c = bt 0 c := by rw [q]
    rw [b_and, bt_xbit c hc c hc, decide_eq_true rfl, Bool.and_true, b_0] at h2
    exact h2
  · intro q
    refine b_ext (fun i hi => ?_)
    rw [b_and, b_0, bt_xbit c hc i hi]
    by_cases e : c = i
    · subst e; rw [q, Bool.false_and]
    · rw [decide_eq_false e, Bool.and_false]
theorem an_crack {i c : Int32} (H : RB w h la af nc fc nl fl ns fs mS) : (if inR i nl ∧ inR c (w * h) then (if (fl (3 * tn i + 1)) &&& xbit (tn c) = 0 then nI 0 else nI 1) else (-1)) = (if inR i nl ∧ inR c (w * h) then ((mS (48 + 2 * tn i + 1)) >>> (nI (tn c) &&& 31)) &&& nI 1 else (-1)) := by
  have hw := H.1.wh
  by_cases hq : inR i nl ∧ inR c (w * h)
  · have hc := (tn_lt hq.2).1
    rw [if_pos hq, if_pos hq, H.2.2.2.2.2.2.1 (tn i) 1 (tn_lt hq.1).1 (by omega)]
    generalize fl (3 * tn i + 1) = x
    by_cases hb : bt x (tn c) = false
    · rw [if_pos ((and_xbit (by omega)).mpr hb)]
      exact ((bt_sshr1 (by omega)).mpr hb).symm
    · rw [if_neg (fun q => hb ((and_xbit (by omega)).mp q))]
      have h1 : ¬ (x >>> (nI (tn c) &&& 31)) &&& nI 1 = 0 := fun q => hb ((bt_sshr1 (by omega)).mp q)
      exact (bit1.mpr h1).symm
  · rw [if_neg hq, if_neg hq]
theorem an_show {x c m : Int32} {n : Nat} : (if (inR x n ∧ inR c n ∧ (inR m 6 ∨ m = (-4))) then (if ns < 8 then nI (ns + 1) else (-3)) else (-1)) = (if (inR x n ∧ inR c n ∧ (m = (-4) ∨ inR m 6)) then (if ns < 8 then nI (ns + 1) else (-3)) else (-1) : Int32) := by
  by_cases hq : inR x n ∧ inR c n ∧ (inR m 6 ∨ m = (-4))
  · rw [if_pos hq, if_pos (show inR x n ∧ inR c n ∧ (m = (-4) ∨ inR m 6) from ⟨hq.1, hq.2.1, hq.2.2.symm⟩)]
  · rw [if_neg hq, if_neg (show ¬ (inR x n ∧ inR c n ∧ (m = (-4) ∨ inR m 6)) from fun z => hq ⟨z.1, z.2.1, z.2.2.symm⟩)]
theorem an_keep {a b : Int32} (h : a = 0 ↔ b = 0) : (if a = 0 then nI 0 else nI 1) = (if b = 0 then nI 0 else nI 1) := by
  by_cases hq : a = 0
  · rw [if_pos hq, if_pos (h.mp hq)]
  · rw [if_neg hq, if_neg (fun z => hq (h.mpr z))]
end An

/-! names; a line; all lines; the text -/
section Ty
variable {t : Nat → Int32} {rl : Nat}
theorem by_in {p : Nat} (h : p < rl) : byF t rl p = t p := if_pos h
theorem nm_0 {nx sr : Nat} (hn : nx ≤ rl) : (mIs t rl nx sr 5 104 111 117 115 ∧ byF t rl (sr + 4) = nI 101) ↔ nmP t nx sr 0 := by
  constructor
  · rintro ⟨⟨h1, h2, h3, h4, h5⟩, h6⟩
    rw [by_in (by omega)] at h2 h3 h4 h5 h6
    refine ⟨h1, fun k hk => ?_⟩
    have hk : k < 5 := hk
    rcases (show k = 0 ∨ k = 1 ∨ k = 2 ∨ k = 3 ∨ k = 4 by omega) with rfl | rfl | rfl | rfl | rfl
    · exact h2.trans (by decide +kernel)
    · exact h3.trans (by decide +kernel)
    · exact h4.trans (by decide +kernel)
    · exact h5.trans (by decide +kernel)
    · exact h6.trans (by decide +kernel)
  · rintro ⟨h1, h2⟩
    have h1 : nx - sr = 5 := h1
    have e0 := h2 0 (by decide +kernel)
    have e1 := h2 1 (by decide +kernel)
    have e2 := h2 2 (by decide +kernel)
    have e3 := h2 3 (by decide +kernel)
    have e4 := h2 4 (by decide +kernel)
    refine ⟨⟨h1, ?_, ?_, ?_, ?_⟩, ?_⟩
    · rw [by_in (by omega)]; exact e0.trans (by decide +kernel)
    · rw [by_in (by omega)]; exact e1.trans (by decide +kernel)
    · rw [by_in (by omega)]; exact e2.trans (by decide +kernel)
    · rw [by_in (by omega)]; exact e3.trans (by decide +kernel)
    · rw [by_in (by omega)]; exact e4.trans (by decide +kernel)
theorem nm_4 {nx sr i a b c d : Nat} (hn : nx ≤ rl) (hi : sLen.getD i 0 = 4) (ha : sC i 0 = nI a) (hb : sC i 1 = nI b) (hc : sC i 2 = nI c) (hd : sC i 3 = nI d) : mIs t rl nx sr 4 a b c d ↔ nmP t nx sr i := by
  constructor
  · rintro ⟨h1, h2, h3, h4, h5⟩
    rw [by_in (by omega)] at h2 h3 h4 h5
    refine ⟨by rw [hi]; exact h1, fun k hk => ?_⟩
    rw [hi] at hk
    rcases (show k = 0 ∨ k = 1 ∨ k = 2 ∨ k = 3 by omega) with rfl | rfl | rfl | rfl
    · rw [ha]; exact h2
    · rw [hb]; exact h3
    · rw [hc]; exact h4
    · rw [hd]; exact h5
  · rintro ⟨h1, h2⟩
    rw [hi] at h1 h2
    have e0 := h2 0 (by omega)
    have e1 := h2 1 (by omega)
    have e2 := h2 2 (by omega)
    have e3 := h2 3 (by omega)
    refine ⟨h1, ?_, ?_, ?_, ?_⟩
    · rw [by_in (by omega), ← ha]; exact e0
    · rw [by_in (by omega), ← hb]; exact e1
    · rw [by_in (by omega), ← hc]; exact e2
    · rw [by_in (by omega), ← hd]; exact e3
theorem nm_1 {nx sr : Nat} (hn : nx ≤ rl) : mIs t rl nx sr 4 108 97 115 116 ↔ nmP t nx sr 1 := nm_4 hn (by decide +kernel) (by decide +kernel) (by decide +kernel) (by decide +kernel) (by decide +kernel)
theorem nm_2 {nx sr : Nat} (hn : nx ≤ rl) : mIs t rl nx sr 4 99 101 108 108 ↔ nmP t nx sr 2 := nm_4 hn (by decide +kernel) (by decide +kernel) (by decide +kernel) (by decide +kernel) (by decide +kernel)
theorem nm_3 {nx sr : Nat} (hn : nx ≤ rl) : mIs t rl nx sr 4 116 117 114 110 ↔ nmP t nx sr 3 := nm_4 hn (by decide +kernel) (by decide +kernel) (by decide +kernel) (by decide +kernel) (by decide +kernel)
theorem nm_5 {nx sr : Nat} (hn : nx ≤ rl) : mIs t rl nx sr 4 108 101 110 115 ↔ nmP t nx sr 4 := nm_4 hn (by decide +kernel) (by decide +kernel) (by decide +kernel) (by decide +kernel) (by decide +kernel)
theorem BRp_of {s : TS} {ho lo ct : Int32} {w h la : Nat} {af : Nat → Int32} {nc : Nat} {fc : Nat → Int32} {nl : Nat} {fl : Nat → Int32} {d : Nat × Nat × Nat} {tl tc hc hd : Int32} {D : Nat → Int32} {y : XS} (hy : y.2 = (d, (tl, tc, hc, hd), D)) (H : BR ho lo ct w h la af nc fc nl fl d tl tc hc hd D) : BRp (s, (ho, lo, ct), (w, h, la), af, (nc, fc), (nl, fl)) y := by
  obtain ⟨y1, y2⟩ := y
  have hy : y2 = (d, (tl, tc, hc, hd), D) := hy
  subst hy
  exact H
theorem mLk_0 {m : MS} {d : Nat × Nat × Nat} {tl tc hc hd : Int32} {D : Nat → Int32} : mLk t rl 0 (m, d, (tl, tc, hc, hd), D) = (if tdB tl 0 = nI 0 then mGo t rl 0 (m, d, (orB tl 0, tc, hc, hd), D) else (mF 4 m, d, (orB tl 0, tc, hc, hd), D)) := by
  unfold mLk
  rw [if_neg (by omega), if_pos (by omega)]
theorem mLk_1 {m : MS} {d : Nat × Nat × Nat} {tl tc hc hd : Int32} {D : Nat → Int32} : mLk t rl 1 (m, d, (tl, tc, hc, hd), D) = (if tdB tl 1 = nI 0 then mGo t rl 1 (m, d, (orB tl 1, tc, hc, hd), D) else (mF 4 m, d, (orB tl 1, tc, hc, hd), D)) := by
  unfold mLk
  rw [if_neg (by omega), if_pos (by omega)]
theorem mLk_2 {x : XS} : mLk t rl 2 x = mGo t rl 2 x := by
  unfold mLk
  rw [if_neg (by omega), if_neg (by omega)]
theorem mLk_3 {x : XS} : mLk t rl 3 x = (if 10 ≤ vI (x.2.2.2 16) then (mF 5 x.1, x.2) else mGo t rl 3 x) := by
  unfold mLk
  by_cases h : 10 ≤ vI (x.2.2.2 16)
  · rw [if_pos h, if_pos (Or.inl ⟨rfl, h⟩)]
  · rw [if_neg h, if_neg (fun q => q.elim (fun z => h z.2) (fun z => absurd z.1 (by decide))), if_neg (by omega)]
theorem mLk_4 {x : XS} : mLk t rl 4 x = (if 6 ≤ vI (x.2.2.2 47) then (mF 5 x.1, x.2) else mGo t rl 4 x) := by
  unfold mLk
  by_cases h : 6 ≤ vI (x.2.2.2 47)
  · rw [if_pos h, if_pos (Or.inr ⟨rfl, h⟩)]
  · rw [if_neg h, if_neg (fun q => q.elim (fun z => absurd z.1 (by decide)) (fun z => h z.2)), if_neg (by omega)]
theorem lin_rel {a : TS} {m : MS} {ho lo ct : Int32} {w h la : Nat} {af : Nat → Int32} {nc : Nat} {fc : Nat → Int32} {nl : Nat} {fl : Nat → Int32} {d : Nat × Nat × Nat} {tl tc hc hd : Int32} {D : Nat → Int32}
    (hnc : nc ≤ 10) (hnl : nl ≤ 6) (h2 : m.2.2.2.2.1 = 0) (h3 : m.1 = a.1) (h4 : m.2.1 = a.2.2.1) (h5 : m.2.2.1 = a.2.1) (h7 : a.2.2.2.2.1 = nI 0) (h8 : a.1 ≤ rl) (H : BR ho lo ct w h la af nc fc nl fl d tl tc hc hd D) :
    (∃ p' : PS, fLin t rl a ho lo ct w h la af nc fc nl fl = (true, p') ∧ Pd t rl p'.1 (mLine t rl (m, d, (tl, tc, hc, hd), D)).1 ∧ BRp p' (mLine t rl (m, d, (tl, tc, hc, hd), D)) ∧ a.1 < p'.1.1) ∨
    (∃ p' : PS, fLin t rl a ho lo ct w h la af nc fc nl fl = (false, p') ∧ Fl p'.1 (mLine t rl (m, d, (tl, tc, hc, hd), D)).1) := by
  have hp : Pd t rl a (mTok t rl m) := ⟨h7, h8, m, h3, h2, rfl⟩
  have hD16 : D 16 = nI nc := H.2.2.2.2.2.1
  have hD47 : D 47 = nI nl := H.2.2.2.2.2.2.2.1
  unfold fLin
  by_cases k1 : a.2.1 = 1
  · rw [if_pos k1]
    have hK : mKd t rl m = mNow t rl a.1 a.2.2.1 := by
      unfold mKd
      rw [if_pos (by rw [h5]; exact k1), h3, h4]
    by_cases n0 : nmP t a.1 a.2.2.1 0
    · rw [if_pos n0]
      have hk : mKd t rl m = nI 0 := by rw [hK, mNow, if_pos ((nm_0 h8).mpr n0)]
      rw [mLine_k (j := 0) (by omega) hk, mLk_0]
      by_cases ht : ho = nI 0
      · rw [if_pos ((tdB_bt (by omega)).mpr (H.2.2.1.mp ht))]
        rcases hou_rel (x := (m, d, (orB tl 0, tc, hc, hd), D)) (w := w) (h := h) ht hp with ⟨a2, k, k2, f1, f2, f3, f4⟩ | ⟨a2, z, f1, f2⟩
        · rw [f1]
          exact Or.inl ⟨_, rfl, f2, BRp_of f3 (BR_hou H), f4⟩
        · rw [f1]
          exact Or.inr ⟨_, rfl, f2⟩
      · rw [if_neg (fun q => ht (H.2.2.1.mpr ((tdB_bt (by omega)).mp q))), show fHou t rl ho w h a = (false, fRef (nI 4) a, ho, w, h) from if_neg ht]
        exact Or.inr ⟨_, rfl, fRef_fl (by decide) (by decide) h4⟩
    · rw [if_neg n0]
      by_cases n1 : nmP t a.1 a.2.2.1 1
      · rw [if_pos n1]
        have hk : mKd t rl m = nI 1 := by rw [hK, mNow, if_neg (fun q => n0 ((nm_0 h8).mp q)), if_pos ((nm_1 h8).mpr n1)]
        rw [mLine_k (j := 1) (by omega) hk, mLk_1]
        by_cases ht : lo = nI 0
        · rw [if_pos ((tdB_bt (by omega)).mpr (H.2.2.2.1.mp ht))]
          rcases las_rel (x := (m, d, (orB tl 1, tc, hc, hd), D)) (la := la) ht hp with ⟨a2, k, f1, f2, f3, f4⟩ | ⟨a2, z, f1, f2⟩
          · rw [f1]
            exact Or.inl ⟨_, rfl, f2, BRp_of f3 (BR_las H), f4⟩
          · rw [f1]
            exact Or.inr ⟨_, rfl, f2⟩
        · rw [if_neg (fun q => ht (H.2.2.2.1.mpr ((tdB_bt (by omega)).mp q))), show fLas t rl lo la a = (false, fRef (nI 4) a, lo, la) from if_neg ht]
          exact Or.inr ⟨_, rfl, fRef_fl (by decide) (by decide) h4⟩
      · rw [if_neg n1]
        by_cases n2 : nmP t a.1 a.2.2.1 2
        · rw [if_pos n2]
          have hk : mKd t rl m = nI 2 := by rw [hK, mNow, if_neg (fun q => n0 ((nm_0 h8).mp q)), if_neg (fun q => n1 ((nm_1 h8).mp q)), if_pos ((nm_2 h8).mpr n2)]
          rw [mLine_k (j := 2) (by omega) hk, mLk_2]
          rcases celA_rel (x := (m, d, (tl, tc, hc, hd), D)) (af := af) (show tc = ct from H.2.1) hp with ⟨a2, k, k2, f0, f1, f2, f3, f4⟩ | ⟨a2, z, f1, f2⟩
          · rw [f1]
            exact Or.inl ⟨_, rfl, f2, BRp_of f3 (BR_cel f0 H), f4⟩
          · rw [f1]
            exact Or.inr ⟨_, rfl, f2⟩
        · rw [if_neg n2]
          by_cases n3 : nmP t a.1 a.2.2.1 3
          · rw [if_pos n3]
            have hk : mKd t rl m = nI 3 := by rw [hK, mNow, if_neg (fun q => n0 ((nm_0 h8).mp q)), if_neg (fun q => n1 ((nm_1 h8).mp q)), if_neg (fun q => n2 ((nm_2 h8).mp q)), if_pos ((nm_3 h8).mpr n3)]
            rw [mLine_k (j := 3) (by omega) hk, mLk_3]
            have hv : vI (D 16) = nc := by rw [hD16, vI_nI (by omega)]
            by_cases hq : nc < 10
            · rw [if_neg (show ¬ 10 ≤ vI (D 16) by rw [hv]; omega)]
              rcases tur_rel (x := (m, d, (tl, tc, hc, hd), D)) (fc := fc) hq hD16 hp with ⟨a2, dd, c, v, g1, g2, g3, f1, f2, f3, f4⟩ | ⟨a2, z, f1, f2⟩
              · rw [f1]
                exact Or.inl ⟨_, rfl, f2, BRp_of f3 (BR_tur hq g1 g2 H), f4⟩
              · rw [f1]
                exact Or.inr ⟨_, rfl, f2⟩
            · rw [if_pos (show 10 ≤ vI (D 16) by rw [hv]; omega), show fTur t rl nc fc a = (false, fRef (nI 5) a, nc, fc) from if_neg hq]
              exact Or.inr ⟨_, rfl, fRef_fl (by decide) (by decide) h4⟩
          · rw [if_neg n3]
            by_cases n4 : nmP t a.1 a.2.2.1 4
            · rw [if_pos n4]
              have hk : mKd t rl m = nI 4 := by rw [hK, mNow, if_neg (fun q => n0 ((nm_0 h8).mp q)), if_neg (fun q => n1 ((nm_1 h8).mp q)), if_neg (fun q => n2 ((nm_2 h8).mp q)), if_neg (fun q => n3 ((nm_3 h8).mp q)), if_pos ((nm_5 h8).mpr n4)]
              rw [mLine_k (j := 4) (by omega) hk, mLk_4]
              have hv : vI (D 47) = nl := by rw [hD47, vI_nI (by omega)]
              by_cases hq : nl < 6
              · rw [if_neg (show ¬ 6 ≤ vI (D 47) by rw [hv]; omega)]
                rcases len_rel (x := (m, d, (tl, tc, hc, hd), D)) (fl := fl) hq hD47 hp with ⟨a2, dd, bl, hc2, g1, f1, f2, f3, f4, f5⟩ | ⟨a2, z, f1, f2⟩
                · rw [f1]
                  exact Or.inl ⟨_, rfl, f2, BRp_of f3 (BR_len hq g1 f5 H hnc), f4⟩
                · rw [f1]
                  exact Or.inr ⟨_, rfl, f2⟩
              · rw [if_pos (show 6 ≤ vI (D 47) by rw [hv]; omega), show fLen t rl nl fl a = (false, fRef (nI 5) a, nl, fl) from if_neg hq]
                exact Or.inr ⟨_, rfl, fRef_fl (by decide) (by decide) h4⟩
            · rw [if_neg n4]
              have hk : mKd t rl m = (-4) := by rw [hK, mNow, if_neg (fun q => n0 ((nm_0 h8).mp q)), if_neg (fun q => n1 ((nm_1 h8).mp q)), if_neg (fun q => n2 ((nm_2 h8).mp q)), if_neg (fun q => n3 ((nm_3 h8).mp q)), if_neg (fun q => n4 ((nm_5 h8).mp q))]
              rw [show mLine t rl (m, d, (tl, tc, hc, hd), D) = (mF 2 m, d, (tl, tc, hc, hd), D) from if_pos hk]
              exact Or.inr ⟨_, rfl, fRef_fl (by decide) (by decide) h4⟩
  · rw [if_neg k1]
    have hk : mKd t rl m = (-4) := by
      unfold mKd
      rw [if_neg (by rw [h5]; exact k1)]
    rw [show mLine t rl (m, d, (tl, tc, hc, hd), D) = (mF 2 m, d, (tl, tc, hc, hd), D) from if_pos hk]
    exact Or.inr ⟨_, rfl, fRef_fl (by decide) (by decide) h4⟩
theorem kd_end {s : TS} (hs : s.1 ≤ rl) (h : (fTok t rl s).2.2.1 = 0) : (fTok t rl s).2.2.2.1 = rl := by
  have h1 : ruE isSp t rl s.1 ≤ rl := ruF_le _ _ hs
  show ruE isSp t rl s.1 = rl
  have h2 : kdT t rl (ruE isSp t rl s.1) = 0 := h
  rcases Nat.lt_or_ge (ruE isSp t rl s.1) rl with q | q
  · exfalso
    unfold kdT at h2
    rw [if_neg (by omega)] at h2
    split at h2
    · cases h2
    · split at h2 <;> cases h2
  · omega
theorem lp_rel : ∀ (k K : Nat) (p : PS) (x : XS) (n : Nat), psOk rl p → Pd t rl p.1 x.1 → BRp p x → rl + 1 ≤ k + p.1.1 → rl + 1 ≤ K + p.1.1 →
    ((fLp t rl k p n).1.1.2.2.2.2.1 = nI 0 ∧ (mLp t rl K x n).1.1.2.2.2.2.1 = 0 ∧ (fLp t rl k p n).2 = (mLp t rl K x n).2 ∧ BRp (fLp t rl k p n).1 (mLp t rl K x n).1 ∧ (mLp t rl K x n).1.1.2.1 = rl) ∨
    Fl (fLp t rl k p n).1.1 (mLp t rl K x n).1.1 := by
  intro k
  induction k with
  | zero =>
    intro K p x n _ hp _ hk
    have := hp.2.1
    omega
  | succ k ih =>
    intro K p x n hok hp hB hk hK
    have hs := hp.2.1
    have hK1 : 1 ≤ K := by omega
    obtain ⟨a, ha, hc⟩ := tok_rel hp
    rcases hc with ⟨h1, h2, h3, h4, h5, h6, h7, h8, h9⟩ | ⟨h1, h2⟩
    · by_cases k0 : a.2.1 = 0
      · have e1 : fLp t rl (k + 1) p n = ((a, p.2), n) := fLp_0 (fun q => q.2 (by rw [ha]; exact k0)) ha.symm
        have e2 : mLp t rl K x n = (x, n) := mLp_end (fun q => q.2 (by rw [h5]; exact k0))
        rw [e1, e2]
        refine Or.inl ⟨h7, h2, rfl, hB, ?_⟩
        have h10 := kd_end (t := t) hs (by rw [ha]; exact k0)
        rw [ha] at h10
        exact h4.trans h10
      · have hlt := h9 k0
        obtain ⟨m, d, ⟨tl, tc, hc, hd⟩, D⟩ := x
        rw [mLp_go hK1 ⟨h2, by rw [h5]; exact k0⟩ rfl]
        have hok1 : psOk rl (a, p.2) := ⟨h8, hok.2⟩
        have hl := lin_rel (t := t) (rl := rl) (a := a) hok.2.2.2.2.1.1 hok.2.2.2.2.2.1 h2 h3 h4 h5 h7 h8 hB
        rcases hl with ⟨p', f1, f2, f3, f4⟩ | ⟨p', f1, f2⟩
        · have e1 : fLp t rl (k + 1) p n = fLp t rl k p' (n + 1) := fLp_2 h1 ha.symm k0 (by show (fLin _ _ _ _ _ _ _ _ _ _ _ _ _ _).1 = true; rw [f1]) (by show _ = (fLin _ _ _ _ _ _ _ _ _ _ _ _ _ _).2; rw [f1])
          rw [e1]
          have hok2 : psOk rl p' := by
            have := fLin_ok (t := t) hok1
            rw [f1] at this
            exact this
          exact ih (K - 1) p' _ (n + 1) hok2 f2 f3 (by omega) (by omega)
        · have e1 : fLp t rl (k + 1) p n = (p', n) := fLp_1 h1 ha.symm k0 (by show ¬ (fLin _ _ _ _ _ _ _ _ _ _ _ _ _ _).1 = true; rw [f1]; exact (show ¬ false = true by decide)) (by show _ = (fLin _ _ _ _ _ _ _ _ _ _ _ _ _ _).2; rw [f1])
          rw [e1, mLp_end (fun q => f2.ne q.1)]
          exact Or.inr f2
    · have e1 : fLp t rl (k + 1) p n = ((a, p.2), n) := fLp_0 (fun q => h1 q.1) ha.symm
      have e2 : mLp t rl K x n = (x, n) := mLp_end (fun q => h2.ne q.1)
      rw [e1, e2]
      exact Or.inr h2
/-- THE TEXT: both read the same, or find the same fault at the same place -/
theorem text_rel {kd sr li fr so n9 ft : Nat} {vl vl2 wa0 fo pl wa : Int32} {af0 fct flt D0 : Nat → Int32} {P : PS} {Y : XS} (ha : ∀ j, j < 16 → af0 j = nI 0) (hD : ∀ j, j < 85 → D0 j = nI 0)
    (h1 : (P, li) = fLp t rl (rl + 1) (ps0 kd sr vl af0 fct flt) 0) (h2 : (fo, pl) = fEnd rl P)
    (h3 : (Y, n9) = mLp t rl (rl + 2) (mTok t rl (0, fr, so, vl2, 0, wa0), (3, 3, 9), (nI 0, nI 0, (-4), (-4)), D0) 0) (h4 : (ft, wa) = mFin Y) :
    (fo = nI 0 ∧ ft = 0 ∧ li = n9 ∧ BRp P Y ∧ psOk rl P ∧ allP P) ∨ (∃ c, ¬ c = 0 ∧ c ≤ 6 ∧ ft = c ∧ fo = nI c ∧ pl = wa) := by
  have hok0 : psOk rl (ps0 kd sr vl af0 fct flt) := ps0_ok ha
  have hB0 : BRp (ps0 kd sr vl af0 fct flt) (mTok t rl (0, fr, so, vl2, 0, wa0), (3, 3, 9), (nI 0, nI 0, (-4), (-4)), D0) := by
    refine ⟨rfl, rfl, ⟨fun _ => b_0 0, fun _ => rfl⟩, ⟨fun _ => b_0 1, fun _ => rfl⟩, fun j hj => (hD j (by omega)).trans (ha j hj).symm, hD 16 (by omega), fun i k hi => absurd hi (Nat.not_lt_zero _), hD 47 (by omega), fun i k hi => absurd hi (Nat.not_lt_zero _), hD 60 (by omega), fun n hn => ?_, fun n => ?_⟩
    · refine ⟨fun _ => ⟨fun i hi => absurd hi (Nat.not_lt_zero _), fun i hi => absurd hi (Nat.not_lt_zero _), inR_z (by omega)⟩, fun _ => ?_⟩
      have : (-4 : Int32).toInt = -4 := by decide
      show (-4 : Int32).toInt < (n : Int)
      omega
    · refine ⟨fun _ => ⟨fun i hi => absurd hi (Nat.not_lt_zero _), fun i hi => absurd hi (Nat.not_lt_zero _)⟩, fun _ => ?_⟩
      have : (-4 : Int32).toInt = -4 := by decide
      show (-4 : Int32).toInt ≤ (n : Int)
      omega
  have hok := fLp_ok (t := t) (rl + 1) (ps0 kd sr vl af0 fct flt) 0 hok0
  have hl := lp_rel (t := t) (rl := rl) (rl + 1) (rl + 2) (ps0 kd sr vl af0 fct flt) (mTok t rl (0, fr, so, vl2, 0, wa0), (3, 3, 9), (nI 0, nI 0, (-4), (-4)), D0) 0 hok0 ⟨rfl, Nat.zero_le _, (0, fr, so, vl2, 0, wa0), rfl, rfl, rfl⟩ hB0 (Nat.le_refl _) (by show rl + 1 ≤ rl + 2 + 0; omega)
  rw [← h1] at hok hl
  rw [← h3] at hl
  dsimp only at hok hl
  rcases hl with ⟨f1, f2, f3, f4, f5⟩ | q
  · have hall : allP P ↔ mThere Y := by
      obtain ⟨⟨nx, kd', sr', vl', fo', pl'⟩, ⟨ho, lo, ct⟩, ⟨w, h, la⟩, af, ⟨nc, fc⟩, nl, fl⟩ := P
      obtain ⟨m, d, ⟨tl, tc, hc, hd⟩, D⟩ := Y
      obtain ⟨b1, b2, b3, b4, b5, b6, b7, b8, b9, b10, b11, b12⟩ := f4
      obtain ⟨o1, o2, ⟨o3, o4, o5⟩, o6, ⟨o7, o8⟩, o9, o10⟩ := hok
      dsimp only at b1 b2 b11 b12 o3 o4 o5 o8 o10 ⊢
      subst b1
      have hwh : w * h ≤ 16 := Nat.le_trans (Nat.mul_le_mul o3.2 o4.2) (by omega)
      show ((∀ i, i < nc → inR (fc (3 * i + 0)) (la + 1) ∧ inR (fc (3 * i + 1)) (w * h)) ∧ (∀ i, i < nl → inR (fl (3 * i + 0)) (la + 1) ∧ xu (fl (3 * i + 1)) (nI (w * h)) = nI 0) ∧ xu ct (nI (w * h)) = nI 0) ↔ (hc.toInt < ((w * h : Nat) : Int) ∧ hd.toInt ≤ (la : Int))
      rw [b11 (w * h) hwh, b12 la]
      constructor
      · rintro ⟨c1, c2, c3⟩
        exact ⟨⟨fun i hi => (c1 i hi).2.2, fun i hi => (xu_shift _ _ (by omega)).mp (c2 i hi).2, (xu_shift _ _ (by omega)).mp c3⟩, fun i hi => by have := (c1 i hi).1.2; rw [Nat.add_zero] at this; omega, fun i hi => by have := (c2 i hi).1.2; rw [Nat.add_zero] at this; omega⟩
      · rintro ⟨⟨c1, c2, c3⟩, c4, c5⟩
        refine ⟨fun i hi => ⟨⟨(o8 i hi).1.1, ?_⟩, (o8 i hi).2.1.1, c1 i hi⟩, fun i hi => ⟨⟨(o10 i hi).1.1, ?_⟩, (xu_shift _ _ (by omega)).mpr (c2 i hi)⟩, (xu_shift _ _ (by omega)).mpr c3⟩
        · have := c4 i hi; rw [Nat.add_zero]; omega
        · have := c5 i hi; rw [Nat.add_zero]; omega
    by_cases hq : allP P
    · have e1 : fEnd rl P = (P.1.2.2.2.2.1, P.1.2.2.2.2.2) := if_neg (fun z => z.2 hq)
      have e2 : mFin Y = (Y.1.2.2.2.2.1, Y.1.2.2.2.2.2) := if_neg (fun z => z.2 (hall.mp hq))
      exact Or.inl ⟨(congrArg Prod.fst (h2.trans e1)).trans f1, (congrArg Prod.fst (h4.trans e2)).trans f2, f3, f4, hok, hq⟩
    · have e1 : fEnd rl P = (nI 6, nI rl) := if_pos ⟨f1, hq⟩
      have e2 : mFin Y = (6, nI Y.1.2.1) := if_pos ⟨f2, fun z => hq (hall.mpr z)⟩
      refine Or.inr ⟨6, by decide, by decide, congrArg Prod.fst (h4.trans e2), congrArg Prod.fst (h2.trans e1), ?_⟩
      have z1 : pl = nI rl := congrArg Prod.snd (h2.trans e1)
      have z2 : wa = nI Y.1.2.1 := congrArg Prod.snd (h4.trans e2)
      rw [z1, z2, f5]
  · have qn := q.ne
    obtain ⟨c, c1, c2, c3, c4, c5⟩ := q
    have e1 : fEnd rl P = (P.1.2.2.2.2.1, P.1.2.2.2.2.2) := if_neg (fun z => by
      have z1 := z.1
      rw [c4] at z1
      have z2 := congrArg Int32.toInt z1
      rw [nI_toInt (by omega), nI_toInt (by omega)] at z2
      omega)
    have e2 : mFin Y = (Y.1.2.2.2.2.1, Y.1.2.2.2.2.2) := if_neg (fun z => qn z.1)
    exact Or.inr ⟨c, c1, c2, (congrArg Prod.fst (h4.trans e2)).trans c3, (congrArg Prod.fst (h2.trans e1)).trans c4, ((congrArg Prod.snd (h2.trans e1)).trans c5).trans (congrArg Prod.snd (h4.trans e2)).symm⟩
end Ty

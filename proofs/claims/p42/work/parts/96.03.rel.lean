/-! the blind cells, the lens -/
section Tb
variable {t : Nat → Int32} {rl : Nat}
theorem hc_up {hc : Int32} {c n : Nat} (hcn : c < 1000) : (if hc.toInt < (c : Int) then nI c else hc).toInt < (n : Int) ↔ (hc.toInt < (n : Int) ∧ c < n) := by
  have e := nI_toInt (n := c) (by omega)
  split
  · rw [e]; omega
  · omega
theorem hd_up {hd : Int32} {c n : Nat} (hcn : c < 1000) : (if hd.toInt < (c : Int) then nI c else hd).toInt ≤ (n : Int) ↔ (hd.toInt ≤ (n : Int) ∧ c ≤ n) := by
  have e := nI_toInt (n := c) (by omega)
  split
  · rw [e]; omega
  · omega
theorem inR_z {n : Nat} (hn : n < 31) : inR (nI 0) (2 ^ n) := by
  rw [inR_bits hn]
  intro i _ hi
  exact b_0 i
theorem bli_rel {nl d : Nat} {fl : Nat → Int32} {hc0 : Int32} : ∀ (k K : Nat) (bl acc hc : Int32) (s : TS) (m : MS), Pd t rl s m → (m.2.2.2.2.1 = 0 → acc = bl) → rl + 1 ≤ K + s.1 → 17 ≤ cntF (fun j => bt bl j) 16 + k →
    (∀ n : Nat, n ≤ 16 → (hc.toInt < (n : Int) ↔ (hc0.toInt < (n : Int) ∧ inR bl (2 ^ n)))) →
    (∃ (a : TS) (bl2 hc2 : Int32) (m2 : MS), fBli t rl nl fl d k bl s = (true, a, nl + 1, row3 fl nl (nI d) bl2 (nI 0)) ∧ mBl t rl K acc hc m = (bl2, hc2, m2) ∧ mEnd m2 = m2 ∧ Pd t rl a (mTok t rl m2) ∧ s.1 < a.1 ∧
      (∀ n : Nat, n ≤ 16 → (hc2.toInt < (n : Int) ↔ (hc0.toInt < (n : Int) ∧ inR bl2 (2 ^ n))))) ∨
    (∃ a : TS, fBli t rl nl fl d k bl s = (false, a, nl, fl) ∧ Fl a (mEnd (mBl t rl K acc hc m).2.2)) := by
  intro k
  induction k with
  | zero =>
    intro K bl acc hc s m _ _ _ h
    have := cntF_le (fun j => bt bl j) 16
    omega
  | succ k ih =>
    intro K bl acc hc s m hp hacc hK hcnt hhc
    have hs : s.1 ≤ rl := hp.2.1
    obtain ⟨a, ha, hc'⟩ := tok_rel hp
    have eB : fBli t rl nl fl d (k + 1) bl s = (if (fTok t rl s).1 = true then
      if a.2.1 = 3 then (true, a, nl + 1, row3 fl nl (nI d) bl (nI 0))
      else if (fWit 0 15 a).1 = true then
        (if tdB bl a.2.2.2.1.toInt.toNat = nI 0 then fBli t rl nl fl d k (orB bl a.2.2.2.1.toInt.toNat) a else (false, fRef (nI 4) a, nl, fl))
      else (false, (fWit 0 15 a).2, nl, fl)
    else (false, a, nl, fl)) := by rw [← ha, fBli]
    rw [eB]
    rcases hc' with ⟨h1, h2, h3, h4, h5, h6, h7, h8, h9⟩ | ⟨h1, h2⟩
    · rw [if_pos h1]
      have eacc := hacc h2
      subst eacc
      by_cases k3 : a.2.1 = 3
      · rw [if_pos k3]
        have e1 : mBl t rl K acc hc m = (acc, hc, m) := mBl_end (fun q => by rw [h5, k3] at q; exact absurd q.2 (by decide))
        refine Or.inl ⟨a, acc, hc, m, rfl, e1, ?_, ⟨h7, h8, m, h3, h2, rfl⟩, h9 (by rw [k3]; decide), hhc⟩
        unfold mEnd
        rw [if_pos h2, if_pos (by rw [h5]; exact k3)]
      · rw [if_neg k3]
        by_cases k2 : a.2.1 = 2
        · have hv := h6 k2
          have hK1 : 1 ≤ K := by omega
          by_cases hb : ((0 : Nat) : Int) ≤ a.2.2.2.1.toInt ∧ a.2.2.2.1.toInt ≤ ((15 : Nat) : Int)
          · have hw : fWit 0 15 a = (true, a) := fWit_2 k2 hb
            obtain ⟨c, hc1, hc2⟩ := inR_nat (x := a.2.2.2.1) (n := 16) (by unfold inR; omega)
            have hl : mLoo 0 15 m = (nI c, m) := by
              unfold mLoo
              rw [if_pos h2, if_pos (by rw [h5]; exact k2), if_pos (by rw [hv]; exact hb), hv, hc2]
            have ec : a.2.2.2.1.toInt.toNat = c := by rw [hc2, nI_toInt (by omega)]; rfl
            rw [hw, if_pos rfl, ec]
            by_cases hbit : tdB acc c = nI 0
            · rw [if_pos hbit]
              have n1 := cel_y (t := t) (rl := rl) (sm := acc) (hc := hc) (by omega) hl h2 hbit
              have e1 : mBl t rl K acc hc m = mBl t rl (K - 1) (acc ||| (if (mTok t rl m).2.2.2.2.1 = 0 then nI 1 <<< (nI c &&& 31) else nI 0)) (if hc.toInt < (c : Int) then nI c else hc) (mTok t rl m) := by
                rw [mBl_go hK1 ⟨h2, by rw [h5]; exact k2⟩ (hc2 := if hc.toInt < (c : Int) then nI c else hc) (s2 := mTok t rl m) (by rw [n1]), n1]
              have hgo := ih (K - 1) (orB acc c) (acc ||| (if (mTok t rl m).2.2.2.2.1 = 0 then nI 1 <<< (nI c &&& 31) else nI 0)) (if hc.toInt < (c : Int) then nI c else hc) a (mTok t rl m) ⟨h7, h8, m, h3, h2, rfl⟩ (fun q => by rw [if_pos q]) (by have := h9 (by rw [k2]; decide); omega) (by rw [cnt_orB hc1 hbit]; omega) (fun n hn => by
                rw [hc_up (by omega), hhc n hn, inR_orB (by omega) (by omega)]
                exact ⟨fun q => ⟨q.1.1, q.1.2, q.2⟩, fun q => ⟨⟨q.1, q.2.1⟩, q.2.2⟩⟩)
              rw [e1]
              rcases hgo with ⟨a2, bl2, hc2', m2, g1, g2, g3, g4, g5, g6⟩ | ⟨a2, g1, g2⟩
              · exact Or.inl ⟨a2, bl2, hc2', m2, g1, g2, g3, g4, by have := h9 (by rw [k2]; decide); omega, g6⟩
              · exact Or.inr ⟨a2, g1, g2⟩
            · rw [if_neg hbit]
              refine Or.inr ⟨_, rfl, ?_⟩
              have n1 := cel_n (t := t) (rl := rl) (sm := acc) (hc := hc) hl h2 hbit
              have e1 : (mBl t rl K acc hc m).2.2 = mF 4 m := by
                rw [mBl_go hK1 ⟨h2, by rw [h5]; exact k2⟩ (hc2 := (mCel t rl acc hc m).2.1) (s2 := mF 4 m) (by rw [← n1]), mBl_end (fun q => absurd q.1 (show ¬ 4 = 0 by decide))]
              rw [e1, mEnd_st (show ¬ 4 = 0 by decide)]
              exact fRef_fl (by decide) (by decide) h4
          · have hw : fWit 0 15 a = (false, fRef (nI 3) a) := fWit_1 k2 hb
            have hl : mLoo 0 15 m = (nI 0, mF 3 m) := by
              unfold mLoo
              rw [if_pos h2, if_pos (by rw [h5]; exact k2), if_neg (by rw [hv]; exact hb)]
            rw [hw, if_neg (show ¬ false = true by decide)]
            refine Or.inr ⟨_, rfl, ?_⟩
            have n1 : (mCel t rl acc hc m).2.2 = mF 3 m := by
              have e : mBut acc (nI 0, mF 3 m) = mF 3 m := if_neg (show ¬ 3 = 0 by decide)
              unfold mCel
              rw [hl, e]
              show mTok t rl (mF 3 m) = mF 3 m
              exact mTok_st (show ¬ 3 = 0 by decide)
            have e1 : (mBl t rl K acc hc m).2.2 = mF 3 m := by
              rw [mBl_go hK1 ⟨h2, by rw [h5]; exact k2⟩ (hc2 := (mCel t rl acc hc m).2.1) (s2 := mF 3 m) (by rw [← n1]), mBl_end (fun q => absurd q.1 (show ¬ 3 = 0 by decide))]
            rw [e1, mEnd_st (show ¬ 3 = 0 by decide)]
            exact fRef_fl (by decide) (by decide) h4
        · have hw : fWit 0 15 a = (false, fRef (nI 2) a) := fWit_0 k2
          rw [hw, if_neg (show ¬ false = true by decide)]
          refine Or.inr ⟨_, rfl, ?_⟩
          rw [mBl_end (fun q => k2 (by rw [← h5]; exact q.2))]
          have e1 : mEnd m = mF 2 m := by
            unfold mEnd
            rw [if_pos h2, if_neg (by rw [h5]; exact k3)]
          show Fl _ (mEnd m)
          rw [e1]
          exact fRef_fl (by decide) (by decide) h4
    · rw [if_neg h1]
      refine Or.inr ⟨a, rfl, ?_⟩
      rw [mBl_end (fun q => h2.ne q.1)]
      show Fl _ (mEnd m)
      rw [mEnd_st h2.ne]
      exact h2
theorem cnt_z : cntF (fun j => bt (nI 0) j) 16 = 0 := by decide +kernel
theorem len_rel {s : TS} {x : XS} {nl : Nat} {fl : Nat → Int32} (hnl : nl < 6) (hD : x.2.2.2 47 = nI nl) (hp : Pd t rl s (mTok t rl x.1)) :
    (∃ (a : TS) (d : Nat) (bl hc2 : Int32), d < 10 ∧ fLen t rl nl fl s = (true, a, nl + 1, row3 fl nl (nI d) bl (nI 0)) ∧ Pd t rl a (mGo t rl 4 x).1 ∧
      (mGo t rl 4 x).2 = (x.2.1, (x.2.2.1.1, x.2.2.1.2.1, hc2, (if x.2.2.1.2.2.2.toInt < (d : Int) then nI d else x.2.2.1.2.2.2)), upd (upd (upd x.2.2.2 (48 + 2 * nl) (nI d)) (48 + 2 * nl + 1) bl) 47 (nI (nl + 1))) ∧ s.1 < a.1 ∧
      (∀ n : Nat, n ≤ 16 → (hc2.toInt < (n : Int) ↔ (x.2.2.1.2.2.1.toInt < (n : Int) ∧ inR bl (2 ^ n))))) ∨
    (∃ (a : TS) (z : Nat × (Nat → Int32)), fLen t rl nl fl s = (false, a, z) ∧ Fl a (mGo t rl 4 x).1) := by
  obtain ⟨m, dd, ⟨tl, tc, hc, hd⟩, D⟩ := x
  obtain ⟨g1, g2⟩ := mGo_all (t := t) (rl := rl) (k := 4) (x := (m, dd, (tl, tc, hc, hd), D))
  have e0 : ∀ m1 : MS, (mLof t rl 4 (m1, dd, (tl, tc, hc, hd), D)) = ((mBl t rl (rl + 2) (nI 0) hc (mDay t rl hd m1).2.2).2.2, dd, (tl, tc, (mBl t rl (rl + 2) (nI 0) hc (mDay t rl hd m1).2.2).2.1, (mDay t rl hd m1).2.1),
      upd (upd (upd D (48 + 2 * vI (D 47)) (mDay t rl hd m1).1) (48 + 2 * vI (D 47) + 1) (mBl t rl (rl + 2) (nI 0) hc (mDay t rl hd m1).2.2).1) 47 (nI (vI (D 47) + 1))) := by
    intro m1
    show mL4 t rl _ = _
    simp only [mL4, mLens]
  have hD : D 47 = nI nl := hD
  rw [e0, hD, vI_nI (by omega)] at g1 g2
  rw [g1]
  try dsimp only at hp g1 g2 ⊢
  unfold fLen
  rw [if_pos hnl]
  have hs := hp.2.1
  rcases num_rel (lo := 0) (hi := 9) (by omega) hp with ⟨d, a, _, hd9, f1, f2, l1, m0, r1, p1, s1⟩ | ⟨a, f1, q1⟩
  · rw [bN_y (by omega) f1 f2]
    have n1 := day_y (t := t) (rl := rl) (hd := hd) (by omega) l1 m0
    rw [n1] at g2 ⊢
    dsimp only at g2 ⊢
    rcases bli_rel (nl := nl) (d := d) (fl := fl) (hc0 := hc) 17 (rl + 2) (nI 0) (nI 0) hc a _ p1 (fun _ => rfl) (by omega) (by rw [cnt_z]; omega) (fun n hn => ⟨fun q => ⟨q, inR_z (by omega)⟩, fun q => q.1⟩) with ⟨a2, bl, hc2, m2, b1, b2, b3, b4, b5, b6⟩ | ⟨a2, b1, b2⟩
    · rw [b2] at g2 ⊢
      dsimp only at g2 ⊢
      exact Or.inl ⟨a2, d, bl, hc2, by omega, b1, by rw [b3]; exact b4, g2 m0, by omega, b6⟩
    · exact Or.inr ⟨a2, (nl, fl), b1, Fl.tok b2⟩
  · rw [bN_n f1]
    refine Or.inr ⟨a, (nl, fl), rfl, ?_⟩
    have h2 : Fl a (mDay t rl hd (mTok t rl m)).2.2 := Fl.day0 q1
    rw [mBl_end (fun q => h2.ne q.1)]
    exact Fl.fin h2
end Tb

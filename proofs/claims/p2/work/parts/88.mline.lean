def mEnd (s : MS) : MS := if s.2.2.2.2.1 = 0 then (if s.2.2.1 = 3 then s else mF 2 s) else s
def mGo (t : Nat → Int32) (rl k : Nat) (x : XS) : XS :=
  if (mTok t rl x.1).2.2.2.2.1 = 0 then (mTok t rl (mEnd (mLof t rl k (mTok t rl x.1, x.2)).1), (mLof t rl k (mTok t rl x.1, x.2)).2) else (mTok t rl x.1, x.2)
theorem mGo_0 {t : Nat → Int32} {rl k : Nat} {x : XS} {a : MS} (he : a = mTok t rl x.1) (h : ¬ a.2.2.2.2.1 = 0) : mGo t rl k x = (a, x.2) := by
  subst he; exact if_neg h
theorem mGo_1 {t : Nat → Int32} {rl k : Nat} {x y : XS} {a b c : MS} (he : a = mTok t rl x.1) (h : a.2.2.2.2.1 = 0) (hy : y = mLof t rl k (a, x.2)) (hb : b = mEnd y.1) (hc : c = mTok t rl b) : mGo t rl k x = (c, y.2) := by
  subst he hc hb hy; exact if_pos h
abbrev mKd (t : Nat → Int32) (rl : Nat) (s : MS) : Int32 := if s.2.2.1 = 1 then mNow t rl s.1 s.2.1 else (-4)
abbrev xTl (x : XS) (tl : Int32) : XS := (x.1, x.2.1, (tl, x.2.2.1.2), x.2.2.2)
def mLk (t : Nat → Int32) (rl k : Nat) (x : XS) : XS :=
  if (k = 3 ∧ 10 ≤ vI (x.2.2.2 16)) ∨ (k = 4 ∧ 6 ≤ vI (x.2.2.2 47)) then (mF 5 x.1, x.2)
  else if k ≤ 1 then (if tdB x.2.2.1.1 k = nI 0 then mGo t rl k (xTl x (orB x.2.2.1.1 k)) else (mF 4 x.1, (xTl x (orB x.2.2.1.1 k)).2))
  else mGo t rl k x
def mLine (t : Nat → Int32) (rl : Nat) (x : XS) : XS := if mKd t rl x.1 = (-4) then (mF 2 x.1, x.2) else mLk t rl (vI (mKd t rl x.1)) x
theorem mLine_k {t : Nat → Int32} {rl j : Nat} {x : XS} (hj : j < 5) (hK : mKd t rl x.1 = nI j) : mLine t rl x = mLk t rl j x := by
  unfold mLine
  rw [hK, vI_nI (by omega)]
  refine if_neg (fun q => ?_)
  have h1 := congrArg Int32.toInt q
  rw [nI_toInt (by omega)] at h1
  have h2 : (-4 : Int32).toInt = -4 := by decide
  omega
theorem mL0_ok {t : Nat → Int32} {rl : Nat} {x : XS} (h : mOk rl x.1) : mOk rl (mL0 t rl x).1 ∧ x.1.1 ≤ (mL0 t rl x).1.1 := by
  have h1 := mNum_ok (t := t) (lo := 2) (hi := 4) h
  have h2 := mNum_ok (t := t) (lo := 2) (hi := 4) h1.1
  exact ⟨h2.1, Nat.le_trans h1.2 h2.2⟩
theorem mL1_ok {t : Nat → Int32} {rl : Nat} {x : XS} (h : mOk rl x.1) : mOk rl (mL1 t rl x).1 ∧ x.1.1 ≤ (mL1 t rl x).1.1 := mNum_ok h
theorem mL2_ok {t : Nat → Int32} {rl : Nat} {x : XS} (h : mOk rl x.1) : mOk rl (mL2 t rl x).1 ∧ x.1.1 ≤ (mL2 t rl x).1.1 := by
  have h1 := mCel_ok (t := t) (sm := x.2.2.1.2.1) (hc := x.2.2.1.2.2.1) h
  have h2 := mNum_ok (t := t) (lo := 0) (hi := 5) h1.1
  exact ⟨h2.1, Nat.le_trans h1.2.1 h2.2⟩
theorem mL3_ok {t : Nat → Int32} {rl : Nat} {x : XS} (h : mOk rl x.1) : mOk rl (mL3 t rl x).1 ∧ x.1.1 ≤ (mL3 t rl x).1.1 := by
  have h0 : mOk rl (mdA t rl x).2.2 ∧ x.1.1 ≤ (mdA t rl x).2.2.1 := mDay_ok h
  generalize hd : mdA t rl x = d at h0
  have h1 : mOk rl (mCel t rl (nI 0) x.2.2.1.2.2.1 d.2.2).2.2 ∧ d.2.2.1 ≤ (mCel t rl (nI 0) x.2.2.1.2.2.1 d.2.2).2.2.1 := ⟨(mCel_ok h0.1).1, (mCel_ok h0.1).2.1⟩
  have e1 : mcA t rl x = mCel t rl (nI 0) x.2.2.1.2.2.1 d.2.2 := by rw [← hd]
  rw [← e1] at h1
  generalize hc : mcA t rl x = c at h1
  have h2 : mOk rl (mNum t rl 0 5 c.2.2).2 ∧ c.2.2.1 ≤ (mNum t rl 0 5 c.2.2).2.1 := mNum_ok h1.1
  have e2 : mvA t rl x = mNum t rl 0 5 c.2.2 := by rw [← hc]
  rw [← e2] at h2
  have e3 : (mL3 t rl x).1 = (mvA t rl x).2 := by unfold mL3; dsimp only
  rw [e3]
  exact ⟨h2.1, Nat.le_trans h0.2 (Nat.le_trans h1.2 h2.2)⟩
theorem mL4_ok {t : Nat → Int32} {rl : Nat} {x : XS} (h : mOk rl x.1) : mOk rl (mL4 t rl x).1 ∧ x.1.1 ≤ (mL4 t rl x).1.1 := mLens_ok (D := x.2.2.2) h
theorem mLof_ok {t : Nat → Int32} {rl k : Nat} {x : XS} (h : mOk rl x.1) : mOk rl (mLof t rl k x).1 ∧ x.1.1 ≤ (mLof t rl k x).1.1 := by
  match k with
  | 0 => exact mL0_ok h
  | 1 => exact mL1_ok h
  | 2 => exact mL2_ok h
  | 3 => exact mL3_ok h
  | _ + 4 => exact mL4_ok h
theorem mTok_ok0 {t : Nat → Int32} {rl : Nat} {s : MS} (h : s.1 ≤ rl) (h0 : s.2.2.2.2.1 = 0) : mOk rl (mTok t rl s) := by
  have h1 : ruE isSp t rl s.1 ≤ rl := ruF_le _ _ h
  rw [show mTok t rl s = mTk t rl (ruE isSp t rl s.1) s from if_pos h0]
  generalize ruE isSp t rl s.1 = q at *
  unfold mTk
  have h6 : s.2.2.2.2.1 ≤ 6 := by omega
  split
  · exact ⟨h1, h6, (show 0 ≤ 3 by omega), Nat.le_refl _⟩
  · split
    · exact ⟨ruF_le _ _ h1, h6, (show 1 ≤ 3 by omega), ruF_ge _ _⟩
    · split
      · split
        · exact ⟨ruF_le _ _ h1, h6, (show 2 ≤ 3 by omega), ruF_ge _ _⟩
        · exact ⟨ruF_le _ _ h1, (show 1 ≤ 6 by omega), (show 2 ≤ 3 by omega), ruF_ge _ _⟩
      · split
        · exact ⟨(show q + 1 ≤ rl by omega), h6, (show 3 ≤ 3 by omega), (show q ≤ q + 1 by omega)⟩
        · exact ⟨(show q + 1 ≤ rl by omega), (show 1 ≤ 6 by omega), (show 3 ≤ 3 by omega), (show q ≤ q + 1 by omega)⟩
theorem mEnd_ok {rl : Nat} {s : MS} (h : mOk rl s) : mOk rl (mEnd s) ∧ (mEnd s).1 = s.1 := by
  unfold mEnd
  split
  · split
    · exact ⟨h, rfl⟩
    · exact ⟨mF_ok (by omega) h, rfl⟩
  · exact ⟨h, rfl⟩
abbrev xRest (d : Nat × Nat × Nat) (D : Nat → Int32) : Prop := (d.1 ≤ 4 ∧ d.2.1 ≤ 4 ∧ d.2.2 ≤ 9) ∧ inR (D 16) 11 ∧ inR (D 47) 7
def xOk (rl : Nat) (x : XS) : Prop := mOk rl x.1 ∧ xRest x.2.1 x.2.2.2
theorem vI_le {lo hi : Nat} {s : MS} (hh : hi < 1000) : vI (mLoo lo hi s).1 ≤ hi := by
  obtain ⟨k, hk, e⟩ := mLoo_val (lo := lo) (s := s) hh
  rw [e, vI_nI (by omega)]; exact hk
theorem mLof_rest {t : Nat → Int32} {rl k : Nat} {x : XS} (h : xRest x.2.1 x.2.2.2) (h3 : k = 3 → vI (x.2.2.2 16) < 10) (h4 : 4 ≤ k → vI (x.2.2.2 47) < 6) : xRest (mLof t rl k x).2.1 (mLof t rl k x).2.2.2 := by
  match k, h3, h4 with
  | 0, h3, h4 =>
    have e : (mLof t rl 0 x).2 = ((vI (mNum t rl 2 4 x.1).1, vI (mNum t rl 2 4 (mNum t rl 2 4 x.1).2).1, x.2.1.2.2), x.2.2) := by rw [mLof, mL0]
    rw [e]
    exact ⟨⟨vI_le (by omega), vI_le (by omega), h.1.2.2⟩, h.2⟩
  | 1, h3, h4 =>
    have e : (mLof t rl 1 x).2 = ((x.2.1.1, x.2.1.2.1, vI (mNum t rl 0 9 x.1).1), x.2.2) := by rw [mLof, mL1]
    rw [e]
    exact ⟨⟨h.1.1, h.1.2.1, vI_le (by omega)⟩, h.2⟩
  | 2, h3, h4 =>
    have hv : vI (mCel t rl x.2.2.1.2.1 x.2.2.1.2.2.1 x.1).1 ≤ 15 := vI_le (by omega)
    refine ⟨?_, ?_⟩
    · have e : (mLof t rl 2 x).2.1 = x.2.1 := by rw [mLof, mL2]
      rw [e]; exact h.1
    · have e : (mLof t rl 2 x).2.2.2 = upd x.2.2.2 (vI (mCel t rl x.2.2.1.2.1 x.2.2.1.2.2.1 x.1).1) (mNum t rl 0 5 (mCel t rl x.2.2.1.2.1 x.2.2.1.2.2.1 x.1).2.2).1 := by rw [mLof, mL2]
      rw [e, upd_ne (by omega), upd_ne (by omega)]; exact h.2
  | 3, h3, h4 =>
    have h9 := h3 rfl
    refine ⟨?_, ?_⟩
    · have e : (mLof t rl 3 x).2.1 = x.2.1 := by rw [mLof, mL3]
      rw [e]; exact h.1
    · have e : (mLof t rl 3 x).2.2.2 = upd (upd (upd (upd x.2.2.2 (17 + 3 * vI (x.2.2.2 16)) (mdA t rl x).1) (17 + 3 * vI (x.2.2.2 16) + 1) (mcA t rl x).1) (17 + 3 * vI (x.2.2.2 16) + 2) (mvA t rl x).1) 16 (nI (vI (x.2.2.2 16) + 1)) := by rw [mLof, mL3]
      rw [e, upd_eq, upd_ne (by omega), upd_ne (by omega), upd_ne (by omega), upd_ne (by omega)]
      exact ⟨inR_nI (by omega) (by omega), h.2.2⟩
  | k + 4, h3, h4 =>
    have h9 := h4 (by omega)
    refine ⟨?_, ?_⟩
    · have e : (mLof t rl (k + 4) x).2.1 = x.2.1 := (show (mL4 t rl x).2.1 = x.2.1 by rw [mL4])
      rw [e]; exact h.1
    · have e : (mLof t rl (k + 4) x).2.2.2 = (mLens t rl x.2.2.1.2.2.1 x.2.2.1.2.2.2 x.2.2.2 x.1).2.2.2 := rfl
      rw [e]
      have e2 : (mLens t rl x.2.2.1.2.2.1 x.2.2.1.2.2.2 x.2.2.2 x.1).2.2.2 = upd (upd (upd x.2.2.2 (48 + 2 * vI (x.2.2.2 47)) (mDay t rl x.2.2.1.2.2.2 x.1).1) (48 + 2 * vI (x.2.2.2 47) + 1) (mBl t rl (rl + 2) (nI 0) x.2.2.1.2.2.1 (mDay t rl x.2.2.1.2.2.2 x.1).2.2).1) 47 (nI (vI (x.2.2.2 47) + 1)) := by rw [mLens]
      rw [e2, upd_eq, upd_ne (by omega), upd_ne (by omega), upd_ne (by omega)]
      exact ⟨h.2.1, inR_nI (by omega) (by omega)⟩
theorem mGo_ok {t : Nat → Int32} {rl k : Nat} {x : XS} (h : xOk rl x) (h3 : k = 3 → vI (x.2.2.2 16) < 10) (h4 : 4 ≤ k → vI (x.2.2.2 47) < 6) : xOk rl (mGo t rl k x) ∧ ((mGo t rl k x).1.2.2.2.2.1 = 0 → ¬ (mGo t rl k x).1.2.2.1 = 0 → x.1.1 + 1 ≤ (mGo t rl k x).1.1) := by
  have h1 := mTok_ok (t := t) h.1
  unfold mGo
  split
  · have h2 := mLof_ok (t := t) (k := k) (x := (mTok t rl x.1, x.2)) h1
    have h5 := mLof_rest (t := t) (rl := rl) (k := k) (x := (mTok t rl x.1, x.2)) h.2 h3 h4
    have h6 := mEnd_ok h2.1
    have h7 := mTok_ok (t := t) h6.1
    refine ⟨⟨h7, h5⟩, fun a b => ?_⟩
    have h8 := mTok_adv (t := t) (rl := rl) a b
    have h9 : (mTok t rl x.1).1 ≤ (mLof t rl k (mTok t rl x.1, x.2)).1.1 := h2.2
    have h10 := (mTok_bd (t := t) h.1.1).2
    rw [h6.2] at h8
    exact Nat.le_trans (Nat.succ_le_succ (Nat.le_trans h10 h9)) h8
  · rename_i hne
    exact ⟨⟨h1, h.2⟩, fun a b => absurd a hne⟩
theorem mLine_ok {t : Nat → Int32} {rl : Nat} {x : XS} (h : xOk rl x) : xOk rl (mLine t rl x) ∧ ((mLine t rl x).1.2.2.2.2.1 = 0 → ¬ (mLine t rl x).1.2.2.1 = 0 → x.1.1 + 1 ≤ (mLine t rl x).1.1) := by
  unfold mLine
  split
  · exact ⟨⟨mF_ok (by omega) h.1, h.2⟩, fun a _ => absurd a (show ¬ 2 = 0 by omega)⟩
  · have hk5 : vI (mKd t rl x.1) < 5 := by
      rename_i hn
      by_cases hs : x.1.2.2.1 = 1
      · rw [show mKd t rl x.1 = mNow t rl x.1.1 x.1.2.1 from if_pos hs] at hn ⊢
        obtain ⟨k, hk, e⟩ := mNow_val hn
        rw [e, vI_nI (by omega)]; exact hk
      · exact absurd (if_neg hs) hn
    generalize vI (mKd t rl x.1) = k at *
    unfold mLk
    split
    · exact ⟨⟨mF_ok (by omega) h.1, h.2⟩, fun a _ => absurd a (show ¬ 5 = 0 by omega)⟩
    · rename_i h5
      have a3 : k = 3 → vI (x.2.2.2 16) < 10 := fun q => Nat.lt_of_not_le (fun z => h5 (Or.inl ⟨q, z⟩))
      have a4 : 4 ≤ k → vI (x.2.2.2 47) < 6 := fun q => Nat.lt_of_not_le (fun z => h5 (Or.inr ⟨by omega, z⟩))
      split
      · split
        · exact mGo_ok (x := xTl x (orB x.2.2.1.1 k)) h a3 a4
        · exact ⟨⟨mF_ok (by omega) h.1, h.2⟩, fun a _ => absurd a (show ¬ 4 = 0 by omega)⟩
      · exact mGo_ok h a3 a4
/-- the lines one after another; n were read -/
def mLp (t : Nat → Int32) (rl : Nat) : Nat → XS → Nat → XS × Nat
  | 0, x, n => (x, n)
  | k + 1, x, n => if x.1.2.2.2.2.1 = 0 ∧ ¬ x.1.2.2.1 = 0 then mLp t rl k (mLine t rl x) (n + 1) else (x, n)
theorem mLp_end {t : Nat → Int32} {rl k n : Nat} {x : XS} (h : ¬ (x.1.2.2.2.2.1 = 0 ∧ ¬ x.1.2.2.1 = 0)) : mLp t rl k x n = (x, n) := by
  cases k with
  | zero => rfl
  | succ k => exact if_neg h
theorem mLp_go {t : Nat → Int32} {rl k n : Nat} {x y : XS} (hk : 1 ≤ k) (h : x.1.2.2.2.2.1 = 0 ∧ ¬ x.1.2.2.1 = 0) (hy : y = mLine t rl x) : mLp t rl k x n = mLp t rl (k - 1) y (n + 1) := by
  obtain ⟨k, rfl⟩ : ∃ j, k = j + 1 := ⟨k - 1, by omega⟩
  subst hy; exact if_pos h
abbrev mThere (x : XS) : Prop := x.2.2.1.2.2.1.toInt < ((x.2.1.1 * x.2.1.2.1 : Nat) : Int) ∧ x.2.2.1.2.2.2.toInt ≤ (x.2.1.2.2 : Int)
def mFin (x : XS) : Nat × Int32 := if x.1.2.2.2.2.1 = 0 ∧ ¬ mThere x then (6, nI x.1.2.1) else (x.1.2.2.2.2.1, x.1.2.2.2.2.2)

def mEnd (s : MS) : MS := if s.2.2.2.2.1 = 0 then (if s.2.2.1 = 3 then s else mF 2 s) else s
def mGo (t : Nat → Int32) (rl k : Nat) (x : XS) : XS :=
  if (mTok t rl x.1).2.2.2.2.1 = 0 then (mTok t rl (mEnd (mLof t rl k (mTok t rl x.1, x.2)).1), (mLof t rl k (mTok t rl x.1, x.2)).2) else (mTok t rl x.1, x.2)
theorem mGo_0 {t : Nat → Int32} {rl k : Nat} {x : XS} {a : MS} (he : a = mTok t rl x.1) (h : ¬ a.2.2.2.2.1 = 0) : mGo t rl k x = (a, x.2) := by
  subst he; exact if_neg h
theorem mGo_1 {t : Nat → Int32} {rl k : Nat} {x y : XS} {a b c : MS} (he : a = mTok t rl x.1) (h : a.2.2.2.2.1 = 0) (hy : y = mLof t rl k (a, x.2)) (hb : b = mEnd y.1) (hc : c = mTok t rl b) : mGo t rl k x = (c, y.2) := by
  subst he hc hb hy; exact if_pos h
abbrev mKd (t : Nat → Int32) (rl : Nat) (s : MS) : Int32 := if s.2.2.1 = 1 then mNow t rl s.1 s.2.1 else (-4)
abbrev xTl (x : XS) (tl : Int32) : XS := (x.1, x.2.1, (tl, x.2.2.1.2), x.2.2.2)
def mLk (t : Nat → Int32) (rl k : Nat) (x : XS) : XS :=
  if (k = 3 ∧ 10 ≤ vI (x.2.2.2 16)) ∨ (k = 4 ∧ 6 ≤ vI (x.2.2.2 47)) then (mF 5 x.1, x.2)
  else if k ≤ 1 then (if tdB x.2.2.1.1 k = nI 0 then mGo t rl k (xTl x (orB x.2.2.1.1 k)) else (mF 4 x.1, (xTl x (orB x.2.2.1.1 k)).2))
  else mGo t rl k x
def mLine (t : Nat → Int32) (rl : Nat) (x : XS) : XS := if mKd t rl x.1 = (-4) then (mF 2 x.1, x.2) else mLk t rl (vI (mKd t rl x.1)) x
theorem mLine_k {t : Nat → Int32} {rl j : Nat} {x : XS} (hj : j < 5) (hK : mKd t rl x.1 = nI j) : mLine t rl x = mLk t rl j x := by
  unfold mLine
  rw [hK, vI_nI (by omega)]
  refine if_neg (fun q => ?_)
  have h1 := congrArg Int32.toInt q
  rw [nI_toInt (by omega)] at h1
  have h2 : (-4 : Int32).toInt = -4 := by decide
  omega
theorem mL0_ok {t : Nat → Int32} {rl : Nat} {x : XS} (h : mOk rl x.1) : mOk rl (mL0 t rl x).1 ∧ x.1.1 ≤ (mL0 t rl x).1.1 := by
  have h1 := mNum_ok (t := t) (lo := 2) (hi := 4) h
  have h2 := mNum_ok (t := t) (lo := 2) (hi := 4) h1.1
  exact ⟨h2.1, Nat.le_trans h1.2 h2.2⟩
theorem mL1_ok {t : Nat → Int32} {rl : Nat} {x : XS} (h : mOk rl x.1) : mOk rl (mL1 t rl x).1 ∧ x.1.1 ≤ (mL1 t rl x).1.1 := mNum_ok h
theorem mL2_ok {t : Nat → Int32} {rl : Nat} {x : XS} (h : mOk rl x.1) : mOk rl (mL2 t rl x).1 ∧ x.1.1 ≤ (mL2 t rl x).1.1 := by
  have h1 := mCel_ok (t := t) (sm := x.2.2.1.2.1) (hc := x.2.2.1.2.2.1) h
  have h2 := mNum_ok (t := t) (lo := 0) (hi := 5) h1.1
  exact ⟨h2.1, Nat.le_trans h1.2.1 h2.2⟩
theorem mL3_ok {t : Nat → Int32} {rl : Nat} {x : XS} (h : mOk rl x.1) : mOk rl (mL3 t rl x).1 ∧ x.1.1 ≤ (mL3 t rl x).1.1 := by
  have h0 : mOk rl (mdA t rl x).2.2 ∧ x.1.1 ≤ (mdA t rl x).2.2.1 := mDay_ok h
  generalize hd : mdA t rl x = d at h0
  have h1 : mOk rl (mCel t rl (nI 0) x.2.2.1.2.2.1 d.2.2).2.2 ∧ d.2.2.1 ≤ (mCel t rl (nI 0) x.2.2.1.2.2.1 d.2.2).2.2.1 := ⟨(mCel_ok h0.1).1, (mCel_ok h0.1).2.1⟩
  have e1 : mcA t rl x = mCel t rl (nI 0) x.2.2.1.2.2.1 d.2.2 := by rw [← hd]
  rw [← e1] at h1
  generalize hc : mcA t rl x = c at h1
  have h2 : mOk rl (mNum t rl 0 5 c.2.2).2 ∧ c.2.2.1 ≤ (mNum t rl 0 5 c.2.2).2.1 := mNum_ok h1.1
  have e2 : mvA t rl x = mNum t rl 0 5 c.2.2 := by rw [← hc]
  rw [← e2] at h2
  have e3 : (mL3 t rl x).1 = (mvA t rl x).2 := by unfold mL3; dsimp only
  rw [e3]
  exact ⟨h2.1, Nat.le_trans h0.2 (Nat.le_trans h1.2 h2.2)⟩
theorem mL4_ok {t : Nat → Int32} {rl : Nat} {x : XS} (h : mOk rl x.1) : mOk rl (mL4 t rl x).1 ∧ x.1.1 ≤ (mL4 t rl x).1.1 := mLens_ok (D := x.2.2.2) h
theorem mLof_ok {t : Nat → Int32} {rl k : Nat} {x : XS} (h : mOk rl x.1) : mOk rl (mLof t rl k x).1 ∧ x.1.1 ≤ (mLof t rl k x).1.1 := by
  match k with
  | 0 => exact mL0_ok h
  | 1 => exact mL1_ok h
  | 2 => exact mL2_ok h
  | 3 => exact mL3_ok h
  | _ + 4 => exact mL4_ok h

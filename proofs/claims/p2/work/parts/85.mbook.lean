def mOk (rl : Nat) (s : MS) : Prop := s.1 ≤ rl ∧ s.2.2.2.2.1 ≤ 6 ∧ s.2.2.1 ≤ 3 ∧ s.2.1 ≤ s.1
theorem mTok_ok {t : Nat → Int32} {rl : Nat} {s : MS} (h : mOk rl s) : mOk rl (mTok t rl s) := ⟨(mTok_bd h.1).1, mTok_ft h.2.1, (mTok_so h.2.2.1 h.2.2.2).1, (mTok_so h.2.2.1 h.2.2.2).2⟩
theorem mF_ok {rl c : Nat} {s : MS} (hc : c ≤ 6) (h : mOk rl s) : mOk rl (mF c s) := ⟨h.1, hc, h.2.2⟩
theorem mLoo_ok {rl lo hi : Nat} {s : MS} (h : mOk rl s) : mOk rl (mLoo lo hi s).2 := by
  unfold mLoo
  split
  · split
    · split
      · exact h
      · exact mF_ok (by omega) h
    · exact mF_ok (by omega) h
  · exact h
theorem mLoo_ge {lo hi : Nat} {s : MS} : (mLoo lo hi s).2.1 = s.1 := mLoo_bd.1
theorem mBut_ok {rl : Nat} {sm : Int32} {q : Int32 × MS} (h : mOk rl q.2) : mOk rl (mBut sm q) := by
  unfold mBut
  split
  · split
    · exact h
    · exact mF_ok (by omega) h
  · exact h
theorem mNum_ok {t : Nat → Int32} {rl lo hi : Nat} {s : MS} (h : mOk rl s) : mOk rl (mNum t rl lo hi s).2 ∧ s.1 ≤ (mNum t rl lo hi s).2.1 := by
  have h1 := mLoo_ok (lo := lo) (hi := hi) h
  refine ⟨mTok_ok h1, ?_⟩
  have h2 := (mTok_bd (t := t) h1.1).2
  rw [mLoo_ge] at h2
  exact h2
theorem mDay_ok {t : Nat → Int32} {rl : Nat} {hd : Int32} {s : MS} (h : mOk rl s) : mOk rl (mDay t rl hd s).2.2 ∧ s.1 ≤ (mDay t rl hd s).2.2.1 := by
  have h1 := mLoo_ok (lo := 0) (hi := 9) h
  refine ⟨mTok_ok h1, ?_⟩
  have h2 := (mTok_bd (t := t) h1.1).2
  rw [mLoo_ge] at h2
  exact h2
theorem mCel_ok {t : Nat → Int32} {rl : Nat} {sm hc : Int32} {s : MS} (h : mOk rl s) : mOk rl (mCel t rl sm hc s).2.2 ∧ s.1 ≤ (mCel t rl sm hc s).2.2.1 ∧ ((mCel t rl sm hc s).2.2.2.2.2.2.1 = 0 → ¬ (mCel t rl sm hc s).2.2.2.2.1 = 0 → s.1 + 1 ≤ (mCel t rl sm hc s).2.2.1) := by
  have h1 := mLoo_ok (lo := 0) (hi := 15) h
  have h2 := mBut_ok (sm := sm) h1
  have h3 : (mBut sm (mLoo 0 15 s)).1 = s.1 := mBut_bd.1.trans mLoo_ge
  have h4 := (mTok_bd (t := t) h2.1).2
  refine ⟨mTok_ok h2, ?_, fun a b => ?_⟩
  · rw [h3] at h4; exact h4
  · have h5 := mTok_adv (t := t) (rl := rl) (s := mBut sm (mLoo 0 15 s)) a b
    rw [h3] at h5; exact h5
theorem mBl_ok {t : Nat → Int32} {rl : Nat} : ∀ (k : Nat) (acc hc : Int32) (s : MS), mOk rl s → mOk rl (mBl t rl k acc hc s).2.2 ∧ s.1 ≤ (mBl t rl k acc hc s).2.2.1 := by
  intro k
  induction k with
  | zero => intro acc hc s h; exact ⟨h, Nat.le_refl _⟩
  | succ k ih =>
    intro acc hc s h
    rw [mBl]
    split
    · have h1 := mCel_ok (t := t) (sm := acc) (hc := hc) h
      have h2 := ih (acc ||| (if (mCel t rl acc hc s).2.2.2.2.2.2.1 = 0 then nI 1 <<< ((mCel t rl acc hc s).1 &&& 31) else nI 0)) (mCel t rl acc hc s).2.1 (mCel t rl acc hc s).2.2 h1.1
      exact ⟨h2.1, Nat.le_trans h1.2.1 h2.2⟩
    · exact ⟨h, Nat.le_refl _⟩
def mLens (t : Nat → Int32) (rl : Nat) (hc hd : Int32) (D : Nat → Int32) (s : MS) : MS × Int32 × Int32 × (Nat → Int32) :=
  ((mBl t rl (rl + 2) (nI 0) hc (mDay t rl hd s).2.2).2.2, (mBl t rl (rl + 2) (nI 0) hc (mDay t rl hd s).2.2).2.1, (mDay t rl hd s).2.1,
    upd (upd (upd D (48 + 2 * vI (D 47)) (mDay t rl hd s).1) (48 + 2 * vI (D 47) + 1) (mBl t rl (rl + 2) (nI 0) hc (mDay t rl hd s).2.2).1) 47 (nI (vI (D 47) + 1)))
theorem mLens_ok {t : Nat → Int32} {rl : Nat} {hc hd : Int32} {D : Nat → Int32} {s : MS} (h : mOk rl s) : mOk rl (mLens t rl hc hd D s).1 ∧ s.1 ≤ (mLens t rl hc hd D s).1.1 := by
  have h1 := mDay_ok (t := t) (hd := hd) h
  have h2 := mBl_ok (t := t) (rl + 2) (nI 0) hc _ h1.1
  exact ⟨h2.1, Nat.le_trans h1.2 h2.2⟩
/-- all that the reference's reader changes: its token; wide, high, last; told lines, told cells, highest cell, highest day; the draft -/
abbrev XS : Type := MS × (Nat × Nat × Nat) × (Int32 × Int32 × Int32 × Int32) × (Nat → Int32)
def mL0 (t : Nat → Int32) (rl : Nat) (x : XS) : XS := ((mNum t rl 2 4 (mNum t rl 2 4 x.1).2).2, (vI (mNum t rl 2 4 x.1).1, vI (mNum t rl 2 4 (mNum t rl 2 4 x.1).2).1, x.2.1.2.2), x.2.2)
def mL1 (t : Nat → Int32) (rl : Nat) (x : XS) : XS := ((mNum t rl 0 9 x.1).2, (x.2.1.1, x.2.1.2.1, vI (mNum t rl 0 9 x.1).1), x.2.2)
def mL2 (t : Nat → Int32) (rl : Nat) (x : XS) : XS :=
  ((mNum t rl 0 5 (mCel t rl x.2.2.1.2.1 x.2.2.1.2.2.1 x.1).2.2).2, x.2.1,
    (x.2.2.1.1, x.2.2.1.2.1 ||| (nI 1 <<< ((mCel t rl x.2.2.1.2.1 x.2.2.1.2.2.1 x.1).1 &&& 31)), (mCel t rl x.2.2.1.2.1 x.2.2.1.2.2.1 x.1).2.1, x.2.2.1.2.2.2),
    upd x.2.2.2 (vI (mCel t rl x.2.2.1.2.1 x.2.2.1.2.2.1 x.1).1) (mNum t rl 0 5 (mCel t rl x.2.2.1.2.1 x.2.2.1.2.2.1 x.1).2.2).1)
abbrev mdA (t : Nat → Int32) (rl : Nat) (x : XS) : Int32 × Int32 × MS := mDay t rl x.2.2.1.2.2.2 x.1
abbrev mcA (t : Nat → Int32) (rl : Nat) (x : XS) : Int32 × Int32 × MS := mCel t rl (nI 0) x.2.2.1.2.2.1 (mdA t rl x).2.2
abbrev mvA (t : Nat → Int32) (rl : Nat) (x : XS) : Int32 × MS := mNum t rl 0 5 (mcA t rl x).2.2
def mL3 (t : Nat → Int32) (rl : Nat) (x : XS) : XS :=
  ((mvA t rl x).2, x.2.1, (x.2.2.1.1, x.2.2.1.2.1, (mcA t rl x).2.1, (mdA t rl x).2.1),
    upd (upd (upd (upd x.2.2.2 (17 + 3 * vI (x.2.2.2 16)) (mdA t rl x).1) (17 + 3 * vI (x.2.2.2 16) + 1) (mcA t rl x).1) (17 + 3 * vI (x.2.2.2 16) + 2) (mvA t rl x).1) 16 (nI (vI (x.2.2.2 16) + 1)))
def mL4 (t : Nat → Int32) (rl : Nat) (x : XS) : XS :=
  ((mLens t rl x.2.2.1.2.2.1 x.2.2.1.2.2.2 x.2.2.2 x.1).1, x.2.1, (x.2.2.1.1, x.2.2.1.2.1, (mLens t rl x.2.2.1.2.2.1 x.2.2.1.2.2.2 x.2.2.2 x.1).2.1, (mLens t rl x.2.2.1.2.2.1 x.2.2.1.2.2.2 x.2.2.2 x.1).2.2.1), (mLens t rl x.2.2.1.2.2.1 x.2.2.1.2.2.2 x.2.2.2 x.1).2.2.2)
def mLof (t : Nat → Int32) (rl : Nat) : Nat → XS → XS
  | 0, x => mL0 t rl x
  | 1, x => mL1 t rl x
  | 2, x => mL2 t rl x
  | 3, x => mL3 t rl x
  | _, x => mL4 t rl x

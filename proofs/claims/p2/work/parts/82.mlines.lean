def mF (c : Nat) (s : MS) : MS := (s.1, s.2.1, s.2.2.1, s.2.2.2.1, c, nI s.2.1)
def mLoo (lo hi : Nat) (s : MS) : Int32 × MS :=
  if s.2.2.2.2.1 = 0 then (if s.2.2.1 = 2 then (if (lo : Int) ≤ s.2.2.2.1.toInt ∧ s.2.2.2.1.toInt ≤ (hi : Int) then (s.2.2.2.1, s) else (nI 0, mF 3 s)) else (nI 0, mF 2 s)) else (nI 0, s)
theorem mLoo_val {lo hi : Nat} {s : MS} (hh : hi < 1000) : ∃ k, k ≤ hi ∧ (mLoo lo hi s).1 = nI k := by
  unfold mLoo
  split
  · split
    · split
      · rename_i h
        obtain ⟨k, hk, he⟩ := inR_nat (x := s.2.2.2.1) (n := hi + 1) (by unfold inR; omega)
        exact ⟨k, by omega, he⟩
      · exact ⟨0, Nat.zero_le _, rfl⟩
    · exact ⟨0, Nat.zero_le _, rfl⟩
  · exact ⟨0, Nat.zero_le _, rfl⟩
theorem mLoo_bd {lo hi : Nat} {s : MS} : (mLoo lo hi s).2.1 = s.1 ∧ (s.2.2.2.2.1 ≤ 6 → (mLoo lo hi s).2.2.2.2.2.1 ≤ 6) := by
  unfold mLoo
  split
  · split
    · split
      · exact ⟨rfl, fun h => h⟩
      · exact ⟨rfl, fun _ => (show 3 ≤ 6 by omega)⟩
    · exact ⟨rfl, fun _ => (show 2 ≤ 6 by omega)⟩
  · exact ⟨rfl, fun h => h⟩
theorem mTok_ft {t : Nat → Int32} {rl : Nat} {s : MS} (h : s.2.2.2.2.1 ≤ 6) : (mTok t rl s).2.2.2.2.1 ≤ 6 := by
  unfold mTok
  split
  · unfold mTk
    split
    · exact h
    · split
      · exact h
      · split
        · split
          · exact h
          · exact (show 1 ≤ 6 by omega)
        · split
          · exact h
          · exact (show 1 ≤ 6 by omega)
  · exact h
def mNum (t : Nat → Int32) (rl lo hi : Nat) (s : MS) : Int32 × MS := ((mLoo lo hi s).1, mTok t rl (mLoo lo hi s).2)
def mDay (t : Nat → Int32) (rl : Nat) (hd : Int32) (s : MS) : Int32 × Int32 × MS :=
  ((mLoo 0 9 s).1, (if (mLoo 0 9 s).2.2.2.2.2.1 = 0 ∧ hd.toInt < (mLoo 0 9 s).1.toInt then (mLoo 0 9 s).1 else hd), mTok t rl (mLoo 0 9 s).2)
def mBut (some : Int32) (q : Int32 × MS) : MS := if q.2.2.2.2.2.1 = 0 then (if (some >>> (q.1 &&& 31)) &&& nI 1 = nI 0 then q.2 else mF 4 q.2) else q.2
def mCel (t : Nat → Int32) (rl : Nat) (some hc : Int32) (s : MS) : Int32 × Int32 × MS :=
  ((mLoo 0 15 s).1, (if (mBut some (mLoo 0 15 s)).2.2.2.2.1 = 0 ∧ hc.toInt < (mLoo 0 15 s).1.toInt then (mLoo 0 15 s).1 else hc), mTok t rl (mBut some (mLoo 0 15 s)))
theorem mBut_bd {some : Int32} {q : Int32 × MS} : (mBut some q).1 = q.2.1 ∧ (q.2.2.2.2.2.1 ≤ 6 → (mBut some q).2.2.2.2.1 ≤ 6) := by
  unfold mBut
  split
  · split
    · exact ⟨rfl, fun h => h⟩
    · exact ⟨rfl, fun _ => (show 4 ≤ 6 by omega)⟩
  · exact ⟨rfl, fun h => h⟩
theorem mNum_bd {t : Nat → Int32} {rl lo hi : Nat} {s : MS} (h : s.1 ≤ rl) (h6 : s.2.2.2.2.1 ≤ 6) : (mNum t rl lo hi s).2.1 ≤ rl ∧ (mNum t rl lo hi s).2.2.2.2.2.1 ≤ 6 := by
  have q := mLoo_bd (lo := lo) (hi := hi) (s := s)
  exact ⟨(mTok_bd (by rw [q.1]; exact h)).1, mTok_ft (q.2 h6)⟩
theorem mDay_bd {t : Nat → Int32} {rl : Nat} {hd : Int32} {s : MS} (h : s.1 ≤ rl) (h6 : s.2.2.2.2.1 ≤ 6) : (mDay t rl hd s).2.2.1 ≤ rl ∧ (mDay t rl hd s).2.2.2.2.2.2.1 ≤ 6 := by
  have q := mLoo_bd (lo := 0) (hi := 9) (s := s)
  exact ⟨(mTok_bd (by rw [q.1]; exact h)).1, mTok_ft (q.2 h6)⟩
theorem mCel_bd {t : Nat → Int32} {rl : Nat} {some hc : Int32} {s : MS} (h : s.1 ≤ rl) (h6 : s.2.2.2.2.1 ≤ 6) : (mCel t rl some hc s).2.2.1 ≤ rl ∧ (mCel t rl some hc s).2.2.2.2.2.2.1 ≤ 6 := by
  have q := mLoo_bd (lo := 0) (hi := 15) (s := s)
  have q2 := mBut_bd (some := some) (q := mLoo 0 15 s)
  exact ⟨(mTok_bd (by rw [q2.1, q.1]; exact h)).1, mTok_ft (q2.2 (q.2 h6))⟩
abbrev mIs (t : Nat → Int32) (rl ps fr n a b c d : Nat) : Prop := (ps - fr = n ∧ byF t rl fr = nI a ∧ byF t rl (fr + 1) = nI b ∧ byF t rl (fr + 2) = nI c ∧ byF t rl (fr + 3) = nI d)
def mNow (t : Nat → Int32) (rl ps fr : Nat) : Int32 :=
  if mIs t rl ps fr 5 104 111 117 115 ∧ byF t rl (fr + 4) = nI 101 then nI 0 else if mIs t rl ps fr 4 108 97 115 116 then nI 1 else if mIs t rl ps fr 4 99 101 108 108 then nI 2
  else if mIs t rl ps fr 4 116 117 114 110 then nI 3 else if mIs t rl ps fr 4 108 101 110 115 then nI 4 else (-4)
theorem mNow_val {t : Nat → Int32} {rl ps fr : Nat} (h : ¬ mNow t rl ps fr = (-4)) : ∃ k, k < 5 ∧ mNow t rl ps fr = nI k := by
  unfold mNow at h ⊢
  split
  · exact ⟨0, by omega, rfl⟩
  · rename_i h0
    rw [if_neg h0] at h
    split
    · exact ⟨1, by omega, rfl⟩
    · rename_i h1
      rw [if_neg h1] at h
      split
      · exact ⟨2, by omega, rfl⟩
      · rename_i h2
        rw [if_neg h2] at h
        split
        · exact ⟨3, by omega, rfl⟩
        · rename_i h3
          rw [if_neg h3] at h
          split
          · exact ⟨4, by omega, rfl⟩
          · rename_i h4
            rw [if_neg h4] at h
            exact absurd rfl h
abbrev vI (x : Int32) : Nat := x.toInt.toNat
theorem vI_nI {k : Nat} (h : k < 1000) : vI (nI k) = k := by
  show (nI k).toInt.toNat = k
  rw [nI_toInt (by omega)]; rfl
theorem upd_upd {f : Nat → Int32} {a : Nat} {x y : Int32} : upd (upd f a x) a y = upd f a y := by
  funext j; unfold upd
  by_cases h : j = a
  · rw [if_pos h, if_pos h]
  · rw [if_neg h, if_neg h, if_neg h]
/-- the blind cells of a lens -/
def mBl (t : Nat → Int32) (rl : Nat) : Nat → Int32 → Int32 → MS → Int32 × Int32 × MS
  | 0, acc, hc, s => (acc, hc, s)
  | k + 1, acc, hc, s => if s.2.2.2.2.1 = 0 ∧ s.2.2.1 = 2 then mBl t rl k (acc ||| (if (mCel t rl acc hc s).2.2.2.2.2.2.1 = 0 then nI 1 <<< ((mCel t rl acc hc s).1 &&& 31) else nI 0)) (mCel t rl acc hc s).2.1 (mCel t rl acc hc s).2.2 else (acc, hc, s)
theorem mBl_end {t : Nat → Int32} {rl k : Nat} {acc hc : Int32} {s : MS} (h : ¬ (s.2.2.2.2.1 = 0 ∧ s.2.2.1 = 2)) : mBl t rl k acc hc s = (acc, hc, s) := by
  cases k with
  | zero => rfl
  | succ k => exact if_neg h
theorem mBl_go {t : Nat → Int32} {rl k : Nat} {acc hc hc2 : Int32} {s s2 : MS} (hk : 1 ≤ k) (h : s.2.2.2.2.1 = 0 ∧ s.2.2.1 = 2) (he : (hc2, s2) = (mCel t rl acc hc s).2) : mBl t rl k acc hc s = mBl t rl (k - 1) (acc ||| (if s2.2.2.2.2.1 = 0 then nI 1 <<< ((mCel t rl acc hc s).1 &&& 31) else nI 0)) hc2 s2 := by
  obtain ⟨k, rfl⟩ : ∃ j, k = j + 1 := ⟨k - 1, by omega⟩
  have h1 : hc2 = (mCel t rl acc hc s).2.1 := congrArg (fun a => a.1) he
  have h2 : s2 = (mCel t rl acc hc s).2.2 := congrArg (fun a => a.2) he
  rw [h1, h2]
  exact if_pos h
theorem mTok_adv {t : Nat → Int32} {rl : Nat} {s : MS} (h0 : (mTok t rl s).2.2.2.2.1 = 0) (h1 : ¬ (mTok t rl s).2.2.1 = 0) : s.1 + 1 ≤ (mTok t rl s).1 := by
  have h2 : s.1 ≤ ruE isSp t rl s.1 := ruF_ge _ _
  by_cases hs : s.2.2.2.2.1 = 0
  · have e : mTok t rl s = mTk t rl (ruE isSp t rl s.1) s := if_pos hs
    rw [e] at h0 h1 ⊢
    generalize ruE isSp t rl s.1 = q at *
    unfold mTk at h0 h1 ⊢
    by_cases c1 : rl ≤ q
    · rw [if_pos c1] at h1; exact absurd rfl h1
    · rw [if_neg c1] at *
      by_cases c2 : isL (t q) = true
      · rw [if_pos c2] at *
        show s.1 + 1 ≤ ruE isL t rl q
        rw [ruF_go (by omega) c2]
        have : q + 1 ≤ ruE isL t rl (q + 1) := ruF_ge _ _
        omega
      · rw [if_neg c2] at *
        by_cases c3 : isD (t q) = true
        · rw [if_pos c3] at *
          have : q + 1 ≤ ruE isD t rl (q + 1) := ruF_ge _ _
          have hg := ruF_go (P := isD) (t := t) (rl := rl) (p := q) (by omega) c3
          split
          · show s.1 + 1 ≤ ruE isD t rl q
            rw [hg]; omega
          · show s.1 + 1 ≤ ruE isD t rl q
            rw [hg]; omega
        · rw [if_neg c3] at *
          split
          · show s.1 + 1 ≤ q + 1; omega
          · show s.1 + 1 ≤ q + 1; omega
  · have e : mTok t rl s = s := if_neg hs
    rw [e] at h0
    exact absurd h0 hs
theorem mTok_so {t : Nat → Int32} {rl : Nat} {s : MS} (h : s.2.2.1 ≤ 3) (hf : s.2.1 ≤ s.1) : (mTok t rl s).2.2.1 ≤ 3 ∧ (mTok t rl s).2.1 ≤ (mTok t rl s).1 := by
  unfold mTok
  split
  · unfold mTk
    split
    · exact ⟨(show 0 ≤ 3 by omega), Nat.le_refl _⟩
    · split
      · exact ⟨(show 1 ≤ 3 by omega), ruF_ge _ _⟩
      · split
        · split
          · exact ⟨(show 2 ≤ 3 by omega), ruF_ge _ _⟩
          · exact ⟨(show 2 ≤ 3 by omega), ruF_ge _ _⟩
        · split
          · exact ⟨(show 3 ≤ 3 by omega), Nat.le_succ _⟩
          · exact ⟨(show 3 ≤ 3 by omega), Nat.le_succ _⟩
  · exact ⟨h, hf⟩

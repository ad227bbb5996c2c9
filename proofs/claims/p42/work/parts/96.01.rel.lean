/-! bits and bounds -/
theorem inR_bits {x : Int32} {n : Nat} (hn : n < 31) : inR x (2 ^ n) ↔ ∀ i, n ≤ i → i < 32 → bt x i = false := by
  rw [← xu_shift x n hn]
  constructor
  · intro h i h1 h2
    have h4 : bt (xu x (nI n)) (i - n) = bt x (n + (i - n)) := b_ushr n (by omega) x (i - n)
    rw [h, b_0, show n + (i - n) = i by omega] at h4
    exact h4.symm
  · intro h
    refine b_ext (fun i hi => ?_)
    have h4 : bt (xu x (nI n)) i = bt x (n + i) := b_ushr n (by omega) x i
    rw [h4, b_0]
    rcases Nat.lt_or_ge (n + i) 32 with q | q
    · exact h _ (by omega) q
    · exact b_big q
theorem bt_orB {x : Int32} {c i : Nat} (hc : c < 32) (hi : i < 32) : bt (orB x c) i = (bt x i || decide (c = i)) := by
  show bt (x ||| xbit c) i = _
  rw [b_or, bt_xbit c hc i hi]
theorem inR_orB {x : Int32} {c n : Nat} (hc : c < 32) (hn : n < 31) : inR (orB x c) (2 ^ n) ↔ (inR x (2 ^ n) ∧ c < n) := by
  rw [inR_bits hn, inR_bits hn]
  constructor
  · intro h
    refine ⟨fun i h1 h2 => ?_, ?_⟩
    · have h3 := h i h1 h2
      rw [bt_orB hc h2] at h3
      exact (Bool.or_eq_false_iff.mp h3).1
    · rcases Nat.lt_or_ge c n with q | q
      · exact q
      · have h3 := h c q hc
        rw [bt_orB hc hc, decide_eq_true rfl, Bool.or_true] at h3
        cases h3
  · intro h i h1 h2
    rw [bt_orB hc h2, h.1 i h1 h2, decide_eq_false (by omega)]
    rfl
theorem tdB_bt {x : Int32} {c : Nat} (hc : c < 32) : tdB x c = nI 0 ↔ bt x c = false := bt_sshr1 hc
/-- how many bits: one more -/
theorem cntF_one {p : Nat → Bool} {c : Nat} : ∀ {n : Nat}, c < n → p c = false → cntF (fun j => p j || decide (c = j)) n = cntF p n + 1
  | 0, h, _ => absurd h (Nat.not_lt_zero c)
  | n + 1, h, hp => by
    rw [cntF, cntF]
    rcases Nat.lt_succ_iff_lt_or_eq.mp h with q | q
    · rw [cntF_one q hp, decide_eq_false (show ¬ c = n by omega), Bool.or_false]
      by_cases hn : p n = true
      · rw [if_pos hn, if_pos hn]
      · rw [if_neg hn, if_neg hn]
    · subst q
      have e : ∀ m, m ≤ c → cntF (fun j => p j || decide (c = j)) m = cntF p m := by
        intro m
        induction m with
        | zero => intro _; rfl
        | succ m ih =>
          intro hm
          rw [cntF, cntF, ih (by omega), decide_eq_false (show ¬ c = m by omega), Bool.or_false]
      rw [e c (Nat.le_refl _), decide_eq_true rfl, Bool.or_true, if_pos rfl, hp, if_neg (by decide)]
theorem cntF_congr {p q : Nat → Bool} : ∀ (n : Nat), (∀ i, i < n → p i = q i) → cntF p n = cntF q n
  | 0, _ => rfl
  | n + 1, h => by rw [cntF, cntF, cntF_congr n (fun i hi => h i (by omega)), h n (by omega)]
theorem cnt_orB {x : Int32} {c : Nat} (hc : c < 16) (h : tdB x c = nI 0) : cntF (fun j => bt (orB x c) j) 16 = cntF (fun j => bt x j) 16 + 1 := by
  rw [← cntF_one (p := fun j => bt x j) hc ((tdB_bt (by omega)).mp h)]
  exact cntF_congr 16 (fun i hi => bt_orB (by omega) (by omega))
/-! tokens -/
/-- the class is about to read the token that the reference has read -/
def Pd (t : Nat → Int32) (rl : Nat) (s : TS) (m : MS) : Prop := s.2.2.2.2.1 = nI 0 ∧ s.1 ≤ rl ∧ ∃ m0 : MS, m0.1 = s.1 ∧ m0.2.2.2.2.1 = 0 ∧ m = mTok t rl m0
/-- both have found the same fault -/
def Fl (s : TS) (m : MS) : Prop := ∃ c, ¬ c = 0 ∧ c ≤ 6 ∧ m.2.2.2.2.1 = c ∧ s.2.2.2.2.1 = nI c ∧ s.2.2.2.2.2 = m.2.2.2.2.2
section Tx
variable {t : Nat → Int32} {rl : Nat}
theorem kd_0 {q : Nat} (h : rl ≤ q) : kdT t rl q = 0 ∧ nxT t rl q = q := ⟨if_pos h, if_pos h⟩
theorem kd_3 {q : Nat} (h : ¬ rl ≤ q) (h3 : t q = nI 59) : kdT t rl q = 3 ∧ nxT t rl q = q + 1 := ⟨(if_neg h).trans (if_pos h3), (if_neg h).trans (if_pos h3)⟩
theorem kd_1 {q : Nat} (h : ¬ rl ≤ q) (h3 : ¬ t q = nI 59) (hL : isL (t q) = true) : kdT t rl q = 1 ∧ nxT t rl q = ruE isL t rl q := ⟨(if_neg h).trans ((if_neg h3).trans (if_pos hL)), (if_neg h).trans ((if_neg h3).trans (if_pos hL))⟩
theorem kd_2 {q : Nat} (h : ¬ rl ≤ q) (h3 : ¬ t q = nI 59) (hL : ¬ isL (t q) = true) : kdT t rl q = 2 ∧ nxT t rl q = ruE isD t rl q := ⟨(if_neg h).trans ((if_neg h3).trans (if_neg hL)), (if_neg h).trans ((if_neg h3).trans (if_neg hL))⟩
theorem ok_n {q : Nat} (h : ¬ kdT t rl q = 2) : okT t rl q = true := decide_eq_true (Or.inl h)
/-- what reading a token says on both sides -/
theorem tok_rel {s : TS} {m : MS} (h : Pd t rl s m) : ∃ a : TS, (fTok t rl s).2 = a ∧
    (((fTok t rl s).1 = true ∧ m.2.2.2.2.1 = 0 ∧ m.1 = a.1 ∧ m.2.1 = a.2.2.1 ∧ m.2.2.1 = a.2.1 ∧ (a.2.1 = 2 → m.2.2.2.1 = a.2.2.2.1) ∧ a.2.2.2.2.1 = nI 0 ∧ a.1 ≤ rl ∧ (¬ a.2.1 = 0 → s.1 < a.1)) ∨
     (¬ (fTok t rl s).1 = true ∧ Fl a m)) := by
  obtain ⟨nx, kd, sr, vl, fo, pl⟩ := s
  obtain ⟨hf, hs, ⟨ps, fr, so, mv, ft, wa⟩, h1, h0, hm⟩ := h
  have hf : fo = nI 0 := hf
  have hs : nx ≤ rl := hs
  have h1 : ps = nx := h1
  have h0 : ft = 0 := h0
  subst h1 h0 hf
  obtain ⟨q, hq⟩ : ∃ q, ruE isSp t rl ps = q := ⟨_, rfl⟩
  have hq1 : ps ≤ q := by rw [← hq]; exact ruF_ge _ _
  have hq2 : q ≤ rl := by rw [← hq]; exact ruF_le _ _ hs
  rw [mTok_1 rfl hq] at hm
  refine ⟨_, rfl, ?_⟩
  rw [fTok_eq hq]
  by_cases c0 : rl ≤ q
  · obtain ⟨k1, k2⟩ := kd_0 (t := t) c0
    have ko : okT t rl q = true := ok_n (by rw [k1]; decide)
    rw [mTk_0 c0] at hm
    subst hm
    rw [k1, k2, ko]
    exact Or.inl ⟨rfl, rfl, rfl, rfl, rfl, fun z => absurd z (show ¬ 0 = 2 by decide), rfl, hq2, fun z => absurd rfl z⟩
  · by_cases c3 : t q = nI 59
    · obtain ⟨k1, k2⟩ := kd_3 (t := t) c0 c3
      have ko : okT t rl q = true := ok_n (by rw [k1]; decide)
      rw [mTk_4 c0 (by rw [c3]; decide) (by rw [c3]; decide) c3] at hm
      subst hm
      rw [k1, k2, ko]
      exact Or.inl ⟨rfl, rfl, rfl, rfl, rfl, fun z => absurd z (show ¬ 3 = 2 by decide), rfl, (show q + 1 ≤ rl by omega), fun _ => (show ps < q + 1 by omega)⟩
    · by_cases cL : isL (t q) = true
      · obtain ⟨k1, k2⟩ := kd_1 (t := t) c0 c3 cL
        have ko : okT t rl q = true := ok_n (by rw [k1]; decide)
        have hr : ruE isL t rl q = ruE isL t rl (q + 1) := ruF_go (by omega) cL
        have hr2 : q + 1 ≤ ruE isL t rl (q + 1) := ruF_ge _ _
        have hr3 : ruE isL t rl q ≤ rl := ruF_le _ _ hq2
        rw [mTk_1 c0 cL rfl] at hm
        subst hm
        rw [k1, k2, ko]
        exact Or.inl ⟨rfl, rfl, rfl, rfl, rfl, fun z => absurd z (show ¬ 1 = 2 by decide), rfl, hr3, fun _ => (show ps < ruE isL t rl q by omega)⟩
      · obtain ⟨k1, k2⟩ := kd_2 (t := t) c0 c3 cL
        have hr3 : ruE isD t rl q ≤ rl := ruF_le _ _ hq2
        by_cases cD : isD (t q) = true
        · have hr : ruE isD t rl q = ruE isD t rl (q + 1) := ruF_go (by omega) cD
          have hr2 : q + 1 ≤ ruE isD t rl (q + 1) := ruF_ge _ _
          by_cases c2 : ruE isD t rl q - q ≤ 2
          · have ko : okT t rl q = true := decide_eq_true (Or.inr (by rw [k2]; omega))
            rw [mTk_2 c0 cL cD rfl c2] at hm
            subst hm
            rw [k1, k2, ko]
            refine Or.inl ⟨rfl, rfl, rfl, rfl, rfl, fun _ => ?_, rfl, hr3, fun _ => (show ps < ruE isD t rl q by omega)⟩
            show dvF t (min (ruE isD t rl q - q) 2) q (nI 0) = dvF t (ruE isD t rl q - q) q (nI 0)
            rw [show min (ruE isD t rl q - q) 2 = ruE isD t rl q - q by omega]
          · have ko : okT t rl q = false := decide_eq_false (by rw [k1, k2]; omega)
            rw [mTk_3 c0 cL cD rfl c2] at hm
            subst hm
            rw [k1, k2, ko]
            exact Or.inr ⟨(show ¬ false = true by decide), 1, by decide, by decide, rfl, rfl, rfl⟩
        · have hr : ruE isD t rl q = q := ruF_end (fun z => cD z.2)
          have ko : okT t rl q = false := decide_eq_false (by rw [k1, k2, hr]; omega)
          rw [mTk_5 c0 cL cD c3] at hm
          subst hm
          rw [k1, k2, ko]
          exact Or.inr ⟨(show ¬ false = true by decide), 1, by decide, by decide, rfl, rfl, rfl⟩
/-! the reference stays where it has found a fault -/
theorem mTok_st {m : MS} (h : ¬ m.2.2.2.2.1 = 0) : mTok t rl m = m := if_neg h
theorem mLoo_st {lo hi : Nat} {m : MS} (h : ¬ m.2.2.2.2.1 = 0) : mLoo lo hi m = (nI 0, m) := if_neg h
theorem mNum_st {lo hi : Nat} {m : MS} (h : ¬ m.2.2.2.2.1 = 0) : mNum t rl lo hi m = (nI 0, m) := by
  unfold mNum; rw [mLoo_st h]; exact congrArg (Prod.mk _) (mTok_st h)
theorem mNum_of {lo hi : Nat} {m m' : MS} {v : Int32} (h : mLoo lo hi m = (v, m')) : mNum t rl lo hi m = (v, mTok t rl m') := by
  unfold mNum; rw [h]
theorem mDay_st {hd : Int32} {m : MS} (h : ¬ m.2.2.2.2.1 = 0) : (mDay t rl hd m).2.2 = m := by
  unfold mDay; rw [mLoo_st h]; exact mTok_st h
theorem mCel_st {sm hc : Int32} {m : MS} (h : ¬ m.2.2.2.2.1 = 0) : (mCel t rl sm hc m).2.2 = m := by
  unfold mCel mBut
  rw [mLoo_st h, if_neg h]
  exact mTok_st h
theorem mEnd_st {m : MS} (h : ¬ m.2.2.2.2.1 = 0) : mEnd m = m := if_neg h
theorem mLof_st {k : Nat} {m : MS} {y : (Nat × Nat × Nat) × (Int32 × Int32 × Int32 × Int32) × (Nat → Int32)} (h : ¬ m.2.2.2.2.1 = 0) : (mLof t rl k (m, y)).1 = m := by
  match k with
  | 0 =>
    show (mNum t rl 2 4 (mNum t rl 2 4 m).2).2 = m
    rw [mNum_st h, mNum_st h]
  | 1 =>
    show (mNum t rl 0 9 m).2 = m
    rw [mNum_st h]
  | 2 =>
    show (mNum t rl 0 5 (mCel t rl y.2.1.2.1 y.2.1.2.2.1 m).2.2).2 = m
    rw [mCel_st h, mNum_st h]
  | 3 =>
    show (mL3 t rl (m, y)).1 = m
    have e1 : (mdA t rl (m, y)).2.2 = m := mDay_st h
    have e2 : (mcA t rl (m, y)).2.2 = m := by unfold mcA; rw [e1]; exact mCel_st h
    unfold mL3 mvA
    rw [e2]
    exact congrArg Prod.snd (mNum_st h)
  | k + 4 =>
    show (mLens t rl y.2.1.2.2.1 y.2.1.2.2.2 y.2.2 m).1 = m
    unfold mLens
    show (mBl t rl (rl + 2) (nI 0) y.2.1.2.2.1 (mDay t rl y.2.1.2.2.2 m).2.2).2.2 = m
    rw [mDay_st h, mBl_end (fun q => h q.1)]
theorem mGo_all {k : Nat} {x : XS} : (mGo t rl k x).1 = mTok t rl (mEnd (mLof t rl k (mTok t rl x.1, x.2)).1) ∧ ((mTok t rl x.1).2.2.2.2.1 = 0 → (mGo t rl k x).2 = (mLof t rl k (mTok t rl x.1, x.2)).2) := by
  unfold mGo
  by_cases h : (mTok t rl x.1).2.2.2.2.1 = 0
  · rw [if_pos h]; exact ⟨rfl, fun _ => rfl⟩
  · rw [if_neg h, mLof_st h, mEnd_st h, mTok_st h]
    exact ⟨rfl, fun q => absurd q h⟩
theorem Fl.ne {s : TS} {m : MS} (h : Fl s m) : ¬ m.2.2.2.2.1 = 0 := by
  obtain ⟨c, h1, _, h2, _⟩ := h
  rw [h2]; exact h1
/-- a number on both sides -/
theorem num_rel {lo hi : Nat} {s : TS} {m : MS} (hh : hi < 1000) (h : Pd t rl s m) :
    (∃ (k : Nat) (a : TS), lo ≤ k ∧ k ≤ hi ∧ fNum t rl lo hi s = (true, a) ∧ a.2.2.2.1 = nI k ∧ mLoo lo hi m = (nI k, m) ∧ m.2.2.2.2.1 = 0 ∧ a.2.2.1 = m.2.1 ∧ Pd t rl a (mTok t rl m) ∧ s.1 < a.1) ∨
    (∃ a : TS, fNum t rl lo hi s = (false, a) ∧ Fl a (mLoo lo hi m).2) := by
  obtain ⟨a, ha, hc⟩ := tok_rel h
  rcases hc with ⟨h1, h2, h3, h4, h5, h6, h7, h8, h9⟩ | ⟨h1, h2⟩
  · have e : fNum t rl lo hi s = fWit lo hi a := by rw [fNum_1 h1, ha]
    rw [e]
    obtain ⟨nx, kd, sr, vl, fo, pl⟩ := a
    by_cases hk : kd = 2
    · have h6 : m.2.2.2.1 = vl := h6 hk
      have h5 : m.2.2.1 = kd := h5
      by_cases hb : (lo : Int) ≤ vl.toInt ∧ vl.toInt ≤ (hi : Int)
      · obtain ⟨k, hk1, hk2⟩ := inR_nat (x := vl) (n := hi + 1) (by unfold inR; omega)
        have h10 := nI_toInt (n := k) (by omega)
        rw [← hk2] at h10
        refine Or.inl ⟨k, (nx, kd, sr, vl, fo, pl), by omega, by omega, fWit_2 hk hb, hk2, ?_, h2, h4.symm, ⟨h7, h8, m, h3, h2, rfl⟩, h9 (by show ¬ kd = 0; omega)⟩
        unfold mLoo
        rw [if_pos h2, if_pos (by rw [h5]; exact hk), if_pos (by rw [h6]; exact hb), h6, hk2]
      · refine Or.inr ⟨_, fWit_1 hk hb, 3, by decide, by decide, ?_⟩
        have e2 : mLoo lo hi m = (nI 0, mF 3 m) := by
          unfold mLoo
          rw [if_pos h2, if_pos (by rw [h5]; exact hk), if_neg (by rw [h6]; exact hb)]
        rw [e2]
        exact ⟨rfl, rfl, (congrArg nI h4).symm⟩
    · refine Or.inr ⟨_, fWit_0 hk, 2, by decide, by decide, ?_⟩
      have e2 : mLoo lo hi m = (nI 0, mF 2 m) := by
        unfold mLoo
        rw [if_pos h2, if_neg (by rw [h5]; exact hk)]
      rw [e2]
      exact ⟨rfl, rfl, (congrArg nI h4).symm⟩
  · refine Or.inr ⟨a, by rw [fNum_0 h1, ha], ?_⟩
    rw [mLoo_st h2.ne]
    exact h2
/-- the end of a line on both sides -/
theorem sem_rel {s : TS} {m : MS} (h : Pd t rl s m) :
    (∃ a : TS, fSem t rl s = (true, a) ∧ mEnd m = m ∧ Pd t rl a (mTok t rl m) ∧ s.1 < a.1) ∨
    (∃ a : TS, fSem t rl s = (false, a) ∧ Fl a (mEnd m)) := by
  obtain ⟨a, ha, hc⟩ := tok_rel h
  rcases hc with ⟨h1, h2, h3, h4, h5, h6, h7, h8, h9⟩ | ⟨h1, h2⟩
  · obtain ⟨nx, kd, sr, vl, fo, pl⟩ := a
    have h5 : m.2.2.1 = kd := h5
    by_cases hk : kd = 3
    · refine Or.inl ⟨_, fSem_1 h1 ha.symm hk, ?_, ⟨h7, h8, m, h3, h2, rfl⟩, h9 (by show ¬ kd = 0; omega)⟩
      unfold mEnd
      rw [if_pos h2, if_pos (by rw [h5]; exact hk)]
    · refine Or.inr ⟨_, fSem_2 h1 ha.symm hk, 2, by decide, by decide, ?_⟩
      have e2 : mEnd m = mF 2 m := by
        unfold mEnd
        rw [if_pos h2, if_neg (by rw [h5]; exact hk)]
      rw [e2]
      exact ⟨rfl, rfl, (congrArg nI h4).symm⟩
  · refine Or.inr ⟨a, by rw [fSem_0 h1, ha], ?_⟩
    rw [mEnd_st h2.ne]
    exact h2
theorem bN_y {α : Type} {lo hi k : Nat} {s a : TS} {no : TS → α} {go : Nat → TS → α} (hk : k < 1000) (h : fNum t rl lo hi s = (true, a)) (hv : a.2.2.2.1 = nI k) : bN t rl lo hi s no go = go k a := by
  unfold bN
  rw [h, if_pos rfl]
  show go a.2.2.2.1.toInt.toNat a = go k a
  rw [hv, nI_toInt (by omega)]
  rfl
theorem bN_n {α : Type} {lo hi : Nat} {s a : TS} {no : TS → α} {go : Nat → TS → α} (h : fNum t rl lo hi s = (false, a)) : bN t rl lo hi s no go = no a := by
  unfold bN
  rw [h, if_neg (show ¬ false = true by decide)]
end Tx

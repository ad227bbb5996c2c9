/-! lines on both sides -/
section Tl
variable {t : Nat → Int32} {rl : Nat}
theorem num_fl {lo hi : Nat} {a : TS} {m : MS} (q : Fl a (mLoo lo hi m).2) : (mNum t rl lo hi m).2 = (mLoo lo hi m).2 := by
  unfold mNum; exact mTok_st q.ne
theorem Fl.tok {a : TS} {m : MS} (q : Fl a m) : Fl a (mTok t rl m) := by rw [mTok_st q.ne]; exact q
theorem Fl.fin {a : TS} {m : MS} (q : Fl a m) : Fl a (mTok t rl (mEnd m)) := by rw [mEnd_st q.ne]; exact q.tok
theorem Fl.num {lo hi : Nat} {a : TS} {m : MS} (q : Fl a m) : Fl a (mNum t rl lo hi m).2 := by rw [mNum_st q.ne]; exact q
theorem Fl.num0 {lo hi : Nat} {a : TS} {m : MS} (q : Fl a (mLoo lo hi m).2) : Fl a (mNum t rl lo hi m).2 := by rw [num_fl q]; exact q
theorem Fl.day0 {hd : Int32} {a : TS} {m : MS} (q : Fl a (mLoo 0 9 m).2) : Fl a (mDay t rl hd m).2.2 := by
  unfold mDay; exact q.tok
theorem Fl.cel {sm hc : Int32} {a : TS} {m : MS} (q : Fl a m) : Fl a (mCel t rl sm hc m).2.2 := by rw [mCel_st q.ne]; exact q
theorem Fl.cel0 {sm hc : Int32} {a : TS} {m : MS} (q : Fl a (mLoo 0 15 m).2) : Fl a (mCel t rl sm hc m).2.2 := by
  unfold mCel mBut
  rw [if_neg q.ne]
  exact q.tok
theorem cel_y {sm hc : Int32} {k : Nat} {m : MS} (hk : k < 1000) (hl : mLoo 0 15 m = (nI k, m)) (h0 : m.2.2.2.2.1 = 0) (hb : tdB sm k = nI 0) : mCel t rl sm hc m = (nI k, (if hc.toInt < (k : Int) then nI k else hc), mTok t rl m) := by
  have e : mBut sm (nI k, m) = m := by
    unfold mBut
    rw [if_pos h0, if_pos hb]
  unfold mCel
  rw [hl, e]
  have e2 := nI_toInt (n := k) (by omega)
  by_cases h : hc.toInt < (k : Int)
  · rw [if_pos h, if_pos ⟨h0, by rw [e2]; exact h⟩]
  · rw [if_neg h, if_neg (fun q => h (by rw [← e2]; exact q.2))]
theorem cel_n {sm hc : Int32} {k : Nat} {m : MS} (hl : mLoo 0 15 m = (nI k, m)) (h0 : m.2.2.2.2.1 = 0) (hb : ¬ tdB sm k = nI 0) : (mCel t rl sm hc m).2.2 = mF 4 m := by
  have e : mBut sm (nI k, m) = mF 4 m := by
    unfold mBut
    rw [if_pos h0, if_neg hb]
  unfold mCel
  rw [hl, e]
  show mTok t rl (mF 4 m) = mF 4 m
  exact mTok_st (show ¬ 4 = 0 by decide)
theorem day_y {hd : Int32} {k : Nat} {m : MS} (hk : k < 1000) (hl : mLoo 0 9 m = (nI k, m)) (h0 : m.2.2.2.2.1 = 0) : mDay t rl hd m = (nI k, (if hd.toInt < (k : Int) then nI k else hd), mTok t rl m) := by
  unfold mDay
  rw [hl]
  have e2 := nI_toInt (n := k) (by omega)
  by_cases h : hd.toInt < (k : Int)
  · rw [if_pos h, if_pos ⟨h0, by rw [e2]; exact h⟩]
  · rw [if_neg h, if_neg (fun q => h (by rw [← e2]; exact q.2))]
theorem fRef_fl {c : Nat} {a : TS} {m : MS} (h0 : ¬ c = 0) (h6 : c ≤ 6) (h : m.2.1 = a.2.2.1) : Fl (fRef (nI c) a) (mF c m) := ⟨c, h0, h6, rfl, rfl, (congrArg nI h).symm⟩
theorem hou_rel {s : TS} {x : XS} {ho : Int32} {w h : Nat} (hh : ho = nI 0) (hp : Pd t rl s (mTok t rl x.1)) :
    (∃ (a : TS) (k k2 : Nat), fHou t rl ho w h s = (true, a, nI 1, k, k2) ∧ Pd t rl a (mGo t rl 0 x).1 ∧ (mGo t rl 0 x).2 = ((k, k2, x.2.1.2.2), x.2.2) ∧ s.1 < a.1) ∨
    (∃ (a : TS) (z : Int32 × Nat × Nat), fHou t rl ho w h s = (false, a, z) ∧ Fl a (mGo t rl 0 x).1) := by
  obtain ⟨g1, g2⟩ := mGo_all (t := t) (rl := rl) (k := 0) (x := x)
  have e0 : ∀ m1 : MS, (mLof t rl 0 (m1, x.2)) = ((mNum t rl 2 4 (mNum t rl 2 4 m1).2).2, (vI (mNum t rl 2 4 m1).1, vI (mNum t rl 2 4 (mNum t rl 2 4 m1).2).1, x.2.1.2.2), x.2.2) := fun _ => rfl
  rw [e0] at g1 g2
  rw [g1]
  try dsimp only at hp g1 g2 ⊢
  unfold fHou
  rw [if_pos hh]
  rcases num_rel (lo := 2) (hi := 4) (by omega) hp with ⟨k, a, k1, k2, f1, f2, l1, m0, _, p1, s1⟩ | ⟨a, f1, q1⟩
  · rw [bN_y (by omega) f1 f2]
    have n1 := mNum_of (t := t) (rl := rl) l1
    rw [n1] at g2 ⊢
    dsimp only at g2 ⊢
    rcases num_rel (lo := 2) (hi := 4) (by omega) p1 with ⟨k', a2, k1', k2', f3, f4, l2, m2, _, p2, s2⟩ | ⟨a2, f3, q3⟩
    · rw [bN_y (by omega) f3 f4]
      have n2 := mNum_of (t := t) (rl := rl) l2
      rw [n2] at g2 ⊢
      dsimp only at g2 ⊢
      rcases sem_rel p2 with ⟨a3, f5, e5, p3, s3⟩ | ⟨a3, f5, q5⟩
      · refine Or.inl ⟨a3, k, k', ?_, ?_, ?_, by omega⟩
        · show ((fSem t rl a2).1, (fSem t rl a2).2, nI 1, k, k') = _
          rw [f5]
        · rw [e5]; exact p3
        · rw [g2 m0, vI_nI (by omega), vI_nI (by omega)]
      · refine Or.inr ⟨a3, (nI 1, k, k'), ?_, (Fl.tok q5)⟩
        show ((fSem t rl a2).1, (fSem t rl a2).2, nI 1, k, k') = _
        rw [f5]
    · rw [bN_n f3]
      exact Or.inr ⟨a2, (nI 1, k, h), rfl, (Fl.fin (Fl.num0 q3))⟩
  · rw [bN_n f1]
    exact Or.inr ⟨a, (nI 1, w, h), rfl, (Fl.fin (Fl.num (Fl.num0 q1)))⟩
theorem las_rel {s : TS} {x : XS} {lo : Int32} {la : Nat} (hh : lo = nI 0) (hp : Pd t rl s (mTok t rl x.1)) :
    (∃ (a : TS) (k : Nat), fLas t rl lo la s = (true, a, nI 1, k) ∧ Pd t rl a (mGo t rl 1 x).1 ∧ (mGo t rl 1 x).2 = ((x.2.1.1, x.2.1.2.1, k), x.2.2) ∧ s.1 < a.1) ∨
    (∃ (a : TS) (z : Int32 × Nat), fLas t rl lo la s = (false, a, z) ∧ Fl a (mGo t rl 1 x).1) := by
  obtain ⟨g1, g2⟩ := mGo_all (t := t) (rl := rl) (k := 1) (x := x)
  have e0 : ∀ m1 : MS, (mLof t rl 1 (m1, x.2)) = ((mNum t rl 0 9 m1).2, (x.2.1.1, x.2.1.2.1, vI (mNum t rl 0 9 m1).1), x.2.2) := fun _ => rfl
  rw [e0] at g1 g2
  rw [g1]
  try dsimp only at hp g1 g2 ⊢
  unfold fLas
  rw [if_pos hh]
  rcases num_rel (lo := 0) (hi := 9) (by omega) hp with ⟨k, a, k1, k2, f1, f2, l1, m0, _, p1, s1⟩ | ⟨a, f1, q1⟩
  · rw [bN_y (by omega) f1 f2]
    have n1 := mNum_of (t := t) (rl := rl) l1
    rw [n1] at g2 ⊢
    dsimp only at g2 ⊢
    rcases sem_rel p1 with ⟨a3, f5, e5, p3, s3⟩ | ⟨a3, f5, q5⟩
    · refine Or.inl ⟨a3, k, ?_, ?_, ?_, by omega⟩
      · show ((fSem t rl a).1, (fSem t rl a).2, nI 1, k) = _
        rw [f5]
      · rw [e5]; exact p3
      · rw [g2 m0, vI_nI (by omega)]
    · refine Or.inr ⟨a3, (nI 1, k), ?_, (Fl.tok q5)⟩
      show ((fSem t rl a).1, (fSem t rl a).2, nI 1, k) = _
      rw [f5]
  · rw [bN_n f1]
    exact Or.inr ⟨a, (nI 1, la), rfl, (Fl.fin (Fl.num0 q1))⟩
theorem celA_rel {s : TS} {x : XS} {ct : Int32} {af : Nat → Int32} (hct : x.2.2.1.2.1 = ct) (hp : Pd t rl s (mTok t rl x.1)) :
    (∃ (a : TS) (k k2 : Nat), k < 16 ∧ fCel t rl ct af s = (true, a, orB ct k, upd af k (nI k2)) ∧ Pd t rl a (mGo t rl 2 x).1 ∧ (mGo t rl 2 x).2 = (x.2.1, (x.2.2.1.1, orB ct k, (if x.2.2.1.2.2.1.toInt < (k : Int) then nI k else x.2.2.1.2.2.1), x.2.2.1.2.2.2), upd x.2.2.2 k (nI k2)) ∧ s.1 < a.1) ∨
    (∃ (a : TS) (z : Int32 × (Nat → Int32)), fCel t rl ct af s = (false, a, z) ∧ Fl a (mGo t rl 2 x).1) := by
  obtain ⟨m, d, ⟨tl, tc, hc, hd⟩, D⟩ := x
  have hct : tc = ct := hct
  subst hct
  obtain ⟨g1, g2⟩ := mGo_all (t := t) (rl := rl) (k := 2) (x := (m, d, (tl, tc, hc, hd), D))
  have e0 : ∀ m1 : MS, (mLof t rl 2 (m1, d, (tl, tc, hc, hd), D)) = ((mNum t rl 0 5 (mCel t rl tc hc m1).2.2).2, d, (tl, tc ||| (nI 1 <<< ((mCel t rl tc hc m1).1 &&& 31)), (mCel t rl tc hc m1).2.1, hd), upd D (vI (mCel t rl tc hc m1).1) (mNum t rl 0 5 (mCel t rl tc hc m1).2.2).1) := fun _ => rfl
  rw [e0] at g1 g2
  rw [g1]
  try dsimp only at hp g1 g2 ⊢
  unfold fCel
  rcases num_rel (lo := 0) (hi := 15) (by omega) hp with ⟨k, a, k1, k2, f1, f2, l1, m0, r1, p1, s1⟩ | ⟨a, f1, q1⟩
  · rw [bN_y (by omega) f1 f2]
    by_cases hb : tdB tc k = nI 0
    · rw [if_pos hb]
      have n1 := cel_y (t := t) (rl := rl) (sm := tc) (hc := hc) (by omega) l1 m0 hb
      rw [n1] at g2 ⊢
      dsimp only at g2 ⊢
      rcases num_rel (lo := 0) (hi := 5) (by omega) p1 with ⟨k', a2, k1', k2', f3, f4, l2, m2, _, p2, s2⟩ | ⟨a2, f3, q3⟩
      · rw [bN_y (by omega) f3 f4]
        have n2 := mNum_of (t := t) (rl := rl) l2
        rw [n2] at g2 ⊢
        dsimp only at g2 ⊢
        rcases sem_rel p2 with ⟨a3, f5, e5, p3, s3⟩ | ⟨a3, f5, q5⟩
        · refine Or.inl ⟨a3, k, k', by omega, ?_, ?_, ?_, by omega⟩
          · show ((fSem t rl a2).1, (fSem t rl a2).2, orB tc k, upd af k (nI k')) = _
            rw [f5]
          · rw [e5]; exact p3
          · rw [g2 m0]
            show _ = (d, (tl, orB tc k, (if hc.toInt < (k : Int) then nI k else hc), hd), upd D k (nI k'))
            rw [vI_nI (by omega)]
        · refine Or.inr ⟨a3, (orB tc k, upd af k (nI k')), ?_, (Fl.tok q5)⟩
          show ((fSem t rl a2).1, (fSem t rl a2).2, orB tc k, upd af k (nI k')) = _
          rw [f5]
      · rw [bN_n f3]
        exact Or.inr ⟨a2, (orB tc k, af), rfl, (Fl.fin (Fl.num0 q3))⟩
    · rw [if_neg hb]
      refine Or.inr ⟨fRef (nI 4) a, (tc, af), rfl, ?_⟩
      rw [cel_n l1 m0 hb]
      refine Fl.fin (Fl.num ?_)
      exact fRef_fl (by decide) (by decide) r1.symm
  · rw [bN_n f1]
    exact Or.inr ⟨a, (tc, af), rfl, (Fl.fin (Fl.num (Fl.cel0 q1)))⟩
theorem tdB_z : ∀ k, k < 16 → tdB (nI 0) k = nI 0 := by decide +kernel
theorem tur_rel {s : TS} {x : XS} {nc : Nat} {fc : Nat → Int32} (hnc : nc < 10) (hD : x.2.2.2 16 = nI nc) (hp : Pd t rl s (mTok t rl x.1)) :
    (∃ (a : TS) (d c v : Nat), d < 10 ∧ c < 16 ∧ v < 6 ∧ fTur t rl nc fc s = (true, a, nc + 1, row3 fc nc (nI d) (nI c) (nI v)) ∧ Pd t rl a (mGo t rl 3 x).1 ∧
      (mGo t rl 3 x).2 = (x.2.1, (x.2.2.1.1, x.2.2.1.2.1, (if x.2.2.1.2.2.1.toInt < (c : Int) then nI c else x.2.2.1.2.2.1), (if x.2.2.1.2.2.2.toInt < (d : Int) then nI d else x.2.2.1.2.2.2)),
        upd (upd (upd (upd x.2.2.2 (17 + 3 * nc) (nI d)) (17 + 3 * nc + 1) (nI c)) (17 + 3 * nc + 2) (nI v)) 16 (nI (nc + 1))) ∧ s.1 < a.1) ∨
    (∃ (a : TS) (z : Nat × (Nat → Int32)), fTur t rl nc fc s = (false, a, z) ∧ Fl a (mGo t rl 3 x).1) := by
  obtain ⟨m, dd, ⟨tl, tc, hc, hd⟩, D⟩ := x
  obtain ⟨g1, g2⟩ := mGo_all (t := t) (rl := rl) (k := 3) (x := (m, dd, (tl, tc, hc, hd), D))
  have e0 : ∀ m1 : MS, (mLof t rl 3 (m1, dd, (tl, tc, hc, hd), D)) = ((mNum t rl 0 5 (mCel t rl (nI 0) hc (mDay t rl hd m1).2.2).2.2).2, dd, (tl, tc, (mCel t rl (nI 0) hc (mDay t rl hd m1).2.2).2.1, (mDay t rl hd m1).2.1),
      upd (upd (upd (upd D (17 + 3 * vI (D 16)) (mDay t rl hd m1).1) (17 + 3 * vI (D 16) + 1) (mCel t rl (nI 0) hc (mDay t rl hd m1).2.2).1) (17 + 3 * vI (D 16) + 2) (mNum t rl 0 5 (mCel t rl (nI 0) hc (mDay t rl hd m1).2.2).2.2).1) 16 (nI (vI (D 16) + 1))) := by
    intro m1
    show mL3 t rl _ = _
    simp only [mL3, mvA, mcA, mdA]
  have hD : D 16 = nI nc := hD
  rw [e0, hD, vI_nI (by omega)] at g1 g2
  rw [g1]
  try dsimp only at hp g1 g2 ⊢
  unfold fTur
  rw [if_pos hnc]
  rcases num_rel (lo := 0) (hi := 9) (by omega) hp with ⟨d, a, _, hd9, f1, f2, l1, m0, r1, p1, s1⟩ | ⟨a, f1, q1⟩
  · rw [bN_y (by omega) f1 f2]
    have n1 := day_y (t := t) (rl := rl) (hd := hd) (by omega) l1 m0
    rw [n1] at g2 ⊢
    dsimp only at g2 ⊢
    rcases num_rel (lo := 0) (hi := 15) (by omega) p1 with ⟨c, a2, _, hc15, f3, f4, l2, m2, _, p2, s2⟩ | ⟨a2, f3, q3⟩
    · rw [bN_y (by omega) f3 f4]
      have n2 := cel_y (t := t) (rl := rl) (sm := nI 0) (hc := hc) (by omega) l2 m2 (tdB_z c (by omega))
      rw [n2] at g2 ⊢
      dsimp only at g2 ⊢
      rcases num_rel (lo := 0) (hi := 5) (by omega) p2 with ⟨v, a3, _, hv5, f5, f6, l3, m3, _, p3, s3⟩ | ⟨a3, f5, q5⟩
      · rw [bN_y (by omega) f5 f6]
        have n3 := mNum_of (t := t) (rl := rl) l3
        rw [n3] at g2 ⊢
        dsimp only at g2 ⊢
        rcases sem_rel p3 with ⟨a4, f7, e7, p4, s4⟩ | ⟨a4, f7, q7⟩
        · refine Or.inl ⟨a4, d, c, v, by omega, by omega, by omega, ?_, ?_, ?_, by omega⟩
          · show ((fSem t rl a3).1, (fSem t rl a3).2, nc + 1, row3 fc nc (nI d) (nI c) (nI v)) = _
            rw [f7]
          · rw [e7]; exact p4
          · exact g2 m0
        · refine Or.inr ⟨a4, (nc + 1, row3 fc nc (nI d) (nI c) (nI v)), ?_, (Fl.tok q7)⟩
          show ((fSem t rl a3).1, (fSem t rl a3).2, nc + 1, row3 fc nc (nI d) (nI c) (nI v)) = _
          rw [f7]
      · rw [bN_n f5]
        exact Or.inr ⟨a3, (nc, fc), rfl, (Fl.fin (Fl.num0 q5))⟩
    · rw [bN_n f3]
      exact Or.inr ⟨a2, (nc, fc), rfl, (Fl.fin (Fl.num (Fl.cel0 q3)))⟩
  · rw [bN_n f1]
    exact Or.inr ⟨a, (nc, fc), rfl, (Fl.fin (Fl.num (Fl.cel (Fl.day0 q1))))⟩
end Tl

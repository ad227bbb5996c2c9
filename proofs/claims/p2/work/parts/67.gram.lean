/-! the reader's own state: next, kind, start, value, fault, place -/
abbrev TS : Type := Nat × Nat × Nat × Int32 × Int32 × Int32
def fTok (t : Nat → Int32) (rl : Nat) (s : TS) : Bool × TS :=
  (okT t rl (ruE isSp t rl s.1), nxT t rl (ruE isSp t rl s.1), kdT t rl (ruE isSp t rl s.1), ruE isSp t rl s.1,
    (if kdT t rl (ruE isSp t rl s.1) = 2 then dvF t (nxT t rl (ruE isSp t rl s.1) - ruE isSp t rl s.1) (ruE isSp t rl s.1) (nI 0) else s.2.2.2.1),
    (if okT t rl (ruE isSp t rl s.1) = true then s.2.2.2.2.1 else nI 1), (if okT t rl (ruE isSp t rl s.1) = true then s.2.2.2.2.2 else nI (ruE isSp t rl s.1)))
def fRef (a : Int32) (s : TS) : TS := (s.1, s.2.1, s.2.2.1, s.2.2.2.1, a, nI s.2.2.1)
def fWit (lo hi : Nat) (s : TS) : Bool × TS :=
  if s.2.1 = 2 then (if (lo : Int) ≤ s.2.2.2.1.toInt ∧ s.2.2.2.1.toInt ≤ (hi : Int) then (true, s) else (false, fRef (nI 3) s)) else (false, fRef (nI 2) s)
def fNum (t : Nat → Int32) (rl lo hi : Nat) (s : TS) : Bool × TS := if (fTok t rl s).1 = true then fWit lo hi (fTok t rl s).2 else (false, (fTok t rl s).2)
def fSem (t : Nat → Int32) (rl : Nat) (s : TS) : Bool × TS := if (fTok t rl s).1 = true then (if (fTok t rl s).2.2.1 = 3 then (true, (fTok t rl s).2) else (false, fRef (nI 2) (fTok t rl s).2)) else (false, (fTok t rl s).2)
theorem fTok_bd {t : Nat → Int32} {rl : Nat} {s : TS} (h : s.1 ≤ rl) : (fTok t rl s).2.1 ≤ rl ∧ s.1 ≤ (fTok t rl s).2.1 ∧ (fTok t rl s).2.2.2.1 ≤ rl := by
  have h1 : ruE isSp t rl s.1 ≤ rl := ruF_le _ _ h
  have h2 : s.1 ≤ ruE isSp t rl s.1 := ruF_ge _ _
  have h3 := nxT_le (t := t) h1
  have h4 := nxT_ge (t := t) (rl := rl) (q := ruE isSp t rl s.1)
  exact ⟨h3, Nat.le_trans h2 h4, h1⟩
theorem fWit_bd {lo hi : Nat} {s : TS} : (fWit lo hi s).2.1 = s.1 ∧ (fWit lo hi s).2.2.2.1 = s.2.2.1 := by
  unfold fWit fRef
  split
  · split <;> exact ⟨rfl, rfl⟩
  · exact ⟨rfl, rfl⟩
theorem fNum_bd {t : Nat → Int32} {rl lo hi : Nat} {s : TS} (h : s.1 ≤ rl) : (fNum t rl lo hi s).2.1 ≤ rl ∧ s.1 ≤ (fNum t rl lo hi s).2.1 ∧ (fNum t rl lo hi s).2.2.2.1 ≤ rl := by
  have h1 := fTok_bd (t := t) h
  unfold fNum
  split
  · have h2 := fWit_bd (lo := lo) (hi := hi) (s := (fTok t rl s).2)
    rw [h2.1, h2.2]; exact h1
  · exact h1
theorem fSem_bd {t : Nat → Int32} {rl : Nat} {s : TS} (h : s.1 ≤ rl) : (fSem t rl s).2.1 ≤ rl ∧ s.1 ≤ (fSem t rl s).2.1 ∧ (fSem t rl s).2.2.2.1 ≤ rl := by
  have h1 := fTok_bd (t := t) h
  unfold fSem
  split
  · split
    · exact h1
    · exact h1
  · exact h1
theorem fWit_val {lo hi : Nat} {s : TS} (hh : hi < 1000) (h : (fWit lo hi s).1 = true) : ∃ k, lo ≤ k ∧ k ≤ hi ∧ (fWit lo hi s).2.2.2.2.1 = nI k := by
  unfold fWit at h ⊢
  split at h
  · rename_i h1
    rw [if_pos h1]
    split at h
    · rename_i h2
      rw [if_pos h2]
      obtain ⟨k, hk, he⟩ := inR_nat (x := s.2.2.2.1) (n := hi + 1) (by unfold inR; omega)
      have h4 := nI_toInt (n := k) (by omega)
      rw [← he] at h4
      exact ⟨k, by omega, by omega, he⟩
    · cases h
  · cases h
theorem fNum_val {t : Nat → Int32} {rl lo hi : Nat} {s : TS} (hh : hi < 1000) (h : (fNum t rl lo hi s).1 = true) : ∃ k, lo ≤ k ∧ k ≤ hi ∧ (fNum t rl lo hi s).2.2.2.2.1 = nI k := by
  unfold fNum at h ⊢
  split at h
  · rename_i h1
    rw [if_pos h1]
    exact fWit_val hh h
  · cases h
theorem fTok_kd {t : Nat → Int32} {rl : Nat} {s : TS} : (fTok t rl s).2.2.1 ≤ 3 := by
  show kdT t rl (ruE isSp t rl s.1) ≤ 3
  unfold kdT
  split
  · omega
  · split
    · omega
    · split <;> omega

theorem fTok_eq {t : Nat → Int32} {rl nx kd sr p : Nat} {vl fo pl : Int32} (h : ruE isSp t rl nx = p) : fTok t rl (nx, kd, sr, vl, fo, pl) =
    (okT t rl p, nxT t rl p, kdT t rl p, p, (if kdT t rl p = 2 then dvF t (nxT t rl p - p) p (nI 0) else vl),
    (if okT t rl p = true then fo else nI 1), (if okT t rl p = true then pl else nI p)) := by
  subst h; rfl
theorem fWit_0 {lo hi nx kd sr : Nat} {vl fo pl : Int32} (h : ¬ kd = 2) : fWit lo hi (nx, kd, sr, vl, fo, pl) = (false, (nx, kd, sr, vl, nI 2, nI sr)) := if_neg h
theorem fWit_1 {lo hi nx kd sr : Nat} {vl fo pl : Int32} (h : kd = 2) (h1 : ¬ ((lo : Int) ≤ vl.toInt ∧ vl.toInt ≤ (hi : Int))) : fWit lo hi (nx, kd, sr, vl, fo, pl) = (false, (nx, kd, sr, vl, nI 3, nI sr)) := (if_pos h).trans (if_neg h1)
theorem fWit_2 {lo hi nx kd sr : Nat} {vl fo pl : Int32} (h : kd = 2) (h1 : (lo : Int) ≤ vl.toInt ∧ vl.toInt ≤ (hi : Int)) : fWit lo hi (nx, kd, sr, vl, fo, pl) = (true, (nx, kd, sr, vl, fo, pl)) := (if_pos h).trans (if_pos h1)
theorem fNum_0 {t : Nat → Int32} {rl lo hi : Nat} {s : TS} (h : ¬ (fTok t rl s).1 = true) : fNum t rl lo hi s = (false, (fTok t rl s).2) := if_neg h
theorem fNum_1 {t : Nat → Int32} {rl lo hi : Nat} {s : TS} (h : (fTok t rl s).1 = true) : fNum t rl lo hi s = fWit lo hi (fTok t rl s).2 := if_pos h
theorem fSem_0 {t : Nat → Int32} {rl : Nat} {s : TS} (h : ¬ (fTok t rl s).1 = true) : fSem t rl s = (false, (fTok t rl s).2) := if_neg h
theorem fSem_1 {t : Nat → Int32} {rl : Nat} {s : TS} {nx kd sr : Nat} {vl fo pl : Int32} (h : (fTok t rl s).1 = true) (he : (nx, kd, sr, vl, fo, pl) = (fTok t rl s).2) (h2 : kd = 3) : fSem t rl s = (true, (nx, kd, sr, vl, fo, pl)) := by
  unfold fSem; rw [if_pos h, ← he]; exact if_pos h2
theorem fSem_2 {t : Nat → Int32} {rl : Nat} {s : TS} {nx kd sr : Nat} {vl fo pl : Int32} (h : (fTok t rl s).1 = true) (he : (nx, kd, sr, vl, fo, pl) = (fTok t rl s).2) (h2 : ¬ kd = 3) : fSem t rl s = (false, (nx, kd, sr, vl, nI 2, nI sr)) := by
  unfold fSem; rw [if_pos h, ← he]; exact if_neg h2

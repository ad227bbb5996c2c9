/-! the reference's reader: pos, from, sort, value, fault, wrongAt -/
abbrev MS : Type := Nat × Nat × Nat × Int32 × Nat × Int32
def byF (t : Nat → Int32) (rl p : Nat) : Int32 := if p < rl then t p else (-1)
abbrev tpOk (t : Nat → Int32) (rl : Nat) : Prop := ∀ j, j < rl → inR (t j) 128
theorem byF_sp {t : Nat → Int32} {rl p : Nat} : byF t rl p = nI 32 ↔ (p < rl ∧ isSp (t p) = true) := by
  unfold byF
  by_cases h : p < rl
  · rw [if_pos h]; exact ⟨fun q => ⟨h, decide_eq_true q⟩, fun q => of_decide_eq_true q.2⟩
  · rw [if_neg h]; exact ⟨fun q => absurd q (by decide), fun q => absurd q.1 h⟩
theorem byF_L {t : Nat → Int32} {rl p : Nat} : (97 ≤ (byF t rl p).toInt ∧ (byF t rl p).toInt ≤ 122) ↔ (p < rl ∧ isL (t p) = true) := by
  unfold byF
  by_cases h : p < rl
  · rw [if_pos h]; exact ⟨fun q => ⟨h, decide_eq_true q⟩, fun q => of_decide_eq_true q.2⟩
  · rw [if_neg h]; exact ⟨fun q => absurd q.1 (by decide), fun q => absurd q.1 h⟩
theorem byF_D {t : Nat → Int32} {rl p : Nat} : (48 ≤ (byF t rl p).toInt ∧ (byF t rl p).toInt ≤ 57) ↔ (p < rl ∧ isD (t p) = true) := by
  unfold byF
  by_cases h : p < rl
  · rw [if_pos h]; exact ⟨fun q => ⟨h, decide_eq_true q⟩, fun q => of_decide_eq_true q.2⟩
  · rw [if_neg h]; exact ⟨fun q => absurd q.1 (by decide), fun q => absurd q.1 h⟩
theorem byF_neg {t : Nat → Int32} {rl p : Nat} (ht : tpOk t rl) : (byF t rl p).toInt < 0 ↔ rl ≤ p := by
  unfold byF
  by_cases h : p < rl
  · rw [if_pos h]; have := ht p h; unfold inR at this; omega
  · rw [if_neg h]; exact ⟨fun _ => by omega, fun _ => by decide⟩
def mTk (t : Nat → Int32) (rl q : Nat) (s : MS) : MS :=
  if rl ≤ q then (q, q, 0, s.2.2.2.1, s.2.2.2.2)
  else if isL (t q) = true then (ruE isL t rl q, q, 1, s.2.2.2.1, s.2.2.2.2)
  else if isD (t q) = true then
    (if ruE isD t rl q - q ≤ 2 then (ruE isD t rl q, q, 2, dvF t (min (ruE isD t rl q - q) 2) q (nI 0), s.2.2.2.2) else (ruE isD t rl q, q, 2, dvF t (min (ruE isD t rl q - q) 2) q (nI 0), 1, nI q))
  else if t q = nI 59 then (q + 1, q, 3, s.2.2.2.1, s.2.2.2.2) else (q + 1, q, 3, s.2.2.2.1, 1, nI q)
def mTok (t : Nat → Int32) (rl : Nat) (s : MS) : MS := if s.2.2.2.2.1 = 0 then mTk t rl (ruE isSp t rl s.1) s else s
theorem mTok_0 {t : Nat → Int32} {rl ps fr so ft : Nat} {vl wa : Int32} (h : ¬ ft = 0) : mTok t rl (ps, fr, so, vl, ft, wa) = (ps, fr, so, vl, ft, wa) := if_neg h
theorem mTok_1 {t : Nat → Int32} {rl ps fr so ft p : Nat} {vl wa : Int32} (h : ft = 0) (hq : ruE isSp t rl ps = p) : mTok t rl (ps, fr, so, vl, ft, wa) = mTk t rl p (ps, fr, so, vl, ft, wa) := by
  subst hq; exact if_pos h
section Mt
variable {t : Nat → Int32} {rl ps fr so ft p : Nat} {vl wa : Int32}
theorem mTk_0 (h : rl ≤ p) : mTk t rl p (ps, fr, so, vl, ft, wa) = (p, p, 0, vl, ft, wa) := if_pos h
theorem mTk_1 (h : ¬ rl ≤ p) (h1 : isL (t p) = true) {x : Nat} (hx : ruE isL t rl p = x) : mTk t rl p (ps, fr, so, vl, ft, wa) = (x, p, 1, vl, ft, wa) := by subst hx; exact (if_neg h).trans (if_pos h1)
theorem mTk_2 (h : ¬ rl ≤ p) (h1 : ¬ isL (t p) = true) (h2 : isD (t p) = true) {x : Nat} (hx : ruE isD t rl p = x) (h3 : x - p ≤ 2) : mTk t rl p (ps, fr, so, vl, ft, wa) = (x, p, 2, dvF t (min (x - p) 2) p (nI 0), ft, wa) := by subst hx; exact (if_neg h).trans ((if_neg h1).trans ((if_pos h2).trans (if_pos h3)))
theorem mTk_3 (h : ¬ rl ≤ p) (h1 : ¬ isL (t p) = true) (h2 : isD (t p) = true) {x : Nat} (hx : ruE isD t rl p = x) (h3 : ¬ x - p ≤ 2) : mTk t rl p (ps, fr, so, vl, ft, wa) = (x, p, 2, dvF t (min (x - p) 2) p (nI 0), 1, nI p) := by subst hx; exact (if_neg h).trans ((if_neg h1).trans ((if_pos h2).trans (if_neg h3)))
theorem mTk_4 (h : ¬ rl ≤ p) (h1 : ¬ isL (t p) = true) (h2 : ¬ isD (t p) = true) (h3 : t p = nI 59) : mTk t rl p (ps, fr, so, vl, ft, wa) = (p + 1, p, 3, vl, ft, wa) := (if_neg h).trans ((if_neg h1).trans ((if_neg h2).trans (if_pos h3)))
theorem mTk_5 (h : ¬ rl ≤ p) (h1 : ¬ isL (t p) = true) (h2 : ¬ isD (t p) = true) (h3 : ¬ t p = nI 59) : mTk t rl p (ps, fr, so, vl, ft, wa) = (p + 1, p, 3, vl, 1, nI p) := (if_neg h).trans ((if_neg h1).trans ((if_neg h2).trans (if_neg h3)))
end Mt
theorem dv2_go {t : Nat → Int32} {k q : Nat} (h : k < 2) : dvF t (min (k + 1) 2) q (nI 0) = nI 10 * dvF t (min k 2) q (nI 0) + t (q + k) - nI 48 := by
  rw [show min (k + 1) 2 = k + 1 by omega, show min k 2 = k by omega]; exact dvF_snoc k q (nI 0)
theorem dv2_stay {t : Nat → Int32} {k q : Nat} (h : ¬ k < 2) : dvF t (min (k + 1) 2) q (nI 0) = dvF t (min k 2) q (nI 0) := by
  rw [show min (k + 1) 2 = 2 by omega, show min k 2 = 2 by omega]
theorem mTok_bd {t : Nat → Int32} {rl : Nat} {s : MS} (h : s.1 ≤ rl) : (mTok t rl s).1 ≤ rl ∧ s.1 ≤ (mTok t rl s).1 := by
  have h1 : ruE isSp t rl s.1 ≤ rl := ruF_le _ _ h
  have h2 : s.1 ≤ ruE isSp t rl s.1 := ruF_ge _ _
  unfold mTok
  split
  · unfold mTk
    split
    · exact ⟨h1, h2⟩
    · split
      · exact ⟨ruF_le _ _ h1, Nat.le_trans h2 (ruF_ge _ _)⟩
      · split
        · split
          · exact ⟨ruF_le _ _ h1, Nat.le_trans h2 (ruF_ge _ _)⟩
          · exact ⟨ruF_le _ _ h1, Nat.le_trans h2 (ruF_ge _ _)⟩
        · split
          · exact ⟨(show ruE isSp t rl s.1 + 1 ≤ rl by omega), (show s.1 ≤ ruE isSp t rl s.1 + 1 by omega)⟩
          · exact ⟨(show ruE isSp t rl s.1 + 1 ≤ rl by omega), (show s.1 ≤ ruE isSp t rl s.1 + 1 by omega)⟩
  · exact ⟨h, Nat.le_refl _⟩

theorem bt_sshr1 {x : Int32} {k : Nat} (hk : k < 32) : (x >>> (nI k &&& 31)) &&& nI 1 = 0 ↔ bt x k = false := by
  constructor
  · intro h
    have h2 : bt ((x >>> (nI k &&& 31)) &&& nI 1) 0 = bt 0 0 := by rw [h]
    rw [b_and, b_sshr k hk x (by decide), b_0, if_pos (by omega), Nat.add_zero, show bt (nI 1) 0 = true from (by decide), Bool.and_true] at h2
    exact h2
  · intro h
    refine b_ext (fun i hi => ?_)
    rw [b_and, b_0, b_sshr k hk x hi]
    rcases Nat.eq_zero_or_pos i with q | q
    · subst q
      rw [if_pos (by omega), Nat.add_zero, h, Bool.false_and]
    · rw [show bt (nI 1) i = false from ((by decide +kernel : ∀ i, i < 32 → 0 < i → bt (nI 1) i = false) i hi q), Bool.and_false]
theorem bitB_bt {x : Int32} {k : Nat} (hk : k < 32) : bitB x k = bt x k := by
  cases h : bt x k with
  | false => simp only [bitB, decide_eq_true ((bt_sshr1 hk).mpr h)]; rfl
  | true => simp only [bitB, decide_eq_false (fun q => by rw [(bt_sshr1 hk).mp q] at h; cases h)]; rfl
theorem bt_xbit : ∀ c, c < 32 → ∀ k, k < 32 → bt (xbit c) k = decide (c = k) := by decide +kernel
theorem bt_xbits {p : Nat → Bool} : ∀ n, n ≤ 32 → ∀ k, k < 32 → bt (xbits p n) k = (decide (k < n) && p k)
  | 0, _, k, _ => by rw [xbits, show nI 0 = (0 : Int32) from rfl, b_0, decide_eq_false (Nat.not_lt_zero k), Bool.false_and]
  | n + 1, hn, k, hk => by
    have ih := bt_xbits (p := p) n (by omega) k hk
    rw [xbits]
    by_cases hp : p n = true
    · rw [if_pos hp, b_or, ih, bt_xbit n (by omega) k hk]
      rcases Nat.lt_trichotomy k n with q | q | q
      · rw [decide_eq_true q, decide_eq_true (show k < n + 1 by omega), decide_eq_false (show ¬ n = k by omega)]; simp
      · subst q; rw [decide_eq_true (show k < k + 1 by omega), hp]; simp
      · rw [decide_eq_false (show ¬ k < n by omega), decide_eq_false (show ¬ k < n + 1 by omega), decide_eq_false (show ¬ n = k by omega)]; simp
    · rw [if_neg hp, ih]
      by_cases q : k = n
      · subst q
        rw [show p k = false from Bool.eq_false_iff.mpr hp, Bool.and_false, Bool.and_false]
      · rw [show decide (k < n) = decide (k < n + 1) from decide_eq_decide.mpr (by omega)]
theorem bcM_cnt (x : Int32) : ∀ n, bcM x n = nI (cntF (fun k => bitB x k) n)
  | 0 => rfl
  | n + 1 => by rw [bcM, bcM_cnt x n]; exact cnt_and rfl
theorem cntF_pos {p : Nat → Bool} : ∀ {n i : Nat}, i < n → p i = true → 0 < cntF p n
  | 0, i, h, _ => absurd h (Nat.not_lt_zero i)
  | n + 1, i, h, hp => by
    rw [cntF]
    rcases Nat.lt_succ_iff_lt_or_eq.mp h with q | q
    · have := cntF_pos q hp
      split <;> omega
    · subst q
      rw [if_pos hp]; omega
theorem xbits_pos {p : Nat → Bool} {n : Nat} (hn : n ≤ 16) (h : ¬ xbits p n = 0) : 0 < cntF (fun k => bitB (xbits p n) k) 16 := by
  have : ∃ k, k < 16 ∧ bt (xbits p n) k = true := by
    by_cases q : ∃ k, k < 16 ∧ bt (xbits p n) k = true
    · exact q
    · exfalso
      apply h
      refine b_ext (fun i hi => ?_)
      rw [b_0]
      by_cases q2 : i < 16
      · exact Bool.eq_false_iff.mpr (fun q3 => q ⟨i, q2, q3⟩)
      · rw [bt_xbits n (by omega) i hi, decide_eq_false (by omega), Bool.false_and]
  obtain ⟨k, hk, hb⟩ := this
  exact cntF_pos hk (by rw [bitB_bt (by omega)]; exact hb)
theorem lN_ne0 {n : Nat} (h0 : 0 < n) (h : n < 2 ^ 63) : ¬ lN n = 0 := fun q => by
  have := (pk_lEQ h (by decide : 0 < 2 ^ 63)).mp (q.trans (show (0 : Int64) = lN 0 from rfl))
  omega

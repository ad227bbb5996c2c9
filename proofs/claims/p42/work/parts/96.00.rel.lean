/-! shifts -/
theorem xu_shift (x : Int32) (k : Nat) (hk : k < 31) : xu x (nI k) = 0 ↔ inR x (2 ^ k) := by
  have hs : (((nI k).toUInt32 &&& Int32.toUInt32 31).toBitVec % 32).toNat = k := (show ∀ n, n < 32 → (((nI n).toUInt32 &&& Int32.toUInt32 31).toBitVec % 32).toNat = n by decide +kernel) k (by omega)
  have e : (xu x (nI k)).toBitVec.toNat = x.toBitVec.toNat / 2 ^ k := pk_ushr x (nI k) k hs
  have hp : 2 ^ k ≤ 2 ^ 30 := Nat.pow_le_pow_right (by omega) (by omega)
  have hpos : 0 < 2 ^ k := Nat.two_pow_pos k
  have ht : x.toInt = if 2 * x.toBitVec.toNat < 2 ^ 32 then (x.toBitVec.toNat : Int) else (x.toBitVec.toNat : Int) - ((2 ^ 32 : Nat) : Int) := BitVec.toInt_eq_toNat_cond x.toBitVec
  have hl : x.toBitVec.toNat < 2 ^ 32 := x.toBitVec.isLt
  have h0 : xu x (nI k) = 0 ↔ x.toBitVec.toNat < 2 ^ k := by
    constructor
    · intro h
      rw [h] at e
      rcases Nat.lt_or_ge x.toBitVec.toNat (2 ^ k) with q | q
      · exact q
      · have h1 := Nat.div_pos q hpos
        rw [← e] at h1
        exact absurd h1 (by decide)
    · intro h
      apply Int32.toBitVec_inj.mp
      apply BitVec.eq_of_toNat_eq
      rw [e, Nat.div_eq_of_lt h]
      rfl
  rw [h0]
  unfold inR
  generalize 2 ^ k = P at hp hpos
  generalize x.toBitVec.toNat = n at ht hl
  constructor
  · intro h
    rw [if_pos (by omega)] at ht
    omega
  · intro h
    by_cases q : 2 * n < 2 ^ 32
    · rw [if_pos q] at ht; omega
    · rw [if_neg q] at ht; omega

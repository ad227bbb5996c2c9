/-! sets by size: the next of the same size, the least that serve -/
def pcF : Nat → Nat → Nat
  | 0, _ => 0
  | k + 1, n => n % 2 + pcF k (n / 2)
theorem pc_0 : ∀ k, pcF k 0 = 0
  | 0 => rfl
  | k + 1 => by rw [pcF, Nat.zero_div, pc_0 k]
theorem pc_split : ∀ (j k x y : Nat), y < 2 ^ j → pcF (j + k) (x * 2 ^ j + y) = pcF j y + pcF k x
  | 0, k, x, y, hy => by
    have h0 : y = 0 := by omega
    subst h0
    rw [Nat.zero_add, Nat.pow_zero, Nat.mul_one, Nat.add_zero, pcF, Nat.zero_add]
  | j + 1, k, x, y, hy => by
    have e1 : x * 2 ^ (j + 1) = 2 * (x * 2 ^ j) := by rw [Nat.pow_succ, ← Nat.mul_assoc, Nat.mul_comm]
    have e2 : 2 ^ (j + 1) = 2 * 2 ^ j := by rw [Nat.pow_succ, Nat.mul_comm]
    rw [show j + 1 + k = (j + k) + 1 by omega, pcF, pcF, e1, show (2 * (x * 2 ^ j) + y) % 2 = y % 2 by omega, show (2 * (x * 2 ^ j) + y) / 2 = x * 2 ^ j + y / 2 by omega, pc_split j k x (y / 2) (by omega)]
    omega
theorem pc_ones : ∀ j, pcF j (2 ^ j - 1) = j
  | 0 => rfl
  | j + 1 => by
    have e2 : 2 ^ (j + 1) = 2 * 2 ^ j := by rw [Nat.pow_succ, Nat.mul_comm]
    have hp : 0 < 2 ^ j := Nat.two_pow_pos j
    rw [pcF, e2, show (2 * 2 ^ j - 1) % 2 = 1 by omega, show (2 * 2 ^ j - 1) / 2 = 2 ^ j - 1 by omega, pc_ones j]
    omega
theorem pc_le : ∀ j r, pcF j r ≤ j
  | 0, _ => Nat.le_refl _
  | j + 1, r => by
    have := pc_le j (r / 2)
    rw [pcF]
    omega
theorem pc_lt : ∀ j r, r < 2 ^ j - 1 → pcF j r < j
  | 0, r, h => by simp at h
  | j + 1, r, h => by
    have e2 : 2 ^ (j + 1) = 2 * 2 ^ j := by rw [Nat.pow_succ, Nat.mul_comm]
    have h1 := pc_le j (r / 2)
    rw [pcF]
    by_cases hr : r % 2 = 1
    · have h2 := pc_lt j (r / 2) (by omega)
      omega
    · omega
theorem pc_pos : ∀ j r, 0 < r → r < 2 ^ j → 0 < pcF j r
  | 0, r, h, h2 => by simp at h2; omega
  | j + 1, r, h, h2 => by
    have e2 : 2 ^ (j + 1) = 2 * 2 ^ j := by rw [Nat.pow_succ, Nat.mul_comm]
    rw [pcF]
    by_cases hr : r % 2 = 1
    · omega
    · have := pc_pos j (r / 2) (by omega) (by omega)
      omega
theorem pc_snoc : ∀ k n, pcF (k + 1) n = pcF k n + n / 2 ^ k % 2
  | 0, n => by rw [pcF, pcF, pcF, Nat.pow_zero, Nat.div_one, Nat.zero_add, Nat.add_zero]
  | k + 1, n => by
    rw [pcF, pc_snoc k (n / 2), pcF, Nat.div_div_eq_div_mul, show 2 ^ (k + 1) = 2 * 2 ^ k by rw [Nat.pow_succ, Nat.mul_comm]]
    omega
theorem tb_pc (y : Nat) : ∀ n, tbN y n = pcF n y
  | 0 => rfl
  | n + 1 => by rw [tbN, tb_pc y n, pc_snoc]
/-- the number of bits -/
abbrev pcB (n : Nat) : Nat := pcF 20 n
theorem pc_16 {y : Nat} (hy : y < 65536) : tbN y 16 = pcB y := by
  have h1 := pc_split 16 4 0 y hy
  rw [Nat.zero_mul, Nat.zero_add, pc_0] at h1
  rw [tb_pc]
  exact h1.symm
/-- what a number is made of: u, then m ones, then z noughts; the next one of as many bits; between them there is none -/
theorem pc_next {u z m s s' : Nat} (hm : 1 ≤ m) (hzm : z + m ≤ 16) (hs : s = u * 2 ^ (z + m + 1) + (2 ^ m - 1) * 2 ^ z) (hs' : s' = (2 * u + 1) * 2 ^ (z + m) + (2 ^ (m - 1) - 1)) :
    s < s' ∧ pcB s' = pcB s ∧ ∀ t, s < t → t < s' → ¬ pcB t = pcB s := by
  have hz : 0 < 2 ^ z := Nat.two_pow_pos z
  have hm2 : 2 ≤ 2 ^ m := Nat.le_trans (by decide) (Nat.pow_le_pow_right (by omega) hm)
  have hm1 : 0 < 2 ^ (m - 1) := Nat.two_pow_pos _
  have hB : 2 ^ (z + m) = 2 ^ m * 2 ^ z := by rw [Nat.pow_add, Nat.mul_comm]
  have hB1 : 2 ^ (z + m + 1) = 2 * 2 ^ (z + m) := by rw [Nat.pow_succ, Nat.mul_comm]
  have hsub : (2 ^ m - 1) * 2 ^ z = 2 ^ (z + m) - 2 ^ z := by rw [Nat.sub_mul, Nat.one_mul, hB]
  have hzB : 2 ^ z ≤ 2 ^ (z + m) := Nat.pow_le_pow_right (by omega) (by omega)
  have hmB : 2 ^ (m - 1) ≤ 2 ^ (z + m) := Nat.pow_le_pow_right (by omega) (by omega)
  obtain ⟨k, hk⟩ : ∃ k, 20 = (z + m) + (k + 1) := ⟨19 - (z + m), by omega⟩
  have hy : ∀ x y, y < 2 ^ (z + m) → pcB (x * 2 ^ (z + m) + y) = pcF (z + m) y + pcF (k + 1) x := fun x y h => by
    unfold pcB
    rw [hk]
    exact pc_split (z + m) (k + 1) x y h
  have e0 : pcF (k + 1) (2 * u) = pcF k u := by
    rw [pcF, show 2 * u % 2 = 0 by omega, show 2 * u / 2 = u by omega, Nat.zero_add]
  have e1 : pcF (k + 1) (2 * u + 1) = 1 + pcF k u := by
    rw [pcF, show (2 * u + 1) % 2 = 1 by omega, show (2 * u + 1) / 2 = u by omega]
  have es : s = 2 * u * 2 ^ (z + m) + (2 ^ m - 1) * 2 ^ z := by
    rw [hs, hB1, ← Nat.mul_assoc, Nat.mul_comm u 2]
  have pm : ∀ r0, r0 < 2 ^ z → pcF (z + m) ((2 ^ m - 1) * 2 ^ z + r0) = pcF z r0 + m := fun r0 h => by
    rw [pc_split z m (2 ^ m - 1) r0 h, pc_ones]
  have p0 : pcB s = m + pcF k u := by
    rw [es, hy (2 * u) _ (by rw [hsub]; omega), e0]
    have := pm 0 hz
    rw [Nat.add_zero, pc_0, Nat.zero_add] at this
    rw [this]
  have low : ∀ r, r < 2 ^ (m - 1) → pcF (z + m) r = pcF (m - 1) r := fun r h => by
    have := pc_split (m - 1) (z + 1) 0 r h
    rw [Nat.zero_mul, Nat.zero_add, pc_0, show m - 1 + (z + 1) = z + m by omega] at this
    exact this
  have hlow : (2 * u + 1) * 2 ^ (z + m) = 2 * u * 2 ^ (z + m) + 2 ^ (z + m) := by rw [Nat.add_mul, Nat.one_mul]
  have p1 : pcB s' = m + pcF k u := by
    rw [hs', hy _ _ (by omega), e1, low _ (by omega), pc_ones]
    omega
  refine ⟨?_, by rw [p0, p1], fun t h1 h2 => ?_⟩
  · rw [es, hs', hlow, hsub]; omega
  · rw [p0]
    rcases Nat.lt_or_ge t ((2 * u + 1) * 2 ^ (z + m)) with q | q
    · obtain ⟨r0, hr⟩ : ∃ r0, t = 2 * u * 2 ^ (z + m) + ((2 ^ m - 1) * 2 ^ z + r0) := ⟨t - s, by omega⟩
      have h3 : 0 < r0 := by omega
      have h4 : r0 < 2 ^ z := by rw [hlow] at q; rw [hsub] at hr; omega
      rw [hr, hy _ _ (by rw [hsub]; omega), e0, pm r0 h4]
      have := pc_pos z r0 h3 h4
      omega
    · obtain ⟨r, hr⟩ : ∃ r, t = (2 * u + 1) * 2 ^ (z + m) + r := ⟨t - (2 * u + 1) * 2 ^ (z + m), by omega⟩
      have h3 : r < 2 ^ (m - 1) - 1 := by omega
      rw [hr, hy _ _ (by omega), e1, low r (by omega)]
      have := pc_lt (m - 1) r h3
      omega
theorem orS {k p q M m : Nat} (hq : q < 2 ^ k) (hm : m < 2 ^ k) : (2 ^ k * p + q) ||| (2 ^ k * M + m) = 2 ^ k * (p ||| M) + (q ||| m) := by
  have hqm : q ||| m < 2 ^ k := Nat.or_lt_two_pow hq hm
  apply Nat.eq_of_testBit_eq
  intro j
  rw [Nat.testBit_or, Nat.testBit_two_pow_mul_add _ hq, Nat.testBit_two_pow_mul_add _ hm, Nat.testBit_two_pow_mul_add _ hqm]
  by_cases h : j < k
  · rw [if_pos h, if_pos h, if_pos h, Nat.testBit_or]
  · rw [if_neg h, if_neg h, if_neg h, Nat.testBit_or]
theorem xorS {k p q M m : Nat} (hq : q < 2 ^ k) (hm : m < 2 ^ k) : (2 ^ k * p + q) ^^^ (2 ^ k * M + m) = 2 ^ k * (p ^^^ M) + (q ^^^ m) := by
  have hqm : q ^^^ m < 2 ^ k := Nat.xor_lt_two_pow hq hm
  apply Nat.eq_of_testBit_eq
  intro j
  rw [Nat.testBit_xor, Nat.testBit_two_pow_mul_add _ hq, Nat.testBit_two_pow_mul_add _ hm, Nat.testBit_two_pow_mul_add _ hqm]
  by_cases h : j < k
  · rw [if_pos h, if_pos h, if_pos h, Nat.testBit_xor]
  · rw [if_neg h, if_neg h, if_neg h, Nat.testBit_xor]
theorem andC {k u : Nat} (h : u < 2 ^ k) : u &&& (2 ^ k - (u + 1)) = 0 := by
  apply Nat.eq_of_testBit_eq
  intro j
  rw [Nat.testBit_and, Nat.testBit_two_pow_sub_succ h, Nat.zero_testBit]
  generalize u.testBit j = x
  generalize decide (j < k) = y
  revert x y
  decide
theorem oddF : ∀ k s, s < 2 ^ k → s % 2 = 1 → ∃ u m, 1 ≤ m ∧ m ≤ k ∧ s = u * 2 ^ (m + 1) + (2 ^ m - 1)
  | 0, s, h, h1 => by
    rw [Nat.pow_zero] at h
    omega
  | k + 1, s, h, h1 => by
    by_cases q : s / 2 % 2 = 1
    · obtain ⟨u, m, h2, h3, h4⟩ := oddF k (s / 2) (by rw [Nat.pow_succ] at h; omega) q
      refine ⟨u, m + 1, by omega, by omega, ?_⟩
      have hp : 0 < 2 ^ m := Nat.two_pow_pos m
      have e1 : u * 2 ^ (m + 1 + 1) = 2 * (u * 2 ^ (m + 1)) := by rw [Nat.pow_succ 2 (m + 1), Nat.mul_comm (2 ^ (m + 1)) 2, Nat.mul_left_comm]
      have e2 : 2 ^ (m + 1) - 1 = 2 * (2 ^ m - 1) + 1 := by rw [Nat.pow_succ]; omega
      rw [e1, e2]
      generalize u * 2 ^ (m + 1) = A at h4 ⊢
      generalize 2 ^ m - 1 = B at h4 ⊢
      omega
    · refine ⟨s / 4, 1, by omega, by omega, ?_⟩
      show s = s / 4 * 4 + 1
      omega
theorem decF : ∀ k s, 0 < s → s < 2 ^ k → ∃ u z m, 1 ≤ m ∧ z + m ≤ k ∧ s = u * 2 ^ (z + m + 1) + (2 ^ m - 1) * 2 ^ z
  | 0, s, h0, h => by
    rw [Nat.pow_zero] at h
    omega
  | k + 1, s, h0, h => by
    by_cases q : s % 2 = 1
    · obtain ⟨u, m, h2, h3, h4⟩ := oddF (k + 1) s h q
      exact ⟨u, 0, m, h2, by omega, by rw [Nat.zero_add, Nat.pow_zero, Nat.mul_one]; exact h4⟩
    · obtain ⟨u, z, m, h2, h3, h4⟩ := decF k (s / 2) (by omega) (by rw [Nat.pow_succ] at h; omega)
      refine ⟨u, z + 1, m, h2, by omega, ?_⟩
      have e1 : u * 2 ^ (z + 1 + m + 1) = 2 * (u * 2 ^ (z + m + 1)) := by rw [show z + 1 + m + 1 = (z + m + 1) + 1 by omega, Nat.pow_succ 2 (z + m + 1), Nat.mul_comm (2 ^ (z + m + 1)) 2, Nat.mul_left_comm]
      have e2 : (2 ^ m - 1) * 2 ^ (z + 1) = 2 * ((2 ^ m - 1) * 2 ^ z) := by rw [Nat.pow_succ, Nat.mul_comm (2 ^ z) 2, Nat.mul_left_comm]
      rw [e1, e2]
      generalize u * 2 ^ (z + m + 1) = A at h4 ⊢
      generalize (2 ^ m - 1) * 2 ^ z = B at h4 ⊢
      omega
/-- the class's next set, in numbers -/
def nxN (s : Nat) : Nat :=
  let low := s &&& (4294967296 - s)
  let ra := s + low
  ra ||| ((s ^^^ ra) / 4 / 2 ^ bcN (low - 1))
theorem nx_f0 : ∀ z, z < 17 → ∀ m, m < 17 → (m = 0 ∨ 16 < z + m) ∨
    ((2 ^ m - 1) * 2 ^ z &&& (2 ^ (z + m + 1) - (2 ^ m - 1) * 2 ^ z) = 2 ^ z ∧
    ((2 ^ m - 1) * 2 ^ z ^^^ 2 ^ (z + m)) / 4 / 2 ^ bcN (2 ^ z - 1) = 2 ^ (m - 1) - 1 ∧
    2 ^ (z + m) ||| (2 ^ (m - 1) - 1) = 2 ^ (z + m) + (2 ^ (m - 1) - 1) ∧
    (2 ^ m - 1) * 2 ^ z + 2 ^ z = 2 ^ (z + m) ∧ 1 ≤ (2 ^ m - 1) * 2 ^ z ∧ 2 ^ z ≤ 65535 ∧ 1 ≤ 2 ^ z ∧ 2 ^ (m - 1) - 1 < 2 ^ (z + m)) := by decide +kernel
theorem nx_f {z m : Nat} (hm : 1 ≤ m) (hzm : z + m ≤ 16) :
    ((2 ^ m - 1) * 2 ^ z &&& (2 ^ (z + m + 1) - (2 ^ m - 1) * 2 ^ z) = 2 ^ z ∧
    ((2 ^ m - 1) * 2 ^ z ^^^ 2 ^ (z + m)) / 4 / 2 ^ bcN (2 ^ z - 1) = 2 ^ (m - 1) - 1 ∧
    2 ^ (z + m) ||| (2 ^ (m - 1) - 1) = 2 ^ (z + m) + (2 ^ (m - 1) - 1) ∧
    (2 ^ m - 1) * 2 ^ z + 2 ^ z = 2 ^ (z + m) ∧ 1 ≤ (2 ^ m - 1) * 2 ^ z ∧ 2 ^ z ≤ 65535 ∧ 1 ≤ 2 ^ z ∧ 2 ^ (m - 1) - 1 < 2 ^ (z + m)) :=
  (nx_f0 z (by omega) m (by omega)).resolve_left (fun q => by omega)
theorem nx_main {u z m s : Nat} (hm : 1 ≤ m) (hzm : z + m ≤ 16) (hs : s = u * 2 ^ (z + m + 1) + (2 ^ m - 1) * 2 ^ z) (h2 : s < 65536) :
    nxN s = (2 * u + 1) * 2 ^ (z + m) + (2 ^ (m - 1) - 1) ∧ s &&& (4294967296 - s) = 2 ^ z := by
  obtain ⟨f1, f2, f3, f4, f5, f6, f7, f8⟩ := nx_f hm hzm
  have hB : 2 ^ (z + m + 1) = 2 * 2 ^ (z + m) := by rw [Nat.pow_succ, Nat.mul_comm]
  have hT : 2 ^ (z + m + 1) * 2 ^ (32 - (z + m + 1)) = 4294967296 := by
    rw [← Nat.pow_add, show z + m + 1 + (32 - (z + m + 1)) = 32 by omega]
  have hu : u < 2 ^ (32 - (z + m + 1)) := by
    apply Classical.byContradiction
    intro q
    have q1 : 2 ^ (z + m + 1) * 2 ^ (32 - (z + m + 1)) ≤ 2 ^ (z + m + 1) * u := Nat.mul_le_mul_left _ (by omega)
    rw [Nat.mul_comm _ u] at q1
    omega
  have hC := andC hu
  have e1 : 4294967296 - s = 2 ^ (z + m + 1) * (2 ^ (32 - (z + m + 1)) - (u + 1)) + (2 ^ (z + m + 1) - (2 ^ m - 1) * 2 ^ z) := by
    have q1 : 2 ^ (z + m + 1) * (u + 1) ≤ 2 ^ (z + m + 1) * 2 ^ (32 - (z + m + 1)) := Nat.mul_le_mul_left _ (by omega)
    rw [Nat.mul_sub, hT]
    rw [hT] at q1
    rw [Nat.mul_add, Nat.mul_one, Nat.mul_comm _ u] at q1 ⊢
    omega
  have es : s = 2 ^ (z + m + 1) * u + (2 ^ m - 1) * 2 ^ z := by rw [Nat.mul_comm _ u]; exact hs
  have hlow : s &&& (4294967296 - s) = 2 ^ z := by
    rw [e1]
    have q := andS (k := z + m + 1) (p := u) (q := (2 ^ m - 1) * 2 ^ z) (M := 2 ^ (32 - (z + m + 1)) - (u + 1)) (m := 2 ^ (z + m + 1) - (2 ^ m - 1) * 2 ^ z) (by omega) (by omega)
    rw [← es, hC, f1, Nat.mul_zero, Nat.zero_add] at q
    exact q
  refine ⟨?_, hlow⟩
  unfold nxN
  dsimp only
  rw [hlow]
  have era : s + 2 ^ z = 2 ^ (z + m + 1) * u + 2 ^ (z + m) := by omega
  have ex : s ^^^ (s + 2 ^ z) = (2 ^ m - 1) * 2 ^ z ^^^ 2 ^ (z + m) := by
    have q := xorS (k := z + m + 1) (p := u) (q := (2 ^ m - 1) * 2 ^ z) (M := u) (m := 2 ^ (z + m)) (by omega) (by omega)
    rw [← es, ← era, Nat.xor_self, Nat.mul_zero, Nat.zero_add] at q
    exact q
  rw [ex, f2, era]
  have q := orS (k := z + m + 1) (p := u) (q := 2 ^ (z + m)) (M := 0) (m := 2 ^ (m - 1) - 1) (by omega) (by omega)
  rw [Nat.mul_zero, Nat.zero_add, Nat.or_zero, f3] at q
  rw [q, hB, Nat.add_mul, Nat.one_mul, Nat.mul_assoc 2, Nat.mul_assoc 2, Nat.mul_comm u]
  omega
theorem xorN (a b : Nat) : nI a ^^^ nI b = nI (a ^^^ b) := by
  apply Int32.toBitVec_inj.mp
  show BitVec.ofNat 32 a ^^^ BitVec.ofNat 32 b = BitVec.ofNat 32 (a ^^^ b)
  exact BitVec.ofNat_xor.symm
theorem orN (a b : Nat) : nI a ||| nI b = nI (a ||| b) := by
  apply Int32.toBitVec_inj.mp
  show BitVec.ofNat 32 a ||| BitVec.ofNat 32 b = BitVec.ofNat 32 (a ||| b)
  exact BitVec.ofNat_or.symm
theorem negN {s : Nat} (hs : s < 4294967296) : -nI s = nI (4294967296 - s) := by
  apply Int32.toBitVec_inj.mp
  rw [Int32.toBitVec_neg]
  apply BitVec.eq_of_toNat_eq
  show (-(BitVec.ofNat 32 s)).toNat = (BitVec.ofNat 32 (4294967296 - s)).toNat
  rw [BitVec.toNat_neg, BitVec.toNat_ofNat, BitVec.toNat_ofNat, Nat.mod_eq_of_lt (show s < 2 ^ 32 by omega)]
theorem nx_spec {s : Nat} (h1 : 1 ≤ s) (h2 : s < 65536) : nxS (nI s) = nI (nxN s) ∧ nxN s < 262144 ∧ s < nxN s ∧ pcB (nxN s) = pcB s ∧ ∀ t, s < t → t < nxN s → ¬ pcB t = pcB s := by
  obtain ⟨u, z, m, c1, c2, c3⟩ := decF 16 s (by omega) h2
  obtain ⟨c4, hlow⟩ := nx_main c1 c2 c3 h2
  obtain ⟨f1, f2, f3, f4, f5, f6, f7, f8⟩ := nx_f c1 c2
  have hn := pc_next c1 c2 c3 c4
  have hB : 2 ^ (z + m) ≤ 2 ^ 16 := Nat.pow_le_pow_right (by omega) c2
  have hx : nxN s < 262144 := by
    have e1 : (2 * u + 1) * 2 ^ (z + m) = u * 2 ^ (z + m + 1) + 2 ^ (z + m) := by rw [Nat.add_mul, Nat.one_mul, Nat.mul_comm 2 u, Nat.mul_assoc, show 2 * 2 ^ (z + m) = 2 ^ (z + m + 1) by rw [Nat.pow_succ, Nat.mul_comm]]
    rw [c4, e1]
    omega
  have c5 : s &&& (4294967296 - s) ≤ 65535 := by rw [hlow]; exact f6
  have c6 : 1 ≤ s &&& (4294967296 - s) := by rw [hlow]; exact f7
  clear hlow
  refine ⟨?_, hx, hn.1, hn.2.1, hn.2.2⟩
  unfold nxS nxN
  dsimp only
  rw [negN (by omega), landN]
  obtain ⟨lo, hlo⟩ : ∃ lo, s &&& (4294967296 - s) = lo := ⟨_, rfl⟩
  rw [hlo] at c5 c6 ⊢
  have hk : bcN (lo - 1) ≤ 16 := by
    have h3 := bcN_tb ((lo - 1) / 256) (by omega) ((lo - 1) % 256) (by omega)
    rw [Nat.div_add_mod, tb_pc] at h3
    rw [h3]
    exact pc_le _ _
  have hxr : s ^^^ (s + lo) < 2 ^ 17 := Nat.xor_lt_two_pow (by omega) (by omega)
  rw [nI_add, xorN, xuN (by omega) (by omega), pk_sub c6, bcI_N (by omega), show (s ^^^ (s + lo)) / 2 ^ 2 = (s ^^^ (s + lo)) / 4 from rfl, xuN (by omega) (by omega), orN]
section Ls
variable {P : Int32 → Bool}
theorem lsIn_spec {lim sz : Nat} (hlim : lim ≤ 65536) : ∀ (k s : Nat), 1 ≤ s → s < 262144 → (pcB s = sz ∨ lim ≤ s) → lim ≤ k + s →
    (∃ b, lsIn P lim k (nI s) = some (nI b) ∧ s ≤ b ∧ b < lim ∧ P (nI b) = true ∧ pcB b = sz ∧ ∀ t, s ≤ t → t < b → pcB t = sz → ¬ P (nI t) = true) ∨
    (lsIn P lim k (nI s) = none ∧ ∀ t, s ≤ t → t < lim → pcB t = sz → ¬ P (nI t) = true) := by
  intro k
  induction k with
  | zero =>
    intro s _ _ _ h4
    exact Or.inr ⟨rfl, fun t h5 h6 => absurd h6 (by omega)⟩
  | succ k ih =>
    intro s h1 h2 h3 h4
    have e := nI_toInt (n := s) (by omega)
    rw [lsIn]
    by_cases hs : s < lim
    · have hsz : pcB s = sz := h3.resolve_right (by omega)
      rw [if_pos (by rw [e]; omega)]
      by_cases hp : P (nI s) = true
      · rw [if_pos hp]
        exact Or.inl ⟨s, rfl, Nat.le_refl _, hs, hp, hsz, fun t h5 h6 => by omega⟩
      · rw [if_neg hp]
        obtain ⟨n1, n2, n3, n4, n5⟩ := nx_spec h1 (by omega)
        rw [n1]
        rcases ih (nxN s) (by omega) n2 (Or.inl (n4.trans hsz)) (by omega) with ⟨b, b1, b2, b3, b4, b5, b6⟩ | ⟨b1, b2⟩
        · refine Or.inl ⟨b, b1, by omega, b3, b4, b5, fun t h5 h6 h7 => ?_⟩
          rcases Nat.lt_or_ge t (nxN s) with q | q
          · rcases Nat.lt_or_ge s t with q2 | q2
            · exact absurd (h7.trans hsz.symm) (n5 t q2 q)
            · have : t = s := by omega
              rw [this]; exact hp
          · exact b6 t q h6 h7
        · refine Or.inr ⟨b1, fun t h5 h6 h7 => ?_⟩
          rcases Nat.lt_or_ge t (nxN s) with q | q
          · rcases Nat.lt_or_ge s t with q2 | q2
            · exact absurd (h7.trans hsz.symm) (n5 t q2 q)
            · have : t = s := by omega
              rw [this]; exact hp
          · exact b2 t q h6 h7
    · rw [if_neg (by rw [e]; omega)]
      exact Or.inr ⟨rfl, fun t h5 h6 => by omega⟩
theorem pcB_lt {t j : Nat} (hj : j ≤ 20) (h : t < 2 ^ j) : pcB t = pcF j t := by
  have := pc_split j (20 - j) 0 t h
  rw [Nat.zero_mul, Nat.zero_add, pc_0, show j + (20 - j) = 20 by omega] at this
  exact this
/-- the least of the fewest -/
abbrev lsB (P : Int32 → Bool) (n b : Nat) : Prop := b < 2 ^ n ∧ P (nI b) = true ∧ (∀ t, t < 2 ^ n → P (nI t) = true → pcB b ≤ pcB t) ∧ (∀ t, t < b → P (nI t) = true → pcB b < pcB t)
theorem lsOut_spec {n : Nat} (hn : n ≤ 16) (hf : P (nI (2 ^ n - 1)) = true) : ∀ (k sz : Nat), sz + k = n + 1 → 1 ≤ sz → (∀ t, t < 2 ^ n → pcB t < sz → ¬ P (nI t) = true) → ∃ b, lsOut P (2 ^ n) k sz = nI b ∧ lsB P n b
  | 0, sz, h1, _, h3 => by
    exfalso
    have hp : 0 < 2 ^ n := Nat.two_pow_pos n
    have e : pcB (2 ^ n - 1) = n := by rw [pcB_lt (j := n) (by omega) (by omega), pc_ones]
    exact h3 (2 ^ n - 1) (by omega) (by omega) hf
  | k + 1, sz, h1, h2, h3 => by
    have hp : 2 ≤ 2 ^ sz := Nat.le_trans (by decide) (Nat.pow_le_pow_right (by omega) h2)
    have hq : 2 ^ sz ≤ 2 ^ 16 := Nat.pow_le_pow_right (by omega) (by omega)
    have hq2 : 2 ^ n ≤ 2 ^ 16 := Nat.pow_le_pow_right (by omega) hn
    have e : pcB (2 ^ sz - 1) = sz := by rw [pcB_lt (j := sz) (by omega) (by omega), pc_ones]
    have hlow : ∀ t, pcB t = sz → 2 ^ sz - 1 ≤ t := fun t ht => by
      rcases Nat.lt_or_ge t (2 ^ sz - 1) with q | q
      · exfalso
        have := pc_lt sz t q
        rw [pcB_lt (j := sz) (by omega) (by omega)] at ht
        omega
      · exact q
    rw [lsOut]
    rcases lsIn_spec (P := P) (lim := 2 ^ n) (sz := sz) (by omega) (2 ^ n) (2 ^ sz - 1) (by omega) (by omega) (Or.inl e) (by omega) with ⟨b, b1, b2, b3, b4, b5, b6⟩ | ⟨b1, b2⟩
    · rw [b1]
      refine ⟨b, rfl, b3, b4, fun t h5 h6 => ?_, fun t h5 h6 => ?_⟩
      · rcases Nat.lt_or_ge (pcB t) sz with q | q
        · exact absurd h6 (h3 t h5 q)
        · omega
      · rcases Nat.lt_or_ge (pcB t) sz with q | q
        · exact absurd h6 (h3 t (by omega) q)
        · rcases Nat.lt_or_ge sz (pcB t) with q2 | q2
          · omega
          · have q3 : pcB t = sz := by omega
            exact absurd h6 (b6 t (hlow t q3) h5 q3)
    · rw [b1]
      exact lsOut_spec hn hf k (sz + 1) (by omega) (by omega) (fun t h5 h6 => by
        rcases Nat.lt_or_ge (pcB t) sz with q | q
        · exact h3 t h5 q
        · have q3 : pcB t = sz := by omega
          exact b2 t (hlow t q3) h5 q3)
theorem ls_spec {n : Nat} (hn : n ≤ 16) (hf : P (nI (2 ^ n - 1)) = true) : ∃ b, lsS P n = nI b ∧ lsB P n b := by
  unfold lsS
  by_cases h0 : P 0 = true
  · rw [if_pos h0]
    refine ⟨0, rfl, Nat.two_pow_pos n, h0, fun t _ _ => ?_, fun t ht => by omega⟩
    show pcB 0 ≤ _
    rw [show pcB 0 = 0 from pc_0 20]
    omega
  · rw [if_neg h0]
    refine lsOut_spec hn hf n 1 (by omega) (Nat.le_refl _) (fun t h1 h2 => ?_)
    have hq2 : 2 ^ n ≤ 2 ^ 16 := Nat.pow_le_pow_right (by omega) hn
    rcases Nat.eq_zero_or_pos t with q | q
    · subst q; exact h0
    · exfalso
      have h9 : 0 < pcB t := pc_pos 20 t q (by omega)
      omega
theorem sw_spec : ∀ n, n ≤ 65536 → (swF P n = (nI 1000000, nI 0) ∧ ∀ t, t < n → ¬ P (nI t) = true) ∨ ∃ b, b < n ∧ swF P n = (nI (pcB b), nI b) ∧ P (nI b) = true ∧ (∀ t, t < n → P (nI t) = true → pcB b ≤ pcB t) ∧ (∀ t, t < b → P (nI t) = true → pcB b < pcB t)
  | 0, _ => Or.inl ⟨rfl, fun t ht => by omega⟩
  | n + 1, hn => by
    have eb : bcM (nI n) 16 = nI (pcB n) := by rw [tbM (by omega) 16 (by omega), pc_16 (by omega)]
    have hb : pcB n ≤ 20 := pc_le 20 n
    have e1 := nI_toInt (n := pcB n) (by omega)
    rw [swF, eb, e1]
    rcases sw_spec n (by omega) with ⟨i1, i2⟩ | ⟨b, b1, b2, b3, b4, b5⟩
    · rw [i1]
      have e2 : (nI 1000000).toInt = 1000000 := by decide
      by_cases hp : P (nI n) = true
      · rw [if_pos ⟨by show ((pcB n : Nat) : Int) < (nI 1000000).toInt; rw [e2]; omega, hp⟩]
        refine Or.inr ⟨n, by omega, rfl, hp, fun t h1 h2 => ?_, fun t h1 h2 => absurd h2 (i2 t h1)⟩
        rcases Nat.lt_succ_iff_lt_or_eq.mp h1 with q | q
        · exact absurd h2 (i2 t q)
        · rw [q]; exact Nat.le_refl _
      · rw [if_neg (fun q => hp q.2)]
        refine Or.inl ⟨rfl, fun t h1 => ?_⟩
        rcases Nat.lt_succ_iff_lt_or_eq.mp h1 with q | q
        · exact i2 t q
        · rw [q]; exact hp
    · rw [b2]
      have hb2 : pcB b ≤ 20 := pc_le 20 b
      have e2 := nI_toInt (n := pcB b) (by omega)
      by_cases hp : pcB n < pcB b ∧ P (nI n) = true
      · rw [if_pos ⟨by show ((pcB n : Nat) : Int) < (nI (pcB b)).toInt; rw [e2]; omega, hp.2⟩]
        refine Or.inr ⟨n, by omega, rfl, hp.2, fun t h1 h2 => ?_, fun t h1 h2 => ?_⟩
        · rcases Nat.lt_succ_iff_lt_or_eq.mp h1 with q | q
          · have := b4 t q h2; omega
          · rw [q]; exact Nat.le_refl _
        · have := b4 t h1 h2; omega
      · rw [if_neg (fun q => hp ⟨by have q1 : ((pcB n : Nat) : Int) < (nI (pcB b)).toInt := q.1; rw [e2] at q1; omega, q.2⟩)]
        refine Or.inr ⟨b, by omega, rfl, b3, fun t h1 h2 => ?_, b5⟩
        rcases Nat.lt_succ_iff_lt_or_eq.mp h1 with q | q
        · exact b4 t q h2
        · rcases Nat.lt_or_ge (pcB n) (pcB b) with q2 | q2
          · rw [q] at h2; exact absurd ⟨q2, h2⟩ hp
          · rw [q]; exact q2
theorem ls_sw {P' : Int32 → Bool} {n : Nat} (hn : n ≤ 16) (h : ∀ s, s < 2 ^ n → P (nI s) = P' (nI s)) (hf : P (nI (2 ^ n - 1)) = true) : lsS P n = (swF P' (2 ^ n)).2 ∧ bcI (lsS P n) = (swF P' (2 ^ n)).1 := by
  have hq2 : 2 ^ n ≤ 2 ^ 16 := Nat.pow_le_pow_right (by omega) hn
  have hp : 0 < 2 ^ n := Nat.two_pow_pos n
  obtain ⟨b, b1, b2, b3, b4, b5⟩ := ls_spec hn hf
  rcases sw_spec (P := P') (2 ^ n) (by omega) with ⟨_, i2⟩ | ⟨c, c1, c2, c3, c4, c5⟩
  · exact absurd ((h _ (by omega)).symm.trans hf) (i2 (2 ^ n - 1) (by omega))
  · have hbc : b = c := by
      rcases Nat.lt_trichotomy b c with q | q | q
      · have z1 := c5 b q ((h b b2).symm.trans b3)
        have z2 := b4 c c1 ((h c c1).trans c3)
        omega
      · exact q
      · have z1 := b5 c q ((h c c1).trans c3)
        have z2 := c4 b b2 ((h b b2).symm.trans b3)
        omega
    subst hbc
    rw [b1, c2]
    refine ⟨rfl, ?_⟩
    rw [bcI_N (by omega)]
    have h3 := bcN_tb (b / 256) (by omega) (b % 256) (by omega)
    rw [Nat.div_add_mod, pc_16 (by omega)] at h3
    rw [h3]
end Ls

/-! fractions -/
theorem gcL_gcd : ∀ (m d r k : Nat), d < 2 ^ 62 → r < 2 ^ m → r < 2 ^ 62 → 2 * m + 1 ≤ k → gcL k (lN d) (lN r) = lN (Nat.gcd d r)
  | 0, d, r, k, hd, hr, _, hk => by
    obtain ⟨k, rfl⟩ : ∃ j, k = j + 1 := ⟨k - 1, by omega⟩
    have h0 : r = 0 := by omega
    subst h0
    rw [gcL, if_pos rfl, Nat.gcd_zero_right]
  | m + 1, d, r, k, hd, hr, hr2, hk => by
    obtain ⟨k, rfl⟩ : ∃ j, k = j + 2 := ⟨k - 2, by omega⟩
    rw [gcL]
    by_cases h0 : r = 0
    · subst h0
      rw [if_pos rfl, Nat.gcd_zero_right]
    · have hn : ¬ lN r = lN 0 := fun q => h0 ((pk_lEQ (by omega) (by omega)).mp q)
      rw [if_neg hn, pk_lRem (by omega) (by omega) (by omega)]
      have h1 : d % r < r := Nat.mod_lt _ (by omega)
      have e1 : Nat.gcd d r = Nat.gcd r (d % r) := by rw [Nat.gcd_comm d r, Nat.gcd_rec r d, Nat.gcd_comm]
      rw [gcL]
      by_cases h2 : d % r = 0
      · rw [h2, if_pos rfl, e1, h2, Nat.gcd_zero_right]
      · have hn2 : ¬ lN (d % r) = lN 0 := fun q => h2 ((pk_lEQ (by omega) (by omega)).mp q)
        rw [if_neg hn2, pk_lRem (by omega) (by omega) (by omega)]
        have h3 : r % (d % r) < d % r := Nat.mod_lt _ (by omega)
        have h4 : r % (d % r) + d % r ≤ r := by
          have h5 := Nat.div_add_mod r (d % r)
          have h6 : 1 ≤ r / (d % r) := Nat.div_pos (by omega) (by omega)
          have h7 : d % r * 1 ≤ d % r * (r / (d % r)) := Nat.mul_le_mul_left _ h6
          omega
        have h8 : 2 ^ (m + 1) = 2 * 2 ^ m := by rw [Nat.pow_succ, Nat.mul_comm]
        have e2 : Nat.gcd r (d % r) = Nat.gcd (d % r) (r % (d % r)) := by rw [Nat.gcd_comm r, Nat.gcd_rec (d % r) r, Nat.gcd_comm]
        rw [gcL_gcd m (d % r) (r % (d % r)) k (by omega) (by omega) (by omega) (by omega), e1, e2]
theorem fr_eq {t b : Nat} {a : Int32} (hb : 0 < b) (hb2 : b < 2 ^ 40) (ht : t < 2 ^ 40) : frS (lN t) (lN b) a = (if a = 0 then lN (t / Nat.gcd b t) else lN (b / Nat.gcd b t)) := by
  have e : gcL 100 (lN b) (lN t) = lN (Nat.gcd b t) := gcL_gcd 40 b t 100 (by omega) ht (by omega) (by omega)
  have hg : 0 < Nat.gcd b t := Nat.gcd_pos_of_pos_left _ hb
  have hg2 : Nat.gcd b t ≤ b := Nat.gcd_le_left _ hb
  unfold frS
  rw [e, if_neg (fun q => by have := (pk_lEQ (by omega) (by omega)).mp q; omega)]
  by_cases h0 : a = 0
  · rw [if_pos h0, if_pos h0, pk_lDiv (by omega) (by omega) (by omega)]
  · rw [if_neg h0, if_neg h0, pk_lDiv (by omega) (by omega) (by omega)]
theorem abF_N {v : Int32} (hv : inR v 11) {n : Nat} : ∀ i, abF v n i = lN (tn v ^ (min i n) * 10 ^ (i - min i n))
  | 0 => by
    rw [abF, show min 0 n = 0 by omega]
    rfl
  | i + 1 => by
    obtain ⟨t1, t2⟩ := tn_lt hv
    have e : v.toInt64 = lN (tn v) := by
      conv => lhs; rw [t2]
      exact nI_l (by omega)
    rw [abF, abF_N hv i]
    by_cases h : i < n
    · rw [if_pos h, e, lN_mul, show min i n = i by omega, show min (i + 1) n = i + 1 by omega, Nat.sub_self, Nat.sub_self, Nat.pow_zero, Nat.mul_one, Nat.mul_one, Nat.pow_succ]
    · rw [if_neg h, lN_mul, show min i n = n by omega, show min (i + 1) n = n by omega, show i + 1 - n = (i - n) + 1 by omega, Nat.pow_succ, Nat.mul_assoc]
theorem ab6 {v : Int32} (hv : inR v 11) {k : Nat} (hk : k ≤ 6) : lN 1000000 - abF v k 6 = lN ((10 ^ k - tn v ^ k) * 10 ^ (6 - k)) ∧ (10 ^ k - tn v ^ k) * 10 ^ (6 - k) ≤ 1000000 := by
  have t1 := (tn_lt hv).1
  have h1 : tn v ^ k ≤ 10 ^ k := Nat.pow_le_pow_left (by omega) k
  have h2 : 10 ^ k * 10 ^ (6 - k) = 1000000 := by
    rw [← Nat.pow_add, show k + (6 - k) = 6 by omega]
  have h3 : tn v ^ k * 10 ^ (6 - k) ≤ 1000000 := by rw [← h2]; exact Nat.mul_le_mul_right _ h1
  rw [abF_N hv 6, show min 6 k = k by omega, lN_sub h3, Nat.sub_mul, h2]
  exact ⟨rfl, Nat.sub_le _ _⟩
theorem bitB_1 {y : Int32} {k : Nat} : bitB y k = decide ((y >>> (nI k &&& 31)) &&& nI 1 = nI 1) := by
  unfold bitB
  by_cases hq : (y >>> (nI k &&& 31)) &&& nI 1 = 0
  · rw [decide_eq_true hq, decide_eq_false (fun z => bit1.mp z hq)]; rfl
  · rw [decide_eq_false hq, decide_eq_true (bit1.mpr hq)]; rfl
section Q4
variable {w h la : Nat} {af : Nat → Int32} {nc : Nat} {fc : Nat → Int32} {nl : Nat} {fl : Nat → Int32} {ns : Nat} {fs mS : Nat → Int32}
theorem an_likely {c m a : Int32} (H : RB w h la af nc fc nl fl ns fs mS) : (if inR c (w * h) ∧ inR m 6 ∧ inR a 2 then (if fitS w h la af nc fc fs ns = 0 then (-4) else frS (lN (cntF (fun d => bitB (fitS w h la af nc fc fs ns) d && decide (mkS af nc fc (tn c) d = m)) (la + 1))) (bcI (fitS w h la af nc fc fs ns)).toInt64 a) else (-1)) =
    (if inR c (w * h) ∧ inR m 6 ∧ inR a 2 then (if dyM w h la mS nc ns = 0 then (-4) else (if a = 0 then lN ((cntF (fun d => decide ((dyM w h la mS nc ns >>> (nI d &&& 31)) &&& nI 1 = nI 1) && decide (mkM mS nc (tn c) d = m)) (la + 1)) / Nat.gcd (cntF (fun k => bitB (dyM w h la mS nc ns) k) 16) (cntF (fun d => decide ((dyM w h la mS nc ns >>> (nI d &&& 31)) &&& nI 1 = nI 1) && decide (mkM mS nc (tn c) d = m)) (la + 1))) else lN ((cntF (fun k => bitB (dyM w h la mS nc ns) k) 16) / Nat.gcd (cntF (fun k => bitB (dyM w h la mS nc ns) k) 16) (cntF (fun d => decide ((dyM w h la mS nc ns >>> (nI d &&& 31)) &&& nI 1 = nI 1) && decide (mkM mS nc (tn c) d = m)) (la + 1))))) else (-1)) := by
  have hw := H.1.wh
  have hla := H.1.2.2.2.2
  by_cases hq : inR c (w * h) ∧ inR m 6 ∧ inR a 2
  · have t1 := (tn_lt hq.1).1
    rw [if_pos hq, if_pos hq, an_count4 H, fit_eq H (Nat.le_refl _)]
    by_cases h0 : dyM w h la mS nc ns = 0
    · rw [if_pos h0, if_pos h0]
    · have hpos : 0 < cntF (fun k => bitB (dyM w h la mS nc ns) k) 16 := xbits_pos (by omega) h0
      have hle := cntF_le (fun k => bitB (dyM w h la mS nc ns) k) 16
      have hle2 := cntF_le (fun d => decide ((dyM w h la mS nc ns >>> (nI d &&& 31)) &&& nI 1 = nI 1) && decide (mkM mS nc (tn c) d = m)) (la + 1)
      rw [if_neg h0, if_neg h0, bcM_cnt, nI_l (by omega), cntF_congr (la + 1) (fun d hd => by rw [bitB_1, mk_eq H (show tn c < 16 by omega) d (by omega)])]
      exact fr_eq hpos (by omega) (by omega)
  · rw [if_neg hq, if_neg hq]
theorem cnt_sh (H : RB w h la af nc fc nl fl ns fs mS) {x c : Nat} (hx : x < w * h) : cntF (fun l => bitB (shS w h af nc fc fl l x) c) nl = cntF (fun l => bitB (shM w h mS nc l x) c) nl :=
  cntF_congr nl (fun l hl => by rw [sh_eq H hl hx])
theorem an_luck {v x c a : Int32} (H : RB w h la af nc fc nl fl ns fs mS) : (if inR v 11 ∧ inR x (w * h) ∧ inR c (w * h) ∧ inR a 2 then frS (lN 1000000 - abF v (cntF (fun l => bitB (shS w h af nc fc fl l (tn x)) (tn c)) nl) 6) (lN 1000000) a else (-1)) =
    (if inR v 11 ∧ inR x (w * h) ∧ inR c (w * h) ∧ inR a 2 then (if a = 0 then lN (((10 ^ (cntF (fun l => bitB (shM w h mS nc l (tn x)) (tn c)) nl) - tn v ^ (cntF (fun l => bitB (shM w h mS nc l (tn x)) (tn c)) nl))) / Nat.gcd (10 ^ (cntF (fun l => bitB (shM w h mS nc l (tn x)) (tn c)) nl)) ((10 ^ (cntF (fun l => bitB (shM w h mS nc l (tn x)) (tn c)) nl) - tn v ^ (cntF (fun l => bitB (shM w h mS nc l (tn x)) (tn c)) nl)))) else lN ((10 ^ (cntF (fun l => bitB (shM w h mS nc l (tn x)) (tn c)) nl)) / Nat.gcd (10 ^ (cntF (fun l => bitB (shM w h mS nc l (tn x)) (tn c)) nl)) ((10 ^ (cntF (fun l => bitB (shM w h mS nc l (tn x)) (tn c)) nl) - tn v ^ (cntF (fun l => bitB (shM w h mS nc l (tn x)) (tn c)) nl))))) else (-1)) := by
  by_cases hq : inR v 11 ∧ inR x (w * h) ∧ inR c (w * h) ∧ inR a 2
  · have t1 := (tn_lt hq.2.1).1
    have hl6 := H.2.1.2.1
    rw [if_pos hq, if_pos hq, cnt_sh H t1]
    have hk := cntF_le (fun l => bitB (shM w h mS nc l (tn x)) (tn c)) nl
    generalize cntF (fun l => bitB (shM w h mS nc l (tn x)) (tn c)) nl = k at hk
    obtain ⟨e1, e2⟩ := ab6 hq.1 (k := k) (by omega)
    have hp : 0 < 10 ^ (6 - k) := Nat.pow_pos (by omega)
    have e3 : (1000000 : Nat) = 10 ^ k * 10 ^ (6 - k) := by rw [← Nat.pow_add, show k + (6 - k) = 6 by omega]
    rw [e1, fr_eq (by omega) (by omega) (by omega)]
    rw [show Nat.gcd 1000000 ((10 ^ k - tn v ^ k) * 10 ^ (6 - k)) = Nat.gcd (10 ^ k) (10 ^ k - tn v ^ k) * 10 ^ (6 - k) from by rw [e3, Nat.gcd_mul_right]]
    rw [Nat.mul_div_mul_right _ _ hp, show (1000000 : Nat) / (Nat.gcd (10 ^ k) (10 ^ k - tn v ^ k) * 10 ^ (6 - k)) = 10 ^ k / Nat.gcd (10 ^ k) (10 ^ k - tn v ^ k) from by rw [e3, Nat.mul_div_mul_right _ _ hp]]
  · rw [if_neg hq, if_neg hq]
theorem suL_N {f : Nat → Int64} {g : Nat → Nat} : ∀ n, (∀ i, i < n → f i = lN (g i)) → suL f n = lN (suN g n)
  | 0, _ => rfl
  | n + 1, hh => by rw [suL, suN, suL_N n (fun i hi => hh i (by omega)), hh n (by omega), lN_add]
theorem suN_le {g : Nat → Nat} {b : Nat} : ∀ n, (∀ i, i < n → g i ≤ b) → suN g n ≤ n * b
  | 0, _ => by rw [suN, Nat.zero_mul]; omega
  | n + 1, hh => by
    have h1 := suN_le n (fun i hi => hh i (by omega))
    have h2 := hh n (by omega)
    rw [suN, Nat.succ_mul]
    omega
theorem an_mean {v x a : Int32} (H : RB w h la af nc fc nl fl ns fs mS) : (if inR v 11 ∧ inR x (w * h) ∧ inR a 2 then frS (suL (fun c => lN 1000000 - abF v (cntF (fun l => bitB (shS w h af nc fc fl l (tn x)) c) nl) 6) (w * h)) (lN 1000000) a else (-1)) =
    (if inR v 11 ∧ inR x (w * h) ∧ inR a 2 then (if a = 0 then lN ((suN (fun c => (10 ^ (cntF (fun l => bitB (shM w h mS nc l (tn x)) c) nl) - tn v ^ (cntF (fun l => bitB (shM w h mS nc l (tn x)) c) nl)) * 10 ^ (6 - (cntF (fun l => bitB (shM w h mS nc l (tn x)) c) nl))) (w * h)) / Nat.gcd (1000000) (suN (fun c => (10 ^ (cntF (fun l => bitB (shM w h mS nc l (tn x)) c) nl) - tn v ^ (cntF (fun l => bitB (shM w h mS nc l (tn x)) c) nl)) * 10 ^ (6 - (cntF (fun l => bitB (shM w h mS nc l (tn x)) c) nl))) (w * h))) else lN ((1000000) / Nat.gcd (1000000) (suN (fun c => (10 ^ (cntF (fun l => bitB (shM w h mS nc l (tn x)) c) nl) - tn v ^ (cntF (fun l => bitB (shM w h mS nc l (tn x)) c) nl)) * 10 ^ (6 - (cntF (fun l => bitB (shM w h mS nc l (tn x)) c) nl))) (w * h)))) else (-1)) := by
  have hw := H.1.wh
  by_cases hq : inR v 11 ∧ inR x (w * h) ∧ inR a 2
  · have t1 := (tn_lt hq.2.1).1
    have hl6 := H.2.1.2.1
    rw [if_pos hq, if_pos hq]
    have hk : ∀ c, cntF (fun l => bitB (shM w h mS nc l (tn x)) c) nl ≤ 6 := fun c => Nat.le_trans (cntF_le _ _) hl6
    rw [suL_N (g := fun c => (10 ^ (cntF (fun l => bitB (shM w h mS nc l (tn x)) c) nl) - tn v ^ (cntF (fun l => bitB (shM w h mS nc l (tn x)) c) nl)) * 10 ^ (6 - (cntF (fun l => bitB (shM w h mS nc l (tn x)) c) nl))) (w * h) (fun c hc => by rw [cnt_sh H t1]; exact (ab6 hq.1 (hk c)).1)]
    have hs := suN_le (g := fun c => (10 ^ (cntF (fun l => bitB (shM w h mS nc l (tn x)) c) nl) - tn v ^ (cntF (fun l => bitB (shM w h mS nc l (tn x)) c) nl)) * 10 ^ (6 - (cntF (fun l => bitB (shM w h mS nc l (tn x)) c) nl))) (b := 1000000) (w * h) (fun c hc => (ab6 hq.1 (hk c)).2)
    have hs2 : w * h * 1000000 ≤ 16 * 1000000 := Nat.mul_le_mul_right _ hw.2
    exact fr_eq (by omega) (by omega) (by omega)
  · rw [if_neg hq, if_neg hq]
end Q4

/-! how many bits: the class's count and the reference's -/
def bcN (i : Nat) : Nat :=
  let a := i - ((i / 2) &&& 1431655765)
  let b := (a &&& 858993459) + ((a / 4) &&& 858993459)
  let c := (b + b / 16) &&& 252645135
  let d := c + c / 256
  (d + d / 65536) &&& 63
def tbN (y : Nat) : Nat → Nat
  | 0 => 0
  | k + 1 => tbN y k + (y / 2 ^ k) % 2
theorem andS {k p q M m : Nat} (hq : q < 2 ^ k) (hm : m < 2 ^ k) : (2 ^ k * p + q) &&& (2 ^ k * M + m) = 2 ^ k * (p &&& M) + (q &&& m) := by
  have hqm : q &&& m < 2 ^ k := Nat.and_lt_two_pow q hm
  apply Nat.eq_of_testBit_eq
  intro j
  rw [Nat.testBit_and, Nat.testBit_two_pow_mul_add _ hq, Nat.testBit_two_pow_mul_add _ hm, Nat.testBit_two_pow_mul_add _ hqm]
  by_cases h : j < k
  · rw [if_pos h, if_pos h, if_pos h, Nat.testBit_and]
  · rw [if_neg h, if_neg h, if_neg h, Nat.testBit_and]
theorem bc_f1 : ∀ t, t < 2 → ∀ r, r < 128 → (128 * t + r) &&& 85 = r &&& 85 := by decide +kernel
theorem bc_f2 : ∀ t, t < 4 → ∀ r, r < 64 → (64 * t + r) &&& 51 = r &&& 51 := by decide +kernel
theorem bc_f3 : ∀ a, a < 256 → (a / 2) &&& 5592405 = (a / 2) &&& 85 ∧ (a / 2) &&& 85 ≤ a := by decide +kernel
theorem bc_f4 : ∀ p, p < 256 → p &&& 3355443 = p &&& 51 ∧ (p / 4) &&& 3355443 = (p / 4) &&& 51 ∧ (p &&& 51) + ((p / 4) &&& 51) ≤ 102 ∧ ((p &&& 51) + ((p / 4) &&& 51)) % 16 ≤ 6 := by decide +kernel
theorem bc_f5 : ∀ p, p < 128 → p &&& 986895 = p % 16 := by decide +kernel
/-- of a byte -/
def bcV (b : Nat) : Nat :=
  let q := b - ((b / 2) &&& 85)
  let r := (q &&& 51) + ((q / 4) &&& 51)
  (r + r / 16) % 16
theorem bc_f6 : ∀ b, b < 256 → bcV b = tbN b 8 := by decide +kernel
theorem bc_end {u v : Nat} (hu : u ≤ 15) (hv : v ≤ 15) : (256 * u + v + (256 * u + v) / 256 + (256 * u + v + (256 * u + v) / 256) / 65536) % 2 ^ 6 = u + v := by
  rw [show (256 * u + v) / 256 = u by omega, show (256 * u + v + u) / 65536 = 0 by omega]
  omega
theorem bcN_V {a b : Nat} (ha : a < 256) (hb : b < 256) : bcN (256 * a + b) = bcV a + bcV b := by
  unfold bcN bcV
  dsimp only
  have s1 : (256 * a + b) - (((256 * a + b) / 2) &&& 1431655765) = 256 * (a - ((a / 2) &&& 85)) + (b - ((b / 2) &&& 85)) := by
    have h1 := andS (k := 8) (p := a / 2) (q := 128 * (a % 2) + b / 2) (M := 5592405) (m := 85) (by omega) (by decide)
    rw [show 2 ^ 8 * (a / 2) + (128 * (a % 2) + b / 2) = (256 * a + b) / 2 by omega, show 2 ^ 8 * 5592405 + 85 = 1431655765 from rfl, bc_f1 (a % 2) (by omega) (b / 2) (by omega), (bc_f3 a ha).1] at h1
    have h2 := (bc_f3 a ha).2
    have h3 := (bc_f3 b hb).2
    rw [h1]
    omega
  rw [s1]
  obtain ⟨p, hp⟩ : ∃ p, a - ((a / 2) &&& 85) = p := ⟨_, rfl⟩
  obtain ⟨q, hq⟩ : ∃ q, b - ((b / 2) &&& 85) = q := ⟨_, rfl⟩
  rw [hp, hq]
  have hp2 : p < 256 := by omega
  have hq2 : q < 256 := by omega
  have fp := bc_f4 p hp2
  have fq := bc_f4 q hq2
  have s2 : ((256 * p + q) &&& 858993459) + (((256 * p + q) / 4) &&& 858993459) = 256 * ((p &&& 51) + ((p / 4) &&& 51)) + ((q &&& 51) + ((q / 4) &&& 51)) := by
    have h1 := andS (k := 8) (p := p) (q := q) (M := 3355443) (m := 51) (by omega) (by decide)
    have h2 := andS (k := 8) (p := p / 4) (q := 64 * (p % 4) + q / 4) (M := 3355443) (m := 51) (by omega) (by decide)
    rw [show 2 ^ 8 * p + q = 256 * p + q from rfl, show 2 ^ 8 * 3355443 + 51 = 858993459 from rfl, fp.1] at h1
    rw [show 2 ^ 8 * (p / 4) + (64 * (p % 4) + q / 4) = (256 * p + q) / 4 by omega, show 2 ^ 8 * 3355443 + 51 = 858993459 from rfl, bc_f2 (p % 4) (by omega) (q / 4) (by omega), fp.2.1] at h2
    rw [h1, h2]
    omega
  rw [s2]
  obtain ⟨P, hP⟩ : ∃ P, (p &&& 51) + ((p / 4) &&& 51) = P := ⟨_, rfl⟩
  obtain ⟨Q, hQ⟩ : ∃ Q, (q &&& 51) + ((q / 4) &&& 51) = Q := ⟨_, rfl⟩
  have gp := fp.2.2
  have gq := fq.2.2
  rw [hP] at gp
  rw [hQ] at gq
  rw [hP, hQ]
  have s3 : ((256 * P + Q) + (256 * P + Q) / 16) &&& 252645135 = 256 * ((P + P / 16) % 16) + (Q + Q / 16) % 16 := by
    have h1 := andS (k := 8) (p := P + P / 16) (q := Q + 16 * (P % 16) + Q / 16) (M := 986895) (m := 15) (by omega) (by decide)
    rw [show 2 ^ 8 * (P + P / 16) + (Q + 16 * (P % 16) + Q / 16) = (256 * P + Q) + (256 * P + Q) / 16 by omega, show 2 ^ 8 * 986895 + 15 = 252645135 from rfl, bc_f5 (P + P / 16) (by omega), show 15 = 2 ^ 4 - 1 from rfl, Nat.and_two_pow_sub_one_eq_mod] at h1
    rw [h1]
    omega
  rw [s3]
  obtain ⟨u, hu⟩ : ∃ u, (P + P / 16) % 16 = u := ⟨_, rfl⟩
  obtain ⟨v, hv⟩ : ∃ v, (Q + Q / 16) % 16 = v := ⟨_, rfl⟩
  rw [hu, hv, show 63 = 2 ^ 6 - 1 from rfl, Nat.and_two_pow_sub_one_eq_mod]
  exact bc_end (by omega) (by omega)
theorem tb_low {a b : Nat} : ∀ k, k ≤ 8 → tbN (256 * a + b) k = tbN b k
  | 0, _ => rfl
  | k + 1, hk => by
    have h : (256 * a + b) / 2 ^ k % 2 = b / 2 ^ k % 2 := by
      have h1 : k = 0 ∨ k = 1 ∨ k = 2 ∨ k = 3 ∨ k = 4 ∨ k = 5 ∨ k = 6 ∨ k = 7 := by omega
      rcases h1 with q | q | q | q | q | q | q | q
      · rw [q, show 2 ^ 0 = 1 from rfl]; omega
      · rw [q, show 2 ^ 1 = 2 from rfl]; omega
      · rw [q, show 2 ^ 2 = 4 from rfl]; omega
      · rw [q, show 2 ^ 3 = 8 from rfl]; omega
      · rw [q, show 2 ^ 4 = 16 from rfl]; omega
      · rw [q, show 2 ^ 5 = 32 from rfl]; omega
      · rw [q, show 2 ^ 6 = 64 from rfl]; omega
      · rw [q, show 2 ^ 7 = 128 from rfl]; omega
    rw [tbN, tbN, tb_low k (by omega), h]
theorem tb_high {a b : Nat} (hb : b < 256) : ∀ k, tbN (256 * a + b) (8 + k) = tbN b 8 + tbN a k
  | 0 => tb_low 8 (by omega)
  | k + 1 => by
    rw [show 8 + (k + 1) = (8 + k) + 1 from rfl, tbN, tb_high hb k, Nat.pow_add, ← Nat.div_div_eq_div_mul, show (256 * a + b) / 2 ^ 8 = a by omega, Nat.add_assoc]
    rfl
theorem bcN_tb : ∀ a, a < 256 → ∀ b, b < 256 → bcN (256 * a + b) = tbN (256 * a + b) 16 := fun a ha b hb => by
  rw [bcN_V ha hb, bc_f6 a ha, bc_f6 b hb, show 16 = 8 + 8 from rfl, tb_high hb 8]
  omega
/-! bits that are counted -/
theorem landN (a b : Nat) : nI a &&& nI b = nI (a &&& b) := by
  apply Int32.toBitVec_inj.mp
  show BitVec.ofNat 32 a &&& BitVec.ofNat 32 b = BitVec.ofNat 32 (a &&& b)
  exact BitVec.ofNat_and.symm
theorem xuN {n k : Nat} (hn : n < 2 ^ 32) (hk : k < 32) : xu (nI n) (nI k) = nI (n / 2 ^ k) := pk_ushrN hn (nI k) k (s_u k hk)
theorem bcI_N {y : Nat} (hy : y < 65536) : bcI (nI y) = nI (bcN y) := by
  have hle : (y / 2) &&& 1431655765 ≤ y := Nat.le_trans Nat.and_le_left (Nat.div_le_self _ _)
  have e1 : nI y - (xu (nI y) (nI 1) &&& nI 1431655765) = nI (y - ((y / 2) &&& 1431655765)) := by
    rw [xuN (by omega) (by omega), landN, show y / 2 ^ 1 = y / 2 from rfl, pk_sub hle]
  unfold bcI bcN
  dsimp only
  rw [e1]
  obtain ⟨a, ha⟩ : ∃ a, y - ((y / 2) &&& 1431655765) = a := ⟨_, rfl⟩
  have ha2 : a ≤ y := by omega
  rw [ha, xuN (by omega) (by omega), landN, landN, nI_add, show a / 2 ^ 2 = a / 4 from rfl]
  obtain ⟨b, hb⟩ : ∃ b, (a &&& 858993459) + ((a / 4) &&& 858993459) = b := ⟨_, rfl⟩
  have hb2 : b ≤ 2 * a := by
    have h1 : a &&& 858993459 ≤ a := Nat.and_le_left
    have h2 : (a / 4) &&& 858993459 ≤ a / 4 := Nat.and_le_left
    omega
  rw [hb, xuN (by omega) (by omega), nI_add, landN, show b / 2 ^ 4 = b / 16 from rfl]
  obtain ⟨c, hc⟩ : ∃ c, (b + b / 16) &&& 252645135 = c := ⟨_, rfl⟩
  have hc2 : c ≤ b + b / 16 := by rw [← hc]; exact Nat.and_le_left
  rw [hc, xuN (by omega) (by omega), nI_add, show c / 2 ^ 8 = c / 256 from rfl]
  obtain ⟨d, hd⟩ : ∃ d, c + c / 256 = d := ⟨_, rfl⟩
  rw [hd, xuN (by omega) (by omega), nI_add, landN, show d / 2 ^ 16 = d / 65536 from rfl]
theorem tbM {y : Nat} (hy : y < 65536) : ∀ n, n ≤ 16 → bcM (nI y) n = nI (tbN y n)
  | 0, _ => rfl
  | n + 1, hn => by
    rw [bcM, tbM hy n (by omega), pk_shrN (by omega) (nI n &&& 31) n (s_l n (by omega)), show nI 1 = nI 1 from rfl, landN, Nat.and_one_is_mod, nI_add, tbN]
theorem bc_eq {x : Int32} (hx : inR x 65536) : bcI x = bcM x 16 := by
  obtain ⟨y, hy, rfl⟩ := inR_nat hx
  rw [bcI_N hy, tbM hy 16 (by omega)]
  have h1 := bcN_tb (y / 256) (by omega) (y % 256) (by omega)
  rw [Nat.div_add_mod] at h1
  rw [h1]
theorem in16 {x : Int32} {n : Nat} (hn : n ≤ 16) (h : inR x (2 ^ n)) : inR x 65536 := by
  have : 2 ^ n ≤ 2 ^ 16 := Nat.pow_le_pow_right (by omega) hn
  unfold inR at h ⊢
  omega
theorem or_in {x y : Int32} {n : Nat} (hn : n < 31) (hx : inR x (2 ^ n)) (hy : inR y (2 ^ n)) : inR (x ||| y) (2 ^ n) := by
  rw [inR_bits hn] at hx hy ⊢
  intro i h1 h2
  rw [b_or, hx i h1 h2, hy i h1 h2]
  rfl
theorem and_in {x y : Int32} {n : Nat} (hn : n < 31) (hx : inR x (2 ^ n)) : inR (x &&& y) (2 ^ n) := by
  rw [inR_bits hn] at hx ⊢
  intro i h1 h2
  rw [b_and, hx i h1 h2]
  rfl
theorem orF_in {f : Nat → Int32} {n : Nat} (hn : n < 31) : ∀ k, (∀ i, i < k → inR (f i) (2 ^ n)) → inR (orF f k) (2 ^ n)
  | 0, _ => inR_z hn
  | k + 1, hh => by rw [orF]; exact or_in hn (orF_in hn k (fun i hi => hh i (by omega))) (hh k (by omega))
theorem rayF_in {row : Nat → Int32} {cf : Nat → Nat} {door : Int32} {n : Nat} (hn : n < 31) : ∀ (k i : Nat) (acc : Int32), (∀ j, i ≤ j → j < i + k → cf j < n) → inR acc (2 ^ n) → inR (rayF row cf door k i acc) (2 ^ n)
  | 0, _, _, _, ha => ha
  | k + 1, i, acc, hh, ha => by
    have h1 := or_in hn ha (xbit_in (hh i (by omega) (by omega)) hn)
    rw [rayF]
    split
    · exact h1
    · exact rayF_in hn k (i + 1) _ (fun j h2 h3 => hh j (by omega) (by omega)) h1
theorem sgF_in {w h x : Nat} {row : Nat → Int32} (hw : 0 < w) (hx : x < w * h) (hn : w * h < 31) : inR (sgF w h row x) (2 ^ (w * h)) := by
  unfold sgF
  refine or_in hn (or_in hn (or_in hn (or_in hn (xbit_in hx hn) ?_) ?_) ?_) ?_
  · exact rayF_in hn _ _ _ (fun j _ _ => by omega) (inR_z hn)
  · exact rayF_in hn _ _ _ (fun j _ _ => xs_down hw hx (by omega)) (inR_z hn)
  · exact rayF_in hn _ _ _ (fun j _ _ => by omega) (inR_z hn)
  · exact rayF_in hn _ _ _ (fun j _ _ => xs_right hw hx (by omega)) (inR_z hn)
theorem xbits_in {p : Nat → Bool} {m : Nat} : ∀ n, n ≤ m → m < 31 → inR (xbits p n) (2 ^ m)
  | 0, _, hm => inR_z hm
  | n + 1, hn, hm => by
    rw [xbits]
    split
    · exact or_in hm (xbits_in n (by omega) hm) (xbit_in (by omega) hm)
    · exact xbits_in n (by omega) hm
section Q3
variable {w h la : Nat} {af : Nat → Int32} {nc : Nat} {fc : Nat → Int32} {nl : Nat} {fl : Nat → Int32} {ns : Nat} {fs mS : Nat → Int32}
theorem dy_in (H : RB w h la af nc fc nl fl ns fs mS) {n : Nat} : inR (dyM w h la mS nc n) 65536 := in16 (n := 10) (by omega) (xbits_in _ (by have := H.1.2.2.2.2; omega) (by omega))
theorem an_count4 (H : RB w h la af nc fc nl fl ns fs mS) : bcI (fitS w h la af nc fc fs ns) = bcM (dyM w h la mS nc ns) 16 := by
  rw [fit_eq H (Nat.le_refl _), bc_eq (dy_in H)]
theorem bs_eq {f g : Nat → Int32} : ∀ n, (∀ i, i < n → f i = g i ∧ inR (g i) 65536) → bsF f n = bsM g n
  | 0, _ => rfl
  | n + 1, hh => by
    have h1 := hh n (by omega)
    rw [bsF, bsM, bs_eq n (fun i hi => hh i (by omega)), h1.1, bc_eq h1.2]
theorem an_best {a : Int32} (H : RB w h la af nc fc nl fl ns fs mS) : (if inR a 2 then (if nl = 0 then (-2) else if a = 0 then (bsF (fun x => orF (fun l => shS w h af nc fc fl l x) nl) (w * h)).2 else (bsF (fun x => orF (fun l => shS w h af nc fc fl l x) nl) (w * h)).1) else (-1)) = (if inR a 2 then (if nl = 0 then (-2) else if a = 0 then (bsM (fun x => orF (fun l => shM w h mS nc l x) nl) (w * h)).2 else (bsM (fun x => orF (fun l => shM w h mS nc l x) nl) (w * h)).1) else (-1)) := by
  have hw := H.1.wh
  have h2 := H.1.1
  rw [bs_eq (f := fun x => orF (fun l => shS w h af nc fc fl l x) nl) (g := fun x => orF (fun l => shM w h mS nc l x) nl) (w * h) (fun x hx => ⟨orF_congr nl (fun l hl => sh_eq H hl hx), in16 hw.2 (orF_in (by omega) nl (fun l _ => and_in (by omega) (sgF_in (by omega) hx (by omega))))⟩)]
theorem tlF_congr {sl sl' : Nat → Nat} {fb : Nat → Bool} : ∀ n k, (∀ d, d < n → sl d = sl' d) → tlF sl fb n k = tlF sl' fb n k
  | 0, _, _ => rfl
  | n + 1, k, hh => by rw [tlF, tlF, tlF_congr n k (fun d hd => hh d (by omega)), hh n (by omega)]
theorem woF_congr {sl sl' : Nat → Nat} {fb : Nat → Bool} : ∀ n, (∀ d, d < n → sl d = sl' d) → woF sl fb n = woF sl' fb n
  | 0, _ => rfl
  | n + 1, hh => by rw [woF, woF, woF_congr n (fun d hd => hh d (by omega)), hh n (by omega), tlF_congr n _ (fun d hd => hh d (by omega))]
theorem wo_eq (H : RB w h la af nc fc nl fl ns fs mS) {x c : Nat} {f : Int32} (hx : x < w * h) (hc : c < w * h) : woS w h la af nc fc x c f = wsM w h la mS nc x c f := by
  have hw := H.1.wh
  have hla := H.1.2.2.2.2
  exact woF_congr _ (fun d hd => by show slA _ = slA _; rw [an_eq H hx (by omega) (by omega)])
theorem lkC_congr {wo wo' : Nat → Nat} {at0 : Nat} {s : Int32 × Int32} : ∀ n, (∀ c, c < n → wo c = wo' c) → lkC wo at0 n s = lkC wo' at0 n s
  | 0, _ => rfl
  | n + 1, hh => by rw [lkC, lkC, lkC_congr n (fun c hc => hh c (by omega)), hh n (by omega)]
theorem lkX_congr {wo wo' : Nat → Nat → Nat} {m : Nat} {s : Int32 × Int32} : ∀ n, (∀ x c, x < n → c < m → wo x c = wo' x c) → lkX wo m n s = lkX wo' m n s
  | 0, _ => rfl
  | n + 1, hh => by rw [lkX, lkX, lkX_congr n (fun x c hx hc => hh x c (by omega) hc), lkC_congr m (fun c hc => hh n c (by omega) hc)]
theorem an_look {a : Int32} (H : RB w h la af nc fc nl fl ns fs mS) : (if inR a 2 then (if a = 0 ∨ (lkX (fun x c => woS w h la af nc fc x c (fitS w h la af nc fc fs ns)) (w * h) (w * h) (bcI (fitS w h la af nc fc fs ns), (-4))).2 = (-4) then (lkX (fun x c => woS w h la af nc fc x c (fitS w h la af nc fc fs ns)) (w * h) (w * h) (bcI (fitS w h la af nc fc fs ns), (-4))).2 else (lkX (fun x c => woS w h la af nc fc x c (fitS w h la af nc fc fs ns)) (w * h) (w * h) (bcI (fitS w h la af nc fc fs ns), (-4))).1) else (-1)) = (if inR a 2 then (if (lkX (fun x c => wsM w h la mS nc x c (dyM w h la mS nc ns)) (w * h) (w * h) (bcM (dyM w h la mS nc ns) 16, (-4))).2 = (-4) then (-4) else if a = 0 then (lkX (fun x c => wsM w h la mS nc x c (dyM w h la mS nc ns)) (w * h) (w * h) (bcM (dyM w h la mS nc ns) 16, (-4))).2 else (lkX (fun x c => wsM w h la mS nc x c (dyM w h la mS nc ns)) (w * h) (w * h) (bcM (dyM w h la mS nc ns) 16, (-4))).1) else (-1)) := by
  rw [an_count4 H, fit_eq H (Nat.le_refl _), lkX_congr (wo := fun x c => woS w h la af nc fc x c (dyM w h la mS nc ns)) (wo' := fun x c => wsM w h la mS nc x c (dyM w h la mS nc ns)) (w * h) (fun x c hx hc => wo_eq H hx hc)]
  generalize lkX (fun x c => wsM w h la mS nc x c (dyM w h la mS nc ns)) (w * h) (w * h) (bcM (dyM w h la mS nc ns) 16, (-4)) = P
  by_cases h2 : inR a 2
  · rw [if_pos h2, if_pos h2]
    by_cases hn : P.2 = (-4)
    · rw [if_pos (Or.inr hn), if_pos hn, hn]
    · rw [if_neg hn]
      by_cases h0 : a = 0
      · rw [if_pos (Or.inl h0), if_pos h0]
      · rw [if_neg (fun q => q.elim h0 hn), if_neg h0]
  · rw [if_neg h2, if_neg h2]
end Q3

/-! what the class and the reference answer on a fresh object: the same -/
theorem mkS_Z (fc : Nat → Int32) (c : Nat) : ∀ d, mkS (fun _ => nI 0) 0 fc c d = nI 0
  | 0 => rfl
  | d + 1 => mkS_Z fc c d
theorem mkS_ZM (c d : Nat) : mkS (fun _ => nI 0) 0 (fun _ => nI 0) c d = mkM (fun _ => nI 0) 0 c d := mkS_Z _ c d
theorem mkS_F : mkS (fun _ => nI 0) 0 (fun _ => nI 0) = fun c d => mkM (fun _ => nI 0) 0 c d := funext fun c => funext fun d => mkS_ZM c d
theorem mkS_0 : mkS (fun _ => nI 0) 0 (fun _ => nI 0) = fun _ _ => nI 0 := funext fun c => funext fun d => mkS_Z _ c d
theorem sgS_Z (x d : Nat) : sgS 3 3 (fun _ => nI 0) 0 (fun _ => nI 0) x d = sgM 3 3 (fun _ => nI 0) 0 x d := by
  unfold sgS; rw [mkS_F]
theorem unS_Z (d e : Nat) : unS 3 3 (fun _ => nI 0) 0 (fun _ => nI 0) d e = unM 3 3 (fun _ => nI 0) 0 d e := by
  unfold unS; rw [mkS_F]
theorem apS_Z (d e : Nat) : apS 3 3 (fun _ => nI 0) 0 (fun _ => nI 0) d e = apM 3 3 (fun _ => nI 0) 0 d e := by
  unfold apS apM; congr 1; funext x; rw [sgS_Z, sgS_Z, unS_Z]
theorem no0 {x : Int32} : ¬ inR x 0 := fun h => by unfold inR at h; omega
/-- the days that a fresh object fits: all ten -/
theorem fit_0 : fitS 3 3 9 (fun _ => nI 0) 0 (fun _ => nI 0) (fun _ => nI 0) 0 = nI 1023 := by decide +kernel
theorem dy_0 : dyM 3 3 9 (fun _ => nI 0) 0 0 = nI 1023 := by decide +kernel
theorem un_0 (d e : Nat) : unM 3 3 (fun _ => nI 0) 0 d e = 0 := by
  show xbits (fun c => !decide (nI 0 = nI 0)) (3 * 3) = 0
  decide +kernel
theorem mark_Z (v1 v2 : Int32) : (if inR v1 (3 * 3) ∧ inR v2 (9 + 1) then mkS (fun _ => nI 0) 0 (fun _ => nI 0) (tn v1) (tn v2) else (-1)) = (if inR v1 (3 * 3) ∧ inR v2 (9 + 1) then mkM (fun _ => nI 0) 0 (tn v1) (tn v2) else (-1)) := by
  rw [mkS_ZM]
theorem xu_shift (x : Int32) (k : Nat) (hk : k < 31) : xu x (nI k) = 0 ↔ inR x (2 ^ k) := by
  have hs : (((nI k).toUInt32 &&& Int32.toUInt32 31).toBitVec % 32).toNat = k := (show ∀ n, n < 32 → (((nI n).toUInt32 &&& Int32.toUInt32 31).toBitVec % 32).toNat = n by decide +kernel) k (by omega)
  have e : (xu x (nI k)).toBitVec.toNat = x.toBitVec.toNat / 2 ^ k := pk_ushr x (nI k) k hs
  have hp : 2 ^ k ≤ 2 ^ 30 := Nat.pow_le_pow_right (by omega) (by omega)
  have hpos : 0 < 2 ^ k := Nat.two_pow_pos k
  have ht : x.toInt = if 2 * x.toBitVec.toNat < 2 ^ 32 then (x.toBitVec.toNat : Int) else (x.toBitVec.toNat : Int) - ((2 ^ 32 : Nat) : Int) := BitVec.toInt_eq_toNat_cond x.toBitVec
  have hl : x.toBitVec.toNat < 2 ^ 32 := x.toBitVec.isLt
  have h0 : xu x (nI k) = 0 ↔ x.toBitVec.toNat < 2 ^ k := by
    constructor
    · intro h
      rw [h] at e
      rcases Nat.lt_or_ge x.toBitVec.toNat (2 ^ k) with q | q
      · exact q
      · have h1 := Nat.div_pos q hpos
        rw [← e] at h1
        exact absurd h1 (by decide)
    · intro h
      apply Int32.toBitVec_inj.mp
      apply BitVec.eq_of_toNat_eq
      rw [e, Nat.div_eq_of_lt h]
      rfl
  rw [h0]
  unfold inR
  generalize 2 ^ k = P at hp hpos
  generalize x.toBitVec.toNat = n at ht hl
  constructor
  · intro h
    rw [if_pos (by omega)] at ht
    omega
  · intro h
    by_cases q : 2 * n < 2 ^ 32
    · rw [if_pos q] at ht; omega
    · rw [if_neg q] at ht; omega
theorem grind_Z (v1 v2 : Int32) : (if (inR v1 (9 + 1) ∧ xu v2 (nI (3 * 3)) = 0) then (if 0 < 6 then nI (0 + 1) else (-3)) else (-1)) = (if (inR v1 (9 + 1) ∧ inR v2 (2 ^ (3 * 3))) then (if 0 < 6 then nI (0 + 1) else (-3)) else (-1)) := by
  have h : (inR v1 (9 + 1) ∧ xu v2 (nI (3 * 3)) = 0) ↔ (inR v1 (9 + 1) ∧ inR v2 (2 ^ (3 * 3))) := and_congr_right fun _ => xu_shift v2 (3 * 3) (by omega)
  by_cases hq : (inR v1 (9 + 1) ∧ inR v2 (2 ^ (3 * 3)))
  · rw [if_pos hq, if_pos (h.mpr hq)]
  · rw [if_neg hq, if_neg (fun z => hq (h.mp z))]
theorem crack_Z (v1 v2 : Int32) : (if inR v1 0 ∧ inR v2 (3 * 3) then (if ((fun _ => nI 0) (3 * tn v1 + 1)) &&& xbit (tn v2) = 0 then nI 0 else nI 1) else (-1)) = (if inR v1 0 ∧ inR v2 (3 * 3) then (((fun _ => nI 0) (48 + 2 * tn v1 + 1)) >>> (nI (tn v2) &&& 31)) &&& nI 1 else (-1)) := by
  rw [if_neg (fun h => no0 h.1), if_neg (fun h => no0 h.1)]
theorem sees_Z (v1 v2 : Int32) : (if inR v1 (3 * 3) ∧ inR v2 (9 + 1) then sgS 3 3 (fun _ => nI 0) 0 (fun _ => nI 0) (tn v1) (tn v2) else (-1)) = (if inR v1 (3 * 3) ∧ inR v2 (9 + 1) then sgM 3 3 (fun _ => nI 0) 0 (tn v1) (tn v2) else (-1)) := by
  rw [sgS_Z]
theorem shows_Z (v1 v2 v3 : Int32) : (if inR v1 0 ∧ inR v2 (3 * 3) ∧ inR v3 (3 * 3) then (if (shS 3 3 (fun _ => nI 0) 0 (fun _ => nI 0) (fun _ => nI 0) (tn v1) (tn v2) >>> (nI (tn v3) &&& 31)) &&& nI 1 = 0 then (-4) else mkS (fun _ => nI 0) 0 (fun _ => nI 0) (tn v3) (tn ((fun _ => nI 0) (3 * tn v1)))) else (-1)) = (if inR v1 0 ∧ inR v2 (3 * 3) ∧ inR v3 (3 * 3) then (if (shM 3 3 (fun _ => nI 0) 0 (tn v1) (tn v2) >>> (nI (tn v3) &&& 31)) &&& nI 1 = nI 1 then mkM (fun _ => nI 0) 0 (tn v3) (tn ((fun _ => nI 0) (48 + 2 * tn v1))) else (-4)) else (-1)) := by
  rw [if_neg (fun h => no0 h.1), if_neg (fun h => no0 h.1)]
theorem frame_Z (v1 v2 v3 : Int32) : (if inR v1 0 ∧ inR v2 0 ∧ inR v3 (3 * 3) then ((shS 3 3 (fun _ => nI 0) 0 (fun _ => nI 0) (fun _ => nI 0) (tn v1) (tn v3) &&& shS 3 3 (fun _ => nI 0) 0 (fun _ => nI 0) (fun _ => nI 0) (tn v2) (tn v3)) &&& unS 3 3 (fun _ => nI 0) 0 (fun _ => nI 0) (tn ((fun _ => nI 0) (3 * tn v1))) (tn ((fun _ => nI 0) (3 * tn v2)))) else (-1)) = (if inR v1 0 ∧ inR v2 0 ∧ inR v3 (3 * 3) then ((shM 3 3 (fun _ => nI 0) 0 (tn v1) (tn v3) &&& shM 3 3 (fun _ => nI 0) 0 (tn v2) (tn v3)) &&& unM 3 3 (fun _ => nI 0) 0 (tn ((fun _ => nI 0) (48 + 2 * tn v1))) (tn ((fun _ => nI 0) (48 + 2 * tn v2)))) else (-1)) := by
  rw [if_neg (fun h => no0 h.1), if_neg (fun h => no0 h.1)]
theorem between_Z (v1 v2 : Int32) : (if inR v1 (9 + 1) ∧ inR v2 (9 + 1) then unS 3 3 (fun _ => nI 0) 0 (fun _ => nI 0) (tn v1) (tn v2) else (-1)) = (if inR v1 (9 + 1) ∧ inR v2 (9 + 1) then unM 3 3 (fun _ => nI 0) 0 (tn v1) (tn v2) else (-1)) := by
  rw [unS_Z]
theorem all_Z (v1 v2 : Int32) : (if inR v1 6 ∧ inR v2 (9 + 1) then xbits (fun c => decide (mkS (fun _ => nI 0) 0 (fun _ => nI 0) c (tn v2) = v1)) (3 * 3) else (-1)) = (if inR v1 6 ∧ inR v2 (9 + 1) then xbits (fun c => decide (mkM (fun _ => nI 0) 0 c (tn v2) = v1)) (3 * 3) else (-1)) := by
  rw [mkS_F]
theorem since_Z (v1 v2 v3 : Int32) : (if inR v1 (3 * 3) ∧ inR v2 (9 + 1) ∧ inR v3 2 then (if v3 = 0 then nI (sinDn (fun e => decide (mkS (fun _ => nI 0) 0 (fun _ => nI 0) (tn v1) e = mkS (fun _ => nI 0) 0 (fun _ => nI 0) (tn v1) (tn v2))) (tn v2)) else nI (sinUp (fun e => decide (mkS (fun _ => nI 0) 0 (fun _ => nI 0) (tn v1) e = mkS (fun _ => nI 0) 0 (fun _ => nI 0) (tn v1) (tn v2))) (9 - tn v2) (tn v2))) else (-1)) = (if inR v1 (3 * 3) ∧ inR v2 (9 + 1) ∧ inR v3 2 then (if v3 = 0 then nI (sinDn (fun e => decide (mkM (fun _ => nI 0) 0 (tn v1) e = mkM (fun _ => nI 0) 0 (tn v1) (tn v2))) (tn v2)) else nI (sinUp (fun e => decide (mkM (fun _ => nI 0) 0 (tn v1) e = mkM (fun _ => nI 0) 0 (tn v1) (tn v2))) (9 - tn v2) (tn v2))) else (-1)) := by
  rw [mkS_F]
theorem again_Z : xbits (fun d => anyF (fun e => decide (unS 3 3 (fun _ => nI 0) 0 (fun _ => nI 0) e d = 0)) d) (9 + 1) = agM (fun d e => decide (unM 3 3 (fun _ => nI 0) 0 d e = 0)) (9 + 1) := by
  simp only [unS_Z, un_0]
  decide +kernel
theorem show_Z (v1 v2 v3 : Int32) : (if (inR v1 (3 * 3) ∧ inR v2 (3 * 3) ∧ (inR v3 6 ∨ v3 = (-4))) then (if 0 < 8 then nI (0 + 1) else (-3)) else (-1)) = (if (inR v1 (3 * 3) ∧ inR v2 (3 * 3) ∧ (v3 = (-4) ∨ inR v3 6)) then (if 0 < 8 then nI (0 + 1) else (-3)) else (-1)) := by
  have h : (inR v3 6 ∨ v3 = (-4)) ↔ (v3 = (-4) ∨ inR v3 6) := or_comm
  by_cases hq : (inR v1 (3 * 3) ∧ inR v2 (3 * 3) ∧ (v3 = (-4) ∨ inR v3 6))
  · rw [if_pos hq, if_pos ⟨hq.1, hq.2.1, h.mpr hq.2.2⟩]
  · rw [if_neg hq, if_neg (fun z => hq ⟨z.1, z.2.1, h.mp z.2.2⟩)]
theorem days_Z : fitS 3 3 9 (fun _ => nI 0) 0 (fun _ => nI 0) (fun _ => nI 0) 0 = dyM 3 3 9 (fun _ => nI 0) 0 0 := by
  rw [fit_0, dy_0]
theorem sg0 (x : Nat) (d : Nat) : sgS 3 3 (fun _ => nI 0) 0 (fun _ => nI 0) x d = sgF 3 3 (fun _ => nI 0) x := by
  unfold sgS; rw [mkS_0]
theorem wo_Z (x c : Nat) (f : Int32) : woS 3 3 9 (fun _ => nI 0) 0 (fun _ => nI 0) x c f = wsM 3 3 9 (fun _ => nI 0) 0 x c f := by
  unfold woS wsM slM
  have : (fun d => slA (anS 3 3 (fun _ => nI 0) 0 (fun _ => nI 0) x c d)) = (fun d => slA (anM 3 3 (fun _ => nI 0) 0 x c d)) := by
    funext d
    congr 1
    unfold anS anM
    rw [sgS_Z, mkS_ZM]
    by_cases hq : (sgM 3 3 (fun _ => nI 0) 0 x d >>> (nI c &&& 31)) &&& nI 1 = 0
    · rw [if_pos hq, if_neg (fun h => bit1.mp h hq)]
    · rw [if_neg hq, if_pos (bit1.mpr hq)]
  rw [this]
theorem look_Z (v1 : Int32) : (if inR v1 2 then (if v1 = 0 ∨ (lkX (fun x c => woS 3 3 9 (fun _ => nI 0) 0 (fun _ => nI 0) x c (fitS 3 3 9 (fun _ => nI 0) 0 (fun _ => nI 0) (fun _ => nI 0) 0)) (3 * 3) (3 * 3) (bcI (fitS 3 3 9 (fun _ => nI 0) 0 (fun _ => nI 0) (fun _ => nI 0) 0), (-4))).2 = (-4) then (lkX (fun x c => woS 3 3 9 (fun _ => nI 0) 0 (fun _ => nI 0) x c (fitS 3 3 9 (fun _ => nI 0) 0 (fun _ => nI 0) (fun _ => nI 0) 0)) (3 * 3) (3 * 3) (bcI (fitS 3 3 9 (fun _ => nI 0) 0 (fun _ => nI 0) (fun _ => nI 0) 0), (-4))).2 else (lkX (fun x c => woS 3 3 9 (fun _ => nI 0) 0 (fun _ => nI 0) x c (fitS 3 3 9 (fun _ => nI 0) 0 (fun _ => nI 0) (fun _ => nI 0) 0)) (3 * 3) (3 * 3) (bcI (fitS 3 3 9 (fun _ => nI 0) 0 (fun _ => nI 0) (fun _ => nI 0) 0), (-4))).1) else (-1)) = (if inR v1 2 then (if (lkX (fun x c => wsM 3 3 9 (fun _ => nI 0) 0 x c (dyM 3 3 9 (fun _ => nI 0) 0 0)) (3 * 3) (3 * 3) (bcM (dyM 3 3 9 (fun _ => nI 0) 0 0) 16, (-4))).2 = (-4) then (-4) else if v1 = 0 then (lkX (fun x c => wsM 3 3 9 (fun _ => nI 0) 0 x c (dyM 3 3 9 (fun _ => nI 0) 0 0)) (3 * 3) (3 * 3) (bcM (dyM 3 3 9 (fun _ => nI 0) 0 0) 16, (-4))).2 else (lkX (fun x c => wsM 3 3 9 (fun _ => nI 0) 0 x c (dyM 3 3 9 (fun _ => nI 0) 0 0)) (3 * 3) (3 * 3) (bcM (dyM 3 3 9 (fun _ => nI 0) 0 0) 16, (-4))).1) else (-1)) := by
  simp only [wo_Z, fit_0, dy_0, show bcI (nI 1023) = bcM (nI 1023) 16 by decide +kernel]
  by_cases h2 : inR v1 2
  · rw [if_pos h2, if_pos h2]
    generalize lkX (fun x c => wsM 3 3 9 (fun _ => nI 0) 0 x c (nI 1023)) (3 * 3) (3 * 3) (bcM (nI 1023) 16, (-4)) = P
    by_cases hn : P.2 = (-4)
    · rw [if_pos (Or.inr hn), if_pos hn, hn]
    · rw [if_neg hn]
      by_cases h0 : v1 = 0
      · rw [if_pos (Or.inl h0), if_pos h0]
      · rw [if_neg (fun q => q.elim h0 hn), if_neg h0]
  · rw [if_neg h2, if_neg h2]
theorem likely_K : ∀ m, m < 6 → ∀ a, a < 2 → frS (lN (cntF (fun d => bitB (nI 1023) d && decide (nI 0 = nI m)) (9 + 1))) (bcI (nI 1023)).toInt64 (nI a) = (if nI a = 0 then lN ((cntF (fun d => decide ((nI 1023 >>> (nI d &&& 31)) &&& nI 1 = nI 1) && decide (nI 0 = nI m)) (9 + 1)) / Nat.gcd (cntF (fun k => bitB (nI 1023) k) 16) (cntF (fun d => decide ((nI 1023 >>> (nI d &&& 31)) &&& nI 1 = nI 1) && decide (nI 0 = nI m)) (9 + 1))) else lN ((cntF (fun k => bitB (nI 1023) k) 16) / Nat.gcd (cntF (fun k => bitB (nI 1023) k) 16) (cntF (fun d => decide ((nI 1023 >>> (nI d &&& 31)) &&& nI 1 = nI 1) && decide (nI 0 = nI m)) (9 + 1)))) := by decide +kernel
theorem likely_Z (v1 v2 v3 : Int32) : (if inR v1 (3 * 3) ∧ inR v2 6 ∧ inR v3 2 then (if fitS 3 3 9 (fun _ => nI 0) 0 (fun _ => nI 0) (fun _ => nI 0) 0 = 0 then (-4) else frS (lN (cntF (fun d => bitB (fitS 3 3 9 (fun _ => nI 0) 0 (fun _ => nI 0) (fun _ => nI 0) 0) d && decide (mkS (fun _ => nI 0) 0 (fun _ => nI 0) (tn v1) d = v2)) (9 + 1))) (bcI (fitS 3 3 9 (fun _ => nI 0) 0 (fun _ => nI 0) (fun _ => nI 0) 0)).toInt64 v3) else (-1)) = (if inR v1 (3 * 3) ∧ inR v2 6 ∧ inR v3 2 then (if dyM 3 3 9 (fun _ => nI 0) 0 0 = 0 then (-4) else (if v3 = 0 then lN ((cntF (fun d => decide ((dyM 3 3 9 (fun _ => nI 0) 0 0 >>> (nI d &&& 31)) &&& nI 1 = nI 1) && decide (mkM (fun _ => nI 0) 0 (tn v1) d = v2)) (9 + 1)) / Nat.gcd (cntF (fun k => bitB (dyM 3 3 9 (fun _ => nI 0) 0 0) k) 16) (cntF (fun d => decide ((dyM 3 3 9 (fun _ => nI 0) 0 0 >>> (nI d &&& 31)) &&& nI 1 = nI 1) && decide (mkM (fun _ => nI 0) 0 (tn v1) d = v2)) (9 + 1))) else lN ((cntF (fun k => bitB (dyM 3 3 9 (fun _ => nI 0) 0 0) k) 16) / Nat.gcd (cntF (fun k => bitB (dyM 3 3 9 (fun _ => nI 0) 0 0) k) 16) (cntF (fun d => decide ((dyM 3 3 9 (fun _ => nI 0) 0 0 >>> (nI d &&& 31)) &&& nI 1 = nI 1) && decide (mkM (fun _ => nI 0) 0 (tn v1) d = v2)) (9 + 1))))) else (-1)) := by
  rw [fit_0, dy_0]
  by_cases hq : inR v1 (3 * 3) ∧ inR v2 6 ∧ inR v3 2
  · rw [if_pos hq, if_pos hq, if_neg (by decide), if_neg (by decide)]
    obtain ⟨_, h2, h3⟩ := hq
    obtain ⟨m, hm, rfl⟩ := inR_nat h2
    obtain ⟨a, ha, rfl⟩ := inR_nat h3
    have e1 : (fun d => bitB (nI 1023) d && decide (mkS (fun _ => nI 0) 0 (fun _ => nI 0) (tn v1) d = nI m)) = (fun d => bitB (nI 1023) d && decide (nI 0 = nI m)) := funext fun d => by rw [mkS_Z]
    rw [e1]
    exact likely_K m hm a ha
  · rw [if_neg hq, if_neg hq]
theorem apart_Z (v1 v2 : Int32) : (if inR v1 (9 + 1) ∧ inR v2 (9 + 1) then apS 3 3 (fun _ => nI 0) 0 (fun _ => nI 0) (tn v1) (tn v2) else (-1)) = (if inR v1 (9 + 1) ∧ inR v2 (9 + 1) then apM 3 3 (fun _ => nI 0) 0 (tn v1) (tn v2) else (-1)) := by
  rw [apS_Z]
theorem allF_T {p : Nat → Bool} (h : ∀ i, p i = true) : ∀ n, allF p n = true
  | 0 => rfl
  | n + 1 => by rw [allF, allF_T h n, h n]; rfl
theorem apS_0 (d e : Nat) : apS 3 3 (fun _ => nI 0) 0 (fun _ => nI 0) d e = 0 := by
  simp only [apS, sgS, unS, mkS_Z]
  decide +kernel
theorem apM_0 (d e : Nat) : apM 3 3 (fun _ => nI 0) 0 d e = 0 := by
  rw [← apS_Z]; exact apS_0 d e
theorem pairT {a s : Int32} (h : a = 0) : (decide (a = 0) || !decide (a &&& s = 0)) = true := by rw [decide_eq_true h]; rfl
theorem pl_Z (s : Int32) : plS 3 3 9 (fun _ => nI 0) 0 (fun _ => nI 0) s = true := by
  unfold plS
  exact allF_T (fun d => allF_T (fun j => pairT (apS_0 d (d + 1 + j))) _) _
theorem plM_Z (s : Int32) : plM 3 3 9 (fun _ => nI 0) 0 s = true := by
  unfold plM
  exact allF_T (fun d => allF_T (fun e => pairT (apM_0 d e)) _) _
set_option maxRecDepth 1000000 in
theorem pl_K : bcI (lsS (fun _ => true) (3 * 3)) = (swF (fun _ => true) (2 ^ (3 * 3))).1 ∧ lsS (fun _ => true) (3 * 3) = (swF (fun _ => true) (2 ^ (3 * 3))).2 := by decide +kernel
theorem places_Z (v1 : Int32) : (if inR v1 2 then (if v1 = 0 then bcI (lsS (plS 3 3 9 (fun _ => nI 0) 0 (fun _ => nI 0)) (3 * 3)) else lsS (plS 3 3 9 (fun _ => nI 0) 0 (fun _ => nI 0)) (3 * 3)) else (-1)) = (if inR v1 2 then (if v1 = 0 then (swF (plM 3 3 9 (fun _ => nI 0) 0) (2 ^ (3 * 3))).1 else (swF (plM 3 3 9 (fun _ => nI 0) 0) (2 ^ (3 * 3))).2) else (-1)) := by
  rw [show plS 3 3 9 (fun _ => nI 0) 0 (fun _ => nI 0) = fun _ => true from funext pl_Z, show plM 3 3 9 (fun _ => nI 0) 0 = fun _ => true from funext plM_Z]
  by_cases h2 : inR v1 2
  · rw [if_pos h2, if_pos h2, pl_K.1, pl_K.2]
  · rw [if_neg h2, if_neg h2]
def gdS (s : Int32) : Bool := allF (fun c => !decide (orF (fun x => ((sgF 3 3 (fun _ => nI 0) x >>> (nI c &&& 31)) &&& nI 1) <<< (nI x &&& 31)) (3 * 3) &&& s = 0)) (3 * 3)
def gdM (s : Int32) : Bool := decide (uniF (fun x => sgF 3 3 (fun _ => nI 0) x) s (3 * 3) = nI (2 ^ (3 * 3) - 1))
set_option maxRecDepth 1000000 in
theorem gd_K : bcI (lsS gdS (3 * 3)) = (swF gdM (2 ^ (3 * 3))).1 ∧ lsS gdS (3 * 3) = (swF gdM (2 ^ (3 * 3))).2 := by decide +kernel
theorem wa_Z (d c : Nat) : waS 3 3 (fun _ => nI 0) 0 (fun _ => nI 0) d c = orF (fun x => ((sgF 3 3 (fun _ => nI 0) x >>> (nI c &&& 31)) &&& nI 1) <<< (nI x &&& 31)) (3 * 3) := by
  unfold waS
  congr 1
  funext x
  rw [sg0]
theorem gdS_Z (d : Nat) : (fun s => allF (fun c => !decide (waS 3 3 (fun _ => nI 0) 0 (fun _ => nI 0) d c &&& s = 0)) (3 * 3)) = gdS := funext fun s => by
  unfold gdS
  congr 1
  funext c
  rw [wa_Z]
theorem gdM_Z (d : Nat) : (fun s => decide (uniF (fun x => sgM 3 3 (fun _ => nI 0) 0 x d) s (3 * 3) = nI (2 ^ (3 * 3) - 1))) = gdM := rfl
theorem guard_Z (v1 v2 : Int32) : (if inR v1 (9 + 1) ∧ inR v2 2 then (if v2 = 0 then bcI (lsS (fun s => allF (fun c => !decide (waS 3 3 (fun _ => nI 0) 0 (fun _ => nI 0) (tn v1) c &&& s = 0)) (3 * 3)) (3 * 3)) else lsS (fun s => allF (fun c => !decide (waS 3 3 (fun _ => nI 0) 0 (fun _ => nI 0) (tn v1) c &&& s = 0)) (3 * 3)) (3 * 3)) else (-1)) = (if inR v1 (9 + 1) ∧ inR v2 2 then (if v2 = 0 then (swF (fun s => decide (uniF (fun x => sgM 3 3 (fun _ => nI 0) 0 x (tn v1)) s (3 * 3) = nI (2 ^ (3 * 3) - 1))) (2 ^ (3 * 3))).1 else (swF (fun s => decide (uniF (fun x => sgM 3 3 (fun _ => nI 0) 0 x (tn v1)) s (3 * 3) = nI (2 ^ (3 * 3) - 1))) (2 ^ (3 * 3))).2) else (-1)) := by
  rw [gdS_Z, gdM_Z]
  by_cases h2 : inR v1 (9 + 1) ∧ inR v2 2
  · rw [if_pos h2, if_pos h2, gd_K.1, gd_K.2]
  · rw [if_neg h2, if_neg h2]
theorem hide_Z (v1 : Int32) : (if inR v1 (3 * 3) then (if 0 = 0 then (-2) else (orF (fun l => sgS 3 3 (fun _ => nI 0) 0 (fun _ => nI 0) (tn v1) (tn ((fun _ => nI 0) (3 * l)))) 0 ^^^ (-1)) &&& (nI 1 <<< (nI (3 * 3) &&& 31) - nI 1)) else (-1)) = (if inR v1 (3 * 3) then (if 0 = 0 then (-2) else anF (fun l => sgM 3 3 (fun _ => nI 0) 0 (tn v1) (tn ((fun _ => nI 0) (48 + 2 * l)))) (nI 1 <<< (nI (3 * 3) &&& 31) - nI 1) 0) else (-1)) := by
  rw [if_pos rfl, if_pos rfl]
theorem best_Z (v1 : Int32) : (if inR v1 2 then (if 0 = 0 then (-2) else if v1 = 0 then (bsF (fun x => orF (fun l => shS 3 3 (fun _ => nI 0) 0 (fun _ => nI 0) (fun _ => nI 0) l x) 0) (3 * 3)).2 else (bsF (fun x => orF (fun l => shS 3 3 (fun _ => nI 0) 0 (fun _ => nI 0) (fun _ => nI 0) l x) 0) (3 * 3)).1) else (-1)) = (if inR v1 2 then (if 0 = 0 then (-2) else if v1 = 0 then (bsM (fun x => orF (fun l => shM 3 3 (fun _ => nI 0) 0 l x) 0) (3 * 3)).2 else (bsM (fun x => orF (fun l => shM 3 3 (fun _ => nI 0) 0 l x) 0) (3 * 3)).1) else (-1)) := by
  rw [if_pos rfl, if_pos rfl]
theorem ab_Z (v : Int32) : abF v 0 6 = lN 1000000 := by
  simp only [abF, Nat.not_lt_zero, if_false]
  decide +kernel
theorem luck_Z (v1 v2 v3 v4 : Int32) : (if inR v1 11 ∧ inR v2 (3 * 3) ∧ inR v3 (3 * 3) ∧ inR v4 2 then frS (lN 1000000 - abF v1 (cntF (fun l => bitB (shS 3 3 (fun _ => nI 0) 0 (fun _ => nI 0) (fun _ => nI 0) l (tn v2)) (tn v3)) 0) 6) (lN 1000000) v4 else (-1)) = (if inR v1 11 ∧ inR v2 (3 * 3) ∧ inR v3 (3 * 3) ∧ inR v4 2 then (if v4 = 0 then lN (((10 ^ (cntF (fun l => bitB (shM 3 3 (fun _ => nI 0) 0 l (tn v2)) (tn v3)) 0) - tn v1 ^ (cntF (fun l => bitB (shM 3 3 (fun _ => nI 0) 0 l (tn v2)) (tn v3)) 0))) / Nat.gcd (10 ^ (cntF (fun l => bitB (shM 3 3 (fun _ => nI 0) 0 l (tn v2)) (tn v3)) 0)) ((10 ^ (cntF (fun l => bitB (shM 3 3 (fun _ => nI 0) 0 l (tn v2)) (tn v3)) 0) - tn v1 ^ (cntF (fun l => bitB (shM 3 3 (fun _ => nI 0) 0 l (tn v2)) (tn v3)) 0)))) else lN ((10 ^ (cntF (fun l => bitB (shM 3 3 (fun _ => nI 0) 0 l (tn v2)) (tn v3)) 0)) / Nat.gcd (10 ^ (cntF (fun l => bitB (shM 3 3 (fun _ => nI 0) 0 l (tn v2)) (tn v3)) 0)) ((10 ^ (cntF (fun l => bitB (shM 3 3 (fun _ => nI 0) 0 l (tn v2)) (tn v3)) 0) - tn v1 ^ (cntF (fun l => bitB (shM 3 3 (fun _ => nI 0) 0 l (tn v2)) (tn v3)) 0))))) else (-1)) := by
  simp only [cntF, ab_Z, Nat.pow_zero]
  by_cases hq : inR v1 11 ∧ inR v2 (3 * 3) ∧ inR v3 (3 * 3) ∧ inR v4 2
  · rw [if_pos hq, if_pos hq]
    obtain ⟨a, ha, rfl⟩ := inR_nat hq.2.2.2
    rcases (show a = 0 ∨ a = 1 by omega) with rfl | rfl <;> decide +kernel
  · rw [if_neg hq, if_neg hq]
theorem mean_K : ∀ a, a < 2 → frS (suL (fun _ => lN 0) (3 * 3)) (lN 1000000) (nI a) = (if nI a = 0 then lN ((suN (fun _ => 0) (3 * 3)) / Nat.gcd (1000000) (suN (fun _ => 0) (3 * 3))) else lN ((1000000) / Nat.gcd (1000000) (suN (fun _ => 0) (3 * 3)))) := by decide +kernel
theorem mean_1 (v : Int32) (p : Nat → Nat → Bool) : (fun c => lN 1000000 - abF v (cntF (p c) 0) 6) = (fun _ => lN 0) := funext fun c => by
  show lN 1000000 - abF v 0 6 = lN 0
  rw [ab_Z]; decide +kernel
theorem mean_2 (v : Nat) (p : Nat → Nat → Bool) : (fun c => (10 ^ (cntF (p c) 0) - v ^ (cntF (p c) 0)) * 10 ^ (6 - (cntF (p c) 0))) = (fun _ => 0) := funext fun c => by
  show (10 ^ 0 - v ^ 0) * 10 ^ (6 - 0) = 0
  rw [Nat.pow_zero, Nat.pow_zero, Nat.sub_self, Nat.zero_mul]
theorem mean_Z (v1 v2 v3 : Int32) : (if inR v1 11 ∧ inR v2 (3 * 3) ∧ inR v3 2 then frS (suL (fun c => lN 1000000 - abF v1 (cntF (fun l => bitB (shS 3 3 (fun _ => nI 0) 0 (fun _ => nI 0) (fun _ => nI 0) l (tn v2)) c) 0) 6) (3 * 3)) (lN 1000000) v3 else (-1)) = (if inR v1 11 ∧ inR v2 (3 * 3) ∧ inR v3 2 then (if v3 = 0 then lN ((suN (fun c => (10 ^ (cntF (fun l => bitB (shM 3 3 (fun _ => nI 0) 0 l (tn v2)) c) 0) - tn v1 ^ (cntF (fun l => bitB (shM 3 3 (fun _ => nI 0) 0 l (tn v2)) c) 0)) * 10 ^ (6 - (cntF (fun l => bitB (shM 3 3 (fun _ => nI 0) 0 l (tn v2)) c) 0))) (3 * 3)) / Nat.gcd (1000000) (suN (fun c => (10 ^ (cntF (fun l => bitB (shM 3 3 (fun _ => nI 0) 0 l (tn v2)) c) 0) - tn v1 ^ (cntF (fun l => bitB (shM 3 3 (fun _ => nI 0) 0 l (tn v2)) c) 0)) * 10 ^ (6 - (cntF (fun l => bitB (shM 3 3 (fun _ => nI 0) 0 l (tn v2)) c) 0))) (3 * 3))) else lN ((1000000) / Nat.gcd (1000000) (suN (fun c => (10 ^ (cntF (fun l => bitB (shM 3 3 (fun _ => nI 0) 0 l (tn v2)) c) 0) - tn v1 ^ (cntF (fun l => bitB (shM 3 3 (fun _ => nI 0) 0 l (tn v2)) c) 0)) * 10 ^ (6 - (cntF (fun l => bitB (shM 3 3 (fun _ => nI 0) 0 l (tn v2)) c) 0))) (3 * 3)))) else (-1)) := by
  rw [mean_1 v1 (fun c l => bitB (shS 3 3 (fun _ => nI 0) 0 (fun _ => nI 0) (fun _ => nI 0) l (tn v2)) c), mean_2 (tn v1) (fun c l => bitB (shM 3 3 (fun _ => nI 0) 0 l (tn v2)) c)]
  by_cases hq : inR v1 11 ∧ inR v2 (3 * 3) ∧ inR v3 2
  · rw [if_pos hq, if_pos hq]
    obtain ⟨a, ha, rfl⟩ := inR_nat hq.2.2
    exact mean_K a ha
  · rw [if_neg hq, if_neg hq]
theorem drift_Z (v1 v2 v3 : Int32) : (if (1 ≤ v2.toInt ∧ v2.toInt ≤ 60) ∧ inR v3 2 then (if v3 = 0 then xbits (fun c => decide ((drF (3 * 3) (tn v2) v1 (fun c => mkS (fun _ => nI 0) 0 (fun _ => nI 0) c 9)) c = nI 0)) (3 * 3) else sgF 3 3 (drF (3 * 3) (tn v2) v1 (fun c => mkS (fun _ => nI 0) 0 (fun _ => nI 0) c 9)) 0) else (-1)) = (if (1 ≤ v2.toInt ∧ v2.toInt ≤ 60) ∧ inR v3 2 then (if v3 = 0 then xbits (fun c => decide ((drF (3 * 3) (tn v2) v1 (fun c => mkM (fun _ => nI 0) 0 c 9)) c = nI 0)) (3 * 3) else sgF 3 3 (drF (3 * 3) (tn v2) v1 (fun c => mkM (fun _ => nI 0) 0 c 9)) 0) else (-1)) := by
  rw [mkS_F]
theorem lay_Z (v lnj : Int32) (h : lnj = (-4)) : (if faA (-1) v = 0 then nI 1 else (-10) - faA (-1) v) = (if lnj = (-4) then (-11) else if inR v 0 then nI 1 else (-12)) := by
  rw [if_pos h, show faA (-1) v = nI 1 from if_pos rfl]
  decide
theorem rdF_Z (v3 : Int32) (sf fc : Nat → Int32) (nc : Nat) : ∀ n i, (rdF 9 (3 * 3) (-1) sf v3 n i (nI 1) nc fc) = (none, nI 1, nc, fc)
  | 0, _ => rfl
  | n + 1, i => by rw [rdF, if_neg (by decide)]
theorem rdM_Z (rs : Nat → Int32) (g : Nat → Nat → Int32) (S : Nat → Int32) (nc : Nat) : ∀ n i, (rdM 9 (3 * 3) rs g n i (nI 1) nc S) = (none, nI 1, nc, S)
  | 0, _ => rfl
  | n + 1, i => by rw [rdM, if_neg (by decide)]
theorem read_Z (v2 v3 : Int32) (n : Nat) (lnj : Int32) (h : lnj = (-4)) (g : Nat → Nat → Int32) : (match (rdF 9 (3 * 3) (-1) (fun _ => nI 0) v3 n 0 (if (-1) = (-1) ∨ (nI 0) = v2 then nI 0 else nI 3) 0 (fun _ => nI 0)).1 with | some i => (-20) - nI i | none => nI ((rdF 9 (3 * 3) (-1) (fun _ => nI 0) v3 n 0 (if (-1) = (-1) ∨ (nI 0) = v2 then nI 0 else nI 3) 0 (fun _ => nI 0)).2.2.1 - 0)) = (match (rdM 9 (3 * 3) (rsM (lnj) v2 0 v3) g n 0 (nI 0) 0 (fun _ => nI 0)).1 with | some i => (-20) - nI i | none => nI ((rdM 9 (3 * 3) (rsM (lnj) v2 0 v3) g n 0 (nI 0) 0 (fun _ => nI 0)).2.2.1 - 0)) := by
  rw [if_pos (Or.inl rfl)]
  cases n with
  | zero => rfl
  | succ n =>
    have h1 : rdF 9 (3 * 3) (-1) (fun _ => nI 0) v3 (n + 1) 0 (nI 0) 0 (fun _ => nI 0) = (none, nI 1, 0, fun _ => nI 0) := by
      have hf : faT (-1) (v3 + nI (3 * 0)) = nI 1 := by
        show (if faA (-1) _ = 0 then _ else faA (-1) _) = nI 1
        rw [show faA (-1) (v3 + nI (3 * 0)) = nI 1 from if_pos rfl, if_neg (by decide)]
      rw [rdF, if_pos (show nI 0 = (0 : Int32) from rfl), hf, if_neg (by decide), rdF_Z]
    have h2 : rdM 9 (3 * 3) (rsM lnj v2 0 v3) g (n + 1) 0 (nI 0) 0 (fun _ => nI 0) = (none, nI 1, 0, fun _ => nI 0) := by
      have hr : rsM lnj v2 0 v3 0 = nI 1 := if_pos h
      rw [rdM, if_pos (show nI 0 = (0 : Int32) from rfl), hr, if_neg (by decide), rdM_Z]
    rw [h1, h2]
theorem cnt5_Z : nI (cntF (fun d => decide (¬ unS 3 3 (fun _ => nI 0) 0 (fun _ => nI 0) d (d + 1) = 0)) 9) = nI (cntF (fun d => decide (¬ unM 3 3 (fun _ => nI 0) 0 (d + 1) d = 0)) 9) := by
  simp only [unS_Z, un_0]
  try decide +kernel
/-! a text of nothing -/
theorem txC {t : Nat → Int32} {kd sr li : Nat} {vl fo pl : Int32} {af fc fl : Nat → Int32} {x : PS} (h1 : (x, li) = fLp t 0 (0 + 1) (ps0 kd sr vl af fc fl) 0) (h2 : (fo, pl) = fEnd 0 x) : (if fo = nI 0 then nI li else (-10) - pl) = nI 0 := by
  have e : fLp t 0 (0 + 1) (ps0 kd sr vl af fc fl) 0 = (((fTok t 0 (0, kd, sr, vl, nI 0, nI 0)).2, (ps0 kd sr vl af fc fl).2), 0) := if_neg (fun h => h.2 rfl)
  have e1 : x = ((fTok t 0 (0, kd, sr, vl, nI 0, nI 0)).2, (ps0 kd sr vl af fc fl).2) := congrArg Prod.fst (h1.trans e)
  have e2 : li = 0 := congrArg Prod.snd (h1.trans e)
  have hal : allP ((fTok t 0 (0, kd, sr, vl, nI 0, nI 0)).2, (ps0 kd sr vl af fc fl).2) := ⟨fun i hi => absurd hi (Nat.not_lt_zero _), fun i hi => absurd hi (Nat.not_lt_zero _), (show xu (nI 0) (nI (3 * 3)) = nI 0 by decide +kernel)⟩
  have e3 : fEnd 0 x = (nI 0, nI 0) := by
    subst e1
    unfold fEnd
    rw [if_neg (fun h => h.2 hal)]
    rfl
  have h3 : fo = nI 0 := congrArg Prod.fst (h2.trans e3)
  rw [if_pos h3, e2]
theorem txM {t : Nat → Int32} {fr so n ft : Nat} {vl wa0 wa : Int32} {D : Nat → Int32} {x : XS} (h1 : (x, n) = mLp t 0 (0 + 2) (mTok t 0 (0, fr, so, vl, 0, wa0), (3, 3, 9), (nI 0, nI 0, (-4), (-4)), D) 0) (h2 : (ft, wa) = mFin x) : (if ft = 0 then nI n else (-10) - wa) = nI 0 := by
  have e : mLp t 0 (0 + 2) (mTok t 0 (0, fr, so, vl, 0, wa0), (3, 3, 9), (nI 0, nI 0, (-4), (-4)), D) 0 = ((mTok t 0 (0, fr, so, vl, 0, wa0), (3, 3, 9), (nI 0, nI 0, (-4), (-4)), D), 0) := if_neg (fun h => h.2 rfl)
  have e1 : x = (mTok t 0 (0, fr, so, vl, 0, wa0), (3, 3, 9), (nI 0, nI 0, (-4), (-4)), D) := congrArg Prod.fst (h1.trans e)
  have e2 : n = 0 := congrArg Prod.snd (h1.trans e)
  have hal : mThere (mTok t 0 (0, fr, so, vl, 0, wa0), (3, 3, 9), (nI 0, nI 0, (-4), (-4)), D) := ⟨(show (-4 : Int32).toInt < ((3 * 3 : Nat) : Int) by decide), (show (-4 : Int32).toInt ≤ ((9 : Nat) : Int) by decide)⟩
  have e3 : (mFin x).1 = 0 := by
    subst e1
    unfold mFin
    rw [if_neg (fun h => h.2 hal)]
    rfl
  have h3 : ft = 0 := (congrArg Prod.fst h2).trans e3
  rw [if_pos h3, e2]

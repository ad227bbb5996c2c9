/-! images, sheets, the tape -/
def IM1 (w h la : Nat) (itq kpq : Int32) (wq hq laq : Nat) (afq : Nat → Int32) (ncq : Nat) (fcq : Nat → Int32) (nlq : Nat) (flq : Nat → Int32) (nsq : Nat) (fsq : Nat → Int32) (g : Nat → Int32) : Prop :=
  (itq = 0 ↔ kpq = 0) ∧ (¬ itq = 0 → wq = w ∧ hq = h ∧ laq = la ∧ BKo w h la afq ncq fcq nlq flq nsq fsq ∧ BKs afq ncq fcq nlq flq nsq fsq g)
def SH (j : Nat) (ln sz : Int32) (f ml ms mc : Nat → Int32) : Prop :=
  sz.toInt ≤ 40 ∧ (sz = (-1) ↔ ml j = (-4)) ∧ ∃ z, z ≤ 40 ∧ ms j = nI z ∧ (¬ sz = (-1) → sz = nI z ∧ ln = ml j ∧ ∀ i, i < z → f i = mc (40 * j + i))
def RT (rl : Nat) (tb : Nat → Int32) (tp : Nat) (tm : Nat → Int32) : Prop := rl = tp ∧ tb = tm ∧ rl ≤ 160 ∧ tpOk tb rl
section RIs
variable {w h la : Nat} {itq kpq : Int32} {wq hq laq : Nat} {afq : Nat → Int32} {ncq : Nat} {fcq : Nat → Int32} {nlq : Nat} {flq : Nat → Int32} {nsq : Nat} {fsq g : Nat → Int32}
variable {af : Nat → Int32} {nc : Nat} {fc : Nat → Int32} {nl : Nat} {fl : Nat → Int32} {ns : Nat} {fs S S2 : Nat → Int32}
theorem IM1_congr {g2 : Nat → Int32} (hg : ∀ j, j < 85 → g2 j = g j) (H : IM1 w h la itq kpq wq hq laq afq ncq fcq nlq flq nsq fsq g) : IM1 w h la itq kpq wq hq laq afq ncq fcq nlq flq nsq fsq g2 :=
  ⟨H.1, fun q => by
    obtain ⟨h1, h2, h3, h4, h5⟩ := H.2 q
    exact ⟨h1, h2, h3, h4, BKs_congr ⟨h4.1, h4.2.1, h4.2.2.1⟩ hg h5⟩⟩
theorem IM1_none {w2 h2 la2 : Nat} (h1 : itq = 0) (h2' : kpq = 0) : IM1 w2 h2 la2 itq kpq wq hq laq afq ncq fcq nlq flq nsq fsq g := ⟨⟨fun _ => h2', fun _ => h1⟩, fun q => absurd h1 q⟩
/-- an image is taken -/
theorem IM1_keep {g2 : Nat → Int32} (H : RB w h la af nc fc nl fl ns fs S) (hg : ∀ k, k < 85 → g2 k = S k) :
    IM1 w h la (nI 1) (nI 1) w h la (va_cpy af afq 0 0 16) nc (va_cpy fc fcq 0 0 (3 * 10)) nl (va_cpy fl flq 0 0 (3 * 6)) ns (va_cpy fs fsq 0 0 (3 * 8)) g2 :=
  ⟨Iff.rfl, fun _ => ⟨rfl, rfl, rfl, BKo_cpy H.2.1, BKs_cpy ⟨H.2.1.1, H.2.1.2.1, H.2.1.2.2.1⟩ (BKs_congr ⟨H.2.1.1, H.2.1.2.1, H.2.1.2.2.1⟩ hg H.2.2)⟩⟩
/-- back to an image -/
theorem RB_back (H : RB w h la af nc fc nl fl ns fs S) (hi : ¬ itq = 0) (HI : IM1 w h la itq kpq wq hq laq afq ncq fcq nlq flq nsq fsq g) (hg : ∀ k, k < 85 → S2 k = g k) :
    RB wq hq laq (va_cpy afq af 0 0 16) ncq (va_cpy fcq fc 0 0 (3 * 10)) nlq (va_cpy flq fl 0 0 (3 * 6)) nsq (va_cpy fsq fs 0 0 (3 * 8)) S2 := by
  obtain ⟨h1, h2, h3, h4, h5⟩ := HI.2 hi
  subst h1 h2 h3
  exact ⟨H.1, BKo_cpy h4, BKs_cpy ⟨h4.1, h4.2.1, h4.2.2.1⟩ (BKs_congr ⟨h4.1, h4.2.1, h4.2.2.1⟩ hg h5)⟩
end RIs
section SHs
variable {j : Nat} {ln sz : Int32} {f ml ms mc : Nat → Int32}
theorem SH_same {ml2 ms2 mc2 : Nat → Int32} (h1 : ml2 j = ml j) (h2 : ms2 j = ms j) (h3 : ∀ i, i < 40 → mc2 (40 * j + i) = mc (40 * j + i)) (H : SH j ln sz f ml ms mc) : SH j ln sz f ml2 ms2 mc2 := by
  obtain ⟨a, b, z, c1, c2, c3⟩ := H
  refine ⟨a, by rw [h1]; exact b, z, c1, by rw [h2]; exact c2, fun q => ?_⟩
  obtain ⟨d1, d2, d3⟩ := c3 q
  exact ⟨d1, by rw [h1]; exact d2, fun i hi => by rw [h3 i (by omega)]; exact d3 i hi⟩
theorem SH_new {l2 : Int32} {n : Nat} {f2 mc2 : Nat → Int32} (hl : inR l2 3) (hn : n ≤ 40) (h1 : ∀ i, i < 40 → f2 i = nI 0) (h2 : ∀ i, i < 40 → mc2 (40 * j + i) = nI 0) : SH j l2 (nI n) f2 (upd ml j l2) (upd ms j (nI n)) mc2 := by
  have e := nI_toInt (n := n) (by omega)
  have e1 : (-1 : Int32).toInt = -1 := by decide
  have e4 : (-4 : Int32).toInt = -4 := by decide
  refine ⟨by omega, ⟨fun q => ?_, fun q => ?_⟩, n, hn, by unfold upd; rw [if_pos rfl], fun _ => ⟨rfl, by unfold upd; rw [if_pos rfl], fun i hi => by rw [h1 i (by omega), h2 i (by omega)]⟩⟩
  · have := congrArg Int32.toInt q
    omega
  · unfold upd at q
    rw [if_pos rfl] at q
    have := congrArg Int32.toInt q
    have := hl.1
    omega
theorem fa_iff {i : Int32} {z : Nat} (hz : ms j = nI z) (hz40 : z ≤ 40) (H : SH j ln sz f ml ms mc) : faA sz i = 0 ↔ (¬ ml j = (-4) ∧ inR i z) := by
  obtain ⟨a, b, z', c1, c2, c3⟩ := H
  have hzz : z' = z := nI_inj (by omega) (by omega) (c2.symm.trans hz)
  subst hzz
  have e := nI_toInt (n := z') (by omega)
  unfold faA
  by_cases h1 : sz = (-1)
  · rw [if_pos h1]
    exact ⟨fun q => absurd q (by decide), fun q => absurd (b.mp h1) q.1⟩
  · rw [if_neg h1]
    have h2 := (c3 h1).1
    rw [h2, e]
    by_cases h3 : 0 ≤ i.toInt ∧ i.toInt < (z' : Int)
    · rw [if_pos h3]
      exact ⟨fun _ => ⟨fun q => h1 (b.mpr q), h3⟩, fun _ => rfl⟩
    · rw [if_neg h3]
      exact ⟨fun q => absurd q (by decide), fun q => absurd q.2 h3⟩
theorem an_lay {i : Int32} {z : Nat} (hz : ms j = nI z) (hz40 : z ≤ 40) (H : SH j ln sz f ml ms mc) : (if faA sz i = 0 then nI 1 else (-10) - faA sz i) = (if ml j = (-4) then (-11) else if inR i z then nI 1 else (-12)) := by
  by_cases h1 : ml j = (-4)
  · have h2 := H.2.1.mpr h1
    rw [if_pos h1, show faA sz i = nI 1 from if_pos h2]
    decide
  · rw [if_neg h1]
    by_cases h3 : inR i z
    · rw [if_pos h3, if_pos ((fa_iff hz hz40 H).mpr ⟨h1, h3⟩)]
    · have h4 : ¬ faA sz i = 0 := fun q => h3 ((fa_iff hz hz40 H).mp q).2
      rw [if_neg h3, if_neg h4]
      have h5 : ¬ sz = (-1) := fun q => h1 (H.2.1.mp q)
      have h6 : faA sz i = nI 2 := by
        unfold faA at h4 ⊢
        rw [if_neg h5] at h4 ⊢
        by_cases h7 : 0 ≤ i.toInt ∧ i.toInt < sz.toInt
        · rw [if_pos h7] at h4; exact absurd rfl h4
        · rw [if_neg h7]
      rw [h6]
      decide
theorem SH_lay {i v : Int32} {z : Nat} (hj : j < 4) (hz : ms j = nI z) (hz40 : z ≤ 40) (H : SH j ln sz f ml ms mc) :
    SH j ln sz (if faA sz i = 0 then upd f (tn i) (if ln = 0 then v.toInt8.toInt32 else if ln = nI 1 then v.toInt16.toInt32 else v) else f) ml ms (if (¬ ml j = (-4) ∧ inR i z) then upd mc (40 * j + tn i) (if ml j = 0 then v.toInt8.toInt32 else if ml j = nI 1 then v.toInt16.toInt32 else v) else mc) := by
  by_cases h : faA sz i = 0
  · have h1 := (fa_iff hz hz40 H).mp h
    rw [if_pos h, if_pos h1]
    obtain ⟨a, b, z', c1, c2, c3⟩ := H
    have hzz : z' = z := nI_inj (by omega) (by omega) (c2.symm.trans hz)
    subst hzz
    refine ⟨a, b, z', c1, c2, fun q => ?_⟩
    obtain ⟨d1, d2, d3⟩ := c3 q
    refine ⟨d1, d2, fun k hk => ?_⟩
    rw [← d2]
    unfold upd
    by_cases hk2 : k = tn i
    · rw [if_pos hk2, if_pos (show 40 * j + k = 40 * j + tn i by rw [hk2])]
    · rw [if_neg hk2, if_neg (show ¬ 40 * j + k = 40 * j + tn i by omega)]; exact d3 k hk
  · rw [if_neg h, if_neg (fun q => h ((fa_iff hz hz40 H).mpr q))]
    exact H
theorem SH_lay_o {j' : Nat} {i v : Int32} {z : Nat} (hjj : ¬ j = j') (hz40 : z ≤ 40) (H : SH j ln sz f ml ms mc) :
    SH j ln sz f ml ms (if (¬ ml j' = (-4) ∧ inR i z) then upd mc (40 * j' + tn i) (if ml j' = 0 then v.toInt8.toInt32 else if ml j' = nI 1 then v.toInt16.toInt32 else v) else mc) := by
  refine SH_same rfl rfl (fun k hk => ?_) H
  split
  · rename_i hq
    have := (tn_lt hq.2).1
    unfold upd
    rw [if_neg (by omega)]
  · rfl
end SHs
/-! read -/
section Rd
variable {w h la : Nat} {af : Nat → Int32} {nl : Nat} {fl : Nat → Int32} {ns : Nat} {fs : Nat → Int32}
theorem fa_rs {j z i : Nat} {ln sz lane f0 : Int32} {f ml ms mc : Nat → Int32} (hi : i ≤ 13) (hz : ms j = nI z) (hz40 : z ≤ 40) (hl : sz = (-1) ∨ ln = lane) (H : SH j ln sz f ml ms mc) :
    faT sz (f0 + nI (3 * i)) = rsM (ml j) lane z f0 i ∧ (rsM (ml j) lane z f0 i = 0 → ∃ a, a + 2 < z ∧ f0 + nI (3 * i) = nI a ∧ ∀ c, c < 3 → f (a + c) = mc (40 * j + a + c)) := by
  obtain ⟨a, b, z', c1, c2, c3⟩ := H
  have hzz : z' = z := nI_inj (by omega) (by omega) (c2.symm.trans hz)
  subst hzz
  have e := nI_toInt (n := z') (by omega)
  by_cases h1 : sz = (-1)
  · have h2 := b.mp h1
    have e1 : ∀ x, faA sz x = nI 1 := fun x => if_pos h1
    unfold rsM
    rw [if_pos h2]
    refine ⟨?_, fun q => absurd q (by decide)⟩
    unfold faT
    rw [e1, if_neg (by decide)]
  · have h2 : ¬ ml j = (-4) := fun q => h1 (b.mpr q)
    obtain ⟨d1, d2, d3⟩ := c3 h1
    have h3 : ml j = lane := by rw [← d2]; exact hl.resolve_left h1
    have hf1 := Int32.toInt_lt f0
    have hf2 := Int32.le_toInt f0
    have e3 := nI_toInt (n := 3 * i) (by omega)
    have e1 : ∀ x, faA sz x = if 0 ≤ x.toInt ∧ x.toInt < (z' : Int) then nI 0 else nI 2 := fun x => by
      unfold faA
      rw [if_neg h1, d1, e]
    unfold rsM
    rw [if_neg h2, if_neg (fun q => q h3)]
    by_cases hin : 0 ≤ f0.toInt + ((3 * i : Nat) : Int) ∧ f0.toInt + ((3 * i : Nat) : Int) + 2 < (z' : Int)
    · rw [if_pos hin]
      have e4 : (f0 + nI (3 * i)).toInt = f0.toInt + ((3 * i : Nat) : Int) := by rw [xi32_add (by omega) (by omega), e3]
      have e5 : (f0 + nI (3 * i) + nI 2).toInt = f0.toInt + ((3 * i : Nat) : Int) + 2 := by
        have e6 : (nI 2).toInt = 2 := by decide
        rw [xi32_add (by omega) (by omega), e4, e6]
      refine ⟨?_, fun _ => ?_⟩
      · have a1 : faA sz (f0 + nI (3 * i)) = nI 0 := by rw [e1, if_pos (by omega)]
        unfold faT
        rw [a1, if_pos (show nI 0 = (0 : Int32) from rfl), e1, if_pos (by omega)]
      · obtain ⟨k, hk, hk2⟩ := inR_nat (x := f0 + nI (3 * i)) (n := z') (by unfold inR; omega)
        have e7 := nI_toInt (n := k) (by omega)
        rw [← hk2] at e7
        refine ⟨k, by omega, hk2, fun c hc => ?_⟩
        rw [d3 (k + c) (by omega), Nat.add_assoc]
    · rw [if_neg hin]
      refine ⟨?_, fun q => absurd q (by decide)⟩
      unfold faT
      by_cases hw : f0.toInt + ((3 * i : Nat) : Int) < 2 ^ 31
      · have e4 : (f0 + nI (3 * i)).toInt = f0.toInt + ((3 * i : Nat) : Int) := by rw [xi32_add (by omega) (by omega), e3]
        by_cases hA : 0 ≤ f0.toInt + ((3 * i : Nat) : Int) ∧ f0.toInt + ((3 * i : Nat) : Int) < (z' : Int)
        · have e5 : (f0 + nI (3 * i) + nI 2).toInt = f0.toInt + ((3 * i : Nat) : Int) + 2 := by
            have e6 : (nI 2).toInt = 2 := by decide
            rw [xi32_add (by omega) (by omega), e4, e6]
          have a1 : faA sz (f0 + nI (3 * i)) = nI 0 := by rw [e1, if_pos (by omega)]
          rw [a1, if_pos (show nI 0 = (0 : Int32) from rfl), e1, if_neg (by omega)]
        · have a1 : faA sz (f0 + nI (3 * i)) = nI 2 := by rw [e1, if_neg (by omega)]
          rw [a1, if_neg (by decide)]
      · have e4 : (f0 + nI (3 * i)).toInt < 0 := by
          rw [Int32.toInt_add, e3]
          have : Int.bmod (f0.toInt + ((3 * i : Nat) : Int)) (2 ^ 32) = f0.toInt + ((3 * i : Nat) : Int) - 2 ^ 32 := by
            have h9 : Int.bmod (f0.toInt + ((3 * i : Nat) : Int)) (2 ^ 32) = Int.bmod (f0.toInt + ((3 * i : Nat) : Int) - 2 ^ 32) (2 ^ 32) := by
              rw [show (2 ^ 32 : Int) = ((2 ^ 32 : Nat) : Int) from rfl]
              exact (Int.sub_bmod_right ..).symm
            rw [h9]
            exact Int.bmod_eq_of_le (by omega) (by omega)
          rw [this]
          omega
        have a1 : faA sz (f0 + nI (3 * i)) = nI 2 := by rw [e1, if_neg (by omega)]
        rw [a1, if_neg (by decide)]
/-- the same is read; only the fault of a sheet of another lane, of which nothing is read, may differ -/
theorem rd_rel {j z : Nat} {ln sz lane f0 : Int32} {f ml ms mc : Nat → Int32} (hz : ms j = nI z) (hz40 : z ≤ 40) (hl : sz = (-1) ∨ ln = lane) (H : SH j ln sz f ml ms mc) : ∀ (k i : Nat) (fd : Int32) (nc : Nat) (fc S : Nat → Int32), i + k ≤ 13 → RB w h la af nc fc nl fl ns fs S →
    ∃ (o : Option Nat) (fd2 : Int32) (nc2 : Nat) (fc2 S2 : Nat → Int32), rdF la (w * h) sz f f0 k i fd nc fc = (o, fd2, nc2, fc2) ∧ rdM la (w * h) (rsM (ml j) lane z f0) (fun i c => mc (40 * j + tn (f0 + nI (3 * i)) + c)) k i fd nc S = (o, fd2, nc2, S2) ∧ RB w h la af nc2 fc2 nl fl ns fs S2 ∧ nc ≤ nc2 ∧ (∀ q, 85 ≤ q → S2 q = S q) := by
  intro k
  induction k with
  | zero =>
    intro i fd nc fc S _ HB
    exact ⟨none, fd, nc, fc, S, rfl, rfl, HB, Nat.le_refl _, fun _ _ => rfl⟩
  | succ k ih =>
    intro i fd nc fc S hik HB
    rw [rdF, rdM]
    by_cases h0 : fd = 0
    · rw [if_pos h0, if_pos h0]
      obtain ⟨r1, r2⟩ := fa_rs (f0 := f0) (i := i) (by omega) hz hz40 hl H
      rw [r1]
      by_cases h1 : rsM (ml j) lane z f0 i = 0
      · rw [if_pos h1, if_pos h1]
        obtain ⟨a, ha, hb, hc⟩ := r2 h1
        have ht : tn (f0 + nI (3 * i)) = a := by rw [hb, tn_nI (by omega)]
        have c0 := hc 0 (by omega)
        have c1 := hc 1 (by omega)
        have c2 := hc 2 (by omega)
        rw [ht, ← c0, ← c1, ← c2]
        by_cases hq : inR (f (a + 0)) (la + 1) ∧ inR (f (a + 1)) (w * h) ∧ inR (f (a + 2)) 6 ∧ nc < 10
        · rw [if_pos hq, if_pos (by exact hq)]
          obtain ⟨q1, q2, q3, q4⟩ := hq
          obtain ⟨o, fd2, nc2, fc2, S2, g1, g2, g3, g4, g5⟩ := ih (i + 1) (nI 0) (nc + 1) _ _ (by omega) (RB_chg q4 q1 q2 q3 HB)
          refine ⟨o, fd2, nc2, fc2, S2, g1, g2, g3, by omega, fun q hq9 => (g5 q hq9).trans ?_⟩
          have := HB.2.1.1
          unfold add3 upd
          rw [if_neg (by omega), if_neg (by omega), if_neg (by omega), if_neg (by omega)]
        · rw [if_neg hq, if_neg (by exact hq)]
          exact ⟨some i, nI 0, nc, fc, S, rfl, rfl, HB, Nat.le_refl _, fun _ _ => rfl⟩
      · rw [if_neg h1, if_neg h1]
        exact ih (i + 1) _ nc fc S (by omega) HB
    · rw [if_neg h0, if_neg h0]
      exact ⟨none, fd, nc, fc, S, rfl, rfl, HB, Nat.le_refl _, fun _ _ => rfl⟩
end Rd

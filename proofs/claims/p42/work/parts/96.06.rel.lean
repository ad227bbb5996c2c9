/-! THE RELATION between the class's state and the reference's, and what changes it -/
def DIM (w h la : Nat) : Prop := 2 ≤ w ∧ w ≤ 4 ∧ 2 ≤ h ∧ h ≤ 4 ∧ la ≤ 9
theorem DIM.wh {w h la : Nat} (H : DIM w h la) : 1 ≤ w * h ∧ w * h ≤ 16 := by
  obtain ⟨h1, h2, h3, h4, _⟩ := H
  exact ⟨Nat.le_trans (by omega) (Nat.mul_le_mul h1 h3), Nat.le_trans (Nat.mul_le_mul h2 h4) (by omega)⟩
/-- a book of the class is sound -/
def BKo (w h la : Nat) (af : Nat → Int32) (nc : Nat) (fc : Nat → Int32) (nl : Nat) (fl : Nat → Int32) (ns : Nat) (fs : Nat → Int32) : Prop :=
  nc ≤ 10 ∧ nl ≤ 6 ∧ ns ≤ 8 ∧ (∀ j, j < 16 → inR (af j) 6) ∧
  (∀ i, i < nc → inR (fc (3 * i)) (la + 1) ∧ inR (fc (3 * i + 1)) (w * h) ∧ inR (fc (3 * i + 2)) 6) ∧
  (∀ i, i < nl → inR (fl (3 * i)) (la + 1) ∧ inR (fl (3 * i + 1)) (2 ^ (w * h))) ∧
  (∀ i, i < ns → inR (fs (3 * i)) (w * h) ∧ inR (fs (3 * i + 1)) (w * h) ∧ (inR (fs (3 * i + 2)) 6 ∨ fs (3 * i + 2) = (-4)))
/-- a slice of the reference's row holds it -/
def BKs (af : Nat → Int32) (nc : Nat) (fc : Nat → Int32) (nl : Nat) (fl : Nat → Int32) (ns : Nat) (fs : Nat → Int32) (g : Nat → Int32) : Prop :=
  (∀ j, j < 16 → g j = af j) ∧ g 16 = nI nc ∧ (∀ i k, i < nc → k < 3 → g (17 + 3 * i + k) = fc (3 * i + k)) ∧ g 47 = nI nl ∧ (∀ i k, i < nl → k < 2 → g (48 + 2 * i + k) = fl (3 * i + k)) ∧ g 60 = nI ns ∧ (∀ i k, i < ns → k < 3 → g (61 + 3 * i + k) = fs (3 * i + k))
def RB (w h la : Nat) (af : Nat → Int32) (nc : Nat) (fc : Nat → Int32) (nl : Nat) (fl : Nat → Int32) (ns : Nat) (fs : Nat → Int32) (S : Nat → Int32) : Prop := DIM w h la ∧ BKo w h la af nc fc nl fl ns fs ∧ BKs af nc fc nl fl ns fs S
section RBs
variable {w h la : Nat} {af : Nat → Int32} {nc : Nat} {fc : Nat → Int32} {nl : Nat} {fl : Nat → Int32} {ns : Nat} {fs S : Nat → Int32}
theorem tn_lt {c : Int32} {n : Nat} (hc : inR c n) : tn c < n ∧ c = nI (tn c) := by
  have h1 := hc.1
  have h2 := hc.2
  have h3 : c.toInt < 2 ^ 31 := Int32.toInt_lt c
  refine ⟨by unfold tn; omega, ?_⟩
  apply Int32.toInt_inj.mp
  rw [nI_toInt (by unfold tn; omega)]
  unfold tn
  omega
theorem nI_inj {a b : Nat} (ha : a < 2 ^ 31) (hb : b < 2 ^ 31) (h : nI a = nI b) : a = b := by
  have h1 := congrArg Int32.toInt h
  rw [nI_toInt ha, nI_toInt hb] at h1
  omega
theorem RB_fir {c : Nat} {m : Int32} (hc : c < 16) (hm : inR m 6) (H : RB w h la af nc fc nl fl ns fs S) : RB w h la (upd af c m) nc fc nl fl ns fs (upd S c m) := by
  obtain ⟨d, ⟨o1, o2, o3, o4, o5⟩, e1, e2, e3, e4, e5, e6, e7⟩ := H
  refine ⟨d, ⟨o1, o2, o3, fun j hj => ?_, o5⟩, fun j hj => ?_, ?_, fun i k hi hk => ?_, ?_, fun i k hi hk => ?_, ?_, fun i k hi hk => ?_⟩
  · unfold upd; split
    · exact hm
    · exact o4 j hj
  · unfold upd; split
    · rfl
    · exact e1 j hj
  · unfold upd; rw [if_neg (by omega)]; exact e2
  · unfold upd; rw [if_neg (by omega)]; exact e3 i k hi hk
  · unfold upd; rw [if_neg (by omega)]; exact e4
  · unfold upd; rw [if_neg (by omega)]; exact e5 i k hi hk
  · unfold upd; rw [if_neg (by omega)]; exact e6
  · unfold upd; rw [if_neg (by omega)]; exact e7 i k hi hk
theorem RB_chg {x y z : Int32} (hn : nc < 10) (hx : inR x (la + 1)) (hy : inR y (w * h)) (hz : inR z 6) (H : RB w h la af nc fc nl fl ns fs S) : RB w h la af (nc + 1) (upd (upd (upd fc (3 * nc) x) (3 * nc + 1) y) (3 * nc + 2) z) nl fl ns fs (add3 S (17 + 3 * nc) 16 x y z (nc + 1)) := by
  obtain ⟨d, ⟨o1, o2, o3, o4, o5, o6, o7⟩, e1, e2, e3, e4, e5, e6, e7⟩ := H
  have r1 := row3_1 (f := fc) (n := nc) (x := x) (y := y) (z := z)
  refine ⟨d, ⟨by omega, o2, o3, o4, fun i hi => ?_, o6, o7⟩, fun j hj => ?_, ?_, fun i k hi hk => ?_, ?_, fun i k hi hk => ?_, ?_, fun i k hi hk => ?_⟩
  · rcases Nat.lt_succ_iff_lt_or_eq.mp hi with q | q
    · have := o5 i q
      show inR (row3 fc nc x y z (3 * i)) _ ∧ inR (row3 fc nc x y z (3 * i + 1)) _ ∧ inR (row3 fc nc x y z (3 * i + 2)) _
      rw [row3_00 q, row3_0 q (by omega), row3_0 q (by omega)]
      exact this
    · subst q
      show inR (row3 fc i x y z (3 * i)) _ ∧ inR (row3 fc i x y z (3 * i + 1)) _ ∧ inR (row3 fc i x y z (3 * i + 2)) _
      rw [r1.1, r1.2.1, r1.2.2]
      exact ⟨hx, hy, hz⟩
  · unfold add3 upd; rw [if_neg (by omega), if_neg (by omega), if_neg (by omega), if_neg (by omega)]; exact e1 j hj
  · unfold add3 upd; rw [if_pos rfl]
  · show _ = row3 fc nc x y z (3 * i + k)
    rcases Nat.lt_succ_iff_lt_or_eq.mp hi with q | q
    · rw [row3_0 q hk]
      unfold add3 upd; rw [if_neg (by omega), if_neg (by omega), if_neg (by omega), if_neg (by omega)]; exact e3 i k q hk
    · subst q
      rcases (show k = 0 ∨ k = 1 ∨ k = 2 by omega) with rfl | rfl | rfl
      · refine Eq.trans ?_ r1.1.symm
        unfold add3 upd; rw [if_neg (by omega), if_neg (by omega), if_neg (by omega), if_pos (by omega)]
      · rw [r1.2.1]
        unfold add3 upd; rw [if_neg (by omega), if_neg (by omega), if_pos rfl]
      · rw [r1.2.2]
        unfold add3 upd; rw [if_neg (by omega), if_pos rfl]
  · unfold add3 upd; rw [if_neg (by omega), if_neg (by omega), if_neg (by omega), if_neg (by omega)]; exact e4
  · unfold add3 upd; rw [if_neg (by omega), if_neg (by omega), if_neg (by omega), if_neg (by omega)]; exact e5 i k hi hk
  · unfold add3 upd; rw [if_neg (by omega), if_neg (by omega), if_neg (by omega), if_neg (by omega)]; exact e6
  · unfold add3 upd; rw [if_neg (by omega), if_neg (by omega), if_neg (by omega), if_neg (by omega)]; exact e7 i k hi hk
theorem RB_grd {x y : Int32} (hn : nl < 6) (hx : inR x (la + 1)) (hy : inR y (2 ^ (w * h))) (H : RB w h la af nc fc nl fl ns fs S) : RB w h la af nc fc (nl + 1) (upd (upd (upd fl (3 * nl) x) (3 * nl + 1) y) (3 * nl + 2) (nI 0)) ns fs (add2 S (48 + 2 * nl) 47 x y (nl + 1)) := by
  obtain ⟨d, ⟨o1, o2, o3, o4, o5, o6, o7⟩, e1, e2, e3, e4, e5, e6, e7⟩ := H
  have r1 := row3_1 (f := fl) (n := nl) (x := x) (y := y) (z := nI 0)
  refine ⟨d, ⟨o1, by omega, o3, o4, o5, fun i hi => ?_, o7⟩, fun j hj => ?_, ?_, fun i k hi hk => ?_, ?_, fun i k hi hk => ?_, ?_, fun i k hi hk => ?_⟩
  · rcases Nat.lt_succ_iff_lt_or_eq.mp hi with q | q
    · have := o6 i q
      show inR (row3 fl nl x y (nI 0) (3 * i)) _ ∧ inR (row3 fl nl x y (nI 0) (3 * i + 1)) _
      rw [row3_00 q, row3_0 q (by omega)]
      exact this
    · subst q
      show inR (row3 fl i x y (nI 0) (3 * i)) _ ∧ inR (row3 fl i x y (nI 0) (3 * i + 1)) _
      rw [r1.1, r1.2.1]
      exact ⟨hx, hy⟩
  · unfold add2 upd; rw [if_neg (by omega), if_neg (by omega), if_neg (by omega)]; exact e1 j hj
  · unfold add2 upd; rw [if_neg (by omega), if_neg (by omega), if_neg (by omega)]; exact e2
  · unfold add2 upd; rw [if_neg (by omega), if_neg (by omega), if_neg (by omega)]; exact e3 i k hi hk
  · unfold add2 upd; rw [if_pos rfl]
  · show _ = row3 fl nl x y (nI 0) (3 * i + k)
    rcases Nat.lt_succ_iff_lt_or_eq.mp hi with q | q
    · rw [row3_0 q (by omega)]
      unfold add2 upd; rw [if_neg (by omega), if_neg (by omega), if_neg (by omega)]; exact e5 i k q hk
    · subst q
      rcases (show k = 0 ∨ k = 1 by omega) with rfl | rfl
      · refine Eq.trans ?_ r1.1.symm
        unfold add2 upd; rw [if_neg (by omega), if_neg (by omega), if_pos (by omega)]
      · rw [r1.2.1]
        unfold add2 upd; rw [if_neg (by omega), if_pos rfl]
  · unfold add2 upd; rw [if_neg (by omega), if_neg (by omega), if_neg (by omega)]; exact e6
  · unfold add2 upd; rw [if_neg (by omega), if_neg (by omega), if_neg (by omega)]; exact e7 i k hi hk
theorem RB_shw {x y z : Int32} (hn : ns < 8) (hx : inR x (w * h)) (hy : inR y (w * h)) (hz : inR z 6 ∨ z = (-4)) (H : RB w h la af nc fc nl fl ns fs S) : RB w h la af nc fc nl fl (ns + 1) (upd (upd (upd fs (3 * ns) x) (3 * ns + 1) y) (3 * ns + 2) z) (add3 S (61 + 3 * ns) 60 x y z (ns + 1)) := by
  obtain ⟨d, ⟨o1, o2, o3, o4, o5, o6, o7⟩, e1, e2, e3, e4, e5, e6, e7⟩ := H
  have r1 := row3_1 (f := fs) (n := ns) (x := x) (y := y) (z := z)
  refine ⟨d, ⟨o1, o2, by omega, o4, o5, o6, fun i hi => ?_⟩, fun j hj => ?_, ?_, fun i k hi hk => ?_, ?_, fun i k hi hk => ?_, ?_, fun i k hi hk => ?_⟩
  · rcases Nat.lt_succ_iff_lt_or_eq.mp hi with q | q
    · have := o7 i q
      show inR (row3 fs ns x y z (3 * i)) _ ∧ inR (row3 fs ns x y z (3 * i + 1)) _ ∧ (inR (row3 fs ns x y z (3 * i + 2)) _ ∨ row3 fs ns x y z (3 * i + 2) = _)
      rw [row3_00 q, row3_0 q (by omega), row3_0 q (by omega)]
      exact this
    · subst q
      show inR (row3 fs i x y z (3 * i)) _ ∧ inR (row3 fs i x y z (3 * i + 1)) _ ∧ (inR (row3 fs i x y z (3 * i + 2)) _ ∨ row3 fs i x y z (3 * i + 2) = _)
      rw [r1.1, r1.2.1, r1.2.2]
      exact ⟨hx, hy, hz⟩
  · unfold add3 upd; rw [if_neg (by omega), if_neg (by omega), if_neg (by omega), if_neg (by omega)]; exact e1 j hj
  · unfold add3 upd; rw [if_neg (by omega), if_neg (by omega), if_neg (by omega), if_neg (by omega)]; exact e2
  · unfold add3 upd; rw [if_neg (by omega), if_neg (by omega), if_neg (by omega), if_neg (by omega)]; exact e3 i k hi hk
  · unfold add3 upd; rw [if_neg (by omega), if_neg (by omega), if_neg (by omega), if_neg (by omega)]; exact e4
  · unfold add3 upd; rw [if_neg (by omega), if_neg (by omega), if_neg (by omega), if_neg (by omega)]; exact e5 i k hi hk
  · unfold add3 upd; rw [if_pos rfl]
  · show _ = row3 fs ns x y z (3 * i + k)
    rcases Nat.lt_succ_iff_lt_or_eq.mp hi with q | q
    · rw [row3_0 q hk]
      unfold add3 upd; rw [if_neg (by omega), if_neg (by omega), if_neg (by omega), if_neg (by omega)]; exact e7 i k q hk
    · subst q
      rcases (show k = 0 ∨ k = 1 ∨ k = 2 by omega) with rfl | rfl | rfl
      · refine Eq.trans ?_ r1.1.symm
        unfold add3 upd; rw [if_neg (by omega), if_neg (by omega), if_neg (by omega), if_pos (by omega)]
      · rw [r1.2.1]
        unfold add3 upd; rw [if_neg (by omega), if_neg (by omega), if_pos rfl]
      · rw [r1.2.2]
        unfold add3 upd; rw [if_neg (by omega), if_pos rfl]
/-- fewer changes, lenses, shown -/
theorem RB_cutc {k : Nat} (hk : k ≤ nc) (H : RB w h la af nc fc nl fl ns fs S) : RB w h la af k fc nl fl ns fs (upd S 16 (nI k)) := by
  obtain ⟨d, ⟨o1, o2, o3, o4, o5, o6, o7⟩, e1, e2, e3, e4, e5, e6, e7⟩ := H
  refine ⟨d, ⟨by omega, o2, o3, o4, fun i hi => o5 i (by omega), o6, o7⟩, fun j hj => ?_, ?_, fun i q hi hq => ?_, ?_, fun i q hi hq => ?_, ?_, fun i q hi hq => ?_⟩
  · unfold upd; rw [if_neg (by omega)]; exact e1 j hj
  · unfold upd; rw [if_pos rfl]
  · unfold upd; rw [if_neg (by omega)]; exact e3 i q (by omega) hq
  · unfold upd; rw [if_neg (by omega)]; exact e4
  · unfold upd; rw [if_neg (by omega)]; exact e5 i q hi hq
  · unfold upd; rw [if_neg (by omega)]; exact e6
  · unfold upd; rw [if_neg (by omega)]; exact e7 i q hi hq
theorem RB_cutl {k : Nat} (hk : k ≤ nl) (H : RB w h la af nc fc nl fl ns fs S) : RB w h la af nc fc k fl ns fs (upd S 47 (nI k)) := by
  obtain ⟨d, ⟨o1, o2, o3, o4, o5, o6, o7⟩, e1, e2, e3, e4, e5, e6, e7⟩ := H
  refine ⟨d, ⟨o1, by omega, o3, o4, o5, fun i hi => o6 i (by omega), o7⟩, fun j hj => ?_, ?_, fun i q hi hq => ?_, ?_, fun i q hi hq => ?_, ?_, fun i q hi hq => ?_⟩
  · unfold upd; rw [if_neg (by omega)]; exact e1 j hj
  · unfold upd; rw [if_neg (by omega)]; exact e2
  · unfold upd; rw [if_neg (by omega)]; exact e3 i q hi hq
  · unfold upd; rw [if_pos rfl]
  · unfold upd; rw [if_neg (by omega)]; exact e5 i q (by omega) hq
  · unfold upd; rw [if_neg (by omega)]; exact e6
  · unfold upd; rw [if_neg (by omega)]; exact e7 i q hi hq
theorem RB_cuts {k : Nat} (hk : k ≤ ns) (H : RB w h la af nc fc nl fl ns fs S) : RB w h la af nc fc nl fl k fs (upd S 60 (nI k)) := by
  obtain ⟨d, ⟨o1, o2, o3, o4, o5, o6, o7⟩, e1, e2, e3, e4, e5, e6, e7⟩ := H
  refine ⟨d, ⟨o1, o2, by omega, o4, o5, o6, fun i hi => o7 i (by omega)⟩, fun j hj => ?_, ?_, fun i q hi hq => ?_, ?_, fun i q hi hq => ?_, ?_, fun i q hi hq => ?_⟩
  · unfold upd; rw [if_neg (by omega)]; exact e1 j hj
  · unfold upd; rw [if_neg (by omega)]; exact e2
  · unfold upd; rw [if_neg (by omega)]; exact e3 i q hi hq
  · unfold upd; rw [if_neg (by omega)]; exact e4
  · unfold upd; rw [if_neg (by omega)]; exact e5 i q hi hq
  · unfold upd; rw [if_pos rfl]
  · unfold upd; rw [if_neg (by omega)]; exact e7 i q (by omega) hq
theorem RB_reg {l : Nat} {x : Int32} (hl : l < nl) (hx : inR x (la + 1)) (H : RB w h la af nc fc nl fl ns fs S) : RB w h la af nc fc nl (upd fl (3 * l) x) ns fs (upd S (48 + 2 * l) x) := by
  obtain ⟨d, ⟨o1, o2, o3, o4, o5, o6, o7⟩, e1, e2, e3, e4, e5, e6, e7⟩ := H
  refine ⟨d, ⟨o1, o2, o3, o4, o5, fun i hi => ?_, o7⟩, fun j hj => ?_, ?_, fun i q hi hq => ?_, ?_, fun i q hi hq => ?_, ?_, fun i q hi hq => ?_⟩
  · have := o6 i hi
    refine ⟨?_, ?_⟩
    · unfold upd; split
      · exact hx
      · exact this.1
    · unfold upd; rw [if_neg (by omega)]; exact this.2
  · unfold upd; rw [if_neg (by omega)]; exact e1 j hj
  · unfold upd; rw [if_neg (by omega)]; exact e2
  · unfold upd; rw [if_neg (by omega)]; exact e3 i q hi hq
  · unfold upd; rw [if_neg (by omega)]; exact e4
  · unfold upd
    by_cases hq2 : i = l ∧ q = 0
    · rw [if_pos (by omega), if_pos (by omega)]
    · rw [if_neg (by omega), if_neg (by omega)]; exact e5 i q hi hq
  · unfold upd; rw [if_neg (by omega)]; exact e6
  · unfold upd; rw [if_neg (by omega)]; exact e7 i q hi hq
theorem RB_crk {l : Nat} {x : Int32} (hl : l < nl) (hx : inR x (2 ^ (w * h))) (H : RB w h la af nc fc nl fl ns fs S) : RB w h la af nc fc nl (upd fl (3 * l + 1) x) ns fs (upd S (48 + 2 * l + 1) x) := by
  obtain ⟨d, ⟨o1, o2, o3, o4, o5, o6, o7⟩, e1, e2, e3, e4, e5, e6, e7⟩ := H
  refine ⟨d, ⟨o1, o2, o3, o4, o5, fun i hi => ?_, o7⟩, fun j hj => ?_, ?_, fun i q hi hq => ?_, ?_, fun i q hi hq => ?_, ?_, fun i q hi hq => ?_⟩
  · have := o6 i hi
    refine ⟨?_, ?_⟩
    · unfold upd; rw [if_neg (by omega)]; exact this.1
    · unfold upd; split
      · exact hx
      · exact this.2
  · unfold upd; rw [if_neg (by omega)]; exact e1 j hj
  · unfold upd; rw [if_neg (by omega)]; exact e2
  · unfold upd; rw [if_neg (by omega)]; exact e3 i q hi hq
  · unfold upd; rw [if_neg (by omega)]; exact e4
  · unfold upd
    by_cases hq2 : i = l ∧ q = 1
    · rw [if_pos (by omega), if_pos (by omega)]
    · rw [if_neg (by omega), if_neg (by omega)]; exact e5 i q hi hq
  · unfold upd; rw [if_neg (by omega)]; exact e6
  · unfold upd; rw [if_neg (by omega)]; exact e7 i q hi hq
/-- only what the slice holds counts -/
theorem BKs_congr {g g2 : Nat → Int32} (ho : nc ≤ 10 ∧ nl ≤ 6 ∧ ns ≤ 8) (hg : ∀ j, j < 85 → g2 j = g j) (H : BKs af nc fc nl fl ns fs g) : BKs af nc fc nl fl ns fs g2 := by
  obtain ⟨e1, e2, e3, e4, e5, e6, e7⟩ := H
  obtain ⟨o1, o2, o3⟩ := ho
  exact ⟨fun j hj => (hg j (by omega)).trans (e1 j hj), (hg 16 (by omega)).trans e2, fun i k hi hk => (hg _ (by omega)).trans (e3 i k hi hk), (hg 47 (by omega)).trans e4, fun i k hi hk => (hg _ (by omega)).trans (e5 i k hi hk), (hg 60 (by omega)).trans e6, fun i k hi hk => (hg _ (by omega)).trans (e7 i k hi hk)⟩
/-- a copied book -/
theorem cpy_lt {f g : Nat → Int32} {n j : Nat} (h : j < n) : va_cpy f g 0 0 n j = f j := by
  unfold va_cpy
  rw [if_pos ⟨Nat.zero_le _, by omega⟩, Nat.sub_zero, Nat.zero_add]
theorem BKo_cpy {af' fc' fl' fs' : Nat → Int32} (H : BKo w h la af nc fc nl fl ns fs) : BKo w h la (va_cpy af af' 0 0 16) nc (va_cpy fc fc' 0 0 (3 * 10)) nl (va_cpy fl fl' 0 0 (3 * 6)) ns (va_cpy fs fs' 0 0 (3 * 8)) := by
  obtain ⟨o1, o2, o3, o4, o5, o6, o7⟩ := H
  refine ⟨o1, o2, o3, fun j hj => ?_, fun i hi => ?_, fun i hi => ?_, fun i hi => ?_⟩
  · rw [cpy_lt hj]; exact o4 j hj
  · rw [cpy_lt (by omega), cpy_lt (by omega), cpy_lt (by omega)]; exact o5 i hi
  · rw [cpy_lt (by omega), cpy_lt (by omega)]; exact o6 i hi
  · rw [cpy_lt (by omega), cpy_lt (by omega), cpy_lt (by omega)]; exact o7 i hi
theorem BKs_cpy {af' fc' fl' fs' g : Nat → Int32} (ho : nc ≤ 10 ∧ nl ≤ 6 ∧ ns ≤ 8) (H : BKs af nc fc nl fl ns fs g) : BKs (va_cpy af af' 0 0 16) nc (va_cpy fc fc' 0 0 (3 * 10)) nl (va_cpy fl fl' 0 0 (3 * 6)) ns (va_cpy fs fs' 0 0 (3 * 8)) g := by
  obtain ⟨o1, o2, o3⟩ := ho
  obtain ⟨e1, e2, e3, e4, e5, e6, e7⟩ := H
  refine ⟨fun j hj => ?_, e2, fun i k hi hk => ?_, e4, fun i k hi hk => ?_, e6, fun i k hi hk => ?_⟩
  · rw [cpy_lt hj]; exact e1 j hj
  · rw [cpy_lt (by omega)]; exact e3 i k hi hk
  · rw [cpy_lt (by omega)]; exact e5 i k hi hk
  · rw [cpy_lt (by omega)]; exact e7 i k hi hk
end RBs

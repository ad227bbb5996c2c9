/-! a line, all lines, the text -/
/-- the class's book as it is read against the reference's draft -/
def BR (ho lo ct : Int32) (w h la : Nat) (af : Nat → Int32) (nc : Nat) (fc : Nat → Int32) (nl : Nat) (fl : Nat → Int32) (d : Nat × Nat × Nat) (tl tc hc hd : Int32) (D : Nat → Int32) : Prop :=
  d = (w, h, la) ∧ tc = ct ∧ (ho = nI 0 ↔ bt tl 0 = false) ∧ (lo = nI 0 ↔ bt tl 1 = false) ∧
  (∀ j, j < 16 → D j = af j) ∧ D 16 = nI nc ∧ (∀ i k, i < nc → k < 3 → D (17 + 3 * i + k) = fc (3 * i + k)) ∧ D 47 = nI nl ∧ (∀ i k, i < nl → k < 2 → D (48 + 2 * i + k) = fl (3 * i + k)) ∧ D 60 = nI 0 ∧
  (∀ n : Nat, n ≤ 16 → (hc.toInt < (n : Int) ↔ ((∀ i, i < nc → (fc (3 * i + 1)).toInt < (n : Int)) ∧ (∀ i, i < nl → inR (fl (3 * i + 1)) (2 ^ n)) ∧ inR ct (2 ^ n)))) ∧
  (∀ n : Nat, (hd.toInt ≤ (n : Int) ↔ ((∀ i, i < nc → (fc (3 * i)).toInt ≤ (n : Int)) ∧ (∀ i, i < nl → (fl (3 * i)).toInt ≤ (n : Int)))))
abbrev BRp (p : PS) (x : XS) : Prop := BR p.2.1.1 p.2.1.2.1 p.2.1.2.2 p.2.2.1.1 p.2.2.1.2.1 p.2.2.1.2.2 p.2.2.2.1 p.2.2.2.2.1.1 p.2.2.2.2.1.2 p.2.2.2.2.2.1 p.2.2.2.2.2.2 x.2.1 x.2.2.1.1 x.2.2.1.2.1 x.2.2.1.2.2.1 x.2.2.1.2.2.2 x.2.2.2
theorem row3_0 {f : Nat → Int32} {n i k : Nat} {x y z : Int32} (hi : i < n) (hk : k < 3) : row3 f n x y z (3 * i + k) = f (3 * i + k) := by
  unfold row3 upd
  rw [if_neg (by omega), if_neg (by omega), if_neg (by omega)]
theorem row3_1 {f : Nat → Int32} {n : Nat} {x y z : Int32} : row3 f n x y z (3 * n) = x ∧ row3 f n x y z (3 * n + 1) = y ∧ row3 f n x y z (3 * n + 2) = z := by
  unfold row3 upd
  refine ⟨?_, ?_, ?_⟩
  · rw [if_neg (by omega), if_neg (by omega), if_pos rfl]
  · rw [if_neg (by omega), if_pos rfl]
  · rw [if_pos rfl]
theorem row3_00 {f : Nat → Int32} {n i : Nat} {x y z : Int32} (hi : i < n) : row3 f n x y z (3 * i) = f (3 * i) := row3_0 (k := 0) hi (by omega)
theorem all_up {P : Nat → Prop} {n : Nat} : (∀ i, i < n + 1 → P i) ↔ ((∀ i, i < n → P i) ∧ P n) := by
  constructor
  · intro h
    exact ⟨fun i hi => h i (by omega), h n (by omega)⟩
  · intro h i hi
    rcases Nat.lt_succ_iff_lt_or_eq.mp hi with q | q
    · exact h.1 i q
    · subst q; exact h.2
theorem all_eq {P Q : Nat → Prop} {n : Nat} (h : ∀ i, i < n → (P i ↔ Q i)) : (∀ i, i < n → P i) ↔ (∀ i, i < n → Q i) := ⟨fun q i hi => (h i hi).mp (q i hi), fun q i hi => (h i hi).mpr (q i hi)⟩
section BRs
variable {ho lo ct : Int32} {w h la : Nat} {af : Nat → Int32} {nc : Nat} {fc : Nat → Int32} {nl : Nat} {fl : Nat → Int32} {d : Nat × Nat × Nat} {tl tc hc hd : Int32} {D : Nat → Int32}
theorem BR_hou {k k2 : Nat} (H : BR ho lo ct w h la af nc fc nl fl d tl tc hc hd D) : BR (nI 1) lo ct k k2 la af nc fc nl fl (k, k2, d.2.2) (orB tl 0) tc hc hd D := by
  obtain ⟨h1, h2, h3, h4, h5⟩ := H
  refine ⟨by rw [h1], h2, ?_, ?_, h5⟩
  · rw [bt_orB (by omega) (by omega), decide_eq_true rfl, Bool.or_true]
    exact ⟨fun q => absurd q (by decide), fun q => by cases q⟩
  · rw [bt_orB (by omega) (by omega), decide_eq_false (by omega), Bool.or_false]
    exact h4
theorem BR_las {k : Nat} (H : BR ho lo ct w h la af nc fc nl fl d tl tc hc hd D) : BR ho (nI 1) ct w h k af nc fc nl fl (d.1, d.2.1, k) (orB tl 1) tc hc hd D := by
  obtain ⟨h1, h2, h3, h4, h5⟩ := H
  refine ⟨by rw [h1], h2, ?_, ?_, h5⟩
  · rw [bt_orB (by omega) (by omega), decide_eq_false (by omega), Bool.or_false]
    exact h3
  · rw [bt_orB (by omega) (by omega), decide_eq_true rfl, Bool.or_true]
    exact ⟨fun q => absurd q (by decide), fun q => by cases q⟩
theorem BR_cel {k : Nat} {v : Int32} (hk : k < 16) (H : BR ho lo ct w h la af nc fc nl fl d tl tc hc hd D) : BR ho lo (orB ct k) w h la (upd af k v) nc fc nl fl d tl (orB ct k) (if hc.toInt < (k : Int) then nI k else hc) hd (upd D k v) := by
  obtain ⟨h1, h2, h3, h4, h5, h6, h7, h8, h9, h10, h11, h12⟩ := H
  refine ⟨h1, rfl, h3, h4, fun j hj => ?_, ?_, fun i q hi hq => ?_, ?_, fun i q hi hq => ?_, ?_, fun n hn => ?_, h12⟩
  · unfold upd; split
    · rfl
    · exact h5 j hj
  · unfold upd; rw [if_neg (by omega)]; exact h6
  · unfold upd; rw [if_neg (by omega)]; exact h7 i q hi hq
  · unfold upd; rw [if_neg (by omega)]; exact h8
  · unfold upd; rw [if_neg (by omega)]; exact h9 i q hi hq
  · unfold upd; rw [if_neg (by omega)]; exact h10
  · rw [hc_up (by omega), h11 n hn, inR_orB (by omega) (by omega)]
    exact ⟨fun q => ⟨q.1.1, q.1.2.1, q.1.2.2, q.2⟩, fun q => ⟨⟨q.1, q.2.1, q.2.2.1⟩, q.2.2.2⟩⟩
theorem BR_tur {dd c v : Nat} (hnc : nc < 10) (hd9 : dd < 10) (hc15 : c < 16) (H : BR ho lo ct w h la af nc fc nl fl d tl tc hc hd D) :
    BR ho lo ct w h la af (nc + 1) (row3 fc nc (nI dd) (nI c) (nI v)) nl fl d tl tc (if hc.toInt < (c : Int) then nI c else hc) (if hd.toInt < (dd : Int) then nI dd else hd)
      (upd (upd (upd (upd D (17 + 3 * nc) (nI dd)) (17 + 3 * nc + 1) (nI c)) (17 + 3 * nc + 2) (nI v)) 16 (nI (nc + 1))) := by
  obtain ⟨h1, h2, h3, h4, h5, h6, h7, h8, h9, h10, h11, h12⟩ := H
  have r1 := row3_1 (f := fc) (n := nc) (x := nI dd) (y := nI c) (z := nI v)
  have ec := nI_toInt (n := c) (by omega)
  have ed := nI_toInt (n := dd) (by omega)
  refine ⟨h1, h2, h3, h4, fun j hj => ?_, ?_, fun i q hi hq => ?_, ?_, fun i q hi hq => ?_, ?_, fun n hn => ?_, fun n => ?_⟩
  · unfold upd; rw [if_neg (by omega), if_neg (by omega), if_neg (by omega), if_neg (by omega)]; exact h5 j hj
  · unfold upd; rw [if_pos rfl]
  · rcases Nat.lt_succ_iff_lt_or_eq.mp hi with z | z
    · rw [row3_0 z hq]
      unfold upd; rw [if_neg (by omega), if_neg (by omega), if_neg (by omega), if_neg (by omega)]; exact h7 i q z hq
    · subst z
      rcases (show q = 0 ∨ q = 1 ∨ q = 2 by omega) with rfl | rfl | rfl
      · refine Eq.trans ?_ r1.1.symm
        unfold upd; rw [if_neg (by omega), if_neg (by omega), if_neg (by omega), if_pos (by omega)]
      · rw [r1.2.1]
        unfold upd; rw [if_neg (by omega), if_neg (by omega), if_pos rfl]
      · rw [r1.2.2]
        unfold upd; rw [if_neg (by omega), if_pos rfl]
  · unfold upd; rw [if_neg (by omega), if_neg (by omega), if_neg (by omega), if_neg (by omega)]; exact h8
  · unfold upd; rw [if_neg (by omega), if_neg (by omega), if_neg (by omega), if_neg (by omega)]; exact h9 i q hi hq
  · unfold upd; rw [if_neg (by omega), if_neg (by omega), if_neg (by omega), if_neg (by omega)]; exact h10
  · have e1 : (∀ i, i < nc → (row3 fc nc (nI dd) (nI c) (nI v) (3 * i + 1)).toInt < (n : Int)) ↔ (∀ i, i < nc → (fc (3 * i + 1)).toInt < (n : Int)) := all_eq (fun i hi => by rw [row3_0 hi (by omega)])
    rw [hc_up (by omega), h11 n hn, all_up (n := nc), r1.2.1, ec, e1]
    constructor
    · intro q; exact ⟨⟨q.1.1, by omega⟩, q.1.2⟩
    · intro q; exact ⟨⟨q.1.1, q.2⟩, by omega⟩
  · have e1 : (∀ i, i < nc → (row3 fc nc (nI dd) (nI c) (nI v) (3 * i)).toInt ≤ (n : Int)) ↔ (∀ i, i < nc → (fc (3 * i)).toInt ≤ (n : Int)) := all_eq (fun i hi => by rw [row3_00 hi])
    rw [hd_up (by omega), h12 n, all_up (n := nc), r1.1, ed, e1]
    constructor
    · intro q; exact ⟨⟨q.1.1, by omega⟩, q.1.2⟩
    · intro q; exact ⟨⟨q.1.1, q.2⟩, by omega⟩
theorem BR_len {dd : Nat} {bl hc2 : Int32} (hnl : nl < 6) (hd9 : dd < 10) (hh : ∀ n : Nat, n ≤ 16 → (hc2.toInt < (n : Int) ↔ (hc.toInt < (n : Int) ∧ inR bl (2 ^ n)))) (H : BR ho lo ct w h la af nc fc nl fl d tl tc hc hd D) (hnc : nc ≤ 10) :
    BR ho lo ct w h la af nc fc (nl + 1) (row3 fl nl (nI dd) bl (nI 0)) d tl tc hc2 (if hd.toInt < (dd : Int) then nI dd else hd)
      (upd (upd (upd D (48 + 2 * nl) (nI dd)) (48 + 2 * nl + 1) bl) 47 (nI (nl + 1))) := by
  obtain ⟨h1, h2, h3, h4, h5, h6, h7, h8, h9, h10, h11, h12⟩ := H
  have r1 := row3_1 (f := fl) (n := nl) (x := nI dd) (y := bl) (z := nI 0)
  have ed := nI_toInt (n := dd) (by omega)
  refine ⟨h1, h2, h3, h4, fun j hj => ?_, ?_, fun i q hi hq => ?_, ?_, fun i q hi hq => ?_, ?_, fun n hn => ?_, fun n => ?_⟩
  · unfold upd; rw [if_neg (by omega), if_neg (by omega), if_neg (by omega)]; exact h5 j hj
  · unfold upd; rw [if_neg (by omega), if_neg (by omega), if_neg (by omega)]; exact h6
  · unfold upd; rw [if_neg (by omega), if_neg (by omega), if_neg (by omega)]; exact h7 i q hi hq
  · unfold upd; rw [if_pos rfl]
  · rcases Nat.lt_succ_iff_lt_or_eq.mp hi with z | z
    · rw [row3_0 z (by omega)]
      unfold upd; rw [if_neg (by omega), if_neg (by omega), if_neg (by omega)]; exact h9 i q z hq
    · subst z
      rcases (show q = 0 ∨ q = 1 by omega) with rfl | rfl
      · refine Eq.trans ?_ r1.1.symm
        unfold upd; rw [if_neg (by omega), if_neg (by omega), if_pos (by omega)]
      · rw [r1.2.1]
        unfold upd; rw [if_neg (by omega), if_pos rfl]
  · unfold upd; rw [if_neg (by omega), if_neg (by omega), if_neg (by omega)]; exact h10
  · have e1 : (∀ i, i < nl → inR (row3 fl nl (nI dd) bl (nI 0) (3 * i + 1)) (2 ^ n)) ↔ (∀ i, i < nl → inR (fl (3 * i + 1)) (2 ^ n)) := all_eq (fun i hi => by rw [row3_0 hi (by omega)])
    rw [hh n hn, h11 n hn, all_up (n := nl), r1.2.1, e1]
    constructor
    · intro q; exact ⟨q.1.1, ⟨q.1.2.1, q.2⟩, q.1.2.2⟩
    · intro q; exact ⟨⟨q.1, q.2.1.1, q.2.2⟩, q.2.1.2⟩
  · have e1 : (∀ i, i < nl → (row3 fl nl (nI dd) bl (nI 0) (3 * i)).toInt ≤ (n : Int)) ↔ (∀ i, i < nl → (fl (3 * i)).toInt ≤ (n : Int)) := all_eq (fun i hi => by rw [row3_00 hi])
    rw [hd_up (by omega), h12 n, all_up (n := nl), r1.1, ed, e1]
    constructor
    · intro q; exact ⟨q.1.1, q.1.2, by omega⟩
    · intro q; exact ⟨⟨q.1, q.2.1⟩, by omega⟩
end BRs

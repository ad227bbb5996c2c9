/-! what the relation gives for the calls, and each call that changes something -/
theorem nI_some (x : Int32) : ∃ n : Nat, x = nI n := by
  refine ⟨x.toBitVec.toNat, ?_⟩
  apply Int32.toBitVec_inj.mp
  apply BitVec.eq_of_toNat_eq
  show x.toBitVec.toNat = (BitVec.ofNat 32 x.toBitVec.toNat).toNat
  rw [BitVec.toNat_ofNat, Nat.mod_eq_of_lt x.toBitVec.isLt]
section Fac
variable {w h la : Nat} {af : Nat → Int32} {nc : Nat} {fc : Nat → Int32} {nl : Nat} {fl : Nat → Int32} {ns : Nat} {fs mS : Nat → Int32}
theorem RB_fac (H : RB w h la af nc fc nl fl ns fs mS) : 1 ≤ w ∧ w ≤ 16 ∧ h ≤ 16 ∧ 1 ≤ w * h ∧ w * h ≤ 16 ∧ la ≤ 9 ∧ nc ≤ 10 ∧ nl ≤ 6 ∧ ns ≤ 8 ∧ (∀ i, i < nc → inR (fc (3 * i + 1)) 16) ∧ (∀ i, i < nl → inR (fl (3 * i)) (la + 1)) ∧ (∀ i, i < ns → inR (fs (3 * i)) (w * h) ∧ inR (fs (3 * i + 1)) (w * h)) ∧ mS 16 = nI nc ∧ mS 47 = nI nl ∧ mS 60 = nI ns ∧ (∀ i, i < nl → inR (mS (48 + 2 * i)) (la + 1)) ∧ (∀ i, i < ns → inR (mS (61 + 3 * i)) (w * h) ∧ inR (mS (61 + 3 * i + 1)) (w * h)) ∧ 1 ≤ h := by
  have hd := H.1.wh
  obtain ⟨⟨d1, d2, d3, d4, d5⟩, ⟨o1, o2, o3, o4, o5, o6, o7⟩, e1, e2, e3, e4, e5, e6, e7⟩ := H
  refine ⟨by omega, by omega, by omega, hd.1, hd.2, d5, o1, o2, o3, fun i hi => ?_, fun i hi => (o6 i hi).1, fun i hi => ⟨(o7 i hi).1, (o7 i hi).2.1⟩, e2, e4, e6, fun i hi => ?_, fun i hi => ?_, by omega⟩
  · have := (o5 i hi).2.1
    unfold inR at this ⊢
    omega
  · have := e5 i 0 hi (by omega)
    rw [Nat.add_zero, Nat.add_zero] at this
    rw [this]
    exact (o6 i hi).1
  · have h0 := e7 i 0 hi (by omega)
    have h1 := e7 i 1 hi (by omega)
    rw [Nat.add_zero, Nat.add_zero] at h0
    rw [h0, h1]
    exact ⟨(o7 i hi).1, (o7 i hi).2.1⟩
theorem chD_in {d c : Nat} {g : Int32} (hg : inR g 6) : ∀ n, (∀ i, i < n → inR (fc (3 * i + 2)) 6) → inR (chD fc d c g n) 6
  | 0, _ => hg
  | n + 1, hf => by
    rw [chD]
    split
    · exact hf n (by omega)
    · exact chD_in hg n (fun i hi => hf i (by omega))
theorem mkS_in (ha : ∀ j, j < 16 → inR (af j) 6) (hf : ∀ i, i < nc → inR (fc (3 * i + 2)) 6) {c : Nat} (hc : c < 16) : ∀ d, inR (mkS af nc fc c d) 6
  | 0 => by rw [mkS_eq]; exact chD_in (ha c hc) nc hf
  | d + 1 => by rw [mkS_eq]; exact chD_in (mkS_in ha hf hc d) nc hf
theorem RB_mkX (H : RB w h la af nc fc nl fl ns fs mS) : ∀ c d, c < 16 → d ≤ la → inR (mkS af nc fc c d) 6 := fun c d hc _ => mkS_in H.2.1.2.2.2.1 (fun i hi => (H.2.1.2.2.2.2.1 i hi).2.2) hc d
theorem mkR_in {S : Nat → Int32} {c d : Nat} (h0 : inR (S c) 6) : ∀ n, (∀ i, i < n → inR (S (17 + 3 * i + 2)) 6) → inR (mkR S c d n).1 6
  | 0, _ => h0
  | n + 1, hf => by
    rw [mkR]
    split
    · exact hf n (by omega)
    · exact mkR_in h0 n (fun i hi => hf i (by omega))
theorem RB_mkM (H : RB w h la af nc fc nl fl ns fs mS) : ∀ c d, c < 16 → d ≤ la → inR (mkM mS nc c d) 6 := fun c d hc _ => by
  obtain ⟨_, ⟨o1, o2, o3, o4, o5, o6, o7⟩, e1, e2, e3, e4, e5, e6, e7⟩ := H
  exact mkR_in (by rw [e1 c hc]; exact o4 c hc) nc (fun i hi => by rw [e3 i 2 hi (by omega)]; exact (o5 i hi).2.2)
end Fac
section Mut
variable {w h la : Nat} {af : Nat → Int32} {nc : Nat} {fc : Nat → Int32} {nl : Nat} {fl : Nat → Int32} {ns : Nat} {fs mS mk sg : Nat → Int32} {vw vh : Nat} {sl : Int32}
theorem VOK_1 : VOK w h la af nc fc mk sg vw vh (nI 1) := fun z => absurd z (by decide)
theorem M_feed {rl : Nat} {tb : Nat → Int32} {c : Int32} (h1 : rl ≤ 160) (h2 : tpOk tb rl) : (if (inR c 128 ∧ rl < 160) then rl + 1 else rl) ≤ 160 ∧ tpOk (if (inR c 128 ∧ rl < 160) then upd tb rl c else tb) (if (inR c 128 ∧ rl < 160) then rl + 1 else rl) := by
  by_cases hq : inR c 128 ∧ rl < 160
  · simp only [if_pos hq]
    refine ⟨by omega, fun j hj => ?_⟩
    unfold upd
    split
    · exact hq.1
    · exact h2 j (by omega)
  · simp only [if_neg hq]
    exact ⟨h1, h2⟩
theorem M_end {rl : Nat} {tb : Nat → Int32} {v : Int32} (h1 : rl ≤ 160) (h2 : tpOk tb rl) : (if inR v (rl + 1) then v.toInt.toNat else rl) ≤ 160 ∧ tpOk tb (if inR v (rl + 1) then v.toInt.toNat else rl) := by
  by_cases hq : inR v (rl + 1)
  · simp only [if_pos hq]
    have h3 := hq.1
    have h4 := hq.2
    exact ⟨by omega, fun j hj => h2 j (by omega)⟩
  · simp only [if_neg hq]
    exact ⟨h1, h2⟩
theorem M_first {c m : Int32} (H : RB w h la af nc fc nl fl ns fs mS) (V : VOK w h la af nc fc mk sg vw vh sl) : RB w h la (if (inR c (w * h) ∧ inR m 6) then upd af (tn c) m else af) nc fc nl fl ns fs (if inR c (w * h) ∧ inR m 6 then upd mS (tn c) m else mS) ∧ VOK w h la (if (inR c (w * h) ∧ inR m 6) then upd af (tn c) m else af) nc fc mk sg vw vh (if (inR c (w * h) ∧ inR m 6) then nI 1 else sl) ∧ (∀ q, 85 ≤ q → (if inR c (w * h) ∧ inR m 6 then upd mS (tn c) m else mS) q = mS q) := by
  have hw := H.1.wh
  by_cases hq : inR c (w * h) ∧ inR m 6
  · simp only [if_pos hq]
    have ht := (tn_lt hq.1).1
    exact ⟨RB_fir (by omega) hq.2 H, VOK_1, fun q h9 => by unfold upd; rw [if_neg (by omega)]⟩
  · simp only [if_neg hq]
    exact ⟨H, V, fun _ _ => by first | trivial | rfl⟩
theorem M_turn {d c m : Int32} (H : RB w h la af nc fc nl fl ns fs mS) : RB w h la af (if (inR d (la + 1) ∧ inR c (w * h) ∧ inR m 6 ∧ nc < 10) then nc + 1 else nc) (if (inR d (la + 1) ∧ inR c (w * h) ∧ inR m 6 ∧ nc < 10) then upd (upd (upd fc (3 * nc) d) (3 * nc + 1) c) (3 * nc + 2) m else fc) nl fl ns fs (if (inR d (la + 1) ∧ inR c (w * h) ∧ inR m 6 ∧ nc < 10) then add3 mS (17 + 3 * nc) 16 d c m (nc + 1) else mS) ∧ (∀ q, 85 ≤ q → (if (inR d (la + 1) ∧ inR c (w * h) ∧ inR m 6 ∧ nc < 10) then add3 mS (17 + 3 * nc) 16 d c m (nc + 1) else mS) q = mS q) := by
  by_cases hq : inR d (la + 1) ∧ inR c (w * h) ∧ inR m 6 ∧ nc < 10
  · simp only [if_pos hq]
    obtain ⟨q1, q2, q3, q4⟩ := hq
    exact ⟨RB_chg q4 q1 q2 q3 H, fun q h9 => by unfold add3 upd; rw [if_neg (by omega), if_neg (by omega), if_neg (by omega), if_neg (by omega)]⟩
  · simp only [if_neg hq]
    exact ⟨H, fun _ _ => by first | trivial | rfl⟩
theorem M_cut {a v : Int32} (H : RB w h la af nc fc nl fl ns fs mS) (V : VOK w h la af nc fc mk sg vw vh sl) : RB w h la af (if a = 0 then (if inR v (nc + 1) then v.toInt.toNat else nc) else nc) fc (if a = nI 1 then (if inR v (nl + 1) then v.toInt.toNat else nl) else nl) fl ns fs (if a = 0 ∧ inR v (nc + 1) then upd mS 16 v else if a = nI 1 ∧ inR v (nl + 1) then upd mS 47 v else mS) ∧ VOK w h la af (if a = 0 then (if inR v (nc + 1) then v.toInt.toNat else nc) else nc) fc mk sg vw vh (if inR a 2 then nI 1 else sl) ∧ (∀ q, 85 ≤ q → (if a = 0 ∧ inR v (nc + 1) then upd mS 16 v else if a = nI 1 ∧ inR v (nl + 1) then upd mS 47 v else mS) q = mS q) := by
  have hup : ∀ (i : Nat) (x : Int32), i < 85 → ∀ q, 85 ≤ q → upd mS i x q = mS q := fun i x hi q h9 => by unfold upd; rw [if_neg (by omega)]
  by_cases h0 : a = 0
  · have h1 : ¬ a = nI 1 := fun z => absurd (h0.symm.trans z) (by decide)
    have h2 : inR a 2 := by rw [h0]; decide
    simp only [if_pos h0, if_neg h1, if_pos h2]
    by_cases hv : inR v (nc + 1)
    · simp only [if_pos hv, if_pos (show a = 0 ∧ inR v (nc + 1) from ⟨h0, hv⟩)]
      obtain ⟨t1, t2⟩ := tn_lt hv
      refine ⟨?_, VOK_1, hup 16 v (by omega)⟩
      have := RB_cutc (k := tn v) (by omega) H
      rw [← t2] at this
      exact this
    · simp only [if_neg hv, if_neg (show ¬ (a = 0 ∧ inR v (nc + 1)) from fun z => hv z.2), if_neg (show ¬ (a = nI 1 ∧ inR v (nl + 1)) from fun z => h1 z.1)]
      exact ⟨H, VOK_1, fun _ _ => by first | trivial | rfl⟩
  · simp only [if_neg h0, if_neg (show ¬ (a = 0 ∧ inR v (nc + 1)) from fun z => h0 z.1)]
    by_cases h1 : a = nI 1
    · have h2 : inR a 2 := by rw [h1]; decide
      simp only [if_pos h1, if_pos h2]
      by_cases hv : inR v (nl + 1)
      · simp only [if_pos hv, if_pos (show a = nI 1 ∧ inR v (nl + 1) from ⟨h1, hv⟩)]
        obtain ⟨t1, t2⟩ := tn_lt hv
        refine ⟨?_, VOK_1, hup 47 v (by omega)⟩
        have := RB_cutl (k := tn v) (by omega) H
        rw [← t2] at this
        exact this
      · simp only [if_neg hv, if_neg (show ¬ (a = nI 1 ∧ inR v (nl + 1)) from fun z => hv z.2)]
        exact ⟨H, VOK_1, fun _ _ => by first | trivial | rfl⟩
    · have h2 : ¬ inR a 2 := fun z => (inR_2.mp z).elim h0 h1
      simp only [if_neg h1, if_neg h2, if_neg (show ¬ (a = nI 1 ∧ inR v (nl + 1)) from fun z => h1 z.1)]
      exact ⟨H, V, fun _ _ => by first | trivial | rfl⟩
theorem M_grind {d bl : Int32} (H : RB w h la af nc fc nl fl ns fs mS) : RB w h la af nc fc (if (inR d (la + 1) ∧ xu bl (nI (w * h)) = 0 ∧ nl < 6) then nl + 1 else nl) (if (inR d (la + 1) ∧ xu bl (nI (w * h)) = 0 ∧ nl < 6) then upd (upd (upd fl (3 * nl) d) (3 * nl + 1) bl) (3 * nl + 2) (nI 0) else fl) ns fs (if (inR d (la + 1) ∧ inR bl (2 ^ (w * h)) ∧ nl < 6) then add2 mS (48 + 2 * nl) 47 d bl (nl + 1) else mS) ∧ (∀ q, 85 ≤ q → (if (inR d (la + 1) ∧ inR bl (2 ^ (w * h)) ∧ nl < 6) then add2 mS (48 + 2 * nl) 47 d bl (nl + 1) else mS) q = mS q) := by
  have hw := H.1.wh
  have hx := xu_shift bl (w * h) (by omega)
  by_cases hq : inR d (la + 1) ∧ inR bl (2 ^ (w * h)) ∧ nl < 6
  · obtain ⟨q1, q2, q3⟩ := hq
    simp only [if_pos (show inR d (la + 1) ∧ xu bl (nI (w * h)) = 0 ∧ nl < 6 from ⟨q1, hx.mpr q2, q3⟩), if_pos (show inR d (la + 1) ∧ inR bl (2 ^ (w * h)) ∧ nl < 6 from ⟨q1, q2, q3⟩)]
    exact ⟨RB_grd q3 q1 q2 H, fun q h9 => by unfold add2 upd; rw [if_neg (by omega), if_neg (by omega), if_neg (by omega)]⟩
  · simp only [if_neg hq, if_neg (show ¬ (inR d (la + 1) ∧ xu bl (nI (w * h)) = 0 ∧ nl < 6) from fun z => hq ⟨z.1, hx.mp z.2.1, z.2.2⟩)]
    exact ⟨H, fun _ _ => by first | trivial | rfl⟩
theorem M_regrind {l d : Int32} (H : RB w h la af nc fc nl fl ns fs mS) : RB w h la af nc fc nl (if inR l nl ∧ inR d (la + 1) then upd fl (3 * tn l) d else fl) ns fs (if inR l nl ∧ inR d (la + 1) then upd mS (48 + 2 * tn l) d else mS) ∧ (∀ q, 85 ≤ q → (if inR l nl ∧ inR d (la + 1) then upd mS (48 + 2 * tn l) d else mS) q = mS q) := by
  have h6 := H.2.1.2.1
  by_cases hq : inR l nl ∧ inR d (la + 1)
  · simp only [if_pos hq]
    have ht := (tn_lt hq.1).1
    exact ⟨RB_reg ht hq.2 H, fun q h9 => by unfold upd; rw [if_neg (by omega)]⟩
  · simp only [if_neg hq]
    exact ⟨H, fun _ _ => by first | trivial | rfl⟩
theorem xbit_in {c n : Nat} (hc : c < n) (hn : n < 31) : inR (xbit c) (2 ^ n) := by
  rw [inR_bits hn]
  intro i h1 h2
  rw [bt_xbit c (by omega) i h2, decide_eq_false (by omega)]
theorem M_crack {l c iz : Int32} (H : RB w h la af nc fc nl fl ns fs mS) : RB w h la af nc fc nl (if inR l nl ∧ inR c (w * h) then upd fl (3 * tn l + 1) (if iz = 0 then (fl (3 * tn l + 1)) &&& (xbit (tn c) ^^^ (-1)) else (fl (3 * tn l + 1)) ||| xbit (tn c)) else fl) ns fs (if inR l nl ∧ inR c (w * h) then upd mS (48 + 2 * tn l + 1) (if iz = 0 then (mS (48 + 2 * tn l + 1)) &&& (xbit (tn c) ^^^ (-1)) else (mS (48 + 2 * tn l + 1)) ||| xbit (tn c)) else mS) ∧ (∀ q, 85 ≤ q → (if inR l nl ∧ inR c (w * h) then upd mS (48 + 2 * tn l + 1) (if iz = 0 then (mS (48 + 2 * tn l + 1)) &&& (xbit (tn c) ^^^ (-1)) else (mS (48 + 2 * tn l + 1)) ||| xbit (tn c)) else mS) q = mS q) := by
  have h6 := H.2.1.2.1
  have hw := H.1.wh
  by_cases hq : inR l nl ∧ inR c (w * h)
  · have ht := (tn_lt hq.1).1
    have hc := (tn_lt hq.2).1
    have he := H.2.2.2.2.2.2.1 (tn l) 1 ht (by omega)
    have hb := (H.2.1.2.2.2.2.2.1 (tn l) ht).2
    simp only [if_pos hq]
    rw [he]
    refine ⟨RB_crk ht ?_ H, fun q h9 => by unfold upd; rw [if_neg (by omega)]⟩
    rw [inR_bits (by omega)] at hb ⊢
    intro i h1 h2
    split
    · rw [b_and, hb i h1 h2, Bool.false_and]
    · rw [b_or, hb i h1 h2, bt_xbit _ (by omega) i h2, decide_eq_false (by omega)]; rfl
  · simp only [if_neg hq]
    exact ⟨H, fun _ _ => by first | trivial | rfl⟩
theorem M_show {x c m : Int32} (H : RB w h la af nc fc nl fl ns fs mS) : RB w h la af nc fc nl fl (if (inR x (w * h) ∧ inR c (w * h) ∧ (inR m 6 ∨ m = (-4)) ∧ ns < 8) then ns + 1 else ns) (if (inR x (w * h) ∧ inR c (w * h) ∧ (inR m 6 ∨ m = (-4)) ∧ ns < 8) then upd (upd (upd fs (3 * ns) x) (3 * ns + 1) c) (3 * ns + 2) m else fs) (if (inR x (w * h) ∧ inR c (w * h) ∧ (m = (-4) ∨ inR m 6) ∧ ns < 8) then add3 mS (61 + 3 * ns) 60 x c m (ns + 1) else mS) ∧ (∀ q, 85 ≤ q → (if (inR x (w * h) ∧ inR c (w * h) ∧ (m = (-4) ∨ inR m 6) ∧ ns < 8) then add3 mS (61 + 3 * ns) 60 x c m (ns + 1) else mS) q = mS q) := by
  by_cases hq : inR x (w * h) ∧ inR c (w * h) ∧ (inR m 6 ∨ m = (-4)) ∧ ns < 8
  · obtain ⟨q1, q2, q3, q4⟩ := hq
    simp only [if_pos (show inR x (w * h) ∧ inR c (w * h) ∧ (inR m 6 ∨ m = (-4)) ∧ ns < 8 from ⟨q1, q2, q3, q4⟩), if_pos (show inR x (w * h) ∧ inR c (w * h) ∧ (m = (-4) ∨ inR m 6) ∧ ns < 8 from ⟨q1, q2, q3.symm, q4⟩)]
    exact ⟨RB_shw q4 q1 q2 q3 H, fun q h9 => by unfold add3 upd; rw [if_neg (by omega), if_neg (by omega), if_neg (by omega), if_neg (by omega)]⟩
  · simp only [if_neg hq, if_neg (show ¬ (inR x (w * h) ∧ inR c (w * h) ∧ (m = (-4) ∨ inR m 6) ∧ ns < 8) from fun z => hq ⟨z.1, z.2.1, z.2.2.1.symm, z.2.2.2⟩)]
    exact ⟨H, fun _ _ => by first | trivial | rfl⟩
theorem M_forget {v : Int32} (H : RB w h la af nc fc nl fl ns fs mS) : RB w h la af nc fc nl fl (if inR v (ns + 1) then v.toInt.toNat else ns) fs (if inR v (ns + 1) then upd mS 60 v else mS) ∧ (∀ q, 85 ≤ q → (if inR v (ns + 1) then upd mS 60 v else mS) q = mS q) := by
  by_cases hv : inR v (ns + 1)
  · simp only [if_pos hv]
    obtain ⟨t1, t2⟩ := tn_lt hv
    refine ⟨?_, fun q h9 => by unfold upd; rw [if_neg (by omega)]⟩
    have := RB_cuts (k := tn v) (by omega) H
    rw [← t2] at this
    exact this
  · simp only [if_neg hv]
    exact ⟨H, fun _ _ => by first | trivial | rfl⟩
theorem M_read {j z n : Nat} {ln sz lane f0 : Int32} {sf ml ms mc : Nat → Int32} (hz : ms j = nI z) (hz40 : z ≤ 40) (hn : n ≤ 13) (H : RB w h la af nc fc nl fl ns fs mS) (HS : SH j ln sz sf ml ms mc) :
    RB w h la af (match (rdF la (w * h) sz sf f0 n 0 (if sz = (-1) ∨ ln = lane then nI 0 else nI 3) nc fc).1 with | some _ => nc | none => (rdF la (w * h) sz sf f0 n 0 (if sz = (-1) ∨ ln = lane then nI 0 else nI 3) nc fc).2.2.1) ((rdF la (w * h) sz sf f0 n 0 (if sz = (-1) ∨ ln = lane then nI 0 else nI 3) nc fc).2.2.2) nl fl ns fs
      (match (rdM la (w * h) (rsM (ml j) lane z f0) (fun i c => mc (40 * j + tn (f0 + nI (3 * i)) + c)) n 0 (nI 0) nc mS).1 with | some _ => upd (rdM la (w * h) (rsM (ml j) lane z f0) (fun i c => mc (40 * j + tn (f0 + nI (3 * i)) + c)) n 0 (nI 0) nc mS).2.2.2 16 (nI nc) | none => (rdM la (w * h) (rsM (ml j) lane z f0) (fun i c => mc (40 * j + tn (f0 + nI (3 * i)) + c)) n 0 (nI 0) nc mS).2.2.2) ∧
    (∀ q, 85 ≤ q → (match (rdM la (w * h) (rsM (ml j) lane z f0) (fun i c => mc (40 * j + tn (f0 + nI (3 * i)) + c)) n 0 (nI 0) nc mS).1 with | some _ => upd (rdM la (w * h) (rsM (ml j) lane z f0) (fun i c => mc (40 * j + tn (f0 + nI (3 * i)) + c)) n 0 (nI 0) nc mS).2.2.2 16 (nI nc) | none => (rdM la (w * h) (rsM (ml j) lane z f0) (fun i c => mc (40 * j + tn (f0 + nI (3 * i)) + c)) n 0 (nI 0) nc mS).2.2.2) q = mS q) ∧
    (match (rdF la (w * h) sz sf f0 n 0 (if sz = (-1) ∨ ln = lane then nI 0 else nI 3) nc fc).1 with | some i => (-20) - nI i | none => nI ((rdF la (w * h) sz sf f0 n 0 (if sz = (-1) ∨ ln = lane then nI 0 else nI 3) nc fc).2.2.1 - nc)) = (match (rdM la (w * h) (rsM (ml j) lane z f0) (fun i c => mc (40 * j + tn (f0 + nI (3 * i)) + c)) n 0 (nI 0) nc mS).1 with | some i => (-20) - nI i | none => nI ((rdM la (w * h) (rsM (ml j) lane z f0) (fun i c => mc (40 * j + tn (f0 + nI (3 * i)) + c)) n 0 (nI 0) nc mS).2.2.1 - nc)) := by
  by_cases hl : sz = (-1) ∨ ln = lane
  · rw [if_pos hl]
    obtain ⟨o, fd2, nc2, fc2, S2, g1, g2, g3, g4, g5⟩ := rd_rel (f0 := f0) (lane := lane) hz hz40 hl HS n 0 (nI 0) nc fc mS (by omega) H
    rw [g1, g2]
    cases o with
    | none => exact ⟨g3, g5, rfl⟩
    | some i =>
      refine ⟨RB_cutc g4 g3, fun q h9 => ?_, rfl⟩
      show upd S2 16 (nI nc) q = mS q
      unfold upd
      rw [if_neg (by omega)]
      exact g5 q h9
  · rw [if_neg hl]
    have e1 : rdF la (w * h) sz sf f0 n 0 (nI 3) nc fc = (none, nI 3, nc, fc) := by
      cases n with
      | zero => rfl
      | succ n => rw [rdF, if_neg (by decide)]
    have e2 : ∃ fd, rdM la (w * h) (rsM (ml j) lane z f0) (fun i c => mc (40 * j + tn (f0 + nI (3 * i)) + c)) n 0 (nI 0) nc mS = (none, fd, nc, mS) := by
      cases n with
      | zero => exact ⟨nI 0, rfl⟩
      | succ n =>
        have h1 : ¬ sz = (-1) := fun q => hl (Or.inl q)
        obtain ⟨_, b, z', c1, c2, c3⟩ := HS
        have h2 : ¬ ml j = (-4) := fun q => h1 (b.mpr q)
        have h3 : ¬ ml j = lane := fun q => hl (Or.inr ((c3 h1).2.1.trans q))
        have hr : rsM (ml j) lane z f0 0 = nI 3 := by
          unfold rsM
          rw [if_neg h2, if_pos h3]
        refine ⟨nI 3, ?_⟩
        rw [rdM, if_pos (show nI 0 = (0 : Int32) from rfl), hr, if_neg (by decide)]
        cases n with
        | zero => rfl
        | succ n => rw [rdM, if_neg (by decide)]
    obtain ⟨fd, e2⟩ := e2
    rw [e1, e2]
    exact ⟨H, fun _ _ => (by first | trivial | rfl), rfl⟩
end Mut

/-! what stays within its bounds while the tape is read -/
theorem bN_ind {α : Type} {P : α → Prop} {t : Nat → Int32} {rl lo hi : Nat} {s : TS} {no : TS → α} {go : Nat → TS → α} (hs : s.1 ≤ rl) (hh : hi < 1000) (h0 : ∀ a : TS, a.1 ≤ rl → P (no a)) (h1 : ∀ (k : Nat) (a : TS), lo ≤ k → k ≤ hi → a.1 ≤ rl → P (go k a)) : P (bN t rl lo hi s no go) := by
  have hb := fNum_bd (t := t) (lo := lo) (hi := hi) hs
  unfold bN
  split
  · rename_i h
    obtain ⟨k, hk1, hk2, hk3⟩ := fNum_val hh h
    rw [hk3, nI_toInt (by omega)]
    exact h1 k _ hk1 hk2 hb.1
  · exact h0 _ hb.1
theorem inR_k {k n : Nat} (h : k < n) (hn : n ≤ 2 ^ 31) : inR (nI k) n := inR_nI h hn
abbrev r3ok (f : Nat → Int32) (a b c n : Nat) : Prop := ∀ i, i < n → inR (f (3 * i)) a ∧ inR (f (3 * i + 1)) b ∧ inR (f (3 * i + 2)) c
theorem row3_ok {f : Nat → Int32} {a b c n : Nat} {x y z : Int32} (h : r3ok f a b c n) (hx : inR x a) (hy : inR y b) (hz : inR z c) : r3ok (row3 f n x y z) a b c (n + 1) := by
  intro i hi
  unfold row3 upd
  by_cases hq : i = n
  · subst hq
    refine ⟨?_, ?_, ?_⟩
    · rw [if_neg (by omega), if_neg (by omega), if_pos rfl]; exact hx
    · rw [if_neg (by omega), if_pos rfl]; exact hy
    · rw [if_pos rfl]; exact hz
  · have h1 := h i (by omega)
    refine ⟨?_, ?_, ?_⟩
    · rw [if_neg (by omega), if_neg (by omega), if_neg (by omega)]; exact h1.1
    · rw [if_neg (by omega), if_neg (by omega), if_neg (by omega)]; exact h1.2.1
    · rw [if_neg (by omega), if_neg (by omega), if_neg (by omega)]; exact h1.2.2
abbrev afok (af : Nat → Int32) : Prop := ∀ j, j < 16 → inR (af j) 6
abbrev sdok (w : Nat) : Prop := 2 ≤ w ∧ w ≤ 4
/-- a mask of n cells -/
abbrev mk16 (x : Int32) : Prop := inR x 65536
theorem orB_16 {x : Int32} {c : Nat} (hx : mk16 x) (hc : c < 16) : mk16 (orB x c) := by
  obtain ⟨k, hk, rfl⟩ := inR_nat hx
  have h1 : orB (nI k) c = nI (k ||| 2 ^ c) := by
    have : ∀ c, c < 16 → nI 1 <<< (nI c &&& 31) = nI (2 ^ c) := by decide +kernel
    unfold orB
    rw [this c hc]
    apply Int32.toBitVec_inj.mp
    show BitVec.ofNat 32 k ||| BitVec.ofNat 32 (2 ^ c) = BitVec.ofNat 32 (k ||| 2 ^ c)
    exact BitVec.ofNat_or.symm
  rw [h1]
  have h2 : 2 ^ c < 2 ^ 16 := Nat.pow_lt_pow_right (by omega) hc
  exact inR_nI (Nat.or_lt_two_pow (n := 16) hk h2) (by omega)
section Ok
variable {t : Nat → Int32} {rl : Nat} {s : TS}
theorem fHou_ok {ho : Int32} {w h : Nat} (hs : s.1 ≤ rl) (hw : sdok w) (hh : sdok h) : (fHou t rl ho w h s).2.1.1 ≤ rl ∧ sdok (fHou t rl ho w h s).2.2.2.1 ∧ sdok (fHou t rl ho w h s).2.2.2.2 := by
  unfold fHou
  split
  · refine bN_ind (P := fun (r : Bool × TS × Int32 × Nat × Nat) => r.2.1.1 ≤ rl ∧ sdok r.2.2.2.1 ∧ sdok r.2.2.2.2) hs (by omega) (fun a ha => ⟨ha, hw, hh⟩) (fun k a hk1 hk2 ha => ?_)
    refine bN_ind (P := fun (r : Bool × TS × Int32 × Nat × Nat) => r.2.1.1 ≤ rl ∧ sdok r.2.2.2.1 ∧ sdok r.2.2.2.2) ha (by omega) (fun b hb => ⟨hb, ⟨hk1, hk2⟩, hh⟩) (fun k2 b hk3 hk4 hb => ⟨(fSem_bd hb).1, ⟨hk1, hk2⟩, ⟨hk3, hk4⟩⟩)
  · exact ⟨hs, hw, hh⟩
theorem fLas_ok {lo : Int32} {la : Nat} (hs : s.1 ≤ rl) (hl : la ≤ 9) : (fLas t rl lo la s).2.1.1 ≤ rl ∧ (fLas t rl lo la s).2.2.2 ≤ 9 := by
  unfold fLas
  split
  · exact bN_ind (P := fun (r : Bool × TS × Int32 × Nat) => r.2.1.1 ≤ rl ∧ r.2.2.2 ≤ 9) hs (by omega) (fun a ha => ⟨ha, hl⟩) (fun k a hk1 hk2 ha => ⟨(fSem_bd ha).1, hk2⟩)
  · exact ⟨hs, hl⟩
theorem fCel_ok {ct : Int32} {af : Nat → Int32} (hs : s.1 ≤ rl) (ha0 : afok af) (hc : mk16 ct) : (fCel t rl ct af s).2.1.1 ≤ rl ∧ afok (fCel t rl ct af s).2.2.2 ∧ mk16 (fCel t rl ct af s).2.2.1 := by
  unfold fCel
  refine bN_ind (P := fun (r : Bool × TS × Int32 × (Nat → Int32)) => r.2.1.1 ≤ rl ∧ afok r.2.2.2 ∧ mk16 r.2.2.1) hs (by omega) (fun a ha => ⟨ha, ha0, hc⟩) (fun k a hk1 hk2 ha => ?_)
  split
  · refine bN_ind (P := fun (r : Bool × TS × Int32 × (Nat → Int32)) => r.2.1.1 ≤ rl ∧ afok r.2.2.2 ∧ mk16 r.2.2.1) ha (by omega) (fun b hb => ⟨hb, ha0, orB_16 hc (by omega)⟩) (fun k2 b hk3 hk4 hb => ⟨(fSem_bd hb).1, fun j hj => ?_, orB_16 hc (by omega)⟩)
    show inR (upd af k (nI k2) j) 6
    unfold upd
    split
    · exact inR_nI (by omega) (by omega)
    · exact ha0 j hj
  · exact ⟨ha, ha0, hc⟩
theorem fTur_ok {nc : Nat} {fc : Nat → Int32} (hs : s.1 ≤ rl) (hn : nc ≤ 10) (hf : r3ok fc 10 16 6 nc) : (fTur t rl nc fc s).2.1.1 ≤ rl ∧ (fTur t rl nc fc s).2.2.1 ≤ 10 ∧ r3ok (fTur t rl nc fc s).2.2.2 10 16 6 (fTur t rl nc fc s).2.2.1 := by
  unfold fTur
  split
  · rename_i h10
    refine bN_ind (P := fun (r : Bool × TS × Nat × (Nat → Int32)) => r.2.1.1 ≤ rl ∧ r.2.2.1 ≤ 10 ∧ r3ok r.2.2.2 10 16 6 r.2.2.1) hs (by omega) (fun a ha => ⟨ha, hn, hf⟩) (fun d a hk1 hk2 ha => ?_)
    refine bN_ind (P := fun (r : Bool × TS × Nat × (Nat → Int32)) => r.2.1.1 ≤ rl ∧ r.2.2.1 ≤ 10 ∧ r3ok r.2.2.2 10 16 6 r.2.2.1) ha (by omega) (fun a ha => ⟨ha, hn, hf⟩) (fun c a hk3 hk4 ha => ?_)
    refine bN_ind (P := fun (r : Bool × TS × Nat × (Nat → Int32)) => r.2.1.1 ≤ rl ∧ r.2.2.1 ≤ 10 ∧ r3ok r.2.2.2 10 16 6 r.2.2.1) ha (by omega) (fun a ha => ⟨ha, hn, hf⟩) (fun v a hk5 hk6 ha => ?_)
    exact ⟨(fSem_bd ha).1, h10, row3_ok hf (inR_nI (by omega) (by omega)) (inR_nI (by omega) (by omega)) (inR_nI (by omega) (by omega))⟩
  · exact ⟨hs, hn, hf⟩
theorem fBli_ok {nl d : Nat} {fl : Nat → Int32} (hn : nl < 6) (hf : r3ok fl 10 65536 1 nl) (hd : d < 10) : ∀ (k : Nat) (bl : Int32) (s : TS), s.1 ≤ rl → mk16 bl → (fBli t rl nl fl d k bl s).2.1.1 ≤ rl ∧ (fBli t rl nl fl d k bl s).2.2.1 ≤ 6 ∧ r3ok (fBli t rl nl fl d k bl s).2.2.2 10 65536 1 (fBli t rl nl fl d k bl s).2.2.1 := by
  intro k
  induction k with
  | zero => intro bl s hs hb; exact ⟨hs, Nat.le_of_lt hn, hf⟩
  | succ k ih =>
    intro bl s hs hb
    have h1 := fTok_bd (t := t) hs
    rw [fBli]
    split
    · split
      · exact ⟨h1.1, hn, row3_ok hf (inR_nI (by omega) (by omega)) hb (inR_nI (by omega) (by omega))⟩
      · split
        · rename_i hw
          have hv := fWit_val (by omega) hw
          rw [fWit_same hw] at hv
          obtain ⟨c, hc1, hc2, hc3⟩ := hv
          rw [hc3, nI_toInt (by omega)]
          split
          · exact ih _ _ h1.1 (orB_16 hb (by omega))
          · exact ⟨h1.1, Nat.le_of_lt hn, hf⟩
        · have h2 := fWit_bd (lo := 0) (hi := 15) (s := (fTok t rl s).2)
          refine ⟨?_, Nat.le_of_lt hn, hf⟩
          show (fWit 0 15 (fTok t rl s).2).2.1 ≤ rl
          rw [h2.1]; exact h1.1
    · exact ⟨h1.1, Nat.le_of_lt hn, hf⟩
theorem fLen_ok {nl : Nat} {fl : Nat → Int32} (hs : s.1 ≤ rl) (hn : nl ≤ 6) (hf : r3ok fl 10 65536 1 nl) : (fLen t rl nl fl s).2.1.1 ≤ rl ∧ (fLen t rl nl fl s).2.2.1 ≤ 6 ∧ r3ok (fLen t rl nl fl s).2.2.2 10 65536 1 (fLen t rl nl fl s).2.2.1 := by
  unfold fLen
  split
  · rename_i h6
    refine bN_ind (P := fun (r : Bool × TS × Nat × (Nat → Int32)) => r.2.1.1 ≤ rl ∧ r.2.2.1 ≤ 6 ∧ r3ok r.2.2.2 10 65536 1 r.2.2.1) hs (by omega) (fun a ha => ⟨ha, hn, hf⟩) (fun d a hk1 hk2 ha => ?_)
    exact fBli_ok h6 hf (by omega) 17 _ a ha (inR_nI (by omega) (by omega))
  · exact ⟨hs, hn, hf⟩
/-- the reader's state within its bounds -/
def psOk (rl : Nat) (p : PS) : Prop := p.1.1 ≤ rl ∧ mk16 p.2.1.2.2 ∧ (sdok p.2.2.1.1 ∧ sdok p.2.2.1.2.1 ∧ p.2.2.1.2.2 ≤ 9) ∧ afok p.2.2.2.1 ∧ (p.2.2.2.2.1.1 ≤ 10 ∧ r3ok p.2.2.2.2.1.2 10 16 6 p.2.2.2.2.1.1) ∧ p.2.2.2.2.2.1 ≤ 6 ∧ r3ok p.2.2.2.2.2.2 10 65536 1 p.2.2.2.2.2.1
theorem fLin_ok {ho lo ct : Int32} {w h la : Nat} {af : Nat → Int32} {nc : Nat} {fc : Nat → Int32} {nl : Nat} {fl : Nat → Int32} (hk : psOk rl (s, (ho, lo, ct), (w, h, la), af, (nc, fc), (nl, fl))) : psOk rl (fLin t rl s ho lo ct w h la af nc fc nl fl).2 := by
  obtain ⟨h1, h2, ⟨h3, h4, h5⟩, h6, ⟨h7, h8⟩, h9, h10⟩ := hk
  unfold fLin
  split
  · split
    · have q := fHou_ok (t := t) (ho := ho) (s := s) h1 h3 h4
      exact ⟨q.1, h2, ⟨q.2.1, q.2.2, h5⟩, h6, ⟨h7, h8⟩, h9, h10⟩
    · split
      · have q := fLas_ok (t := t) (lo := lo) (s := s) h1 h5
        exact ⟨q.1, h2, ⟨h3, h4, q.2⟩, h6, ⟨h7, h8⟩, h9, h10⟩
      · split
        · have q := fCel_ok (t := t) (s := s) h1 h6 h2
          exact ⟨q.1, q.2.2, ⟨h3, h4, h5⟩, q.2.1, ⟨h7, h8⟩, h9, h10⟩
        · split
          · have q := fTur_ok (t := t) (s := s) h1 h7 h8
            exact ⟨q.1, h2, ⟨h3, h4, h5⟩, h6, ⟨q.2.1, q.2.2⟩, h9, h10⟩
          · split
            · have q := fLen_ok (t := t) (s := s) h1 h9 h10
              exact ⟨q.1, h2, ⟨h3, h4, h5⟩, h6, ⟨h7, h8⟩, q.2.1, q.2.2⟩
            · exact ⟨h1, h2, ⟨h3, h4, h5⟩, h6, ⟨h7, h8⟩, h9, h10⟩
  · exact ⟨h1, h2, ⟨h3, h4, h5⟩, h6, ⟨h7, h8⟩, h9, h10⟩
end Ok
abbrev fLinP (t : Nat → Int32) (rl : Nat) (p : PS) : Bool × PS := fLin t rl p.1 p.2.1.1 p.2.1.2.1 p.2.1.2.2 p.2.2.1.1 p.2.2.1.2.1 p.2.2.1.2.2 p.2.2.2.1 p.2.2.2.2.1.1 p.2.2.2.2.1.2 p.2.2.2.2.2.1 p.2.2.2.2.2.2
/-- the lines, one after another, at most k of them; n were read -/
def fLp (t : Nat → Int32) (rl : Nat) : Nat → PS → Nat → PS × Nat
  | 0, p, n => (p, n)
  | k + 1, p, n =>
    if (fTok t rl p.1).1 = true ∧ ¬ (fTok t rl p.1).2.2.1 = 0 then
      if (fLinP t rl ((fTok t rl p.1).2, p.2)).1 = true then fLp t rl k (fLinP t rl ((fTok t rl p.1).2, p.2)).2 (n + 1)
      else ((fLinP t rl ((fTok t rl p.1).2, p.2)).2, n)
    else (((fTok t rl p.1).2, p.2), n)
theorem fLp_ok {t : Nat → Int32} {rl : Nat} : ∀ (k : Nat) (p : PS) (n : Nat), psOk rl p → psOk rl (fLp t rl k p n).1 := by
  intro k
  induction k with
  | zero => intro p n h; exact h
  | succ k ih =>
    intro p n h
    have h1 : psOk rl ((fTok t rl p.1).2, p.2) := ⟨(fTok_bd h.1).1, h.2⟩
    rw [fLp]
    split
    · have h2 : psOk rl (fLinP t rl ((fTok t rl p.1).2, p.2)).2 := fLin_ok h1
      split
      · exact ih _ _ h2
      · exact h2
    · exact h1
theorem fTok_sr {t : Nat → Int32} {rl : Nat} {s : TS} : (fTok t rl s).2.2.2.1 ≤ (fTok t rl s).2.1 := nxT_ge
theorem fLp_0 {t : Nat → Int32} {rl k n : Nat} {p : PS} {a : TS} (h : ¬ ((fTok t rl p.1).1 = true ∧ ¬ (fTok t rl p.1).2.2.1 = 0)) (he : a = (fTok t rl p.1).2) : fLp t rl (k + 1) p n = ((a, p.2), n) := by
  rw [fLp, if_neg h, he]
theorem fLp_1 {t : Nat → Int32} {rl k n : Nat} {p q : PS} {a : TS} (h1 : (fTok t rl p.1).1 = true) (he : a = (fTok t rl p.1).2) (h2 : ¬ a.2.1 = 0) (h3 : ¬ (fLinP t rl (a, p.2)).1 = true) (hq : q = (fLinP t rl (a, p.2)).2) : fLp t rl (k + 1) p n = (q, n) := by
  subst he
  rw [fLp, if_pos ⟨h1, h2⟩, if_neg h3, hq]
theorem fLp_2 {t : Nat → Int32} {rl k n : Nat} {p q : PS} {a : TS} (h1 : (fTok t rl p.1).1 = true) (he : a = (fTok t rl p.1).2) (h2 : ¬ a.2.1 = 0) (h3 : (fLinP t rl (a, p.2)).1 = true) (hq : q = (fLinP t rl (a, p.2)).2) : fLp t rl (k + 1) p n = fLp t rl k q (n + 1) := by
  subst he
  rw [fLp, if_pos ⟨h1, h2⟩, if_pos h3, hq]
/-- all that is told of is there -/
abbrev allP (p : PS) : Prop := (∀ i, i < p.2.2.2.2.1.1 → inR (p.2.2.2.2.1.2 (3 * i + 0)) (p.2.2.1.2.2 + 1) ∧ inR (p.2.2.2.2.1.2 (3 * i + 1)) (p.2.2.1.1 * p.2.2.1.2.1)) ∧ (∀ i, i < p.2.2.2.2.2.1 → inR (p.2.2.2.2.2.2 (3 * i + 0)) (p.2.2.1.2.2 + 1) ∧ xu (p.2.2.2.2.2.2 (3 * i + 1)) (nI (p.2.2.1.1 * p.2.2.1.2.1)) = nI 0) ∧ xu p.2.1.2.2 (nI (p.2.2.1.1 * p.2.2.1.2.1)) = nI 0
def fEnd (rl : Nat) (p : PS) : Int32 × Int32 := if p.1.2.2.2.2.1 = nI 0 ∧ ¬ allP p then (nI 6, nI rl) else (p.1.2.2.2.2.1, p.1.2.2.2.2.2)
abbrev ps0 (kd sr : Nat) (vl : Int32) (af fc fl : Nat → Int32) : PS := ((0, kd, sr, vl, nI 0, nI 0), (nI 0, nI 0, nI 0), (3, 3, 9), af, (0, fc), (0, fl))
theorem ps0_ok {rl kd sr : Nat} {vl : Int32} {af fc fl : Nat → Int32} (h : ∀ j, j < 16 → af j = nI 0) : psOk rl (ps0 kd sr vl af fc fl) := by
  refine ⟨Nat.zero_le _, inR_nI (by omega) (by omega), ⟨⟨?_, ?_⟩, ⟨?_, ?_⟩, ?_⟩, fun j hj => ?_, ⟨Nat.zero_le _, fun i hi => absurd hi (Nat.not_lt_zero _)⟩, Nat.zero_le _, fun i hi => absurd hi (Nat.not_lt_zero _)⟩
  · show 2 ≤ 3; omega
  · show 3 ≤ 4; omega
  · show 2 ≤ 3; omega
  · show 3 ≤ 4; omega
  · show 9 ≤ 9; omega
  · show inR (af j) 6
    rw [h j hj]; exact inR_nI (by omega) (by omega)

/-! places, guard -/
theorem allF_iff {p : Nat → Bool} : ∀ n, allF p n = true ↔ ∀ i, i < n → p i = true
  | 0 => ⟨fun _ i hi => absurd hi (Nat.not_lt_zero i), fun _ => rfl⟩
  | n + 1 => by
    rw [allF, Bool.and_eq_true, allF_iff n]
    constructor
    · intro h i hi
      rcases Nat.lt_succ_iff_lt_or_eq.mp hi with q | q
      · exact h.1 i q
      · rw [q]; exact h.2
    · intro h
      exact ⟨fun i hi => h i (by omega), h n (by omega)⟩
theorem anyF_iff {p : Nat → Bool} : ∀ n, anyF p n = true ↔ ∃ i, i < n ∧ p i = true
  | 0 => ⟨fun h => absurd h (show ¬ false = true by decide), fun ⟨i, hi, _⟩ => absurd hi (Nat.not_lt_zero i)⟩
  | n + 1 => by
    rw [anyF, Bool.or_eq_true, anyF_iff n]
    constructor
    · rintro (⟨i, hi, hp⟩ | hp)
      · exact ⟨i, by omega, hp⟩
      · exact ⟨n, by omega, hp⟩
    · rintro ⟨i, hi, hp⟩
      rcases Nat.lt_succ_iff_lt_or_eq.mp hi with q | q
      · exact Or.inl ⟨i, q, hp⟩
      · rw [q] at hp; exact Or.inr hp
theorem bt_full : ∀ n, n < 17 → ∀ i, i < 32 → bt (nI (2 ^ n - 1)) i = decide (i < n) := by decide +kernel
theorem and_full {x : Int32} {n : Nat} (hn : n ≤ 16) (hx : inR x (2 ^ n)) : x &&& nI (2 ^ n - 1) = x := by
  rw [inR_bits (by omega)] at hx
  refine b_ext (fun i hi => ?_)
  rw [b_and, bt_full n (by omega) i hi]
  by_cases q : i < n
  · rw [decide_eq_true q, Bool.and_true]
  · rw [decide_eq_false q, Bool.and_false, hx i (by omega) hi]
theorem and_0 {x y : Int32} : x &&& y = 0 ↔ ∀ i, i < 32 → (bt x i && bt y i) = false := by
  constructor
  · intro h i _
    rw [← b_and, h, b_0]
  · intro h
    refine b_ext (fun i hi => ?_)
    rw [b_and, h i hi, b_0]
section Pl
variable {w h la : Nat} {af : Nat → Int32} {nc : Nat} {fc : Nat → Int32} {nl : Nat} {fl : Nat → Int32} {ns : Nat} {fs mS : Nat → Int32}
theorem ap_comm {d e : Nat} : apM w h mS nc d e = apM w h mS nc e d := by
  refine xbits_congr _ (fun x _ => ?_)
  rw [un_comm (d := d) (e := e)]
  by_cases hq : sgM w h mS nc x d = sgM w h mS nc x e
  · rw [hq]
  · rw [decide_eq_false hq, decide_eq_false (show ¬ sgM w h mS nc x e = sgM w h mS nc x d from fun z => hq z.symm), Bool.not_false, Bool.true_or, Bool.true_or]
theorem pl_eq (H : RB w h la af nc fc nl fl ns fs mS) (s : Int32) : plS w h la af nc fc s = plM w h la mS nc s := by
  have hla := H.1.2.2.2.2
  apply Bool.eq_iff_iff.mpr
  unfold plS plM
  rw [allF_iff, allF_iff]
  constructor
  · intro q d hd
    rw [allF_iff]
    intro e he
    have q1 := (allF_iff _).mp (q e (by omega)) (d - (e + 1)) (by omega)
    rw [show e + 1 + (d - (e + 1)) = d by omega] at q1
    unfold pairP at q1
    unfold pairM
    rw [ap_eq H (by omega) (by omega), ap_comm] at q1
    exact q1
  · intro q d hd
    rw [allF_iff]
    intro j hj
    have q1 := (allF_iff _).mp (q (d + 1 + j) (by omega)) d (by omega)
    unfold pairM at q1
    unfold pairP
    rw [ap_eq H (by omega) (by omega), ap_comm]
    exact q1
theorem an_places {a : Int32} (H : RB w h la af nc fc nl fl ns fs mS) : (if inR a 2 then (if a = 0 then bcI (lsS (plS w h la af nc fc) (w * h)) else lsS (plS w h la af nc fc) (w * h)) else (-1)) = (if inR a 2 then (if a = 0 then (swF (plM w h la mS nc) (2 ^ (w * h))).1 else (swF (plM w h la mS nc) (2 ^ (w * h))).2) else (-1)) := by
  have hw := H.1.wh
  have hla := H.1.2.2.2.2
  have hf : plS w h la af nc fc (nI (2 ^ (w * h) - 1)) = true := by
    unfold plS
    rw [allF_iff]
    intro d hd
    rw [allF_iff]
    intro j hj
    unfold pairP
    rw [and_full hw.2 (xbits_in _ (Nat.le_refl _) (by omega))]
    cases decide (apS w h af nc fc d (d + 1 + j) = 0) <;> rfl
  obtain ⟨e1, e2⟩ := ls_sw (P' := plM w h la mS nc) hw.2 (fun s _ => pl_eq H (nI s)) hf
  rw [e1, ← e2, e1]
theorem bt_uni {v : Nat → Int32} {s : Int32} {c : Nat} : ∀ k, k ≤ 16 → bt (uniF v s k) c = anyF (fun x => bt s x && bt (v x) c) k
  | 0, _ => b_0 c
  | k + 1, hk => by
    rw [uniF, b_or, bt_uni k (by omega), anyF]
    congr 1
    by_cases hb : (s >>> (nI k &&& 31)) &&& nI 1 = 0
    · rw [if_neg (fun z => bit1.mp z hb), (bt_sshr1 (by omega)).mp hb]
      exact b_0 c
    · rw [if_pos (bit1.mpr hb)]
      have : bt s k = true := by
        cases hq : bt s k with
        | true => rfl
        | false => exact absurd ((bt_sshr1 (by omega)).mpr hq) hb
      rw [this, Bool.true_and]
theorem bt_wa (H : RB w h la af nc fc nl fl ns fs mS) {d c x : Nat} (hc : c < 32) (hx : x < 32) (hd : d ≤ 9) : bt (waS w h af nc fc d c) x = (decide (x < w * h) && bt (sgM w h mS nc x d) c) := by
  have hw := H.1.wh
  unfold waS
  rw [orF_bits (g := fun x => sgS w h af nc fc x d >>> (nI c &&& 31)), bt_xbits _ (by omega) x hx]
  by_cases q : x < w * h
  · rw [decide_eq_true q, Bool.true_and, Bool.true_and, sg_eq H q hd]
    exact bitB_bt hc
  · rw [decide_eq_false q, Bool.false_and, Bool.false_and]
theorem sg_own {row : Nat → Int32} {x : Nat} (hx : x < 32) : bt (sgF w h row x) x = true := by
  unfold sgF
  rw [b_or, b_or, b_or, b_or, bt_xbit x hx x hx, decide_eq_true rfl]
  rfl
theorem gd_eq (H : RB w h la af nc fc nl fl ns fs mS) {d : Nat} (hd : d ≤ 9) (s : Int32) : allF (fun c => !decide (waS w h af nc fc d c &&& s = 0)) (w * h) = decide (uniF (fun x => sgM w h mS nc x d) s (w * h) = nI (2 ^ (w * h) - 1)) := by
  have hw := H.1.wh
  have h2 := H.1.1
  apply Bool.eq_iff_iff.mpr
  rw [allF_iff, decide_eq_true_iff]
  have hA : ∀ c, c < w * h → ((!decide (waS w h af nc fc d c &&& s = 0)) = true ↔ anyF (fun x => bt s x && bt (sgM w h mS nc x d) c) (w * h) = true) := fun c hc => by
    rw [anyF_iff, Bool.not_eq_true', decide_eq_false_iff_not, and_0]
    constructor
    · intro q
      apply Classical.byContradiction
      intro q2
      apply q
      intro i hi
      rw [bt_wa H (by omega) hi hd]
      by_cases hin : i < w * h
      · cases hq : (decide (i < w * h) && bt (sgM w h mS nc i d) c && bt s i) with
        | false => rfl
        | true =>
          exfalso
          rw [decide_eq_true hin, Bool.true_and] at hq
          exact q2 ⟨i, hin, by rw [Bool.and_comm]; exact hq⟩
      · rw [decide_eq_false hin, Bool.false_and, Bool.false_and]
    · rintro ⟨x, hx, hp⟩ q
      have := q x (by omega)
      rw [bt_wa H (by omega) (by omega) hd, decide_eq_true hx, Bool.true_and, Bool.and_comm, hp] at this
      cases this
  constructor
  · intro q
    refine b_ext (fun i hi => ?_)
    rw [bt_uni _ hw.2, bt_full (w * h) (by omega) i hi]
    by_cases hin : i < w * h
    · rw [decide_eq_true hin]
      exact (hA i hin).mp (q i hin)
    · rw [decide_eq_false hin]
      cases hq : anyF (fun x => bt s x && bt (sgM w h mS nc x d) i) (w * h) with
      | false => rfl
      | true =>
        exfalso
        obtain ⟨x, hx, hp⟩ := (anyF_iff _).mp hq
        have h3 := (inR_bits (by omega)).mp (sgF_in (row := fun c => mkM mS nc c d) (by omega) hx (by omega)) i (by omega) hi
        rw [Bool.and_eq_true] at hp
        have h4 : bt (sgM w h mS nc x d) i = true := hp.2
        rw [show bt (sgM w h mS nc x d) i = false from h3] at h4
        cases h4
  · intro q c hc
    refine (hA c hc).mpr ?_
    rw [← bt_uni _ hw.2, q, bt_full (w * h) (by omega) c (by omega), decide_eq_true hc]
theorem an_guard {d a : Int32} (H : RB w h la af nc fc nl fl ns fs mS) : (if inR d (la + 1) ∧ inR a 2 then (if a = 0 then bcI (lsS (fun s => allF (fun c => !decide (waS w h af nc fc (tn d) c &&& s = 0)) (w * h)) (w * h)) else lsS (fun s => allF (fun c => !decide (waS w h af nc fc (tn d) c &&& s = 0)) (w * h)) (w * h)) else (-1)) = (if inR d (la + 1) ∧ inR a 2 then (if a = 0 then (swF (fun s => decide (uniF (fun x => sgM w h mS nc x (tn d)) s (w * h) = nI (2 ^ (w * h) - 1))) (2 ^ (w * h))).1 else (swF (fun s => decide (uniF (fun x => sgM w h mS nc x (tn d)) s (w * h) = nI (2 ^ (w * h) - 1))) (2 ^ (w * h))).2) else (-1)) := by
  have hw := H.1.wh
  have hla := H.1.2.2.2.2
  by_cases hq : inR d (la + 1) ∧ inR a 2
  · have t1 := (tn_lt hq.1).1
    have hf : (fun s => allF (fun c => !decide (waS w h af nc fc (tn d) c &&& s = 0)) (w * h)) (nI (2 ^ (w * h) - 1)) = true := by
      show allF (fun c => !decide (waS w h af nc fc (tn d) c &&& nI (2 ^ (w * h) - 1) = 0)) (w * h) = true
      rw [gd_eq H (by omega), decide_eq_true_iff]
      refine b_ext (fun i hi => ?_)
      rw [bt_uni _ hw.2]
      by_cases hin : i < w * h
      · rw [bt_full (w * h) (by omega) i hi, decide_eq_true hin]
        exact (anyF_iff _).mpr ⟨i, hin, by rw [bt_full (w * h) (by omega) i hi, decide_eq_true hin, Bool.true_and]; exact sg_own hi⟩
      · have h3 := gd_eq H (d := tn d) (by omega) (nI (2 ^ (w * h) - 1))
        rw [bt_full (w * h) (by omega) i hi, decide_eq_false hin]
        cases hz : anyF (fun x => bt (nI (2 ^ (w * h) - 1)) x && bt (sgM w h mS nc x (tn d)) i) (w * h) with
        | false => rfl
        | true =>
          exfalso
          obtain ⟨x, hx, hp⟩ := (anyF_iff _).mp hz
          have h2 := H.1.1
          have h4 := (inR_bits (by omega)).mp (sgF_in (row := fun c => mkM mS nc c (tn d)) (by omega) hx (by omega)) i (by omega) hi
          rw [Bool.and_eq_true] at hp
          have h5 : bt (sgM w h mS nc x (tn d)) i = true := hp.2
          rw [show bt (sgM w h mS nc x (tn d)) i = false from h4] at h5
          cases h5
    obtain ⟨e1, e2⟩ := ls_sw (P := fun s => allF (fun c => !decide (waS w h af nc fc (tn d) c &&& s = 0)) (w * h)) (P' := fun s => decide (uniF (fun x => sgM w h mS nc x (tn d)) s (w * h) = nI (2 ^ (w * h) - 1))) hw.2 (fun s _ => gd_eq H (by omega) (nI s)) hf
    rw [if_pos hq, if_pos hq, e1, ← e2, e1]
  · rw [if_neg hq, if_neg hq]
end Pl

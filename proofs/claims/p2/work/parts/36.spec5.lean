abbrev pairP (w h : Nat) (af : Nat → Int32) (nc : Nat) (fc : Nat → Int32) (d e : Nat) (s : Int32) : Bool := decide (apS w h af nc fc d e = 0) || !decide (apS w h af nc fc d e &&& s = 0)
/-- every two days that can be told apart are told apart from one of s -/
def plS (w h la : Nat) (af : Nat → Int32) (nc : Nat) (fc : Nat → Int32) (s : Int32) : Bool := allF (fun d => allF (fun j => pairP w h af nc fc d (d + 1 + j) s) (la - d)) la
def triF (la : Nat) : Nat → Nat
  | 0 => 0
  | d + 1 => triF la d + (la - d)
theorem triF_lt {la d e : Nat} (h1 : la ≤ 9) (h2 : d < la) (h3 : d + 1 ≤ e) (h4 : e ≤ la) : triF la d + (e - (d + 1)) < 45 := by
  have : ∀ la, la < 10 → ∀ d, d < la → triF la d + (la - (d + 1)) < 45 := by decide
  have := this la (by omega) d h2
  omega
theorem triF_le {la d : Nat} (h1 : la ≤ 9) (h2 : d ≤ la) : triF la d ≤ 45 := by
  have : ∀ la, la < 10 → ∀ d, d < la + 1 → triF la d ≤ 45 := by decide
  exact this la (by omega) d (by omega)
theorem allF_congr {p p' : Nat → Bool} : ∀ n, (∀ i, i < n → p i = p' i) → allF p n = allF p' n
  | 0, _ => rfl
  | n + 1, h => by rw [allF, allF, h n (by omega), allF_congr n (fun i hi => h i (by omega))]
theorem wants_add {wf : Nat → Int32} {n : Nat} {v s : Int32} : allF (fun i => !decide (upd wf n v i &&& s = 0)) (n + 1) = (allF (fun i => !decide (wf i &&& s = 0)) n && !decide (v &&& s = 0)) := by
  rw [allF, allF_congr (p := fun i => !decide (upd wf n v i &&& s = 0)) (p' := fun i => !decide (wf i &&& s = 0)) n (fun i hi => by unfold upd; rw [if_neg (by omega)])]
  unfold upd
  rw [if_pos rfl]
theorem lsS_congr {P P' : Int32 → Bool} (c : Nat) (h : ∀ s, P s = P' s) : lsS P c = lsS P' c := by rw [show P = P' from funext h]
section Pl
variable {w h la : Nat} {af : Nat → Int32} {nc : Nat} {fc wf : Nat → Int32} {d e n : Nat}
theorem pl_skip (h0 : d + 1 ≤ e) (hz : apS w h af nc fc d e = 0) (hp : ∀ s, allF (fun i => !decide (wf i &&& s = 0)) n = (allF (fun d => allF (fun j => pairP w h af nc fc d (d + 1 + j) s) (la - d)) d && allF (fun j => pairP w h af nc fc d (d + 1 + j) s) (e - (d + 1)))) :
    ∀ s, allF (fun i => !decide (wf i &&& s = 0)) n = (allF (fun d => allF (fun j => pairP w h af nc fc d (d + 1 + j) s) (la - d)) d && allF (fun j => pairP w h af nc fc d (d + 1 + j) s) (e + 1 - (d + 1))) := by
  intro s
  rw [hp s, show e + 1 - (d + 1) = (e - (d + 1)) + 1 by omega, allF.eq_2 _ (e - (d + 1)), show d + 1 + (e - (d + 1)) = e by omega, show pairP w h af nc fc d e s = true from (by simp only [pairP, decide_eq_true hz]; rfl), Bool.and_true]
theorem pl_add (h0 : d + 1 ≤ e) (hz : ¬ apS w h af nc fc d e = 0) (hp : ∀ s, allF (fun i => !decide (wf i &&& s = 0)) n = (allF (fun d => allF (fun j => pairP w h af nc fc d (d + 1 + j) s) (la - d)) d && allF (fun j => pairP w h af nc fc d (d + 1 + j) s) (e - (d + 1)))) :
    ∀ s, allF (fun i => !decide (upd wf n (apS w h af nc fc d e) i &&& s = 0)) (n + 1) = (allF (fun d => allF (fun j => pairP w h af nc fc d (d + 1 + j) s) (la - d)) d && allF (fun j => pairP w h af nc fc d (d + 1 + j) s) (e + 1 - (d + 1))) := by
  intro s
  rw [wants_add, hp s, show e + 1 - (d + 1) = (e - (d + 1)) + 1 by omega, allF.eq_2 _ (e - (d + 1)), show d + 1 + (e - (d + 1)) = e by omega, show pairP w h af nc fc d e s = !decide (apS w h af nc fc d e &&& s = 0) from (by simp only [pairP, decide_eq_false hz, Bool.false_or]), Bool.and_assoc]
end Pl
abbrev waS (w h : Nat) (af : Nat → Int32) (nc : Nat) (fc : Nat → Int32) (d c : Nat) : Int32 := orF (fun x => ((sgS w h af nc fc x d >>> (nI c &&& 31)) &&& nI 1) <<< (nI x &&& 31)) (w * h)
def bsF (f : Nat → Int32) : Nat → Int32 × Int32
  | 0 => ((-1), nI 0)
  | x + 1 => if (bcI (f x)).toInt ≤ (bsF f x).1.toInt then bsF f x else (bcI (f x), nI x)
def sinDn (p : Nat → Bool) : Nat → Nat
  | 0 => 0
  | d + 1 => if p d then sinDn p d else d + 1
def sinUp (p : Nat → Bool) : Nat → Nat → Nat
  | 0, d => d
  | k + 1, d => if p (d + 1) then sinUp p k (d + 1) else d
theorem drF_congr {cells : Nat} : ∀ (k : Nat) (s : Int32) {row row' : Nat → Int32}, (∀ c, c < 16 → row c = row' c) → ∀ c, c < 16 → drF cells k s row c = drF cells k s row' c
  | 0, _, _, _, h, c, hc => h c hc
  | k + 1, s, row, row', h, c, hc => by
    rw [drF, drF]
    exact drF_congr k _ (fun c hc => by unfold upd; split; rfl; exact h c hc) c hc
theorem dn_toInt {rc : Nat} (h : rc < 1000) : (nI rc + (-1)).toInt = (rc : Int) - 1 := by
  rcases Nat.eq_zero_or_pos rc with q | q
  · subst q; decide
  · rw [sb_m1 q, nI_toInt (by omega)]; omega

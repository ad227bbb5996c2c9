abbrev pairM (w h : Nat) (S : Nat → Int32) (nc d e : Nat) (s : Int32) : Bool := decide (apM w h S nc d e = 0) || !decide (apM w h S nc d e &&& s = 0)
def plM (w h la : Nat) (S : Nat → Int32) (nc : Nat) (s : Int32) : Bool := allF (fun d => allF (fun e => pairM w h S nc d e s) d) (la + 1)
section Pm
variable {w h la : Nat} {S pf : Nat → Int32} {nc d e n : Nat}
theorem pm_skip (hz : apM w h S nc d e = 0) (hp : ∀ s, allF (fun i => !decide (pf i &&& s = 0)) n = (allF (fun d => allF (fun e => pairM w h S nc d e s) d) d && allF (fun e => pairM w h S nc d e s) e)) :
    ∀ s, allF (fun i => !decide (upd pf n (apM w h S nc d e) i &&& s = 0)) n = (allF (fun d => allF (fun e => pairM w h S nc d e s) d) d && allF (fun e => pairM w h S nc d e s) (e + 1)) := by
  intro s
  rw [allF_congr (p := fun i => !decide (upd pf n (apM w h S nc d e) i &&& s = 0)) (p' := fun i => !decide (pf i &&& s = 0)) n (fun i hi => by rw [upd_ne (by omega)]), hp s, allF.eq_2 _ e, show pairM w h S nc d e s = true from (by simp only [pairM, decide_eq_true hz]; rfl), Bool.and_true]
theorem pm_add (hz : ¬ apM w h S nc d e = 0) (hp : ∀ s, allF (fun i => !decide (pf i &&& s = 0)) n = (allF (fun d => allF (fun e => pairM w h S nc d e s) d) d && allF (fun e => pairM w h S nc d e s) e)) :
    ∀ s, allF (fun i => !decide (upd pf n (apM w h S nc d e) i &&& s = 0)) (n + 1) = (allF (fun d => allF (fun e => pairM w h S nc d e s) d) d && allF (fun e => pairM w h S nc d e s) (e + 1)) := by
  intro s
  rw [wants_add, hp s, allF.eq_2 _ e, show pairM w h S nc d e s = !decide (apM w h S nc d e &&& s = 0) from (by simp only [pairM, decide_eq_false hz, Bool.false_or]), Bool.and_assoc]
end Pm
def trN : Nat → Nat
  | 0 => 0
  | d + 1 => trN d + d
theorem trN_lt {d e : Nat} (h1 : d ≤ 9) (h2 : e < d) : trN d + e < 45 := by
  have : ∀ d, d < 10 → trN d + d ≤ 45 := by decide
  have := this d (by omega)
  omega
theorem trN_le {d : Nat} (h1 : d ≤ 10) : trN d ≤ 45 := by
  have : ∀ d, d < 11 → trN d ≤ 45 := by decide
  exact this d (by omega)
/-- the best of the sets below n: by fewest cells, the first -/
def swF (P : Int32 → Bool) : Nat → Int32 × Int32
  | 0 => (nI 1000000, nI 0)
  | s + 1 => if (bcM (nI s) 16).toInt < (swF P s).1.toInt ∧ P (nI s) = true then (bcM (nI s) 16, nI s) else swF P s
theorem swF_y {P : Int32 → Bool} {s : Nat} {a b : Int32} (h : (a, b) = swF P s) (h1 : (bcM (nI s) 16).toInt < a.toInt) (h2 : P (nI s) = true) : (bcM (nI s) 16, nI s) = swF P (s + 1) := by
  rw [swF, ← h, if_pos ⟨h1, h2⟩]
theorem swF_n1 {P : Int32 → Bool} {s : Nat} {a b : Int32} (h : (a, b) = swF P s) (h1 : ¬ (bcM (nI s) 16).toInt < a.toInt) : (a, b) = swF P (s + 1) := by
  rw [swF, ← h, if_neg (fun q => h1 q.1)]
theorem swF_n2 {P : Int32 → Bool} {s : Nat} {a b : Int32} (h : (a, b) = swF P s) (h2 : P (nI s) = false) : (a, b) = swF P (s + 1) := by
  rw [swF, ← h, if_neg (fun q => by rw [h2] at q; exact absurd q.2 (by decide))]
/-- what is seen from the cells of s -/
def uniF (v : Nat → Int32) (s : Int32) : Nat → Int32
  | 0 => nI 0
  | x + 1 => uniF v s x ||| (if (s >>> (nI x &&& 31)) &&& nI 1 = nI 1 then v x else nI 0)
def bsM (f : Nat → Int32) : Nat → Int32 × Int32
  | 0 => ((-1), nI 0)
  | x + 1 => if (bcM (f x) 16).toInt ≤ (bsM f x).1.toInt then bsM f x else (bcM (f x) 16, nI x)
theorem swF_congr {P P' : Int32 → Bool} (n : Nat) (h : ∀ s, P s = P' s) : swF P n = swF P' n := by rw [show P = P' from funext h]

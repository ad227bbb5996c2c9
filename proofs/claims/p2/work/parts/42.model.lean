/-! the reference's own way of marks, and what is said of both by a table of marks MK (cell, day) -/
def mkR (S : Nat → Int32) (c d : Nat) : Nat → Int32 × Int32
  | 0 => (S c, (-4))
  | i + 1 => if S (17 + 3 * i + 1) = nI c ∧ (S (17 + 3 * i)).toInt ≤ (d : Int) ∧ (mkR S c d i).2.toInt ≤ (S (17 + 3 * i)).toInt then (S (17 + 3 * i + 2), S (17 + 3 * i)) else mkR S c d i
abbrev mkM (S : Nat → Int32) (nc c d : Nat) : Int32 := (mkR S c d nc).1
/-- the bits of an int, counted up to the n-th -/
def bcM (x : Int32) : Nat → Int32
  | 0 => nI 0
  | k + 1 => bcM x k + ((x >>> (nI k &&& 31)) &&& nI 1)
theorem xbits_flag {p : Nat → Bool} {c : Nat} {b : Int32} {P : Prop} {iP : Decidable P} (h : p c = decide P) (hb : b = xbits p c) : b ||| (xb P <<< (nI c &&& 31)) = xbits p (c + 1) := by
  by_cases hp : P
  · rw [xb_t hp]; exact xbits_T (by rw [h]; exact decide_eq_true hp) hb
  · have h0 : nI 0 <<< (nI c &&& 31) = 0 := by
      rw [show nI 0 = (0 : Int32) from rfl]
      exact Int32.zero_shiftLeft
    rw [xb_f hp, h0, Int32.or_zero]
    exact xbits_N (by rw [h]; exact decide_eq_false hp) hb
theorem inL {v lo hi : Int64} : (lo.toInt ≤ v.toInt ∧ v.toInt ≤ hi.toInt) ↔ (lo.toInt ≤ v.toInt ∧ v.toInt ≤ hi.toInt) := Iff.rfl
theorem i64_toInt (x : Int32) : x.toInt64.toInt = x.toInt := Int32.toInt_toInt64 x
theorem lN_toInt' {n : Nat} (h : n < 2 ^ 31) : (lN n).toInt = (n : Int) := by
  rw [← nI_l h, i64_toInt, nI_toInt h]
/-! the reference goes from cell to cell; the ray by numbers is the same -/
theorem rayF_acc {row : Nat → Int32} {cf : Nat → Nat} {door : Int32} : ∀ (k i : Nat) (acc : Int32), rayF row cf door k i acc = acc ||| rayF row cf door k i (nI 0)
  | 0, _, acc => by rw [rayF, rayF]; exact Int32.or_zero.symm
  | k + 1, i, acc => by
    rw [rayF, rayF, rayF_acc k (i + 1) (acc ||| xbit (cf i)), rayF_acc k (i + 1) (nI 0 ||| xbit (cf i))]
    have h0 : ∀ z : Int32, nI 0 ||| z = z := fun z => Int32.zero_or
    rw [h0]
    split
    · rfl
    · exact Int32.or_assoc ..
theorem rayF_stop {row : Nat → Int32} {cf : Nat → Nat} {door : Int32} {st i : Nat} {acc : Int32} (hi : i ≤ st) (h : row (cf i) = nI 4 ∨ (¬ door = 0 ∧ row (cf i) = nI 5)) : rayF row cf door (st + 1 - i) i acc = acc ||| xbit (cf i) := by
  rw [show st + 1 - i = (st + 1 - (i + 1)) + 1 by omega, rayF, if_pos h]
theorem rayF_go {row : Nat → Int32} {cf : Nat → Nat} {door : Int32} {st i : Nat} {acc : Int32} (hi : i ≤ st) (h : ¬ (row (cf i) = nI 4 ∨ (¬ door = 0 ∧ row (cf i) = nI 5))) : rayF row cf door (st + 1 - i) i acc = rayF row cf door (st + 1 - (i + 1)) (i + 1) (acc ||| xbit (cf i)) := by
  rw [show st + 1 - i = (st + 1 - (i + 1)) + 1 by omega, rayF, if_neg h]
theorem rayF_end {row : Nat → Int32} {cf : Nat → Nat} {door : Int32} {st i : Nat} {acc : Int32} (hi : ¬ i ≤ st) : rayF row cf door (st + 1 - i) i acc = acc := by
  rw [show st + 1 - i = 0 by omega, rayF]
section By
variable {w h x i : Nat}
theorem by_up (hw : 0 < w) (hx : x < w * h) (hi : i ≤ x / w) : (if w ≤ x - i * w then nI (x - i * w - w) else (-4)) = (if i + 1 ≤ x / w then nI (x - (i + 1) * w) else (-4) : Int32) := by
  have h1 := xs_div hw hx
  have h2 := xs_up hw hx hi
  have h3 : (i + 1) * w = i * w + w := Nat.succ_mul i w
  by_cases hq : i + 1 ≤ x / w
  · have h4 := xs_up hw hx hq
    rw [if_pos hq, if_pos (by omega), h3, Nat.sub_sub]
  · have h4 : i = x / w := by omega
    rw [if_neg hq, if_neg (by rw [h4]; omega)]
theorem by_down (hw : 0 < w) (hx : x < w * h) (hi : i ≤ h - 1 - x / w) : (if w * h ≤ x + i * w + w then (-4) else nI (x + i * w + w)) = (if i + 1 ≤ h - 1 - x / w then nI (x + (i + 1) * w) else (-4) : Int32) := by
  have h1 := xs_div hw hx
  have h3 : (i + 1) * w = i * w + w := Nat.succ_mul i w
  by_cases hq : i + 1 ≤ h - 1 - x / w
  · have h4 := xs_down hw hx hq
    rw [if_pos hq, if_neg (by omega), h3, Nat.add_assoc]
  · have h4 : (x / w + i + 1) * w = h * w := by rw [show x / w + i + 1 = h by omega]
    have h5 : (x / w + i + 1) * w = x / w * w + i * w + w := by rw [Nat.add_mul, Nat.add_mul, Nat.one_mul]
    have h6 : h * w = w * h := Nat.mul_comm _ _
    rw [if_neg hq, if_pos (by omega)]
theorem by_mod (hw : 0 < w) (hx : x < w * h) : x % w = x - x / w * w := by
  have h1 := Nat.div_add_mod x w
  have h3 : x / w * w = w * (x / w) := Nat.mul_comm _ _
  omega
theorem by_modr (hw : 0 < w) (hx : x < w * h) (hi : i ≤ w - 1 - (x - x / w * w)) : (x + i) % w = x % w + i := by
  have h2 := by_mod hw hx
  have h1 := xs_div hw hx
  have h4 := Nat.div_add_mod x w
  have : x + i = w * (x / w) + (x % w + i) := by omega
  rw [this, Nat.mul_add_mod, Nat.mod_eq_of_lt (by omega)]
theorem by_modl (hw : 0 < w) (hx : x < w * h) (hi : i ≤ x - x / w * w) : (x - i) % w = x % w - i := by
  have h2 := by_mod hw hx
  have h1 := xs_div hw hx
  have h4 := Nat.div_add_mod x w
  have : x - i = w * (x / w) + (x % w - i) := by omega
  rw [this, Nat.mul_add_mod, Nat.mod_eq_of_lt (by omega)]
theorem by_right (hw : 0 < w) (hx : x < w * h) (hi : i ≤ w - 1 - (x - x / w * w)) : (if w ≤ (x + i) % w + 1 then (-4) else nI (x + i + 1)) = (if i + 1 ≤ w - 1 - (x - x / w * w) then nI (x + (i + 1)) else (-4) : Int32) := by
  have h2 := by_mod hw hx
  have h1 := xs_div hw hx
  rw [by_modr hw hx hi]
  by_cases hq : i + 1 ≤ w - 1 - (x - x / w * w)
  · rw [if_pos hq, if_neg (by omega), Nat.add_assoc]
  · rw [if_neg hq, if_pos (by omega)]
theorem by_left (hw : 0 < w) (hx : x < w * h) (hi : i ≤ x - x / w * w) : (if (x - i) % w = 0 then (-4) else nI (x - i - 1)) = (if i + 1 ≤ x - x / w * w then nI (x - (i + 1)) else (-4) : Int32) := by
  have h2 := by_mod hw hx
  rw [by_modl hw hx hi]
  by_cases hq : i + 1 ≤ x - x / w * w
  · rw [if_pos hq, if_neg (by omega), Nat.sub_sub]
  · rw [if_neg hq, if_pos (by omega)]
end By
theorem sg_order (a b c d e : Int32) : (((a ||| b) ||| e) ||| c) ||| d = (((a ||| b) ||| c) ||| d) ||| e := by
  rw [Int32.or_assoc (a ||| b) e c, Int32.or_comm e c, ← Int32.or_assoc, Int32.or_assoc ((a ||| b) ||| c) e d, Int32.or_comm e d, ← Int32.or_assoc]
theorem nI_n4 {k : Nat} (h : k < 1000) : ¬ nI k = (-4) := by
  intro q
  have h1 := nI_toInt (n := k) (by omega)
  rw [q] at h1
  have : (-4 : Int32).toInt = -4 := by decide
  omega

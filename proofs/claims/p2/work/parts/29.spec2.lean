/-- Integer.bitCount, as it is written -/
def bcI (i : Int32) : Int32 :=
  let a := i - (xu i (nI 1) &&& nI 1431655765)
  let b := (a &&& nI 858993459) + (xu a (nI 2) &&& nI 858993459)
  let c := (b + xu b (nI 4)) &&& nI 252645135
  let d := c + xu c (nI 8)
  let e := d + xu d (nI 16)
  e &&& nI 63
/-- the next set of the same size, as it is written -/
def nxS (s : Int32) : Int32 :=
  let low := s &&& -s
  let raised := s + low
  raised ||| xu (xu (s ^^^ raised) (nI 2)) (bcI (low - nI 1))
theorem xs_pow {c : Nat} (h : c ≤ 16) : nI 1 <<< (nI c &&& 31) = nI (2 ^ c) ∧ 2 ^ c ≤ 65536 ∧ 1 ≤ 2 ^ c := by
  have : ∀ k, k ≤ 16 → nI 1 <<< (nI k &&& 31) = nI (2 ^ k) ∧ 2 ^ k ≤ 65536 ∧ 1 ≤ 2 ^ k := by decide
  exact this c h
def lsIn (P : Int32 → Bool) (lim : Nat) : Nat → Int32 → Option Int32
  | 0, _ => none
  | k + 1, s => if s.toInt < (lim : Int) then (if P s then some s else lsIn P lim k (nxS s)) else none
def lsOut (P : Int32 → Bool) (lim : Nat) : Nat → Nat → Int32
  | 0, _ => nI (lim - 1)
  | k + 1, sz => match lsIn P lim lim (nI (2 ^ sz - 1)) with
    | some s => s
    | none => lsOut P lim k (sz + 1)
/-- the set that serves: by size, then by number -/
def lsS (P : Int32 → Bool) (cells : Nat) : Int32 := if P 0 then nI 0 else lsOut P (2 ^ cells) cells 1

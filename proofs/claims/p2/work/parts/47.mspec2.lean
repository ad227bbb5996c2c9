theorem upd_ne {f : Nat → Int32} {k j : Nat} {v : Int32} (h : ¬ j = k) : upd f k v j = f j := if_neg h
theorem upd_eq {f : Nat → Int32} {k : Nat} {v : Int32} : upd f k v k = v := if_pos rfl
/-- three numbers and the count at m, of a row at t -/
abbrev add3 (S : Nat → Int32) (t m : Nat) (a b c : Int32) (n : Nat) : Nat → Int32 := upd (upd (upd (upd S t a) (t + 1) b) (t + 2) c) m (nI n)
abbrev add2 (S : Nat → Int32) (t m : Nat) (a b : Int32) (n : Nat) : Nat → Int32 := upd (upd (upd S t a) (t + 1) b) m (nI n)

def suL (f : Nat → Int64) : Nat → Int64
  | 0 => lN 0
  | i + 1 => suL f i + f i
theorem ans_in {w h : Nat} {af : Nat → Int32} {nc : Nat} {fc : Nat → Int32} {x c d : Nat} (hm : inR (mkS af nc fc c d) 6) (h0 : ¬ anS w h af nc fc x c d = (-4)) : inR (anS w h af nc fc x c d) 6 := by
  unfold anS at h0 ⊢
  split
  · rename_i q; rw [if_pos q] at h0; exact absurd rfl h0
  · exact hm

theorem xbits_Z {p : Nat → Bool} {c : Nat} {b : Int32} (h : p c = false) (hb : b = xbits p c) : b ||| (nI 0 <<< (nI c &&& 31)) = xbits p (c + 1) := by
  have h0 : nI 0 <<< (nI c &&& 31) = 0 := by
    rw [show nI 0 = (0 : Int32) from rfl]
    exact Int32.zero_shiftLeft
  rw [h0, Int32.or_zero]
  exact xbits_N h hb
abbrev sgM (w h : Nat) (S : Nat → Int32) (nc x d : Nat) : Int32 := sgF w h (fun c => mkM S nc c d) x
abbrev unM (w h : Nat) (S : Nat → Int32) (nc d e : Nat) : Int32 := xbits (fun c => !decide (mkM S nc c d = mkM S nc c e)) (w * h)
abbrev shM (w h : Nat) (S : Nat → Int32) (nc l x : Nat) : Int32 := sgM w h S nc x (tn (S (48 + 2 * l))) &&& (S (48 + 2 * l + 1) ^^^ (-1))
abbrev anM (w h : Nat) (S : Nat → Int32) (nc x c d : Nat) : Int32 := if (sgM w h S nc x d >>> (nI c &&& 31)) &&& nI 1 = nI 1 then mkM S nc c d else (-4)
abbrev fitM (w h : Nat) (S : Nat → Int32) (nc d i : Nat) : Bool := decide (anM w h S nc (tn (S (61 + 3 * i))) (tn (S (61 + 3 * i + 1))) d = S (61 + 3 * i + 2))
abbrev dyM (w h la : Nat) (S : Nat → Int32) (nc n : Nat) : Int32 := xbits (fun d => allF (fitM w h S nc d) n) (la + 1)
abbrev apM (w h : Nat) (S : Nat → Int32) (nc d e : Nat) : Int32 := xbits (fun x => !decide (sgM w h S nc x d = sgM w h S nc x e) || !decide (sgM w h S nc x d &&& unM w h S nc d e = 0)) (w * h)

theorem bit1 {y : Int32} : y &&& nI 1 = nI 1 ↔ ¬ y &&& nI 1 = 0 := by
  rcases and1 y with q | q
  · rw [q]; exact ⟨fun h => absurd h (by decide), fun h => absurd rfl h⟩
  · rw [q]; exact ⟨fun _ => by decide, fun _ => rfl⟩
abbrev slM (w h : Nat) (S : Nat → Int32) (nc x c : Nat) : Nat → Nat := fun d => slA (anM w h S nc x c d)
abbrev wsM (w h la : Nat) (S : Nat → Int32) (nc x c : Nat) (some_ : Int32) : Nat := woF (slM w h S nc x c) (fun d => bitB some_ d) (la + 1)
theorem anm_in {w h : Nat} {S : Nat → Int32} {nc x c d : Nat} (hm : inR (mkM S nc c d) 6) (h0 : ¬ anM w h S nc x c d = (-4)) : inR (anM w h S nc x c d) 6 := by
  unfold anM at h0 ⊢
  split
  · exact hm
  · rename_i q; rw [if_neg q] at h0; exact absurd rfl h0
theorem wo_gt {sl : Nat → Nat} {fb : Nat → Bool} {d sk wo : Nat} {ty : Nat → Int32} (hfb : fb d = true) (hsk : sk = sl d) (hwo : wo = woF sl fb d) (ht : ty sk = nI (tlF sl fb d sk)) (hd : d ≤ 10) (hg : wo < tlF sl fb d sk + 1) : tlF sl fb d sk + 1 = woF sl fb (d + 1) := by
  rw [woF, if_pos hfb, ← hsk, ← hwo, if_pos hg]
theorem wo_le {sl : Nat → Nat} {fb : Nat → Bool} {d sk wo : Nat} (hfb : fb d = true) (hsk : sk = sl d) (hwo : wo = woF sl fb d) (hg : ¬ wo < tlF sl fb d sk + 1) : wo = woF sl fb (d + 1) := by
  rw [woF, if_pos hfb, ← hsk, ← hwo, if_neg hg]
/-- the reference's again: a bit may be set more than once -/
def agI (p : Nat → Bool) (d : Nat) (b : Int32) : Nat → Int32
  | 0 => b
  | e + 1 => agI p d b e ||| ((if p e then nI 1 else nI 0) <<< (nI d &&& 31))
def agM (p : Nat → Nat → Bool) : Nat → Int32
  | 0 => nI 0
  | d + 1 => agI (p d) d (agM p d) d
theorem agI_T {p : Nat → Bool} {d e : Nat} {b : Int32} (h : p e = true) : agI p d b (e + 1) = agI p d b e ||| (nI 1 <<< (nI d &&& 31)) := by rw [agI, if_pos h]
theorem agI_F {p : Nat → Bool} {d e : Nat} {b : Int32} (h : p e = false) : agI p d b (e + 1) = agI p d b e ||| (nI 0 <<< (nI d &&& 31)) := by rw [agI, if_neg (by rw [h]; decide)]

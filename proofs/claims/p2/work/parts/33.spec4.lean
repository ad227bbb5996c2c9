def suL (f : Nat → Int64) : Nat → Int64
  | 0 => lN 0
  | i + 1 => suL f i + f i
theorem ans_in {w h : Nat} {af : Nat → Int32} {nc : Nat} {fc : Nat → Int32} {x c d : Nat} (hm : inR (mkS af nc fc c d) 6) (h0 : ¬ anS w h af nc fc x c d = (-4)) : inR (anS w h af nc fc x c d) 6 := by
  unfold anS at h0 ⊢
  split
  · rename_i q; rw [if_pos q] at h0; exact absurd rfl h0
  · exact hm
section Wo
variable {sl : Nat → Nat} {fb : Nat → Bool} {d : Nat}
theorem woF_skip {wo : Nat} (h : fb d = false) (hw : wo = woF sl fb d) : wo = woF sl fb (d + 1) := by
  rw [woF, if_neg (by rw [h]; decide)]; exact hw
theorem tlF_skip {v : Int32} {k : Nat} (h : fb d = false) (hv : v = nI (tlF sl fb d k)) : v = nI (tlF sl fb (d + 1) k) := by
  rw [tlF, if_neg (fun q => by rw [h] at q; exact absurd q.1 (by decide))]; exact hv
theorem tl_step {ty : Nat → Int32} {sk k : Nat} (hfb : fb d = true) (hsk : sk = sl d) (h : ∀ k, k < 7 → ty k = nI (tlF sl fb d k)) (hk : k < 7) : upd ty sk (ty sk + nI 1) k = nI (tlF sl fb (d + 1) k) := by
  unfold upd
  rw [tlF]
  by_cases hq : k = sk
  · subst hq
    rw [if_pos rfl, if_pos ⟨hfb, hsk⟩, h _ hk, nI_add]
  · rw [if_neg hq, if_neg (fun q => hq (q.2.trans hsk.symm))]
    exact h k hk
theorem wo_max {ty : Nat → Int32} {sk wo : Nat} (hfb : fb d = true) (hsk : sk = sl d) (hwo : wo = woF sl fb d) (ht : ty sk = nI (tlF sl fb d sk)) (hd : d ≤ 10) : (if nI wo < upd ty sk (ty sk + nI 1) sk then upd ty sk (ty sk + nI 1) sk else nI wo) = nI (woF sl fb (d + 1)) := by
  have hw1 := woF_le sl fb d
  have hw2 := tlF_le sl fb d sk
  rw [woF, if_pos hfb, ← hsk, show upd ty sk (ty sk + nI 1) sk = nI (tlF sl fb d sk + 1) from (by unfold upd; rw [if_pos rfl, ht, nI_add]), ← hwo]
  by_cases hq : wo < tlF sl fb d sk + 1
  · rw [if_pos hq, if_pos ((nI_ltI (by omega) (by omega)).mpr hq)]
  · rw [if_neg hq, if_neg (fun q => hq ((nI_ltI (by omega) (by omega)).mp q))]
end Wo

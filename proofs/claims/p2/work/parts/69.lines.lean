/-! a line of the text: each of the five kinds, over what it changes -/
def bN {α : Type} (t : Nat → Int32) (rl lo hi : Nat) (s : TS) (no : TS → α) (go : Nat → TS → α) : α :=
  if (fNum t rl lo hi s).1 = true then go (fNum t rl lo hi s).2.2.2.2.1.toInt.toNat (fNum t rl lo hi s).2 else no (fNum t rl lo hi s).2
theorem bN_no {α : Type} {t : Nat → Int32} {rl lo hi : Nat} {s : TS} {no : TS → α} {go : Nat → TS → α} {a : TS} (h : ¬ (fNum t rl lo hi s).1 = true) (he : a = (fNum t rl lo hi s).2) : bN t rl lo hi s no go = no a := by
  unfold bN; rw [if_neg h, he]
theorem bN_ok {α : Type} {t : Nat → Int32} {rl lo hi : Nat} {s : TS} {no : TS → α} {go : Nat → TS → α} {nx kd sr k : Nat} {fo pl : Int32} (h : (fNum t rl lo hi s).1 = true) (he : (nx, kd, sr, nI k, fo, pl) = (fNum t rl lo hi s).2) (hk : k < 1000) : bN t rl lo hi s no go = go k (nx, kd, sr, nI k, fo, pl) := by
  unfold bN; rw [if_pos h, ← he]
  have h1 := nI_toInt (n := k) (by omega)
  show go (nI k).toInt.toNat _ = _
  rw [h1]; rfl
abbrev bS {α : Type} (t : Nat → Int32) (rl : Nat) (s : TS) (x : α) : Bool × TS × α := ((fSem t rl s).1, (fSem t rl s).2, x)
abbrev tdB (x : Int32) (c : Nat) : Int32 := (x >>> (nI c &&& 31)) &&& nI 1
abbrev orB (x : Int32) (c : Nat) : Int32 := x ||| (nI 1 <<< (nI c &&& 31))
def fHou (t : Nat → Int32) (rl : Nat) (ht : Int32) (w h : Nat) (s : TS) : Bool × TS × Int32 × Nat × Nat :=
  if ht = nI 0 then bN t rl 2 4 s (fun a => (false, a, nI 1, w, h)) (fun k a => bN t rl 2 4 a (fun b => (false, b, nI 1, k, h)) (fun k2 b => bS t rl b (nI 1, k, k2)))
  else (false, fRef (nI 4) s, ht, w, h)
def fLas (t : Nat → Int32) (rl : Nat) (lt : Int32) (la : Nat) (s : TS) : Bool × TS × Int32 × Nat :=
  if lt = nI 0 then bN t rl 0 9 s (fun a => (false, a, nI 1, la)) (fun k a => bS t rl a (nI 1, k))
  else (false, fRef (nI 4) s, lt, la)
def fCel (t : Nat → Int32) (rl : Nat) (ct : Int32) (af : Nat → Int32) (s : TS) : Bool × TS × Int32 × (Nat → Int32) :=
  bN t rl 0 15 s (fun a => (false, a, ct, af)) (fun k a => if tdB ct k = nI 0 then bN t rl 0 5 a (fun b => (false, b, orB ct k, af)) (fun k2 b => bS t rl b (orB ct k, upd af k (nI k2)))
    else (false, fRef (nI 4) a, ct, af))
def row3 (f : Nat → Int32) (n : Nat) (x y z : Int32) : Nat → Int32 := upd (upd (upd f (3 * n) x) (3 * n + 1) y) (3 * n + 2) z
def fTur (t : Nat → Int32) (rl : Nat) (nc : Nat) (fc : Nat → Int32) (s : TS) : Bool × TS × Nat × (Nat → Int32) :=
  if nc < 10 then bN t rl 0 9 s (fun a => (false, a, nc, fc)) (fun d a => bN t rl 0 15 a (fun b => (false, b, nc, fc)) (fun c b => bN t rl 0 5 b (fun z => (false, z, nc, fc)) (fun v z => bS t rl z (nc + 1, row3 fc nc (nI d) (nI c) (nI v)))))
  else (false, fRef (nI 5) s, nc, fc)
/-- the blind cells of a lens: at most k tokens more -/
def fBli (t : Nat → Int32) (rl : Nat) (nl : Nat) (fl : Nat → Int32) (d : Nat) : Nat → Int32 → TS → Bool × TS × Nat × (Nat → Int32)
  | 0, _, s => (false, fRef (nI 4) s, nl, fl)
  | k + 1, bl, s =>
    if (fTok t rl s).1 = true then
      if (fTok t rl s).2.2.1 = 3 then (true, (fTok t rl s).2, nl + 1, row3 fl nl (nI d) bl (nI 0))
      else if (fWit 0 15 (fTok t rl s).2).1 = true then
        (if tdB bl (fTok t rl s).2.2.2.2.1.toInt.toNat = nI 0 then fBli t rl nl fl d k (orB bl (fTok t rl s).2.2.2.2.1.toInt.toNat) (fTok t rl s).2 else (false, fRef (nI 4) (fTok t rl s).2, nl, fl))
      else (false, (fWit 0 15 (fTok t rl s).2).2, nl, fl)
    else (false, (fTok t rl s).2, nl, fl)
def fLen (t : Nat → Int32) (rl : Nat) (nl : Nat) (fl : Nat → Int32) (s : TS) : Bool × TS × Nat × (Nat → Int32) :=
  if nl < 6 then bN t rl 0 9 s (fun a => (false, a, nl, fl)) (fun d a => fBli t rl nl fl d 17 (nI 0) a) else (false, fRef (nI 5) s, nl, fl)
section Fb
variable {t : Nat → Int32} {rl nl : Nat} {fl : Nat → Int32} {d k : Nat} {bl : Int32} {s : TS} {nx kd sr : Nat} {vl fo pl : Int32}
theorem fBli_0 (h : ¬ (fTok t rl s).1 = true) : fBli t rl nl fl d (k + 1) bl s = (false, (fTok t rl s).2, nl, fl) := if_neg h
theorem fBli_1 (h : (fTok t rl s).1 = true) (he : (nx, kd, sr, vl, fo, pl) = (fTok t rl s).2) (h3 : kd = 3) : fBli t rl nl fl d (k + 1) bl s = (true, (nx, kd, sr, vl, fo, pl), nl + 1, row3 fl nl (nI d) bl (nI 0)) := by
  show (if _ then _ else _) = _
  rw [if_pos h, ← he]; exact if_pos h3
theorem fBli_2 (h : (fTok t rl s).1 = true) (he : (nx, kd, sr, vl, fo, pl) = (fTok t rl s).2) (h3 : ¬ kd = 3) (h4 : ¬ (fWit 0 15 (nx, kd, sr, vl, fo, pl)).1 = true) : fBli t rl nl fl d (k + 1) bl s = (false, (fWit 0 15 (nx, kd, sr, vl, fo, pl)).2, nl, fl) := by
  show (if _ then _ else _) = _
  rw [if_pos h, ← he]; exact (if_neg h3).trans (if_neg h4)
theorem fBli_3 {c : Nat} (h : (fTok t rl s).1 = true) (he : (nx, kd, sr, nI c, fo, pl) = (fTok t rl s).2) (h3 : ¬ kd = 3) (h4 : (fWit 0 15 (nx, kd, sr, nI c, fo, pl)).1 = true) (hc : c < 1000) (h5 : ¬ tdB bl c = nI 0) : fBli t rl nl fl d (k + 1) bl s = (false, (nx, kd, sr, nI c, nI 4, nI sr), nl, fl) := by
  have h1 := nI_toInt (n := c) (by omega)
  show (if _ then _ else _) = _
  rw [if_pos h, ← he]; refine (if_neg h3).trans ((if_pos h4).trans ?_)
  show (if tdB bl (nI c).toInt.toNat = nI 0 then _ else _) = _
  rw [h1]; exact if_neg h5
theorem fBli_4 {c : Nat} (h : (fTok t rl s).1 = true) (he : (nx, kd, sr, nI c, fo, pl) = (fTok t rl s).2) (h3 : ¬ kd = 3) (h4 : (fWit 0 15 (nx, kd, sr, nI c, fo, pl)).1 = true) (hc : c < 1000) (h5 : tdB bl c = nI 0) : fBli t rl nl fl d (k + 1) bl s = fBli t rl nl fl d k (orB bl c) (nx, kd, sr, nI c, fo, pl) := by
  have h1 := nI_toInt (n := c) (by omega)
  show (if _ then _ else _) = _
  rw [if_pos h, ← he]; refine (if_neg h3).trans ((if_pos h4).trans ?_)
  show (if tdB bl (nI c).toInt.toNat = nI 0 then fBli t rl nl fl d k (orB bl (nI c).toInt.toNat) _ else _) = _
  rw [h1]; exact if_pos h5
/-- a number found within is not other behind it -/
theorem fWit_same {lo hi : Nat} {s : TS} (h : (fWit lo hi s).1 = true) : (fWit lo hi s).2 = s := by
  unfold fWit at h ⊢
  split at h
  · rename_i h1
    rw [if_pos h1]
    split at h
    · rename_i h2; rw [if_pos h2]
    · cases h
  · cases h
end Fb

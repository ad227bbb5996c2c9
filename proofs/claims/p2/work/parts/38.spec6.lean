section XQ
variable {p : Program} {l : Launch} {e : Env} {R : Room} {s : State} {m : MethodId} {args : Array Value} {below : List Frame} {meth : Method} {c : Code} {H : Heap} {locs : List Loc} {cells slots : Nat} {Q : State → Prop}
variable {cc : ByteArray} {pc : Nat} {ls : Array Slot} {rest : List Value} {G : XG} {ws : va_W} {A : Nat → Prop} {H0 : Heap} {a : Nat}
theorem xn_aaldk (hexec : p.tables.exec = Jvm.exec) (hb : c.code = cc) (hK : xK G s) (hP : xP G ws H) (q0 : Nat) {n i b : Nat} {f : Nat → Option Nat} (ha : ws[q0]? = some (kA G a n f)) (hi : i < n) (hn : n < 2 ^ 31) (hf : f i = some b) (hdg : decode cc pc = .ok (.aaload, 1)) (kk : W p l e R s m args below meth c H locs cells slots Q (F0 m (pc + 1) ls (.ref b :: rest))) : W p l e R s m args below meth c H locs cells slots Q (F0 m pc ls (.int (nI i) :: .ref a :: rest)) :=
  va_aldq hexec hb hK.1 hP q0 3 ha rfl (vp_in_nI hi hn) hdg (by rw [nI_clamp (Nat.lt_trans hi hn), hf]; exact kk)
theorem xn_aalds (hexec : p.tables.exec = Jvm.exec) (hb : c.code = cc) (hK : xK G s) (hP : xP G ws H) (q0 : Nat) {n i b : Nat} {f : Nat → Option Nat} (ha : ws[q0]? = some (sA G a n f)) (hi : i < n) (hn : n < 2 ^ 31) (hf : f i = some b) (hdg : decode cc pc = .ok (.aaload, 1)) (kk : W p l e R s m args below meth c H locs cells slots Q (F0 m (pc + 1) ls (.ref b :: rest))) : W p l e R s m args below meth c H locs cells slots Q (F0 m pc ls (.int (nI i) :: .ref a :: rest)) :=
  va_aldq hexec hb hK.1 hP q0 4 ha rfl (vp_in_nI hi hn) hdg (by rw [nI_clamp (Nat.lt_trans hi hn), hf]; exact kk)
theorem xn_zast (hexec : p.tables.exec = Jvm.exec) (hb : c.code = cc) (hK : xK G s) (hP : xP G ws H) (hD : va_D A ws) (hS : va_S A H0 H locs) (q0 : Nat) {n i : Nat} {f : Nat → Int32} {x y : Int32} (ha : ws[q0]? = some (zA G a n f)) (hi : i < n) (hn : n < 2 ^ 31) (hy : vp_nar .boolean x = y) (hdg : decode cc pc = .ok (.bastore, 1)) (kk : ∀ (H1 : Heap) (locs1 : List Loc), xP G (ws.set q0 (zA G a n (upd f i y))) H1 → va_D A (ws.set q0 (zA G a n (upd f i y))) → va_S A H0 H1 locs1 → W p l e R s m args below meth c H1 locs1 cells slots Q (F0 m (pc + 1) ls rest)) : W p l e R s m args below meth c H locs cells slots Q (F0 m pc ls (.int x :: .int (nI i) :: .ref a :: rest)) :=
  va_zast hexec hb hK.1 hP hD hS q0 2 ha rfl (vp_in_nI hi hn) hdg (by rw [nI_clamp (Nat.lt_trans hi hn), hy]; exact kk)
theorem xn_bast (hexec : p.tables.exec = Jvm.exec) (hb : c.code = cc) (hK : xK G s) (hP : xP G ws H) (hD : va_D A ws) (hS : va_S A H0 H locs) (q0 : Nat) {n i : Nat} {f : Nat → Int32} {x y : Int32} (ha : ws[q0]? = some (bA G a n f)) (hi : i < n) (hn : n < 2 ^ 31) (hy : vp_nar .byte x = y) (hdg : decode cc pc = .ok (.bastore, 1)) (kk : ∀ (H1 : Heap) (locs1 : List Loc), xP G (ws.set q0 (bA G a n (upd f i y))) H1 → va_D A (ws.set q0 (bA G a n (upd f i y))) → va_S A H0 H1 locs1 → W p l e R s m args below meth c H1 locs1 cells slots Q (F0 m (pc + 1) ls rest)) : W p l e R s m args below meth c H locs cells slots Q (F0 m pc ls (.int x :: .int (nI i) :: .ref a :: rest)) :=
  va_bast hexec hb hK.1 hP hD hS q0 1 ha rfl (vp_in_nI hi hn) hdg (by rw [nI_clamp (Nat.lt_trans hi hn), hy]; exact kk)
end XQ
set_option maxRecDepth 20000 in
theorem nar_byte : ∀ k, k < 128 → vp_nar .byte (nI k).toInt8.toInt32 = nI k := by decide +kernel
abbrev faA (sz0 i : Int32) : Int32 := (if sz0 = (-1) then nI 1 else if 0 ≤ (i).toInt ∧ (i).toInt < sz0.toInt then nI 0 else nI 2)
abbrev faT (sz0 i : Int32) : Int32 := (if faA sz0 i = 0 then faA sz0 (i + nI 2) else faA sz0 i)
theorem faA_ok {sz0 i : Int32} (h : faA sz0 i = 0) : 0 ≤ i.toInt ∧ i.toInt < sz0.toInt := by
  unfold faA at h
  split at h
  · exact absurd h (by decide)
  · split at h
    · assumption
    · exact absurd h (by decide)
theorem faT_ok {sz0 i : Int32} (hz : sz0.toInt ≤ 40) (h : faT sz0 i = 0) : ∃ a, a + 2 < 40 ∧ i = nI a := by
  unfold faT at h
  split at h
  · rename_i h1
    have h2 := faA_ok h1
    have h3 := faA_ok h
    obtain ⟨k, hk, rfl⟩ := inR_nat (x := i) (n := 40) (by unfold inR; omega)
    refine ⟨k, ?_, rfl⟩
    rw [nI_add, nI_toInt (by omega)] at h3
    omega
  · contradiction
/-- what read does, from the i-th row on: the row that was refused, the fault that was found, the changes -/
def rdF (la wh : Nat) (sz0 : Int32) (sf : Nat → Int32) (f0 : Int32) : Nat → Nat → Int32 → Nat → (Nat → Int32) → Option Nat × Int32 × Nat × (Nat → Int32)
  | 0, _, fd, nc, fc => (none, fd, nc, fc)
  | k + 1, i, fd, nc, fc =>
    if fd = 0 then
      if faT sz0 (f0 + nI (3 * i)) = 0 then
        if (inR (sf (tn (f0 + nI (3 * i)))) (la + 1) ∧ inR (sf (tn (f0 + nI (3 * i)) + 1)) wh ∧ inR (sf (tn (f0 + nI (3 * i)) + 2)) 6 ∧ nc < 10) then
          rdF la wh sz0 sf f0 k (i + 1) (nI 0) (nc + 1) (upd (upd (upd fc (3 * nc) (sf (tn (f0 + nI (3 * i))))) (3 * nc + 1) (sf (tn (f0 + nI (3 * i)) + 1))) (3 * nc + 2) (sf (tn (f0 + nI (3 * i)) + 2)))
        else (some i, nI 0, nc, fc)
      else rdF la wh sz0 sf f0 k (i + 1) (faT sz0 (f0 + nI (3 * i))) nc fc
    else (none, fd, nc, fc)
theorem tk_ok {P : Prop} {iP : Decidable P} {n3 : Nat} (h : 0 ≤ (if P then (if n3 < 10 then nI (n3 + 1) else (-3)) else (-1) : Int32).toInt) : P ∧ n3 < 10 := by
  by_cases hp : P
  · rw [if_pos hp] at h
    by_cases hn : n3 < 10
    · exact ⟨hp, hn⟩
    · rw [if_neg hn] at h; exact absurd h (by decide)
  · rw [if_neg hp] at h; exact absurd h (by decide)
theorem tk_no {P : Prop} {iP : Decidable P} {n3 : Nat} (h : ¬ 0 ≤ (if P then (if n3 < 10 then nI (n3 + 1) else (-3)) else (-1) : Int32).toInt) : ¬ (P ∧ n3 < 10) := fun q => h (by rw [if_pos q.1, if_pos q.2, nI_toInt (by omega)]; omega)

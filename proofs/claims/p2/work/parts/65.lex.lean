/-! the tokens of a tape: t its bytes, rl its length -/
def ruF (P : Int32 → Bool) (t : Nat → Int32) (rl : Nat) : Nat → Nat → Nat
  | 0, p => p
  | k + 1, p => if p < rl ∧ P (t p) = true then ruF P t rl k (p + 1) else p
/-- the first place from p on where P doesn't hold, or the end -/
abbrev ruE (P : Int32 → Bool) (t : Nat → Int32) (rl p : Nat) : Nat := ruF P t rl (rl - p) p
abbrev isSp (b : Int32) : Bool := decide (b = nI 32)
abbrev isL (b : Int32) : Bool := decide (97 ≤ b.toInt ∧ b.toInt ≤ 122)
abbrev isD (b : Int32) : Bool := decide (48 ≤ b.toInt ∧ b.toInt ≤ 57)
theorem ruF_go {P : Int32 → Bool} {t : Nat → Int32} {rl p : Nat} (h : p < rl) (hp : P (t p) = true) : ruE P t rl p = ruE P t rl (p + 1) := by
  unfold ruE
  rw [show rl - p = (rl - (p + 1)) + 1 by omega, ruF, if_pos ⟨h, hp⟩]
theorem ruF_end {P : Int32 → Bool} {t : Nat → Int32} {rl p : Nat} (h : ¬ (p < rl ∧ P (t p) = true)) : ruE P t rl p = p := by
  unfold ruE
  rcases Nat.eq_zero_or_pos (rl - p) with q | q
  · rw [q, ruF]
  · rw [show rl - p = (rl - (p + 1)) + 1 by omega, ruF, if_neg h]
theorem ruF_ge {P : Int32 → Bool} {t : Nat → Int32} {rl : Nat} : ∀ k p, p ≤ ruF P t rl k p
  | 0, p => Nat.le_refl _
  | k + 1, p => by
    rw [ruF]
    split
    · have := ruF_ge (P := P) (t := t) (rl := rl) k (p + 1); omega
    · exact Nat.le_refl _
theorem ruF_le {P : Int32 → Bool} {t : Nat → Int32} {rl : Nat} : ∀ k p, p ≤ rl → ruF P t rl k p ≤ rl
  | 0, p, h => h
  | k + 1, p, h => by
    rw [ruF]
    split
    · rename_i q; exact ruF_le k (p + 1) (by omega)
    · exact h
/-- digits of a number, as they are read -/
def dvF (t : Nat → Int32) : Nat → Nat → Int32 → Int32
  | 0, _, v => v
  | k + 1, q, v => dvF t k (q + 1) (nI 10 * v + t q - nI 48)
/-- the kind of the token that begins at q: 0 the end, 1 a name, 2 a number (or nothing that is one), 3 a semicolon -/
def kdT (t : Nat → Int32) (rl q : Nat) : Nat := if rl ≤ q then 0 else if t q = nI 59 then 3 else if isL (t q) = true then 1 else 2
def nxT (t : Nat → Int32) (rl q : Nat) : Nat := if rl ≤ q then q else if t q = nI 59 then q + 1 else if isL (t q) = true then ruE isL t rl q else ruE isD t rl q
def okT (t : Nat → Int32) (rl q : Nat) : Bool := decide (¬ kdT t rl q = 2 ∨ nxT t rl q - q = 1 ∨ nxT t rl q - q = 2)
theorem nxT_ge {t : Nat → Int32} {rl q : Nat} : q ≤ nxT t rl q := by
  unfold nxT
  split
  · exact Nat.le_refl _
  · split
    · omega
    · split <;> exact ruF_ge _ _
theorem nxT_le {t : Nat → Int32} {rl q : Nat} (h : q ≤ rl) : nxT t rl q ≤ rl := by
  unfold nxT
  split
  · exact h
  · split
    · omega
    · split <;> exact ruF_le _ _ h
section Lx
variable {t : Nat → Int32} {rl q : Nat}
theorem lx0 (h : rl ≤ q) : kdT t rl q = 0 ∧ nxT t rl q = q ∧ okT t rl q = true := by
  have h1 : kdT t rl q = 0 := if_pos h
  exact ⟨h1, if_pos h, by unfold okT; rw [h1]; exact decide_eq_true (Or.inl (by decide))⟩
theorem lx3 (h : ¬ rl ≤ q) (h2 : t q = nI 59) : kdT t rl q = 3 ∧ nxT t rl q = q + 1 ∧ okT t rl q = true := by
  have h1 : kdT t rl q = 3 := (if_neg h).trans (if_pos h2)
  exact ⟨h1, (if_neg h).trans (if_pos h2), by unfold okT; rw [h1]; exact decide_eq_true (Or.inl (by decide))⟩
theorem lx1 (h : ¬ rl ≤ q) (h2 : ¬ t q = nI 59) (h3 : isL (t q) = true) : kdT t rl q = 1 ∧ nxT t rl q = ruE isL t rl q ∧ okT t rl q = true := by
  have h1 : kdT t rl q = 1 := (if_neg h).trans ((if_neg h2).trans (if_pos h3))
  exact ⟨h1, (if_neg h).trans ((if_neg h2).trans (if_pos h3)), by unfold okT; rw [h1]; exact decide_eq_true (Or.inl (by decide))⟩
theorem lx2 (h : ¬ rl ≤ q) (h2 : ¬ t q = nI 59) (h3 : ¬ isL (t q) = true) : kdT t rl q = 2 ∧ nxT t rl q = ruE isD t rl q ∧ (okT t rl q = true ↔ ruE isD t rl q - q = 1 ∨ ruE isD t rl q - q = 2) := by
  have h1 : kdT t rl q = 2 := (if_neg h).trans ((if_neg h2).trans (if_neg h3))
  have h4 : nxT t rl q = ruE isD t rl q := (if_neg h).trans ((if_neg h2).trans (if_neg h3))
  refine ⟨h1, h4, ?_⟩
  unfold okT
  rw [h1, h4]
  exact ⟨fun q => (of_decide_eq_true q).resolve_left (fun z => z rfl), fun q => decide_eq_true (Or.inr q)⟩
end Lx
theorem dvF_snoc {t : Nat → Int32} : ∀ k q v, dvF t (k + 1) q v = nI 10 * dvF t k q v + t (q + k) - nI 48
  | 0, q, v => rfl
  | k + 1, q, v => by
    rw [dvF, dvF_snoc k (q + 1), dvF, show q + 1 + k = q + (k + 1) by omega]

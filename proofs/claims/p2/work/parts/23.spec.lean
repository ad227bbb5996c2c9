/-! what a house's marks and sights are, by the class's own way -/
/-- the mark of cell c behind the first so many changes, of those of day d; before them it was g -/
def chD (fc : Nat → Int32) (d c : Nat) (g : Int32) : Nat → Int32
  | 0 => g
  | i + 1 => if fc (3 * i) = nI d ∧ fc (3 * i + 1) = nI c then fc (3 * i + 2) else chD fc d c g i
/-- the mark of cell c on a day -/
def mkS (af : Nat → Int32) (nc : Nat) (fc : Nat → Int32) (c : Nat) : Nat → Int32
  | 0 => chD fc 0 c (af c) nc
  | d + 1 => chD fc (d + 1) c (mkS af nc fc c d) nc
/-- a ray: k cells more, the next by number i -/
def rayF (row : Nat → Int32) (cf : Nat → Nat) (door : Int32) : Nat → Nat → Int32 → Int32
  | 0, _, acc => acc
  | k + 1, i, acc => if row (cf i) = nI 4 ∨ (¬ door = 0 ∧ row (cf i) = nI 5) then acc ||| xbit (cf i) else rayF row cf door k (i + 1) (acc ||| xbit (cf i))
/-- what is in sight from x by a row of marks -/
def sgF (w h : Nat) (row : Nat → Int32) (x : Nat) : Int32 :=
  (((xbit x ||| rayF row (fun i => x - i * w) (nI 1) (x / w) 1 (nI 0)) ||| rayF row (fun i => x + i * w) (nI 1) (h - 1 - x / w) 1 (nI 0)) ||| rayF row (fun i => x - i) (nI 0) (x - x / w * w) 1 (nI 0)) ||| rayF row (fun i => x + i) (nI 0) (w - 1 - (x - x / w * w)) 1 (nI 0)
/-- the views hold the book's marks and sights -/
def FR (w h la : Nat) (af : Nat → Int32) (nc : Nat) (fc : Nat → Int32) (mk sg : Nat → Int32) : Prop :=
  ∀ d, d ≤ la → (∀ c, c < 16 → mk (d * 16 + c) = mkS af nc fc c d) ∧ ∀ x, x < w * h → sg (d * 16 + x) = sgF w h (fun c => mkS af nc fc c d) x
/-- what may be said of the views at any time -/
def VOK (w h la : Nat) (af : Nat → Int32) (nc : Nat) (fc : Nat → Int32) (mk sg : Nat → Int32) (vw vh : Nat) (sl : Int32) : Prop :=
  sl = 0 → vw = w ∧ vh = h ∧ FR w h la af nc fc mk sg
def mkB (af : Nat → Int32) (nc : Nat) (fc : Nat → Int32) (c : Nat) : Nat → Int32
  | 0 => af c
  | d + 1 => mkS af nc fc c d
theorem mkS_eq (af : Nat → Int32) (nc : Nat) (fc : Nat → Int32) (c d : Nat) : mkS af nc fc c d = chD fc d c (mkB af nc fc c d) nc := by
  cases d <;> rfl
theorem rayF_congr {row row' : Nat → Int32} {cf : Nat → Nat} {door : Int32} : ∀ (k i : Nat) (acc : Int32), (∀ j, i ≤ j → j < i + k → row (cf j) = row' (cf j)) → rayF row cf door k i acc = rayF row' cf door k i acc
  | 0, _, _, _ => rfl
  | k + 1, i, acc, h => by
    rw [rayF, rayF, h i (by omega) (by omega), rayF_congr k (i + 1) _ (fun j h1 h2 => h j (by omega) (by omega))]
theorem xs_div {w h x : Nat} (hw : 0 < w) (hx : x < w * h) : x / w < h ∧ x / w * w ≤ x ∧ x - x / w * w < w := by
  have h1 := Nat.div_add_mod x w
  have h2 := Nat.mod_lt x hw
  have h3 : x / w * w = w * (x / w) := Nat.mul_comm _ _
  refine ⟨Nat.div_lt_of_lt_mul hx, by omega, by omega⟩
theorem xs_up {w h x i : Nat} (hw : 0 < w) (hx : x < w * h) (hi : i ≤ x / w) : i * w ≤ x := Nat.le_trans (Nat.mul_le_mul_right w hi) (xs_div hw hx).2.1
theorem xs_down {w h x i : Nat} (hw : 0 < w) (hx : x < w * h) (hi : i ≤ h - 1 - x / w) : x + i * w < w * h := by
  obtain ⟨h1, h2, h3⟩ := xs_div hw hx
  have h4 : (x / w + i + 1) * w ≤ h * w := Nat.mul_le_mul_right w (by omega)
  have h5 : (x / w + i + 1) * w = x / w * w + i * w + w := by rw [Nat.add_mul, Nat.add_mul, Nat.one_mul]
  have h6 : h * w = w * h := Nat.mul_comm _ _
  omega
theorem xs_right {w h x i : Nat} (hw : 0 < w) (hx : x < w * h) (hi : i ≤ w - 1 - (x - x / w * w)) : x + i < w * h := by
  obtain ⟨h1, h2, h3⟩ := xs_div hw hx
  have h4 : (x / w + 1) * w ≤ h * w := Nat.mul_le_mul_right w (by omega)
  have h5 : (x / w + 1) * w = x / w * w + w := by rw [Nat.add_mul, Nat.one_mul]
  have h6 : h * w = w * h := Nat.mul_comm _ _
  omega
theorem sgF_congr {w h x : Nat} {row row' : Nat → Int32} (hw : 0 < w) (hx : x < w * h) (he : ∀ c, c < w * h → row c = row' c) : sgF w h row x = sgF w h row' x := by
  unfold sgF
  rw [rayF_congr (row := row) (row' := row') (cf := fun i => x - i * w) _ _ _ (fun j _ _ => he _ (by omega)),
    rayF_congr (row := row) (row' := row') (cf := fun i => x + i * w) _ _ _ (fun j _ _ => he _ (xs_down hw hx (by omega))),
    rayF_congr (row := row) (row' := row') (cf := fun i => x - i) _ _ _ (fun j _ _ => he _ (by omega)),
    rayF_congr (row := row) (row' := row') (cf := fun i => x + i) _ _ _ (fun j _ _ => he _ (xs_right hw hx (by omega)))]
theorem xn_neg {x i w : Nat} (h : i * w ≤ x) : nI x + nI i * -nI w = nI (x - i * w) := by
  rw [← pk_sub h, ← pk_mul]
  generalize nI x = a
  generalize nI i = b
  generalize nI w = c
  rw [Int32.mul_neg, Int32.sub_eq_add_neg]
theorem xbits_congr {p p' : Nat → Bool} : ∀ n, (∀ c, c < n → p c = p' c) → xbits p n = xbits p' n
  | 0, _ => rfl
  | n + 1, h => by rw [xbits, xbits, h n (by omega), xbits_congr n (fun c hc => h c (by omega))]
theorem VOK_fr {w h la : Nat} {af : Nat → Int32} {nc : Nat} {fc mk sg : Nat → Int32} (hf : FR w h la af nc fc mk sg) : VOK w h la af nc fc mk sg w h (nI 0) := fun _ => ⟨rfl, rfl, hf⟩
abbrev sgS (w h : Nat) (af : Nat → Int32) (nc : Nat) (fc : Nat → Int32) (x d : Nat) : Int32 := sgF w h (fun c => mkS af nc fc c d) x
abbrev unS (w h : Nat) (af : Nat → Int32) (nc : Nat) (fc : Nat → Int32) (d e : Nat) : Int32 := xbits (fun c => !decide (mkS af nc fc c d = mkS af nc fc c e)) (w * h)
abbrev apS (w h : Nat) (af : Nat → Int32) (nc : Nat) (fc : Nat → Int32) (d e : Nat) : Int32 := xbits (fun x => !decide (sgS w h af nc fc x d = sgS w h af nc fc x e) || !decide (sgS w h af nc fc x d &&& unS w h af nc fc d e = 0)) (w * h)
abbrev anS (w h : Nat) (af : Nat → Int32) (nc : Nat) (fc : Nat → Int32) (x c d : Nat) : Int32 := if (sgS w h af nc fc x d >>> (nI c &&& 31)) &&& nI 1 = 0 then (-4) else mkS af nc fc c d
/-- the first n all hold -/
def allF (p : Nat → Bool) : Nat → Bool
  | 0 => true
  | i + 1 => allF p i && p i
theorem allF_false {p : Nat → Bool} : ∀ {n i : Nat}, i ≤ n → allF p i = false → allF p n = false
  | 0, i, h, hf => by rw [← Nat.le_zero.mp h]; exact hf
  | n + 1, i, h, hf => by
    rcases Nat.lt_or_ge i (n + 1) with q | q
    · rw [allF, allF_false (Nat.lt_succ_iff.mp q) hf]; rfl
    · rw [← Nat.le_antisymm h q]; exact hf
theorem FR_unl {w h la : Nat} {af : Nat → Int32} {nc : Nat} {fc mk sg : Nat → Int32} (hf : FR w h la af nc fc mk sg) (hwh : w * h ≤ 16) {d e : Nat} (hd : d ≤ la) (he : e ≤ la) : xbits (fun c => !decide (mk (d * 16 + c) = mk (e * 16 + c))) (w * h) = unS w h af nc fc d e :=
  xbits_congr _ (fun c hc => by rw [(hf d hd).1 c (by omega), (hf e he).1 c (by omega)])
theorem FR_all {w h la : Nat} {af : Nat → Int32} {nc : Nat} {fc mk sg : Nat → Int32} (hf : FR w h la af nc fc mk sg) (hwh : w * h ≤ 16) {d : Nat} (hd : d ≤ la) (m : Int32) : xbits (fun c => decide (mk (d * 16 + c) = m)) (w * h) = xbits (fun c => decide (mkS af nc fc c d = m)) (w * h) :=
  xbits_congr _ (fun c hc => by rw [(hf d hd).1 c (by omega)])
theorem FR_apart {w h la : Nat} {af : Nat → Int32} {nc : Nat} {fc mk sg : Nat → Int32} (hf : FR w h la af nc fc mk sg) (hwh : w * h ≤ 16) {d e : Nat} (hd : d ≤ la) (he : e ≤ la) : xbits (fun x => !decide (sg (d * 16 + x) = sg (e * 16 + x)) || !decide (sg (d * 16 + x) &&& xbits (fun c => !decide (mk (d * 16 + c) = mk (e * 16 + c))) (w * h) = 0)) (w * h) = apS w h af nc fc d e :=
  xbits_congr _ (fun x hx => by rw [FR_unl hf hwh hd he, (hf d hd).2 x hx, (hf e he).2 x hx])
theorem FR_ans {w h la : Nat} {af : Nat → Int32} {nc : Nat} {fc mk sg : Nat → Int32} (hf : FR w h la af nc fc mk sg) {x c d : Nat} (hd : d ≤ la) (hx : x < w * h) (hc : c < 16) : (if (sg (d * 16 + x) >>> (nI c &&& 31)) &&& nI 1 = 0 then (-4) else mk (d * 16 + c)) = anS w h af nc fc x c d := by
  rw [(hf d hd).2 x hx, (hf d hd).1 c hc]
abbrev shS (w h : Nat) (af : Nat → Int32) (nc : Nat) (fc fl : Nat → Int32) (l x : Nat) : Int32 := sgS w h af nc fc x (tn (fl (3 * l))) &&& (fl (3 * l + 1) ^^^ (-1))
/-- does what was shown as number i fit day d -/
abbrev fitP (w h : Nat) (af : Nat → Int32) (nc : Nat) (fc fs : Nat → Int32) (d i : Nat) : Bool := decide (anS w h af nc fc (tn (fs (3 * i))) (tn (fs (3 * i + 1))) d = fs (3 * i + 2))
/-- the days that fit the first n -/
abbrev fitS (w h la : Nat) (af : Nat → Int32) (nc : Nat) (fc fs : Nat → Int32) (n : Nat) : Int32 := xbits (fun d => allF (fitP w h af nc fc fs d) n) (la + 1)
/-- the first i from the i-th on, of k, for which p holds; none: -4 -/
def firstF (p : Nat → Bool) : Nat → Nat → Int32
  | 0, _ => (-4)
  | k + 1, i => if p i then nI i else firstF p k (i + 1)
/-- is there one below n -/
def anyF (p : Nat → Bool) : Nat → Bool
  | 0 => false
  | i + 1 => anyF p i || p i
theorem anyF_true {p : Nat → Bool} : ∀ {n i : Nat}, i < n → p i = true → anyF p n = true
  | 0, i, h, _ => absurd h (Nat.not_lt_zero i)
  | n + 1, i, h, hp => by
    rw [anyF]
    rcases Nat.lt_succ_iff_lt_or_eq.mp h with q | q
    · rw [anyF_true q hp]; rfl
    · rw [← q, hp, Bool.or_true]
/-- how many below n -/
def cntF (p : Nat → Bool) : Nat → Nat
  | 0 => 0
  | i + 1 => if p i then cntF p i + 1 else cntF p i
theorem cntF_le (p : Nat → Bool) : ∀ n, cntF p n ≤ n
  | 0 => Nat.le_refl _
  | n + 1 => by have := cntF_le p n; unfold cntF; split <;> omega
/-- the bits of all together -/
def orF (f : Nat → Int32) : Nat → Int32
  | 0 => nI 0
  | i + 1 => orF f i ||| f i
theorem xbits_T {p : Nat → Bool} {c : Nat} {b : Int32} (h : p c = true) (hb : b = xbits p c) : b ||| xbit c = xbits p (c + 1) := by rw [xbits_t h, ← hb]
theorem xbits_N {p : Nat → Bool} {c : Nat} {b : Int32} (h : p c = false) (hb : b = xbits p c) : b = xbits p (c + 1) := by rw [xbits_f (by rw [h]; decide)]; exact hb
theorem cntF_T {p : Nat → Bool} {c b : Nat} (h : p c = true) (hb : b = cntF p c) : b + 1 = cntF p (c + 1) := by rw [cntF, if_pos h, ← hb]
theorem cntF_N {p : Nat → Bool} {c b : Nat} (h : p c = false) (hb : b = cntF p c) : b = cntF p (c + 1) := by rw [cntF, if_neg (by rw [h]; decide)]; exact hb

/-! PURE WORDS, first: the numbers that the leaves compute -/
def mxI (x y : Int32) : Int32 := if x < y then y else x
def mnI (x y : Int32) : Int32 := if y < x then y else x
def abI (x : Int32) : Int32 := if 0 ≤ x then x else 0 - x
/-- a boolean: 1 where P holds, else 0 -/
def bz (P : Prop) (r : Int32) : Prop := (P ∧ r = nI 1) ∨ (¬ P ∧ r = nI 0)
theorem bz1 {P : Prop} (h : P) : bz P (nI 1) := Or.inl ⟨h, rfl⟩
theorem bz0 {P : Prop} (h : ¬ P) : bz P (nI 0) := Or.inr ⟨h, rfl⟩
theorem i_nlt {a b : Int32} (h : ¬ a < b) : b ≤ a := by
  rw [Int32.le_iff_toInt_le]; rw [Int32.lt_iff_toInt_lt] at h; omega
theorem i_nle {a b : Int32} (h : ¬ a ≤ b) : b < a := by
  rw [Int32.lt_iff_toInt_lt]; rw [Int32.le_iff_toInt_le] at h; omega
theorem i_ltnle {a b : Int32} (h : a < b) : ¬ b ≤ a := by
  rw [Int32.le_iff_toInt_le]; rw [Int32.lt_iff_toInt_lt] at h; omega
theorem i_lenlt {a b : Int32} (h : a ≤ b) : ¬ b < a := by
  rw [Int32.lt_iff_toInt_lt]; rw [Int32.le_iff_toInt_le] at h; omega
theorem ne_toI {x : Int32} {c : Nat} (hc : c < 2147483648) (h : ¬ x = nI c) : ¬ ((c : Int) = x.toInt) := fun e => h (Int32.toInt_inj.mp (by rw [← e, nI_toInt hc]))
theorem nI_rng {x : Int32} {a b : Nat} (ha : a < 2147483648) (hb : b < 2147483648) (h1 : nI a ≤ x) (h2 : x ≤ nI b) : ∃ k : Nat, a ≤ k ∧ k ≤ b ∧ x = nI k := by
  rw [Int32.le_iff_toInt_le, nI_toInt ha] at h1
  rw [Int32.le_iff_toInt_le, nI_toInt hb] at h2
  refine ⟨x.toInt.toNat, by omega, by omega, Int32.toInt_inj.mp ?_⟩
  rw [nI_toInt (by omega)]
  omega
theorem mnI_l {a b : Nat} (h : a ≤ b) (hb : b < 2147483648) : mnI (nI a) (nI b) = nI a := by
  unfold mnI
  by_cases e : b < a
  · omega
  · rw [if_neg (fun q => e ((nI_ltI hb (by omega)).mp q))]
theorem mnI_r {a b : Nat} (h : b ≤ a) (ha : a < 2147483648) : mnI (nI a) (nI b) = nI b := by
  unfold mnI
  by_cases e : b < a
  · rw [if_pos ((nI_ltI (by omega) ha).mpr e)]
  · have : a = b := by omega
    subst this
    split <;> rfl
theorem mxI_l {a b : Nat} (h : b ≤ a) (ha : a < 2147483648) : mxI (nI a) (nI b) = nI a := by
  unfold mxI
  rw [if_neg (fun q => by have := (nI_ltI ha (by omega)).mp q; omega)]
theorem mxI_r {a b : Nat} (h : a ≤ b) (hb : b < 2147483648) : mxI (nI a) (nI b) = nI b := by
  unfold mxI
  by_cases e : a < b
  · rw [if_pos ((nI_ltI (by omega) hb).mpr e)]
  · have : a = b := by omega
    subst this
    split <;> rfl
/-- when one comes: comingAt -/
def cmA (h e la : Int32) : Int32 := mnI (nI 23) (mxI h e + la)
def filI (f : Nat → Int32) (v : Int32) : Nat → (Nat → Int32)
  | 0 => f
  | k + 1 => upd (filI f v k) k v
theorem filI_in (f : Nat → Int32) (v : Int32) : ∀ (n k : Nat), k < n → filI f v n k = v
  | n + 1, k, h => by
    show upd (filI f v n) n v k = v
    by_cases e : k = n
    · subst e; exact pk_us
    · rw [pk_un e]; exact filI_in f v n k (by omega)
theorem filI_out (f : Nat → Int32) (v : Int32) : ∀ (n k : Nat), n ≤ k → filI f v n k = f k
  | 0, _, _ => rfl
  | n + 1, k, h => by
    show upd (filI f v n) n v k = f k
    rw [pk_un (by omega)]; exact filI_out f v n k (by omega)
def filJ (f : Nat → Int64) (v : Int64) : Nat → (Nat → Int64)
  | 0 => f
  | k + 1 => vp_updL (filJ f v k) k v
theorem filJ_in (f : Nat → Int64) (v : Int64) : ∀ (n k : Nat), k < n → filJ f v n k = v
  | n + 1, k, h => by
    show vp_updL (filJ f v n) n v k = v
    by_cases e : k = n
    · subst e; exact pk_uLs
    · rw [pk_uLn e]; exact filJ_in f v n k (by omega)
def sgN : Nat → Nat
  | 0 => 108
  | 1 => 109
  | 2 => 112
  | _ => 102
abbrev isLf (x : Int32) : Prop := x = nI 108 ∨ x = nI 102 ∨ x = nI 109 ∨ x = nI 112 ∨ x = nI 104
abbrev isPr (x : Int32) : Prop := x = nI 60 ∨ x = nI 62 ∨ x = nI 47
abbrev isSh (x : Int32) : Prop := x = nI 45 ∨ x = nI 43
/-- how many parts a sign stands ahead of; -1 if it begins none -/
def prt (x : Int32) : Int32 := if isLf x then nI 0 else if isPr x then nI 2 else if isSh x ∨ x = nI 126 then nI 1 else (-1)
/-- the place in the order of the one whom a sign means -/
def plc (x : Int32) (n : Nat) : Nat := if x = nI 108 then n - 1 else if x = nI 109 then (n - 1) / 2 else if x = nI 112 then n - 1 - 1 else 0
/-- a time put among the first k of a row in order -/
def insG (g : Nat → Int32) (t : Int32) : Nat → (Nat → Int32)
  | 0 => upd g 0 t
  | k + 1 => if g k ≤ t then upd g (k + 1) t else insG (upd g (k + 1) (g k)) t k
/-- how far an hour is from the bests of the first k, together -/
def farS (b : Nat → Int32) (h : Int32) : Nat → Int32
  | 0 => nI 0
  | k + 1 => farS b h k + abI (h - b k)
def rowA (a b c : Nat) (x : Int32) : Nat := if x = 0 then a else if x = nI 1 then b else c
theorem mx_sub1 {k : Nat} (hk : k < 2147483648) : mxI (nI 0) (nI k - nI 1) = nI (k - 1) := by
  rcases Nat.eq_zero_or_pos k with e | e
  · subst e; decide
  · rw [pk_sub e]; exact mxI_r (by omega) (by omega)
theorem i_sub1 (x : Int32) : x - nI 1 = x + (-1) := by rw [Int32.sub_eq_add_neg]; rfl

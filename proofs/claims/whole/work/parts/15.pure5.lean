/-! PURE WORDS, fifth: the check's own forms -/
theorem updS (f : Nat → Int32) (k : Nat) : upd f k (f k) = f := by
  funext j
  by_cases e : j = k
  · subst e; exact pk_us
  · exact pk_un e
def gp (sg : Nat → Int32) (i : Nat) : Prop := 1 ≤ (ps sg i).1 ∧ ((ps sg i).2 = true → dgt (sg i)) ∧ ((ps sg i).2 = false → gds (sg i))
theorem gd_due {sg : Nat → Int32} {k : Nat} (hg : ∀ i, i < k → gd sg i) (h : (ps sg k).2 = true) : 1 ≤ (ps sg k).1 := by
  obtain ⟨j, rfl, hs⟩ := ps_sh h
  cases e : (ps sg j).2 with
  | true => rw [ps_t e] at h; exact absurd h Bool.false_ne_true
  | false =>
    rw [ps_f e, pN_sh hs]
    have := (hg j (by omega)).2.1
    show 1 ≤ (ps sg j).1 + 1 - 1
    omega
theorem pN_lf {x : Int32} (h : isLf x) : pN x = 0 := by rcases h with h | h | h | h | h <;> (subst h; decide)
theorem i_m1 {d : Nat} (h : 1 ≤ d) : nI d + (-1) = nI (d - 1) := by
  obtain ⟨k, rfl⟩ : ∃ k, d = k + 1 := ⟨d - 1, by omega⟩
  exact pk_m1 k
theorem m6_ne {k : Nat} (hk : k < 2147483648) : ¬ nI k = (-6 : Int32) := fun e => by
  have h1 := congrArg Int32.toInt e
  rw [nI_toInt hk] at h1
  have h2 : (-6 : Int32).toInt = -6 := rfl
  omega
theorem FT_lt {sg : Nat → Int32} {n : Nat} {r : Int32} (h : FT sg n r) (hn : n < 2147483648) (hr : r < 0) : r = (-6) := by
  rcases h with ⟨k, h1, -, -, rfl⟩ | ⟨-, -, rfl⟩ | ⟨-, -, e⟩
  · exact absurd hr (nI_pos (by omega))
  · exact absurd hr (nI_pos hn)
  · exact e
theorem FT_ge {sg : Nat → Int32} {n : Nat} {r : Int32} (h : FT sg n r) (hr : ¬ r < 0) : ¬ r = (-6) := fun e => by
  subst e
  exact hr (by decide)
def cpyI (g f : Nat → Int32) : Nat → (Nat → Int32)
  | 0 => g
  | k + 1 => upd (cpyI g f k) k (f k)
theorem cpyI_in (g f : Nat → Int32) : ∀ (n k : Nat), k < n → cpyI g f n k = f k
  | n + 1, k, h => by
    show upd (cpyI g f n) n (f n) k = f k
    by_cases e : k = n
    · subst e; exact pk_us
    · rw [pk_un e]; exact cpyI_in g f n k (by omega)
def apI (a b : Int32) : Int32 := if a ≤ b then b - a else a - b
def farT (b : Nat → Int32) (h : Int32) : Nat → Int32
  | 0 => nI 0
  | k + 1 => farT b h k + apI h (b k)
def SHc (F : Int32 → Int32) (fw : Nat → Int32) (x : Int32) : Nat → Bool
  | 0 => true
  | k + 1 => SHc F fw x k && decide (itH F (fw (2 * k)).toNatClampNeg x = fw (2 * k + 1))
theorem tN0 {b : Bool} (h : b.toNat = 0) : b = false := by cases b with | false => rfl | true => exact absurd h (by decide)
theorem tN1 {b : Bool} (h : 0 < b.toNat) : b = true := by cases b with | false => exact absurd h (by decide) | true => rfl
theorem i_or0 (x : Int32) : x ||| nI 0 = x := Int32.or_zero

/-! PURE WORDS, seventh: told -/
def tlR (n nl : Nat) (fe fl fb fs : Nat → Int32) (x : Int32) : Int32 :=
  if nI 10 ≤ x ∧ x ≤ nI 39 then (if x.toNatClampNeg % 10 < n then (if x.toNatClampNeg < 20 then fe (x.toNatClampNeg % 10) else if x.toNatClampNeg < 30 then fl (x.toNatClampNeg % 10) else fb (x.toNatClampNeg % 10)) else (-2))
  else if nI 40 ≤ x ∧ x.toNatClampNeg - 40 < nl then fs (x.toNatClampNeg - 40) else (-2)
def tlF (sc n : Nat) (fi : Int32) (nl ns : Nat) (fe fl fb fs : Nat → Int32) (x : Int32) : Int32 :=
  if x = nI 0 then nI sc else if x = nI 1 then nI n else if x = nI 2 then fi else if x = nI 3 then nI nl else if x = nI 4 then nI ns else tlR n nl fe fl fb fs x
theorem i_lt2 {x : Int32} (z : x < 0) : x < nI 40 := by
  rw [Int32.lt_iff_toInt_lt] at z ⊢
  rw [i0I] at z
  rw [nI_toInt (by omega)]
  omega
theorem tl_row {k : Nat} {n : Nat} {a b c : Nat → Int32} (h1 : 10 ≤ k) (h2 : k ≤ 39) : (if k % 10 < n then (if k / 10 - 1 = 0 then a (k % 10) else if k / 10 - 1 = 1 then b (k % 10) else c (k % 10)) else (-2)) = (if k % 10 < n then (if k < 20 then a (k % 10) else if k < 30 then b (k % 10) else c (k % 10)) else (-2)) := by
  by_cases c0 : k % 10 < n
  · rw [if_pos c0, if_pos c0]
    by_cases c1 : k < 20
    · rw [if_pos c1, if_pos (show k / 10 - 1 = 0 by omega)]
    · rw [if_neg c1, if_neg (show ¬ k / 10 - 1 = 0 by omega)]
      by_cases c2 : k < 30
      · rw [if_pos c2, if_pos (show k / 10 - 1 = 1 by omega)]
      · rw [if_neg c2, if_neg (show ¬ k / 10 - 1 = 1 by omega)]
  · rw [if_neg c0, if_neg c0]

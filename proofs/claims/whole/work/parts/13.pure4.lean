/-! PURE WORDS, fourth: the fault of a text -/
def gd (sg : Nat → Int32) (i : Nat) : Prop := i < 20 ∧ 1 ≤ (ps sg i).1 ∧ ((ps sg i).2 = true → dgt (sg i)) ∧ ((ps sg i).2 = false → gds (sg i))
/-- the fault: the first place that is wrong; how many there are, if more must come; none -/
def FT (sg : Nat → Int32) (n : Nat) (r : Int32) : Prop :=
  (∃ k, k < n ∧ (∀ i, i < k → gd sg i) ∧ ¬ gd sg k ∧ r = nI k) ∨ ((∀ i, i < n → gd sg i) ∧ 0 < (ps sg n).1 ∧ r = nI n) ∨ ((∀ i, i < n → gd sg i) ∧ (ps sg n).1 = 0 ∧ r = (-6))
theorem FT_one {sg : Nat → Int32} {n : Nat} {a b : Int32} (h : FT sg n a) (g : FT sg n b) : a = b := by
  rcases h with ⟨k, h1, h2, h3, rfl⟩ | ⟨h1, h2, rfl⟩ | ⟨h1, h2, rfl⟩ <;> rcases g with ⟨j, g1, g2, g3, rfl⟩ | ⟨g1, g2, rfl⟩ | ⟨g1, g2, rfl⟩
  · rcases Nat.lt_trichotomy k j with e | e | e
    · exact absurd (g2 k e) h3
    · rw [e]
    · exact absurd (h2 j e) g3
  · exact absurd (g1 k h1) h3
  · exact absurd (g1 k h1) h3
  · exact absurd (h1 j g1) g3
  · rfl
  · omega
  · exact absurd (h1 j g1) g3
  · omega
  · rfl
theorem FT_VL {sg : Nat → Int32} {n : Nat} (h : FT sg n (-6)) (hn : n < 2147483648 := by omega) : VL sg n := by
  have ne : ∀ k : Nat, k < 2147483648 → (-6 : Int32) ≠ nI k := fun k hk e => by
    have h1 := congrArg Int32.toInt e
    rw [nI_toInt hk] at h1
    have h2 : (-6 : Int32).toInt = -6 := rfl
    omega
  rcases h with ⟨k, h1, -, -, e⟩ | ⟨-, -, e⟩ | ⟨h1, h2, -⟩
  · exact absurd e (ne k (by omega))
  · exact absurd e (ne n hn)
  · refine ⟨?_, fun k hk => (h1 k hk).2, h2⟩
    rcases Nat.eq_zero_or_pos n with e | e
    · omega
    · have := (h1 (n - 1) (by omega)).1
      omega
theorem ps_le (sg : Nat → Int32) : ∀ k, (ps sg k).1 ≤ k + 1
  | 0 => Nat.le_refl 1
  | k + 1 => by
    have ih := ps_le sg k
    cases e : (ps sg k).2 with
    | true => rw [ps_t e]; show (ps sg k).1 ≤ _; omega
    | false =>
      rw [ps_f e]
      have : pN (sg k) ≤ 2 := by
        unfold pN
        split
        · omega
        · split <;> omega
      show (ps sg k).1 + pN (sg k) - 1 ≤ _
      omega
theorem prt_pN {x : Int32} (h : gds x) : prt x = nI (pN x) := by
  rcases h with (h | h | h | h | h) | (h | h | h) | (h | h) | h <;> (subst h; decide)
theorem prt_nn {x : Int32} (h : gds x) : 0 ≤ prt x := by
  rcases h with (h | h | h | h | h) | (h | h | h) | (h | h) | h <;> (subst h; decide)
theorem gds_prt {x : Int32} (h : 0 ≤ prt x) : gds x := by
  unfold prt at h
  by_cases c1 : isLf x
  · exact Or.inl c1
  · rw [if_neg c1] at h
    by_cases c2 : isPr x
    · exact Or.inr (Or.inl c2)
    · rw [if_neg c2] at h
      by_cases c3 : isSh x ∨ x = nI 126
      · exact Or.inr (Or.inr c3)
      · rw [if_neg c3] at h
        exact absurd h (by decide)
theorem i_sum1 {a b : Nat} (h : 1 ≤ a + b) : nI a + (nI b - nI 1) = nI (a + b - 1) := by
  rw [Int32.sub_eq_add_neg, ← Int32.add_assoc, nI_add, ← Int32.sub_eq_add_neg, pk_sub h]

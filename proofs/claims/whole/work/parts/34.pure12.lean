/-! PURE WORDS, twelfth: sets of members, who can move the hour -/
def btm (s m : Nat) : Bool := decide (s / 2 ^ m % 2 = 1)
def bits (s : Nat) : Nat := cnt (btm s) 6
theorem bits_n {s n : Nat} (hn : n ≤ 6) (hs : s < 2 ^ n) : bits s ≤ n := by
  have h1 : ∀ a : Fin 7, ∀ b : Fin 64, b.1 < 2 ^ a.1 → bits b.1 ≤ a.1 := by decide +kernel
  have hs6 : s < 64 := Nat.lt_of_lt_of_le hs (Nat.pow_le_pow_right (by decide) hn)
  exact h1 ⟨n, by omega⟩ ⟨s, hs6⟩ hs
theorem bits_6 (s : Nat) : bits s ≤ 6 := cnt_le _ 6
theorem p2_le {n : Nat} (h : n ≤ 6) : 2 ^ n ≤ 64 := Nat.pow_le_pow_right (by decide) h
theorem p5_le {n : Nat} (h : n ≤ 6) : 5 ^ n ≤ 15625 := Nat.pow_le_pow_right (by decide) h
theorem p66_le {n : Nat} (h : n ≤ 6) : 6 ^ n ≤ 46656 := Nat.pow_le_pow_right (by decide) h
theorem sub_bits : ∀ t s : Fin 64, (∀ m : Fin 6, btm t.1 m.1 = true → btm s.1 m.1 = true) → t.1 ≤ s.1 ∧ (t.1 = s.1 ∨ bits t.1 < bits s.1) := by decide +kernel
theorem set_of (p : Nat → Bool) : ∃ t, t < 64 ∧ ∀ m, m < 6 → btm t m = p m := by
  have h : ∀ a b c d e f : Bool, (a.toNat + 2 * b.toNat + 4 * c.toNat + 8 * d.toNat + 16 * e.toNat + 32 * f.toNat) < 64 ∧ btm (a.toNat + 2 * b.toNat + 4 * c.toNat + 8 * d.toNat + 16 * e.toNat + 32 * f.toNat) 0 = a ∧ btm (a.toNat + 2 * b.toNat + 4 * c.toNat + 8 * d.toNat + 16 * e.toNat + 32 * f.toNat) 1 = b ∧ btm (a.toNat + 2 * b.toNat + 4 * c.toNat + 8 * d.toNat + 16 * e.toNat + 32 * f.toNat) 2 = c ∧ btm (a.toNat + 2 * b.toNat + 4 * c.toNat + 8 * d.toNat + 16 * e.toNat + 32 * f.toNat) 3 = d ∧ btm (a.toNat + 2 * b.toNat + 4 * c.toNat + 8 * d.toNat + 16 * e.toNat + 32 * f.toNat) 4 = e ∧ btm (a.toNat + 2 * b.toNat + 4 * c.toNat + 8 * d.toNat + 16 * e.toNat + 32 * f.toNat) 5 = f := by decide +kernel
  obtain ⟨ht, h0, h1, h2, h3, h4, h5⟩ := h (p 0) (p 1) (p 2) (p 3) (p 4) (p 5)
  refine ⟨_, ht, fun m hm => ?_⟩
  rcases (show m = 0 ∨ m = 1 ∨ m = 2 ∨ m = 3 ∨ m = 4 ∨ m = 5 by omega) with rfl | rfl | rfl | rfl | rfl | rfl <;> assumption
/-- a number whose digits, by the places of a set, are as told -/
theorem digs (b : Nat) (hb : 0 < b) (p : Nat → Bool) (v : Nat → Nat) (hv : ∀ j, p j = true → v j < b) : ∀ n, ∃ N, N < b ^ cnt p n ∧ ∀ j, j < n → p j = true → N / b ^ cnt p j % b = v j
  | 0 => ⟨0, by show 0 < b ^ 0; exact Nat.lt_of_lt_of_le (by decide) (Nat.le_refl 1), fun j hj => absurd hj (Nat.not_lt_zero j)⟩
  | n + 1 => by
    obtain ⟨N, h1, h2⟩ := digs b hb p v hv n
    by_cases c : p n = true
    · have e : cnt p (n + 1) = cnt p n + 1 := if_pos c
      have hp : 0 < b ^ cnt p n := Nat.pow_pos hb
      refine ⟨N + v n * b ^ cnt p n, ?_, fun j hj pj => ?_⟩
      · rw [e, Nat.pow_succ]
        have h3 : (v n + 1) * b ^ cnt p n ≤ b * b ^ cnt p n := Nat.mul_le_mul_right _ (hv n c)
        rw [Nat.add_mul, Nat.one_mul] at h3
        rw [Nat.mul_comm (b ^ cnt p n) b]
        omega
      · rcases Nat.lt_or_ge j n with q | q
        · have ej : cnt p (j + 1) = cnt p j + 1 := if_pos pj
          have hm := cnt_mono p (show j + 1 ≤ n from q)
          have e2 : cnt p n = cnt p j + 1 + (cnt p n - (cnt p j + 1)) := by omega
          have e3 : v n * b ^ cnt p n = b ^ cnt p j * (b * (b ^ (cnt p n - (cnt p j + 1)) * v n)) := by
            rw [e2, Nat.pow_add, Nat.pow_succ]
            simp only [Nat.add_sub_cancel_left, Nat.mul_assoc, Nat.mul_comm, Nat.mul_left_comm]
          rw [e3, Nat.add_mul_div_left _ _ (Nat.pow_pos hb), Nat.add_mul_mod_self_left]
          exact h2 j q pj
        · have ej : j = n := by omega
          rw [ej, Nat.add_mul_div_right _ _ hp, Nat.div_eq_of_lt h1, Nat.zero_add]
          exact Nat.mod_eq_of_lt (hv n c)
    · have e : cnt p (n + 1) = cnt p n := if_neg c
      refine ⟨N, by rw [e]; exact h1, fun j hj pj => ?_⟩
      rcases Nat.lt_or_ge j n with q | q
      · exact h2 j q pj
      · rw [show j = n by omega] at pj
        exact absurd pj c
/-- how late each is: those of the set by a way, otherwise than told; or at all -/
def f5 (tl : Nat → Nat) (s way m : Nat) : Nat := if btm s m = true then (if way / 5 ^ cnt (btm s) m % 5 < tl m then way / 5 ^ cnt (btm s) m % 5 else way / 5 ^ cnt (btm s) m % 5 + 1) else tl m
def f6 (tl : Nat → Nat) (s way m : Nat) : Nat := if btm s m = true then way / 6 ^ cnt (btm s) m % 6 else tl m
/-- the hour is moved so far -/
def Rq (G : (Nat → Int32) → Int32 → Int32) (x w g : Nat) (f : Nat → Nat) : Bool := decide (if g < x then hsq (G (fun m => nI (f m))) x w ≤ g else g ≤ hsq (G (fun m => nI (f m))) x w)
theorem Rq_cong {G : (Nat → Int32) → Int32 → Int32} {n : Nat} (hG : ∀ f1 f2 : Nat → Int32, (∀ j, j < n → f1 j = f2 j) → G f1 = G f2) {x w g : Nat} {f1 f2 : Nat → Nat} (h : ∀ j, j < n → f1 j = f2 j) : Rq G x w g f1 = Rq G x w g f2 := by
  unfold Rq
  rw [hG (fun m => nI (f1 m)) (fun m => nI (f2 m)) (fun j hj => by rw [h j hj])]
def P5 (G : (Nat → Int32) → Int32 → Int32) (tl : Nat → Nat) (x w g s : Nat) : Prop := ∃ q, q < 5 ^ bits s ∧ Rq G x w g (f5 tl s q) = true
def P6 (G : (Nat → Int32) → Int32 → Int32) (tl : Nat → Nat) (x w g s : Nat) : Prop := ∃ q, q < 6 ^ bits s ∧ Rq G x w g (f6 tl s q) = true
/-- the least set that has P: by how many, then by number -/
def LM (P : Nat → Prop) (K : Nat) (r : Int32) : Prop :=
  (∃ s, s < K ∧ P s ∧ r = nI s ∧ ∀ t, t < K → P t → bits s < bits t ∨ (bits s = bits t ∧ s ≤ t)) ∨ ((∀ t, t < K → ¬ P t) ∧ r = (-6))
theorem LM_one {P Q : Nat → Prop} {K : Nat} {r1 r2 : Int32} (h1 : ∀ s, s < K → P s → Q s) (h2 : ∀ s, s < K → Q s → ∃ t, t < K ∧ P t ∧ (t = s ∨ bits t < bits s)) (h : LM P K r1) (g : LM Q K r2) : r1 = r2 := by
  rcases h with ⟨s, a1, a2, a3, a4⟩ | ⟨a1, a2⟩ <;> rcases g with ⟨u, b1, b2, b3, b4⟩ | ⟨b1, b2⟩
  · have c1 := b4 s a1 (h1 s a1 a2)
    obtain ⟨t, d1, d2, d3⟩ := h2 u b1 b2
    have c2 := a4 t d1 d2
    have c3 := b4 t d1 (h1 t d1 d2)
    have e : s = u := by
      rcases d3 with rfl | d3
      · omega
      · omega
    rw [a3, b3, e]
  · exact absurd (h1 s a1 a2) (b1 s a1)
  · obtain ⟨t, d1, d2, -⟩ := h2 u b1 b2
    exact absurd d2 (a1 t d1)
  · rw [a2, b2]
theorem LM_cong {P Q : Nat → Prop} {K : Nat} {r : Int32} (e : ∀ s, s < K → (P s ↔ Q s)) (h : LM P K r) : LM Q K r := by
  rcases h with ⟨s, a1, a2, a3, a4⟩ | ⟨a1, a2⟩
  · exact Or.inl ⟨s, a1, (e s a1).mp a2, a3, fun t h1 h2 => a4 t h1 ((e t h1).mpr h2)⟩
  · exact Or.inr ⟨fun t h1 h2 => a1 t h1 ((e t h1).mpr h2), a2⟩
theorem P56 {G : (Nat → Int32) → Int32 → Int32} {n : Nat} (hn : n ≤ 6) (hG : ∀ f1 f2 : Nat → Int32, (∀ j, j < n → f1 j = f2 j) → G f1 = G f2) {tl : Nat → Nat} (ht : ∀ j, j < n → tl j ≤ 5) {x w g s : Nat} (h : P5 G tl x w g s) : P6 G tl x w g s := by
  obtain ⟨q, -, h2⟩ := h
  have lim : ∀ j, btm s j = true → (if f5 tl s q j < 6 then f5 tl s q j else 0) < 6 := fun j _ => by split <;> omega
  obtain ⟨N, h3, h4⟩ := digs 6 (by decide) (btm s) (fun j => if f5 tl s q j < 6 then f5 tl s q j else 0) lim n
  refine ⟨N, Nat.lt_of_lt_of_le h3 (Nat.pow_le_pow_right (by decide) (cnt_mono _ hn)), ?_⟩
  rw [← h2]
  refine Rq_cong hG (fun j hj => ?_)
  unfold f6
  by_cases c : btm s j = true
  · rw [if_pos c, h4 j hj c]
    have h5 : f5 tl s q j < 6 := by
      unfold f5
      rw [if_pos c]
      have := Nat.mod_lt (q / 5 ^ cnt (btm s) j) (show 0 < 5 by decide)
      split <;> omega
    show (if f5 tl s q j < 6 then f5 tl s q j else 0) = _
    rw [if_pos h5]
  · rw [if_neg c]
    unfold f5
    rw [if_neg c]
theorem P65 {G : (Nat → Int32) → Int32 → Int32} {n : Nat} (hn : n ≤ 6) (hG : ∀ f1 f2 : Nat → Int32, (∀ j, j < n → f1 j = f2 j) → G f1 = G f2) {tl : Nat → Nat} (ht : ∀ j, j < n → tl j ≤ 5) {x w g s : Nat} (hs : s < 2 ^ n) (h : P6 G tl x w g s) : ∃ t, t < 2 ^ n ∧ P5 G tl x w g t ∧ (t = s ∨ bits t < bits s) := by
  obtain ⟨q, -, h2⟩ := h
  have hs6 : s < 64 := Nat.lt_of_lt_of_le hs (p2_le hn)
  obtain ⟨t, t1, t2⟩ := set_of (fun m => decide (m < n) && (btm s m && decide (f6 tl s q m ≠ tl m)))
  have sub : ∀ m, m < 6 → btm t m = true → m < n ∧ btm s m = true ∧ f6 tl s q m ≠ tl m := fun m hm e => by
    rw [t2 m hm] at e
    simp only [Bool.and_eq_true, decide_eq_true_eq] at e
    exact e
  obtain ⟨s1, s2⟩ := sub_bits ⟨t, t1⟩ ⟨s, hs6⟩ (fun m e => (sub m.1 m.2 e).2.1)
  have s1 : t ≤ s := s1
  have s2 : t = s ∨ bits t < bits s := s2
  refine ⟨t, Nat.lt_of_le_of_lt s1 hs, ?_, s2⟩
  let v : Nat → Nat := fun m => if f6 tl s q m < tl m then f6 tl s q m else f6 tl s q m - 1
  have lim : ∀ j, (fun m => decide (m < n) && btm t m) j = true → v j < 5 := fun j e => by
    have e : (decide (j < n) && btm t j) = true := e
    simp only [Bool.and_eq_true, decide_eq_true_eq] at e
    have h5 := ht j e.1
    obtain ⟨-, c, h6⟩ := sub j (by omega) e.2
    have h7 : f6 tl s q j < 6 := by unfold f6; rw [if_pos c]; exact Nat.mod_lt _ (by decide)
    show (if f6 tl s q j < tl j then f6 tl s q j else f6 tl s q j - 1) < 5
    split <;> omega
  obtain ⟨N, h3, h4⟩ := digs 5 (by decide) (fun m => decide (m < n) && btm t m) v lim n
  have ec : ∀ k, k ≤ n → cnt (fun m => decide (m < n) && btm t m) k = cnt (btm t) k := fun k hk => cnt_cong (fun j hj => by rw [decide_eq_true (show j < n by omega), Bool.true_and])
  rw [ec n (Nat.le_refl n)] at h3
  refine ⟨N, Nat.lt_of_lt_of_le h3 (Nat.pow_le_pow_right (by decide) (cnt_mono _ hn)), ?_⟩
  rw [← h2]
  refine Rq_cong hG (fun j hj => ?_)
  have h5 := ht j hj
  unfold f5
  by_cases c : btm t j = true
  · obtain ⟨-, cs, h6⟩ := sub j (by omega) c
    have h8 := h4 j hj (by show (decide (j < n) && btm t j) = true; rw [c, decide_eq_true hj]; rfl)
    rw [ec j (by omega)] at h8
    have h8 : N / 5 ^ cnt (btm t) j % 5 = (if f6 tl s q j < tl j then f6 tl s q j else f6 tl s q j - 1) := h8
    rw [if_pos c, h8]
    by_cases d : f6 tl s q j < tl j
    · rw [if_pos d, if_pos d]
    · rw [if_neg d, if_neg (by omega)]
      omega
  · rw [if_neg c]
    by_cases cs : btm s j = true
    · have h9 : f6 tl s q j = tl j := by
        rcases Nat.decEq (f6 tl s q j) (tl j) with z | z
        · exfalso
          apply c
          rw [t2 j (by omega), cs]
          simp [hj, z]
        · exact z
      exact h9.symm
    · unfold f6
      rw [if_neg cs]
theorem fl_n {fl : Nat → Int32} {n : Nat} (h : ∀ j, j < n → ∃ b : Nat, b ≤ 5 ∧ fl j = nI b) (j : Nat) (hj : j < n) : fl j = nI (fl j).toNatClampNeg ∧ (fl j).toNatClampNeg ≤ 5 := by
  obtain ⟨b, h1, h2⟩ := h j hj
  rw [h2, nI_clamp (by omega)]
  exact ⟨rfl, h1⟩
theorem f5_a {tl : Nat → Nat} {s way m : Nat} (h : btm s m = true) (h2 : way / 5 ^ cnt (btm s) m % 5 < tl m) : f5 tl s way m = way / 5 ^ cnt (btm s) m % 5 := by unfold f5; rw [if_pos h, if_pos h2]
theorem f5_b {tl : Nat → Nat} {s way m : Nat} (h : btm s m = true) (h2 : ¬ way / 5 ^ cnt (btm s) m % 5 < tl m) : f5 tl s way m = way / 5 ^ cnt (btm s) m % 5 + 1 := by unfold f5; rw [if_pos h, if_neg h2]
theorem f5_c {tl : Nat → Nat} {s way m : Nat} (h : btm s m = false) : f5 tl s way m = tl m := by unfold f5; rw [if_neg (by rw [h]; decide)]
theorem f6_a {tl : Nat → Nat} {s way m : Nat} (h : btm s m = true) : f6 tl s way m = way / 6 ^ cnt (btm s) m % 6 := by unfold f6; rw [if_pos h]
theorem f6_c {tl : Nat → Nat} {s way m : Nat} (h : btm s m = false) : f6 tl s way m = tl m := by unfold f6; rw [if_neg (by rw [h]; decide)]
theorem cnt_t {p : Nat → Bool} {m : Nat} (h : p m = true) : cnt p (m + 1) = cnt p m + 1 := if_pos h
theorem cnt_f {p : Nat → Bool} {m : Nat} (h : p m = false) : cnt p (m + 1) = cnt p m := if_neg (by rw [h]; decide)
theorem cnt_bt (s i : Nat) : cnt (btm s) i + s / 2 ^ i % 2 = cnt (btm s) (i + 1) := by
  have := Nat.mod_lt (s / 2 ^ i) (show 0 < 2 by decide)
  by_cases e : s / 2 ^ i % 2 = 1
  · rw [cnt_t (show btm s i = true from decide_eq_true e), e]
  · rw [cnt_f (show btm s i = false from decide_eq_false e)]; omega
theorem Rq_lo {G : (Nat → Int32) → Int32 → Int32} {x w g : Nat} {f : Nat → Nat} (h : g < x) : Rq G x w g f = true ↔ hsq (G (fun m => nI (f m))) x w ≤ g := by
  exact decide_eq_true_iff.trans (iff_of_eq (if_pos h))
theorem Rq_hi {G : (Nat → Int32) → Int32 → Int32} {x w g : Nat} {f : Nat → Nat} (h : ¬ g < x) : Rq G x w g f = true ↔ g ≤ hsq (G (fun m => nI (f m))) x w := by
  exact decide_eq_true_iff.trans (iff_of_eq (if_neg h))
theorem LM_0 (P : Nat → Prop) : LM P 0 (-6) := Or.inr ⟨fun t h => absurd h (Nat.not_lt_zero t), rfl⟩
theorem LM_k {P : Nat → Prop} {s b : Nat} (hb : b < s) (hP : P b) (hm : ∀ t, t < s → P t → bits b < bits t ∨ (bits b = bits t ∧ b ≤ t)) (h : P s → bits b ≤ bits s) : LM P (s + 1) (nI b) :=
  Or.inl ⟨b, by omega, hP, rfl, fun t h1 h2 => by
    rcases Nat.lt_or_ge t s with q | q
    · exact hm t q h2
    · have e : t = s := by omega
      subst e
      have := h h2
      omega⟩
theorem LM_n {P : Nat → Prop} {s b : Nat} (hP : P s) (hm : ∀ t, t < s → P t → bits b < bits t ∨ (bits b = bits t ∧ b ≤ t)) (h : bits s < bits b) : LM P (s + 1) (nI s) :=
  Or.inl ⟨s, by omega, hP, rfl, fun t h1 h2 => by
    rcases Nat.lt_or_ge t s with q | q
    · have := hm t q h2; omega
    · have e : t = s := by omega
      subst e
      omega⟩
theorem LM_f {P : Nat → Prop} {s : Nat} (hP : P s) (hn : ∀ t, t < s → ¬ P t) : LM P (s + 1) (nI s) :=
  Or.inl ⟨s, by omega, hP, rfl, fun t h1 h2 => by
    rcases Nat.lt_or_ge t s with q | q
    · exact absurd h2 (hn t q)
    · have e : t = s := by omega
      subst e
      omega⟩
theorem LM_m {P : Nat → Prop} {s : Nat} (hP : ¬ P s) (hn : ∀ t, t < s → ¬ P t) : LM P (s + 1) (-6) :=
  Or.inr ⟨fun t h1 h2 => by
    rcases Nat.lt_or_ge t s with q | q
    · exact hn t q h2
    · rw [show t = s by omega] at h2; exact hP h2, rfl⟩

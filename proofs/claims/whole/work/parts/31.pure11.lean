/-! PURE WORDS, eleventh: digits of four, shifts -/
theorem sm31 {k : Nat} (hk : k < 32) : (((nI k) &&& 31).toBitVec.smod 32).toNat = k := by
  have h1 : ∀ q : Fin 32, (((nI q.1) &&& 31).toBitVec.smod 32).toNat = q.1 := by decide +kernel
  exact h1 ⟨k, hk⟩
theorem nbv {n : Nat} (h : n < 2147483648) : (nI n).toBitVec.toNat = n := by show n % 2 ^ 32 = n; omega
theorem shr_n {a k : Nat} (ha : a < 2147483648) (hk : k < 32) : nI a >>> (nI k &&& 31) = nI (a / 2 ^ k) := by
  apply Int32.toBitVec_inj.mp
  apply BitVec.eq_of_toNat_eq
  have hm : (nI a).toBitVec.msb = false := by rw [BitVec.msb_eq_false_iff_two_mul_lt, nbv ha]; omega
  show ((nI a).toBitVec.sshiftRight ((nI k &&& 31).toBitVec.smod 32).toNat).toNat = _
  rw [sm31 hk, BitVec.sshiftRight_eq_of_msb_false hm, BitVec.toNat_ushiftRight, nbv ha, nbv (Nat.lt_of_le_of_lt (Nat.div_le_self _ _) ha), Nat.shiftRight_eq_div_pow]
theorem shl_n {a k : Nat} (hk : k < 32) (ha : a * 2 ^ k < 2147483648) : nI a <<< (nI k &&& 31) = nI (a * 2 ^ k) := by
  have hp : 1 ≤ 2 ^ k := Nat.one_le_two_pow
  have ha2 : a < 2147483648 := Nat.lt_of_le_of_lt (Nat.le_mul_of_pos_right a hp) ha
  apply Int32.toBitVec_inj.mp
  apply BitVec.eq_of_toNat_eq
  show ((nI a).toBitVec <<< ((nI k &&& 31).toBitVec.smod 32).toNat).toNat = _
  rw [sm31 hk, BitVec.toNat_shiftLeft, nbv ha2, nbv ha, Nat.shiftLeft_eq]
  exact Nat.mod_eq_of_lt (by omega)
theorem and3_n {a : Nat} (ha : a < 2147483648) : nI a &&& nI 3 = nI (a % 4) := by
  apply Int32.toBitVec_inj.mp
  apply BitVec.eq_of_toNat_eq
  show ((nI a).toBitVec &&& (nI 3).toBitVec).toNat = _
  rw [BitVec.toNat_and, nbv ha, nbv (by omega), nbv (by omega), show (3 : Nat) = 2 ^ 2 - 1 from rfl, Nat.and_two_pow_sub_one_eq_mod]
theorem and1_n {a : Nat} (ha : a < 2147483648) : nI a &&& nI 1 = nI (a % 2) := by
  apply Int32.toBitVec_inj.mp
  apply BitVec.eq_of_toNat_eq
  show ((nI a).toBitVec &&& (nI 1).toBitVec).toNat = _
  rw [BitVec.toNat_and, nbv ha, nbv (by omega), nbv (by omega), show (1 : Nat) = 2 ^ 1 - 1 from rfl, Nat.and_two_pow_sub_one_eq_mod]
theorem p4_le {k : Nat} (h : k ≤ 6) : 4 ^ k ≤ 4096 := by
  rcases (show k = 0 ∨ k = 1 ∨ k = 2 ∨ k = 3 ∨ k = 4 ∨ k = 5 ∨ k = 6 by omega) with rfl | rfl | rfl | rfl | rfl | rfl | rfl <;> decide
theorem p4_pos : ∀ k : Nat, 0 < 4 ^ k
  | 0 => by decide
  | k + 1 => by rw [Nat.pow_succ]; exact Nat.mul_pos (p4_pos k) (by decide)
theorem p24 (k : Nat) : 2 ^ (2 * k) = 4 ^ k := by rw [Nat.pow_mul]
def d4 (n way m : Nat) : Nat := way / 4 ^ (n - 1 - m) % 4
theorem d4_le (n way m : Nat) : d4 n way m ≤ 3 := by
  have : way / 4 ^ (n - 1 - m) % 4 < 4 := Nat.mod_lt _ (by decide)
  unfold d4
  omega
theorem d4_mul (n way m : Nat) : d4 n way m * 4 ^ (n - 1 - m) ≤ way := by
  have h1 : d4 n way m ≤ way / 4 ^ (n - 1 - m) := Nat.mod_le _ _
  exact Nat.le_trans (Nat.mul_le_mul_right _ h1) (Nat.div_mul_le_self _ _)
/-- way, with q at m's place, is a way -/
theorem d4_in {n way m q : Nat} (hm : m < n) (hw : way < 4 ^ n) (hq : q < 4) : way - d4 n way m * 4 ^ (n - 1 - m) + q * 4 ^ (n - 1 - m) < 4 ^ n := by
  have hp := p4_pos (n - 1 - m)
  have e0 : 4 ^ n = 4 ^ (n - 1 - m) * (4 * 4 ^ m) := by
    rw [← Nat.mul_assoc, ← Nat.pow_succ, ← Nat.pow_add, show (n - 1 - m).succ + m = n by omega]
  have h1 := Nat.div_add_mod way (4 ^ (n - 1 - m))
  have h2 := Nat.mod_lt way hp
  have h3 := Nat.div_add_mod (way / 4 ^ (n - 1 - m)) 4
  have hA : way / 4 ^ (n - 1 - m) < 4 * 4 ^ m := by
    rw [e0] at hw
    exact Nat.div_lt_of_lt_mul hw
  unfold d4
  generalize hP : 4 ^ (n - 1 - m) = P at *
  generalize hAe : way / P = A at *
  generalize hC : A / 4 = C at *
  generalize hd : A % 4 = d at *
  generalize hX : 4 ^ m = X at *
  have hC2 : C < X := by omega
  have e1 : way = P * (4 * C) + P * d + way % P := by rw [← Nat.mul_add, h3]; exact h1.symm
  have e2 : d * P = P * d := Nat.mul_comm _ _
  have e3 : q * P ≤ 3 * P := Nat.mul_le_mul_right P (by omega)
  have e4 : P * (4 * C) + P * 4 ≤ P * (4 * X) := by rw [← Nat.mul_add]; exact Nat.mul_le_mul_left P (by omega)
  rw [e0, e2]
  omega
def alB : Nat → (Nat → Bool) → Bool
  | 0, _ => true
  | k + 1, P => alB k P && P k
theorem alB_no {P : Nat → Bool} : ∀ {n k : Nat}, k < n → P k = false → alB n P = false
  | 0, k, h, _ => absurd h (Nat.not_lt_zero k)
  | n + 1, k, h, e => by
    show (alB n P && P n) = false
    rcases Nat.lt_or_ge k n with q | q
    · rw [alB_no q e]; rfl
    · rw [show n = k by omega, e, Bool.and_false]
theorem alB_s {P : Nat → Bool} {k : Nat} (h : alB k P = true) (e : P k = true) : alB (k + 1) P = true := by
  show (alB k P && P k) = true
  rw [h, e]; rfl
theorem alB_cong {P Q : Nat → Bool} : ∀ {n : Nat}, (∀ k, k < n → P k = Q k) → alB n P = alB n Q
  | 0, _ => rfl
  | n + 1, h => by
    show (alB n P && P n) = (alB n Q && Q n)
    rw [alB_cong (fun k hk => h k (by omega)), h n (by omega)]
def RSq (nb : Nat → Nat) (ff n : Nat) (bb : Nat → Nat) (way m : Nat) : Nat → Bool := fun q => decide (dsN (nb way) (bb m) + ff * d4 n way m ≤ dsN (nb (way - d4 n way m * 4 ^ (n - 1 - m) + q * 4 ^ (n - 1 - m))) (bb m) + ff * q)
def RSm (nb : Nat → Nat) (ff n : Nat) (bb : Nat → Nat) (way : Nat) : Nat → Bool := fun m => alB 4 (RSq nb ff n bb way m)
/-- no one would come otherwise -/
def RSb (nb : Nat → Nat) (ff n : Nat) (bb : Nat → Nat) : Nat → Bool := fun way => alB n (RSm nb ff n bb way)
def cnt (P : Nat → Bool) : Nat → Nat
  | 0 => 0
  | k + 1 => if P k = true then cnt P k + 1 else cnt P k
theorem cnt_le (P : Nat → Bool) : ∀ k, cnt P k ≤ k
  | 0 => Nat.le_refl 0
  | k + 1 => by
    have := cnt_le P k
    show (if P k = true then cnt P k + 1 else cnt P k) ≤ k + 1
    split <;> omega
theorem cnt_mono (P : Nat → Bool) : ∀ {a b : Nat}, a ≤ b → cnt P a ≤ cnt P b
  | a, 0, h => by rw [show a = 0 by omega]; exact Nat.le_refl _
  | a, b + 1, h => by
    rcases Nat.lt_or_ge b a with q | q
    · rw [show a = b + 1 by omega]; exact Nat.le_refl _
    · have := cnt_mono P q
      show _ ≤ (if P b = true then cnt P b + 1 else cnt P b)
      split <;> omega
theorem cnt_cong {P Q : Nat → Bool} : ∀ {n : Nat}, (∀ k, k < n → P k = Q k) → cnt P n = cnt Q n
  | 0, _ => rfl
  | n + 1, h => by
    show (if P n = true then cnt P n + 1 else cnt P n) = (if Q n = true then cnt Q n + 1 else cnt Q n)
    rw [cnt_cong (fun k hk => h k (by omega)), h n (by omega)]
/-- what is answered of those ways that P has -/
def ATI (P : Nat → Bool) (dg : Nat → Int32) (y : Int32) (K : Nat) (r : Int32) : Prop :=
  (y = (-1) ∧ r = nI (cnt P K)) ∨ (∃ k, k < K ∧ P k = true ∧ nI (cnt P k) = y ∧ r = dg k) ∨ (¬ y = (-1) ∧ (∀ k, k < K → ¬ (P k = true ∧ nI (cnt P k) = y)) ∧ r = (-6))
theorem nI_nm1 {k : Nat} (h : k < 2147483648) : ¬ nI k = (-1 : Int32) := fun e => by
  have := congrArg Int32.toInt e
  rw [nI_toInt h, show (-1 : Int32).toInt = -1 by decide] at this
  omega
theorem ATI_one {P : Nat → Bool} {dg : Nat → Int32} {y : Int32} {K : Nat} {r1 r2 : Int32} (hK : K < 2147483648) (h : ATI P dg y K r1) (g : ATI P dg y K r2) : r1 = r2 := by
  have nm : ∀ k, k < K → ¬ nI (cnt P k) = (-1 : Int32) := fun k hk => nI_nm1 (by have := cnt_le P k; omega)
  have un : ∀ a b, a < K → b < K → P a = true → P b = true → nI (cnt P a) = y → nI (cnt P b) = y → a = b := fun a b ha hb pa pb ea eb => by
    have l1 := cnt_le P a
    have l2 := cnt_le P b
    have e : cnt P a = cnt P b := (nI_eq (by omega) (by omega)).mp (ea.trans eb.symm)
    have s1 : ∀ q, P q = true → cnt P (q + 1) = cnt P q + 1 := fun q hq => if_pos hq
    rcases Nat.lt_trichotomy a b with q | q | q
    · have := cnt_mono P (show a + 1 ≤ b from q); rw [s1 a pa] at this; omega
    · exact q
    · have := cnt_mono P (show b + 1 ≤ a from q); rw [s1 b pb] at this; omega
  rcases h with ⟨a1, a2⟩ | ⟨k, a1, a2, a3, a4⟩ | ⟨a1, a2, a3⟩ <;> rcases g with ⟨b1, b2⟩ | ⟨j, b1, b2, b3, b4⟩ | ⟨b1, b2, b3⟩
  · rw [a2, b2]
  · exact absurd (b3.trans a1) (nm j b1)
  · exact absurd a1 b1
  · exact absurd (a3.trans b1) (nm k a1)
  · rw [a4, b4, un k j a1 b1 a2 b2 a3 b3]
  · exact absurd ⟨a2, a3⟩ (b2 k a1)
  · exact absurd b1 a1
  · exact absurd ⟨b2, b3⟩ (a2 j b1)
  · rw [a3, b3]
theorem ATI_cong {P Q : Nat → Bool} {dg : Nat → Int32} {y : Int32} {K : Nat} {r : Int32} (e : ∀ k, k < K → P k = Q k) (h : ATI P dg y K r) : ATI Q dg y K r := by
  have ec : ∀ k, k ≤ K → cnt P k = cnt Q k := fun k hk => cnt_cong (fun j hj => e j (by omega))
  rcases h with ⟨a1, a2⟩ | ⟨k, a1, a2, a3, a4⟩ | ⟨a1, a2, a3⟩
  · exact Or.inl ⟨a1, by rw [a2, ec K (Nat.le_refl K)]⟩
  · exact Or.inr (Or.inl ⟨k, a1, by rw [← e k a1]; exact a2, by rw [← ec k (by omega)]; exact a3, a4⟩)
  · exact Or.inr (Or.inr ⟨a1, fun k hk z => a2 k hk ⟨by rw [e k hk]; exact z.1, by rw [ec k (by omega)]; exact z.2⟩, a3⟩)
def dgN (n way : Nat) : Nat → Nat
  | 0 => 0
  | m + 1 => 10 * dgN n way m + d4 n way m
/-- the next hour, all as late as a way says -/
def nbN (G : (Nat → Int32) → Int32 → Int32) (n x : Nat) (way : Nat) : Nat := (G (fun m => nI (d4 n way m)) (nI x)).toNatClampNeg
theorem nbN_eq {G : (Nat → Int32) → Int32 → Int32} (hG : ∀ f, FR (G f)) (n x way : Nat) : G (fun m => nI (d4 n way m)) (nI x) = nI (nbN G n x way) := by
  obtain ⟨k, h1, h2⟩ := hG (fun m => nI (d4 n way m)) (nI x)
  unfold nbN
  rw [h2, nI_clamp (by omega)]
theorem nbN_le {G : (Nat → Int32) → Int32 → Int32} (hG : ∀ f, FR (G f)) (n x way : Nat) : nbN G n x way ≤ 23 := by
  obtain ⟨k, h1, h2⟩ := hG (fun m => nI (d4 n way m)) (nI x)
  unfold nbN
  rw [h2, nI_clamp (by omega)]
  exact h1
theorem fb_n {fb : Nat → Int32} {n : Nat} (h : ∀ j, j < n → ∃ b : Nat, b ≤ 23 ∧ fb j = nI b) (j : Nat) (hj : j < n) : fb j = nI (fb j).toNatClampNeg ∧ (fb j).toNatClampNeg ≤ 23 := by
  obtain ⟨b, h1, h2⟩ := h j hj
  rw [h2, nI_clamp (by omega)]
  exact ⟨rfl, h1⟩
/-- one digit put for another -/
theorem dig_put {a l p q : Nat} (h : l * p ≤ a) : nI a + (nI q - nI l) * nI p = nI (a - l * p + q * p) := by
  have em : ∀ x z : Nat, nI x * nI z = nI (x * z) := fun x z => (Int32.ofNat_mul x z).symm
  have e1 : nI a = nI (a - l * p) + nI l * nI p := by
    rw [em, nI_add, Nat.sub_add_cancel h]
  rw [← nI_add, ← em, e1]
  generalize nI (a - l * p) = A
  generalize nI l = B
  generalize nI p = C
  generalize nI q = E
  show A + B * C + (E - B) * C = A + E * C
  grind
theorem nm1_le {k : Nat} (h : k < 2147483648) : (-1 : Int32) ≤ nI k := by
  rw [Int32.le_iff_toInt_le, nI_toInt h, show (-1 : Int32).toInt = -1 by decide]
  omega
theorem m1_eq {y : Int32} (h : (-1) ≤ y) (h2 : ¬ 0 ≤ y) : y = (-1) := by
  rw [Int32.le_iff_toInt_le] at h h2
  rw [show (-1 : Int32).toInt = -1 by decide] at h
  rw [i0I] at h2
  apply Int32.toInt_inj.mp
  rw [show (-1 : Int32).toInt = -1 by decide]
  omega

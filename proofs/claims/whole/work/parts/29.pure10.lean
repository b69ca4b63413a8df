/-! PURE WORDS, tenth: choice by counting all ways -/
def v6 (w code k : Nat) : Nat := code / 6 ^ (w - 1 - k) % 6
def hq6 (F : Nat → Int32 → Int32) (w code h0 : Nat) : Nat → Nat
  | 0 => h0
  | k + 1 => nxN F (v6 w code k) (hq6 F w code h0 k)
def c6 (F : Nat → Int32 → Int32) (ff bb w code h0 : Nat) : Nat → Nat
  | 0 => 0
  | k + 1 => c6 F ff bb w code h0 k + (dsN (hq6 F w code h0 (k + 1)) bb + ff * v6 w code k)
def S6 (F : Nat → Int32 → Int32) (ff bb : Nat) : Nat → Nat → Nat → Nat
  | 0, _, _ => 0
  | W + 1, h, code => cN F ff bb (code / 6 ^ W) h + S6 F ff bb W (nxN F (code / 6 ^ W) h) (code % 6 ^ W)
def B6 (F : Nat → Int32 → Int32) (ff bb : Nat) : Nat → Nat → Nat
  | 0, _ => 0
  | W + 1, h => Pc F ff bb W h * 6 ^ W + B6 F ff bb W (nxN F (Pc F ff bb W h) h)
theorem p6_pos (k : Nat) : 0 < 6 ^ k := Nat.pos_pow_of_pos' k
  where Nat.pos_pow_of_pos' : ∀ k : Nat, 0 < 6 ^ k
    | 0 => by decide
    | k + 1 => by rw [Nat.pow_succ]; exact Nat.mul_pos (Nat.pos_pow_of_pos' k) (by decide)
theorem p6_le {k : Nat} (h : k ≤ 4) : 6 ^ k ≤ 1296 := by
  rcases (show k = 0 ∨ k = 1 ∨ k = 2 ∨ k = 3 ∨ k = 4 by omega) with rfl | rfl | rfl | rfl | rfl <;> decide
theorem p6_div {w k : Nat} (h : k < w) : 6 ^ (w - k) / 6 = 6 ^ (w - 1 - k) := by
  rw [show w - k = w - 1 - k + 1 by omega, Nat.pow_succ, Nat.mul_div_cancel _ (by decide)]
theorem v6_le (w code k : Nat) : v6 w code k ≤ 5 := by
  have : code / 6 ^ (w - 1 - k) % 6 < 6 := Nat.mod_lt _ (by decide)
  unfold v6
  omega
theorem h6_le {F : Nat → Int32 → Int32} (hF : ∀ v, FR (F v)) {w code h0 : Nat} (h : h0 ≤ 23) : ∀ k, hq6 F w code h0 k ≤ 23
  | 0 => h
  | k + 1 => nxN_le hF _ _
theorem c6_le {F : Nat → Int32 → Int32} (hF : ∀ v, FR (F v)) {ff bb w code h0 : Nat} (hff : ff ≤ 9) (hbb : bb ≤ 23) : ∀ k, c6 F ff bb w code h0 k ≤ 68 * k
  | 0 => Nat.le_refl 0
  | k + 1 => by
    have ih := c6_le hF (w := w) (code := code) (h0 := h0) hff hbb k
    have h1 : cN F ff bb (v6 w code k) (hq6 F w code h0 k) ≤ 68 := cN_le hF hff hbb (v6_le _ _ _)
    have h2 : c6 F ff bb w code h0 (k + 1) = c6 F ff bb w code h0 k + cN F ff bb (v6 w code k) (hq6 F w code h0 k) := rfl
    omega
theorem c6_S {F : Nat → Int32 → Int32} {ff bb w code h0 : Nat} (hc : code < 6 ^ w) : ∀ k, k ≤ w → c6 F ff bb w code h0 k + S6 F ff bb (w - k) (hq6 F w code h0 k) (code % 6 ^ (w - k)) = S6 F ff bb w h0 code
  | 0, _ => by
    show 0 + S6 F ff bb (w - 0) h0 (code % 6 ^ (w - 0)) = _
    rw [Nat.sub_zero, Nat.mod_eq_of_lt hc, Nat.zero_add]
  | k + 1, h => by
    have ih := c6_S (F := F) (ff := ff) (bb := bb) (h0 := h0) hc k (by omega)
    rw [← ih]
    have e : w - k = (w - 1 - k) + 1 := by omega
    have e2 : w - (k + 1) = w - 1 - k := by omega
    rw [e2, e]
    have d1 : code % 6 ^ (w - 1 - k + 1) / 6 ^ (w - 1 - k) = v6 w code k := by
      rw [Nat.pow_succ, Nat.mod_mul_right_div_self]; rfl
    have d2 : code % 6 ^ (w - 1 - k + 1) % 6 ^ (w - 1 - k) = code % 6 ^ (w - 1 - k) := Nat.mod_mod_of_dvd _ (by rw [Nat.pow_succ]; exact Nat.dvd_mul_right _ _)
    show c6 F ff bb w code h0 k + cN F ff bb (v6 w code k) (hq6 F w code h0 k) + S6 F ff bb (w - 1 - k) (nxN F (v6 w code k) (hq6 F w code h0 k)) (code % 6 ^ (w - 1 - k)) = c6 F ff bb w code h0 k + (cN F ff bb (code % 6 ^ (w - 1 - k + 1) / 6 ^ (w - 1 - k)) (hq6 F w code h0 k) + S6 F ff bb (w - 1 - k) (nxN F (code % 6 ^ (w - 1 - k + 1) / 6 ^ (w - 1 - k)) (hq6 F w code h0 k)) (code % 6 ^ (w - 1 - k + 1) % 6 ^ (w - 1 - k)))
    rw [d1, d2, Nat.add_assoc]
theorem c6_all {F : Nat → Int32 → Int32} {ff bb w code h0 : Nat} (hc : code < 6 ^ w) : c6 F ff bb w code h0 w = S6 F ff bb w h0 code := by
  have := c6_S (F := F) (ff := ff) (bb := bb) (h0 := h0) hc w (Nat.le_refl w)
  rw [Nat.sub_self] at this
  exact this
theorem B6_lt {F : Nat → Int32 → Int32} (hF : ∀ v, FR (F v)) {ff bb : Nat} (hff : ff ≤ 9) (hbb : bb ≤ 23) : ∀ W h, W ≤ 4 → B6 F ff bb W h < 6 ^ W
  | 0, _, _ => by show 0 < 6 ^ 0; decide
  | W + 1, h, hW => by
    have h1 := B6_lt hF hff hbb W (nxN F (Pc F ff bb W h) h) (by omega)
    have h2 := Pc_lt F hF hff hbb (h := h) (show W ≤ 3 by omega)
    have h3 : Pc F ff bb W h * 6 ^ W ≤ 5 * 6 ^ W := Nat.mul_le_mul_right _ (by omega)
    show Pc F ff bb W h * 6 ^ W + B6 F ff bb W (nxN F (Pc F ff bb W h) h) < 6 ^ (W + 1)
    rw [Nat.pow_succ]
    omega
theorem dm6 {P B W : Nat} (h : B < 6 ^ W) : (P * 6 ^ W + B) / 6 ^ W = P ∧ (P * 6 ^ W + B) % 6 ^ W = B := by
  have hp := p6_pos W
  constructor
  · rw [Nat.mul_comm, Nat.mul_add_div hp, Nat.div_eq_of_lt h, Nat.add_zero]
  · rw [Nat.mul_comm, Nat.mul_add_mod, Nat.mod_eq_of_lt h]
theorem B6_ok {F : Nat → Int32 → Int32} (hF : ∀ v, FR (F v)) {ff bb : Nat} (hff : ff ≤ 9) (hbb : bb ≤ 23) : ∀ W h, W ≤ 4 → (∀ code, code < 6 ^ W → Vc F ff bb W h ≤ S6 F ff bb W h code) ∧ S6 F ff bb W h (B6 F ff bb W h) = Vc F ff bb W h ∧ ∀ code, code < B6 F ff bb W h → Vc F ff bb W h < S6 F ff bb W h code
  | 0, h, _ => ⟨fun _ _ => Nat.le_refl 0, rfl, fun code hc => absurd hc (Nat.not_lt_zero code)⟩
  | W + 1, h, hW => by
    have hp := p6_pos W
    obtain ⟨m1, m2⟩ := mnV_ok 1000000 (Gc F ff bb W h) 6 (fun v hv => by have := Gc_le hF hff hbb (h := h) (show W ≤ 3 by omega) (show v ≤ 5 by omega); omega)
    obtain ⟨m3, m4, m5⟩ := m2 (by omega)
    have dv : ∀ code, code < 6 ^ (W + 1) → code / 6 ^ W < 6 := fun code hc => by
      rw [Nat.pow_succ] at hc
      exact Nat.div_lt_of_lt_mul hc
    have lo : ∀ code, code < 6 ^ (W + 1) → Gc F ff bb W h (code / 6 ^ W) ≤ S6 F ff bb (W + 1) h code := fun code hc => by
      have h1 := (B6_ok hF hff hbb W (nxN F (code / 6 ^ W) h) (by omega)).1 (code % 6 ^ W) (Nat.mod_lt _ hp)
      show cN F ff bb (code / 6 ^ W) h + Vc F ff bb W (nxN F (code / 6 ^ W) h) ≤ cN F ff bb (code / 6 ^ W) h + S6 F ff bb W (nxN F (code / 6 ^ W) h) (code % 6 ^ W)
      omega
    have hB := B6_lt hF hff hbb W (nxN F (Pc F ff bb W h) h) (by omega)
    obtain ⟨d1, d2⟩ := dm6 (P := Pc F ff bb W h) hB
    refine ⟨fun code hc => Nat.le_trans (m1 _ (dv code hc)) (lo code hc), ?_, fun code hc => ?_⟩
    · show cN F ff bb ((Pc F ff bb W h * 6 ^ W + B6 F ff bb W (nxN F (Pc F ff bb W h) h)) / 6 ^ W) h + S6 F ff bb W (nxN F ((Pc F ff bb W h * 6 ^ W + B6 F ff bb W (nxN F (Pc F ff bb W h) h)) / 6 ^ W) h) ((Pc F ff bb W h * 6 ^ W + B6 F ff bb W (nxN F (Pc F ff bb W h) h)) % 6 ^ W) = _
      rw [d1, d2, (B6_ok hF hff hbb W (nxN F (Pc F ff bb W h) h) (by omega)).2.1]
      exact m4
    · have hc2 : code < 6 ^ (W + 1) := Nat.lt_trans hc (B6_lt hF hff hbb (W + 1) h hW)
      have hc' : code < Pc F ff bb W h * 6 ^ W + B6 F ff bb W (nxN F (Pc F ff bb W h) h) := hc
      have hle : code / 6 ^ W ≤ Pc F ff bb W h := by
        rw [← d1]; exact Nat.div_le_div_right (Nat.le_of_lt hc')
      rcases Nat.lt_or_ge (code / 6 ^ W) (Pc F ff bb W h) with q | q
      · exact Nat.lt_of_lt_of_le (m5 _ q) (lo code hc2)
      · have e : code / 6 ^ W = Pc F ff bb W h := by omega
        have hr : code % 6 ^ W < B6 F ff bb W (nxN F (Pc F ff bb W h) h) := by
          have h9 := Nat.div_add_mod code (6 ^ W)
          rw [e, Nat.mul_comm] at h9
          omega
        have h1 := (B6_ok hF hff hbb W (nxN F (Pc F ff bb W h) h) (by omega)).2.2 _ hr
        show (mnV 1000000 (Gc F ff bb W h) 6).1 < cN F ff bb (code / 6 ^ W) h + S6 F ff bb W (nxN F (code / 6 ^ W) h) (code % 6 ^ W)
        rw [e, ← m4]
        show cN F ff bb (Pc F ff bb W h) h + Vc F ff bb W (nxN F (Pc F ff bb W h) h) < _
        omega
/-- all ways counted come to what is picked week by week -/
theorem all6 {F : Nat → Int32 → Int32} (hF : ∀ v, FR (F v)) {ff bb w h0 : Nat} (hff : ff ≤ 9) (hbb : bb ≤ 23) (hw : w ≤ 4) : mnV 1000000 (fun z8 => c6 F ff bb w z8 h0 w) (6 ^ w) = (Vc F ff bb w h0, B6 F ff bb w h0) := by
  obtain ⟨h1, h2, h3⟩ := B6_ok hF hff hbb w h0 hw
  have hB := B6_lt hF hff hbb w h0 hw
  refine mnV_one (fun v hv => ?_) hB ?_ (fun v hv => ?_) (fun v hv => ?_)
  · have := c6_le hF (w := w) (code := v) (h0 := h0) hff hbb w
    show c6 F ff bb w v h0 w < 1000000
    omega
  · show c6 F ff bb w _ h0 w = _
    rw [c6_all hB, h2]
  · show _ ≤ c6 F ff bb w v h0 w
    rw [c6_all hv]; exact h1 v hv
  · show _ < c6 F ff bb w v h0 w
    rw [c6_all (Nat.lt_trans hv hB)]; exact h3 v hv
theorem B6_mod {F : Nat → Int32 → Int32} (hF : ∀ v, FR (F v)) {ff bb w h0 : Nat} (hff : ff ≤ 9) (hbb : bb ≤ 23) (hw : w ≤ 4) : ∀ i, i ≤ w → B6 F ff bb w h0 % 6 ^ (w - i) = B6 F ff bb (w - i) (gqN F ff bb w h0 i)
  | 0, _ => by rw [Nat.sub_zero, Nat.mod_eq_of_lt (B6_lt hF hff hbb w h0 hw)]; rfl
  | i + 1, h => by
    have ih := B6_mod hF (h0 := h0) hff hbb hw i (by omega)
    have e : w - i = (w - 1 - i) + 1 := by omega
    have e2 : w - (i + 1) = w - 1 - i := by omega
    rw [e2]
    rw [e] at ih
    have hB := B6_lt hF hff hbb (w - 1 - i) (nxN F (Pc F ff bb (w - 1 - i) (gqN F ff bb w h0 i)) (gqN F ff bb w h0 i)) (by omega)
    have h9 := (dm6 (P := Pc F ff bb (w - 1 - i) (gqN F ff bb w h0 i)) hB).2
    have h8 : B6 F ff bb w h0 % 6 ^ (w - 1 - i + 1) % 6 ^ (w - 1 - i) = B6 F ff bb w h0 % 6 ^ (w - 1 - i) := Nat.mod_mod_of_dvd _ (by rw [Nat.pow_succ]; exact Nat.dvd_mul_right _ _)
    rw [← h8, ih]
    exact h9
theorem B6_dig {F : Nat → Int32 → Int32} (hF : ∀ v, FR (F v)) {ff bb w h0 i : Nat} (hff : ff ≤ 9) (hbb : bb ≤ 23) (hw : w ≤ 4) (hi : i < w) : B6 F ff bb w h0 / 6 ^ (w - 1 - i) % 6 = Pc F ff bb (w - 1 - i) (gqN F ff bb w h0 i) := by
  have ih := B6_mod hF (h0 := h0) hff hbb hw i (by omega)
  have e : w - i = (w - 1 - i) + 1 := by omega
  rw [e] at ih
  have hB := B6_lt hF hff hbb (w - 1 - i) (nxN F (Pc F ff bb (w - 1 - i) (gqN F ff bb w h0 i)) (gqN F ff bb w h0 i)) (by omega)
  have h9 := (dm6 (P := Pc F ff bb (w - 1 - i) (gqN F ff bb w h0 i)) hB).1
  rw [← Nat.mod_mul_right_div_self, ← Nat.pow_succ, ih]
  exact h9
theorem m1_ge {y : Int32} (h : (-1) ≤ y) (hn : ¬ y = (-1)) : nI 0 ≤ y := by
  rw [Int32.le_iff_toInt_le] at h ⊢
  rw [nI0I]
  have h1 : (-1 : Int32).toInt = -1 := by decide
  rw [h1] at h
  have h2 : y.toInt ≠ -1 := fun z => hn (Int32.toInt_inj.mp (by rw [z, h1]))
  omega

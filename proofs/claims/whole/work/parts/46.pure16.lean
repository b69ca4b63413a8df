/-! PURE WORDS, sixteenth: years, sets and rain, in common -/
theorem nI_mulN (a b : Nat) : nI a * nI b = nI (a * b) := (Int32.ofNat_mul a b).symm
theorem xq_n {s : Nat} (hs : s ≤ 65536) : ∀ k, ∃ v : Nat, v ≤ 65536 ∧ xq (nI s) k = nI v
  | 0 => ⟨s, hs, rfl⟩
  | k + 1 => by
    obtain ⟨v, v1, v2⟩ := xq_n hs k
    refine ⟨(75 * v + 74) % 65537, by have := Nat.mod_lt (75 * v + 74) (show 0 < 65537 by decide); omega, ?_⟩
    show nxtX (xq (nI s) k) = _
    unfold nxtX
    rw [v2, nI_mulN, nI_add]
    exact pk_rem (by omega) (by decide) (by decide)
theorem laq_RNG {s : Nat} (hs : s ≤ 65536) {fl : Nat → Int32} {n : Nat} (hl : RNG n 5 fl) (k : Nat) : RNG n 100 (laq (nI s) fl n k) := fun j hj => by
  obtain ⟨a, a1, a2⟩ := hl j hj
  obtain ⟨v, v1, v2⟩ := xq_n hs (k * n + j + 1)
  have h3 := Nat.mod_lt v (show 0 < 3 by decide)
  refine ⟨a + v % 3, by omega, ?_⟩
  show fl j + rm3 (xq (nI s) (k * n + j + 1)) = _
  unfold rm3
  rw [v2, a2, pk_rem (by omega) (by decide) (by decide), nI_add]
theorem laq_eq {sd : Int32} {fl fl8 : Nat → Int32} {n : Nat} (el : ∀ j, j < n → fl j = fl8 j) (k : Nat) : ∀ j, j < n → laq sd fl n k j = laq sd fl8 n k j := fun j hj => by
  show fl j + rm3 (xq sd (k * n + j + 1)) = fl8 j + rm3 (xq sd (k * n + j + 1))
  rw [el j hj]
theorem fsM_eq (fi : Int32) {g g8 : Nat → Int32} (a : Int32) : ∀ {n : Nat}, (∀ j, j < n → g j = g8 j) → fsM fi g a n = fsM fi g8 a n
  | 0, _ => rfl
  | n + 1, h => by
    show fsM fi g a n + fi * g n = fsM fi g8 a n + fi * g8 n
    rw [fsM_eq fi a (fun j hj => h j (by omega)), h n (by omega)]
theorem fsW_eq (fi sd : Int32) {fl fl8 : Nat → Int32} {n : Nat} (el : ∀ j, j < n → fl j = fl8 j) : ∀ k, fsW fi sd fl n k = fsW fi sd fl8 n k
  | 0 => rfl
  | k + 1 => by
    show fsM fi (laq sd fl n k) (fsW fi sd fl n k) n = fsM fi (laq sd fl8 n k) (fsW fi sd fl8 n k) n
    rw [fsW_eq fi sd el k, fsM_eq fi _ (laq_eq el k)]
theorem yh_eq {F G : (Nat → Int32) → Int32 → Int32} {s n : Nat} {fl fl8 : Nat → Int32} (hF : ∀ f, FR (F f)) (e : ∀ (k h : Nat), h ≤ 23 → F (laq (nI s) fl n k) (nI h) = G (laq (nI s) fl8 n k) (nI h)) {h0 : Nat} (hh : h0 ≤ 23) : ∀ k, (∃ v : Nat, v ≤ 23 ∧ yhq F (nI s) fl n (nI h0) k = nI v) ∧ yhq F (nI s) fl n (nI h0) k = yhq G (nI s) fl8 n (nI h0) k
  | 0 => ⟨⟨h0, hh, rfl⟩, rfl⟩
  | k + 1 => by
    obtain ⟨⟨v, v1, v2⟩, i2⟩ := yh_eq hF e hh k
    refine ⟨hF _ _, ?_⟩
    show F (laq (nI s) fl n k) (yhq F (nI s) fl n (nI h0) k) = G (laq (nI s) fl8 n k) (yhq G (nI s) fl8 n (nI h0) k)
    rw [← i2, v2]
    exact e k v v1
theorem ym_eq {F G : (Nat → Int32) → Int32 → Int32} {sd h0 : Int32} {n : Nat} {fl fl8 : Nat → Int32} (e : ∀ k, yhq F sd fl n h0 k = yhq G sd fl8 n h0 k) : ∀ k, ymq F sd fl n h0 k = ymq G sd fl8 n h0 k
  | 0 => rfl
  | k + 1 => by
    show mxI (ymq F sd fl n h0 k) (yhq F sd fl n h0 (k + 1)) = mxI (ymq G sd fl8 n h0 k) (yhq G sd fl8 n h0 (k + 1))
    rw [ym_eq e k, e (k + 1)]
/-- who can move the hour is the same by both next hours -/
theorem Rq_FG {F G : (Nat → Int32) → Int32 → Int32} {x w g : Nat} {f : Nat → Nat} (hF : ∀ f, FR (F f)) (hx : x ≤ 23) (e : ∀ k : Nat, k ≤ 23 → F (fun m => nI (f m)) (nI k) = G (fun m => nI (f m)) (nI k)) : Rq F x w g f = Rq G x w g f := by
  unfold Rq
  rw [hsq_cong (hF _) hx e]
theorem f6_le {tl : Nat → Nat} {n s q : Nat} (ht : ∀ j, j < n → tl j ≤ 5) : ∀ j, j < n → f6 tl s q j ≤ 5 := fun j hj => by
  unfold f6
  have := Nat.mod_lt (q / 6 ^ cnt (btm s) j) (show 0 < 6 by decide)
  split
  · omega
  · exact ht j hj
theorem f6_tl {tl tl8 : Nat → Nat} {s q j : Nat} (h : tl j = tl8 j) : f6 tl s q j = f6 tl8 s q j := by unfold f6; rw [h]
theorem nx1_cong {F G : Int32 → Int32} {h : Nat} (e : F (nI h) = G (nI h)) : nx1 F h = nx1 G h := by unfold nx1; rw [e]
theorem hsq_FG {F G : Int32 → Int32} (hF : FR F) {h0 : Nat} (hh : h0 ≤ 23) (e : ∀ k : Nat, k ≤ 23 → F (nI k) = G (nI k)) : hsq F h0 = hsq G h0 := funext (hsq_cong hF hh e)
theorem rk_FG {F G : Int32 → Int32} (hF : FR F) {h0 : Nat} (hh : h0 ≤ 23) (e : ∀ k : Nat, k ≤ 23 → F (nI k) = G (nI k)) : rkF F h0 = rkF G h0 := by
  unfold rkF RK
  rw [hsq_FG hF hh e]
theorem TD_any (x : Nat → Nat) : ∀ n, inj x n ∨ ∃ w a, TD x w a
  | 0 => Or.inl inj_0
  | n + 1 => by
    rcases TD_any x n with h | h
    · by_cases c : ∃ a, a < n ∧ x a = x n
      · obtain ⟨a, a1, a2⟩ := c
        exact Or.inr ⟨n, a, a1, a2, h⟩
      · exact Or.inl (inj_s h (fun k hk z => c ⟨k, hk, z⟩))
    · exact Or.inr h
theorem MN_any (x : Nat → Nat) (a : Nat) : ∀ d, ∃ m, MN x a (a + (d + 1)) m
  | 0 => ⟨x a, ⟨a, Nat.le_refl a, by omega, rfl⟩, fun k h1 h2 => by rw [show k = a by omega]; exact Nat.le_refl _⟩
  | d + 1 => by
    obtain ⟨m, ⟨k, k1, k2, k3⟩, h2⟩ := MN_any x a d
    by_cases c : m ≤ x (a + (d + 1))
    · refine ⟨m, ⟨k, k1, by omega, k3⟩, fun j j1 j2 => ?_⟩
      rcases Nat.lt_or_ge j (a + (d + 1)) with q | q
      · exact h2 j j1 q
      · rw [show j = a + (d + 1) by omega]; exact c
    · refine ⟨x (a + (d + 1)), ⟨a + (d + 1), by omega, by omega, rfl⟩, fun j j1 j2 => ?_⟩
      rcases Nat.lt_or_ge j (a + (d + 1)) with q | q
      · have := h2 j j1 q; omega
      · rw [show j = a + (d + 1) by omega]; exact Nat.le_refl _
theorem rk_rng {F : Int32 → Int32} (hF : FR F) {h0 : Nat} (hh : h0 ≤ 23) : rkF F h0 = (-6) ∨ ∃ k : Nat, k ≤ 23 ∧ rkF F h0 = nI k := by
  have hx := hsq_le hF hh
  rcases TD_any (hsq F h0) 25 with h | ⟨w, a, h⟩
  · have := inj_24 h hx; omega
  · obtain ⟨m, hm⟩ := MN_any (hsq F h0) a (w - a - 1)
    have hw := h.1
    rw [show a + (w - a - 1 + 1) = w by omega] at hm
    have e := rkF_eq (F := F) (h0 := h0) (v := if w - a = 1 then nI m else (-6)) ⟨w, a, m, ⟨h, hm⟩, rfl⟩
    by_cases c : w - a = 1
    · rw [if_pos c] at e
      obtain ⟨k, -, -, k3⟩ := hm.1
      exact Or.inr ⟨m, by rw [← k3]; exact hx k, e.symm⟩
    · rw [if_neg c] at e
      exact Or.inl e.symm
theorem P6_FG {F G : (Nat → Int32) → Int32 → Int32} {n : Nat} (hF : ∀ f, FR (F f)) (hG : ∀ f1 f2 : Nat → Int32, (∀ j, j < n → f1 j = f2 j) → G f1 = G f2) {tl tl8 : Nat → Nat} (ht : ∀ j, j < n → tl j ≤ 5) (htt : ∀ j, j < n → tl j = tl8 j) {x w g : Nat} (hx : x ≤ 23) (e : ∀ f, RNG n 100 f → ∀ k : Nat, k ≤ 23 → F f (nI k) = G f (nI k)) (s : Nat) : P6 F tl x w g s ↔ P6 G tl8 x w g s := by
  refine exists_congr fun q => and_congr_right fun _ => ?_
  have e1 : Rq F x w g (f6 tl s q) = Rq G x w g (f6 tl s q) := Rq_FG hF hx (e _ (fun j hj => ⟨f6 tl s q j, by have := f6_le (s := s) (q := q) ht j hj; omega, rfl⟩))
  have e2 : Rq G x w g (f6 tl s q) = Rq G x w g (f6 tl8 s q) := Rq_cong hG (fun j hj => f6_tl (htt j hj))
  rw [e1, e2]
theorem mv_eq {F G : (Nat → Int32) → Int32 → Int32} {n : Nat} (hn : n ≤ 6) (hF : ∀ f, FR (F f)) (hFc : ∀ f1 f2 : Nat → Int32, (∀ j, j < n → f1 j = f2 j) → F f1 = F f2) (hG : ∀ f1 f2 : Nat → Int32, (∀ j, j < n → f1 j = f2 j) → G f1 = G f2) {tl tl8 : Nat → Nat} (ht : ∀ j, j < n → tl j ≤ 5) (htt : ∀ j, j < n → tl j = tl8 j) {x w g : Nat} (hx : x ≤ 23) (e : ∀ f, RNG n 100 f → ∀ k : Nat, k ≤ 23 → F f (nI k) = G f (nI k)) {r1 r2 : Int32}
    (h : LM (fun s => P5 F tl x w g s) (2 ^ n) r1) (k : LM (fun s => P6 G tl8 x w g s) (2 ^ n) r2) : r1 = r2 :=
  LM_one (fun s _ h5 => P56 hn hFc ht h5) (fun s hs h6 => P65 hn hFc ht hs h6) h (LM_cong (fun s _ => (P6_FG hF hG ht htt hx e s).symm) k)

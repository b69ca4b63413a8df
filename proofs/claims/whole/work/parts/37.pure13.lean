/-! PURE WORDS, thirteenth: rain -/
def nL (n : Nat) : Int64 := Int64.ofNat n
theorem nL_toInt {n : Nat} (h : n < 9223372036854775808) : (nL n).toInt = n := lg_ofNat_toInt h
theorem nL_add (a b : Nat) : nL a + nL b = nL (a + b) := (Int64.ofNat_add a b).symm
theorem nL_mul (a b : Nat) : nL a * nL b = nL (a * b) := (Int64.ofNat_mul a b).symm
theorem nI_L {n : Nat} (h : n < 2147483648) : (nI n).toInt64 = nL n := Int64.toInt_inj.mp (by rw [Int32.toInt_toInt64, nI_toInt h, nL_toInt (by omega)])
theorem nL_eq {a b : Nat} (ha : a < 9223372036854775808) (hb : b < 9223372036854775808) : nL a = nL b ↔ a = b :=
  ⟨fun h => by have := congrArg Int64.toInt h; rw [nL_toInt ha, nL_toInt hb] at this; omega, fun h => by rw [h]⟩
theorem nL_ne0 {d : Nat} (h : 1 ≤ d) (hd : d < 9223372036854775808) : ¬ nL d = 0 := fun e => by
  have := (nL_eq hd (by omega)).mp (e.trans (show (0 : Int64) = nL 0 from rfl))
  omega
theorem nL_div {a d : Nat} (ha : a < 9223372036854775808) (hd : d < 9223372036854775808) (h : 1 ≤ d) : nL a / nL d = nL (a / d) := by
  apply Int64.toInt_inj.mp
  have e1 := nL_toInt ha
  have e2 := nL_toInt hd
  rw [lg_ldiv_nonneg (by omega) (by omega), e1, e2, nL_toInt (Nat.lt_of_le_of_lt (Nat.div_le_self _ _) ha)]
  rfl
theorem nL_rem {a d : Nat} (ha : a < 9223372036854775808) (hd : d < 9223372036854775808) (h : 1 ≤ d) : nL a - nL a / nL d * nL d = nL (a % d) := by
  rw [nL_div ha hd h, nL_mul]
  have e : a = a % d + a / d * d := by
    have := Nat.div_add_mod a d
    rw [Nat.mul_comm] at this
    omega
  have e2 : nL a = nL (a % d) + nL (a / d * d) := by rw [nL_add, ← e]
  rw [e2, Int64.add_sub_cancel]
theorem lc_eq {x y : Int64} : lg_cmp x y = 0 ↔ x = y := lg_cmp_eq x y
theorem nL_0 : (0 : Int64) = nL 0 := rfl
theorem nL_1 : (1 : Int64) = nL 1 := rfl
theorem nL_10 : (10 : Int64) = nL 10 := rfl
def pwL (x : Int64) : Nat → Int64
  | 0 => 1
  | k + 1 => pwL x k * x
theorem pwL_n (b : Nat) : ∀ k, pwL (nL b) k = nL (b ^ k)
  | 0 => rfl
  | k + 1 => by
    show pwL (nL b) k * nL b = _
    rw [pwL_n b k, nL_mul, Nat.pow_succ]
/-- the hour behind an hour, as a number -/
def nx1 (F : Int32 → Int32) (h : Nat) : Nat := (F (nI h)).toNatClampNeg
theorem nx1_eq {F : Int32 → Int32} (hF : FR F) (h : Nat) : F (nI h) = nI (nx1 F h) := by
  obtain ⟨k, h1, h2⟩ := hF (nI h)
  unfold nx1
  rw [h2, nI_clamp (by omega)]
theorem nx1_le {F : Int32 → Int32} (hF : FR F) (h : Nat) : nx1 F h ≤ 23 := by
  obtain ⟨k, h1, h2⟩ := hF (nI h)
  unfold nx1
  rw [h2, nI_clamp (by omega)]
  exact h1
/-- the mean hour j weeks on, times ten to the j -/
def rnV (D W : Nat → Nat) (t : Nat) : Nat → Nat → Nat
  | 0, h => h
  | j + 1, h => (10 - t) * rnV D W t j (D h) + t * rnV D W t j (W h)
theorem rnV_le {D W : Nat → Nat} (hD : ∀ h, D h ≤ 23) (hW : ∀ h, W h ≤ 23) {t : Nat} (ht : t ≤ 10) : ∀ j h, h ≤ 23 → rnV D W t j h ≤ 23 * 10 ^ j
  | 0, h, hh => by show h ≤ 23 * 10 ^ 0; omega
  | j + 1, h, hh => by
    have h1 := Nat.mul_le_mul_left (10 - t) (rnV_le hD hW ht j (D h) (hD h))
    have h2 := Nat.mul_le_mul_left t (rnV_le hD hW ht j (W h) (hW h))
    show (10 - t) * rnV D W t j (D h) + t * rnV D W t j (W h) ≤ 23 * 10 ^ (j + 1)
    have h3 : (10 - t) * (23 * 10 ^ j) + t * (23 * 10 ^ j) = 23 * 10 ^ (j + 1) := by
      rw [← Nat.add_mul, Nat.sub_add_cancel ht, Nat.pow_succ]
      omega
    omega
theorem rnV_cong {D W D2 W2 : Nat → Nat} {t : Nat} (hD : ∀ h, h ≤ 23 → D h = D2 h) (hW : ∀ h, h ≤ 23 → W h = W2 h) (bD : ∀ h, D h ≤ 23) (bW : ∀ h, W h ≤ 23) : ∀ j h, h ≤ 23 → rnV D W t j h = rnV D2 W2 t j h
  | 0, h, _ => rfl
  | j + 1, h, hh => by
    show (10 - t) * rnV D W t j (D h) + t * rnV D W t j (W h) = (10 - t) * rnV D2 W2 t j (D2 h) + t * rnV D2 W2 t j (W2 h)
    rw [rnV_cong hD hW bD bW j (D h) (bD h), rnV_cong hD hW bD bW j (W h) (bW h), hD h hh, hW h hh]
def smN (f : Nat → Nat) : Nat → Nat
  | 0 => 0
  | k + 1 => smN f k + f k
theorem smN_cong {f g : Nat → Nat} : ∀ {n : Nat}, (∀ k, k < n → f k = g k) → smN f n = smN g n
  | 0, _ => rfl
  | n + 1, h => by
    show smN f n + f n = smN g n + g n
    rw [smN_cong (fun k hk => h k (by omega)), h n (by omega)]
/-- f, and v more at i -/
def adN (f : Nat → Nat) (i v : Nat) : Nat → Nat := fun j => if j = i then f j + v else f j
theorem smN_ad (f : Nat → Nat) (i v : Nat) (g : Nat → Nat) : ∀ n, smN (fun h => adN f i v h * g h) n = smN (fun h => f h * g h) n + (if i < n then v * g i else 0)
  | 0 => rfl
  | n + 1 => by
    show smN (fun h => adN f i v h * g h) n + adN f i v n * g n = smN (fun h => f h * g h) n + f n * g n + _
    rw [smN_ad f i v g n]
    unfold adN
    by_cases e : n = i
    · subst e
      rw [if_pos rfl, if_neg (Nat.lt_irrefl n), if_pos (Nat.lt_succ_self n), Nat.add_mul]
      omega
    · rw [if_neg e]
      by_cases q : i < n
      · rw [if_pos q, if_pos (by omega)]; omega
      · rw [if_neg q, if_neg (by omega)]; omega
/-- one week of rain, the first k hours of it -/
def acN (D W : Nat → Nat) (t : Nat) (f : Nat → Nat) : Nat → (Nat → Nat)
  | 0 => fun _ => 0
  | k + 1 => adN (adN (acN D W t f k) (D k) (f k * (10 - t))) (W k) (f k * t)
theorem adN_0 (f : Nat → Nat) (i : Nat) : adN f i 0 = f := by
  funext j
  unfold adN
  split <;> rfl
theorem acN_z {D W : Nat → Nat} {t : Nat} {f : Nat → Nat} {k : Nat} (h : f k = 0) : acN D W t f (k + 1) = acN D W t f k := by
  show adN (adN (acN D W t f k) (D k) (f k * (10 - t))) (W k) (f k * t) = _
  rw [h, Nat.zero_mul, Nat.zero_mul, adN_0, adN_0]
theorem acN_sm {D W : Nat → Nat} (hD : ∀ h, D h ≤ 23) (hW : ∀ h, W h ≤ 23) (t : Nat) (f g : Nat → Nat) : ∀ k, smN (fun h => acN D W t f k h * g h) 24 = smN (fun h => f h * ((10 - t) * g (D h) + t * g (W h))) k
  | 0 => by
    show smN (fun h => 0 * g h) 24 = 0
    have : ∀ n, smN (fun h => 0 * g h) n = 0 := fun n => by
      induction n with
      | zero => rfl
      | succ n ih => show smN (fun h => 0 * g h) n + 0 * g n = 0; rw [ih, Nat.zero_mul]
    exact this 24
  | k + 1 => by
    show smN (fun h => adN (adN (acN D W t f k) (D k) (f k * (10 - t))) (W k) (f k * t) h * g h) 24 = smN (fun h => f h * ((10 - t) * g (D h) + t * g (W h))) k + f k * ((10 - t) * g (D k) + t * g (W k))
    have h1 := hD k
    have h2 := hW k
    rw [smN_ad, smN_ad, acN_sm hD hW t f g k, if_pos (by omega), if_pos (by omega), Nat.mul_add, Nat.mul_assoc, Nat.mul_assoc, Nat.add_assoc]
def wkN (D W : Nat → Nat) (t h0 : Nat) : Nat → (Nat → Nat)
  | 0 => fun h => if h = h0 then 1 else 0
  | k + 1 => acN D W t (wkN D W t h0 k) 24
theorem wk0_sm (h0 : Nat) (g : Nat → Nat) : ∀ n, smN (fun h => (if h = h0 then 1 else 0) * g h) n = if h0 < n then g h0 else 0
  | 0 => rfl
  | n + 1 => by
    show smN (fun h => (if h = h0 then 1 else 0) * g h) n + (if n = h0 then 1 else 0) * g n = _
    rw [wk0_sm h0 g n]
    by_cases e : n = h0
    · subst e
      rw [if_pos rfl, if_neg (Nat.lt_irrefl n), if_pos (Nat.lt_succ_self n)]
      omega
    · rw [if_neg e]
      by_cases q : h0 < n
      · rw [if_pos q, if_pos (by omega)]; omega
      · rw [if_neg q, if_neg (by omega)]; omega
theorem wkN_sm {D W : Nat → Nat} (hD : ∀ h, D h ≤ 23) (hW : ∀ h, W h ≤ 23) (t : Nat) {h0 : Nat} (hh : h0 ≤ 23) : ∀ k j, smN (fun h => wkN D W t h0 k h * rnV D W t j h) 24 = rnV D W t (k + j) h0
  | 0, j => by
    show smN (fun h => (if h = h0 then 1 else 0) * rnV D W t j h) 24 = _
    rw [wk0_sm h0 (rnV D W t j) 24, if_pos (by omega), Nat.zero_add]
  | k + 1, j => by
    show smN (fun h => acN D W t (wkN D W t h0 k) 24 h * rnV D W t j h) 24 = _
    rw [acN_sm hD hW t (wkN D W t h0 k) (rnV D W t j) 24]
    have := wkN_sm hD hW t hh k (j + 1)
    rw [show k + 1 + j = k + (j + 1) by omega, ← this]
    rfl
/-- the upper one, first k hours -/
theorem up_sm {D W : Nat → Nat} (hD : ∀ h, D h ≤ 23) (hW : ∀ h, W h ≤ 23) (t : Nat) {h0 w : Nat} (hh : h0 ≤ 23) : smN (fun h => h * wkN D W t h0 w h) 24 = rnV D W t w h0 := by
  have := wkN_sm hD hW t hh w 0
  rw [Nat.add_zero] at this
  rw [← this]
  exact smN_cong (fun k _ => Nat.mul_comm _ _)
/-! the check: all patterns -/
def hpN (D W : Nat → Nat) (h0 p : Nat) : Nat → Nat
  | 0 => h0
  | k + 1 => if btm p k = true then W (hpN D W h0 p k) else D (hpN D W h0 p k)
def tmN (D W : Nat → Nat) (t w h0 p : Nat) : Nat := hpN D W h0 p w * t ^ cnt (btm p) w * (10 - t) ^ (w - cnt (btm p) w)
theorem btm_s0 (q b k : Nat) (hb : b < 2) : btm (2 * q + b) (k + 1) = btm q k := by
  unfold btm
  rw [Nat.pow_succ, Nat.mul_comm (2 ^ k) 2, ← Nat.div_div_eq_div_mul, Nat.mul_add_div (by decide), Nat.div_eq_of_lt hb, Nat.add_zero]
theorem btm_00 (q : Nat) : btm (2 * q) 0 = false := by
  unfold btm
  rw [Nat.pow_zero, Nat.div_one, Nat.mul_mod_right]
  rfl
theorem btm_01 (q : Nat) : btm (2 * q + 1) 0 = true := by
  unfold btm
  rw [Nat.pow_zero, Nat.div_one, Nat.mul_add_mod]
  rfl
theorem cnt_sh (p : Nat → Bool) : ∀ k, cnt p (k + 1) = (if p 0 = true then 1 else 0) + cnt (fun j => p (j + 1)) k
  | 0 => by
    show (if p 0 = true then 0 + 1 else 0) = _
    split <;> rfl
  | k + 1 => by
    show (if p (k + 1) = true then cnt p (k + 1) + 1 else cnt p (k + 1)) = _ + (if p (k + 1) = true then cnt (fun j => p (j + 1)) k + 1 else cnt (fun j => p (j + 1)) k)
    rw [cnt_sh p k]
    split <;> omega
theorem hp_sh (D W : Nat → Nat) (h0 q b : Nat) (hb : b < 2) : ∀ k, hpN D W h0 (2 * q + b) (k + 1) = hpN D W (hpN D W h0 (2 * q + b) 1) q k
  | 0 => rfl
  | k + 1 => by
    show (if btm (2 * q + b) (k + 1) = true then W (hpN D W h0 (2 * q + b) (k + 1)) else D (hpN D W h0 (2 * q + b) (k + 1))) = _
    rw [hp_sh D W h0 q b hb k, btm_s0 q b k hb]
    rfl
theorem sm_2 (f : Nat → Nat) : ∀ K, smN f (2 * K) = smN (fun q => f (2 * q) + f (2 * q + 1)) K
  | 0 => rfl
  | K + 1 => by
    show smN f (2 * K + 1 + 1) = smN (fun q => f (2 * q) + f (2 * q + 1)) K + (f (2 * K) + f (2 * K + 1))
    rw [← sm_2 f K]
    show smN f (2 * K) + f (2 * K) + f (2 * K + 1) = _
    omega
theorem sm_lin (f g : Nat → Nat) (a b : Nat) : ∀ K, smN (fun q => a * f q + b * g q) K = a * smN f K + b * smN g K
  | 0 => rfl
  | K + 1 => by
    show smN (fun q => a * f q + b * g q) K + (a * f K + b * g K) = a * (smN f K + f K) + b * (smN g K + g K)
    rw [sm_lin f g a b K, Nat.mul_add, Nat.mul_add]
    omega
theorem tm_0 (D W : Nat → Nat) (t w h0 q : Nat) : tmN D W t (w + 1) h0 (2 * q) = (10 - t) * tmN D W t w (D h0) q := by
  have e1 : btm (2 * q) 0 = false := btm_00 q
  have e2 : hpN D W h0 (2 * q) (w + 1) = hpN D W (D h0) q w := by
    have := hp_sh D W h0 q 0 (by decide) w
    rw [Nat.add_zero] at this
    rw [this]
    show hpN D W (if btm (2 * q) 0 = true then W h0 else D h0) q w = _
    rw [e1]; rfl
  have e3 : cnt (btm (2 * q)) (w + 1) = cnt (btm q) w := by
    rw [cnt_sh, e1]
    show (if false = true then 1 else 0) + _ = _
    rw [if_neg (by decide), Nat.zero_add]
    exact cnt_cong (fun k _ => btm_s0 q 0 k (by decide))
  have h1 := cnt_le (btm q) w
  unfold tmN
  rw [e2, e3, show w + 1 - cnt (btm q) w = (w - cnt (btm q) w) + 1 by omega, Nat.pow_succ]
  rw [← Nat.mul_assoc, Nat.mul_comm (10 - t)]
theorem tm_1 (D W : Nat → Nat) (t w h0 q : Nat) : tmN D W t (w + 1) h0 (2 * q + 1) = t * tmN D W t w (W h0) q := by
  have e1 : btm (2 * q + 1) 0 = true := btm_01 q
  have e2 : hpN D W h0 (2 * q + 1) (w + 1) = hpN D W (W h0) q w := by
    rw [hp_sh D W h0 q 1 (by decide) w]
    show hpN D W (if btm (2 * q + 1) 0 = true then W h0 else D h0) q w = _
    rw [e1]; rfl
  have e3 : cnt (btm (2 * q + 1)) (w + 1) = cnt (btm q) w + 1 := by
    rw [cnt_sh, e1]
    show (if true = true then 1 else 0) + _ = _
    rw [if_pos rfl, Nat.add_comm]
    exact congrArg (· + 1) (cnt_cong (fun k _ => btm_s0 q 1 k (by decide)))
  unfold tmN
  rw [e2, e3, show w + 1 - (cnt (btm q) w + 1) = w - cnt (btm q) w by omega, Nat.pow_succ]
  ac_rfl
theorem all_tm (D W : Nat → Nat) (t : Nat) : ∀ w h0, smN (tmN D W t w h0) (2 ^ w) = rnV D W t w h0
  | 0, h0 => by
    show 0 + h0 * t ^ 0 * (10 - t) ^ 0 = h0
    rw [Nat.pow_zero, Nat.pow_zero]
    omega
  | w + 1, h0 => by
    rw [Nat.pow_succ, Nat.mul_comm, sm_2]
    have : smN (fun q => tmN D W t (w + 1) h0 (2 * q) + tmN D W t (w + 1) h0 (2 * q + 1)) (2 ^ w) = smN (fun q => (10 - t) * tmN D W t w (D h0) q + t * tmN D W t w (W h0) q) (2 ^ w) :=
      smN_cong (fun q _ => by show tmN D W t (w + 1) h0 (2 * q) + tmN D W t (w + 1) h0 (2 * q + 1) = _; rw [tm_0, tm_1])
    rw [this, sm_lin, all_tm D W t w (D h0), all_tm D W t w (W h0)]
    rfl
/-! what both divide by -/
def czN (d : Nat) : Nat → Nat × Nat → Nat × Nat
  | 0, x => x
  | k + 1, x => if (czN d k x).1 % d = 0 ∧ (czN d k x).2 % d = 0 then ((czN d k x).1 / d, (czN d k x).2 / d) else czN d k x
theorem czN_le (d : Nat) (x : Nat × Nat) : ∀ k, (czN d k x).1 ≤ x.1 ∧ (czN d k x).2 ≤ x.2
  | 0 => ⟨Nat.le_refl _, Nat.le_refl _⟩
  | k + 1 => by
    obtain ⟨h1, h2⟩ := czN_le d x k
    show (if (czN d k x).1 % d = 0 ∧ (czN d k x).2 % d = 0 then ((czN d k x).1 / d, (czN d k x).2 / d) else czN d k x).1 ≤ x.1 ∧ _
    by_cases c : (czN d k x).1 % d = 0 ∧ (czN d k x).2 % d = 0
    · have e : czN d (k + 1) x = ((czN d k x).1 / d, (czN d k x).2 / d) := if_pos c
      rw [if_pos c, e]
      exact ⟨Nat.le_trans (Nat.div_le_self _ _) h1, Nat.le_trans (Nat.div_le_self _ _) h2⟩
    · have e : czN d (k + 1) x = czN d k x := if_neg c
      rw [if_neg c, e]
      exact ⟨h1, h2⟩
/-- k times cancelled: a common part goes; where not all k went, no more would -/
theorem czN_ok {d : Nat} (hd : 2 ≤ d) (u m : Nat) : ∀ k, ∃ c, u = c * (czN d k (u, d ^ k * m)).1 ∧ d ^ k * m = c * (czN d k (u, d ^ k * m)).2 ∧ ∃ a, (czN d k (u, d ^ k * m)).2 = d ^ a * m ∧ (a = 0 ∨ ¬ (czN d k (u, d ^ k * m)).1 % d = 0) := by
  have key : ∀ (n k : Nat), k ≤ n → ∃ c, u = c * (czN d k (u, d ^ n * m)).1 ∧ d ^ n * m = c * (czN d k (u, d ^ n * m)).2 ∧ ∃ a, (czN d k (u, d ^ n * m)).2 = d ^ a * m ∧ (a + k = n ∨ ¬ (czN d k (u, d ^ n * m)).1 % d = 0) := by
    intro n k
    induction k with
    | zero => intro _; exact ⟨1, (Nat.one_mul _).symm, (Nat.one_mul _).symm, n, rfl, Or.inl rfl⟩
    | succ k ih =>
      intro hk
      obtain ⟨c, h1, h2, a, h3, h4⟩ := ih (by omega)
      by_cases q : (czN d k (u, d ^ n * m)).1 % d = 0 ∧ (czN d k (u, d ^ n * m)).2 % d = 0
      · have e : czN d (k + 1) (u, d ^ n * m) = ((czN d k (u, d ^ n * m)).1 / d, (czN d k (u, d ^ n * m)).2 / d) := if_pos q
        have h5 : a + k = n := by
          rcases h4 with z | z
          · exact z
          · exact absurd q.1 z
        obtain ⟨b, rfl⟩ : ∃ b, a = b + 1 := ⟨a - 1, by omega⟩
        have m1 : d * ((czN d k (u, d ^ n * m)).1 / d) = (czN d k (u, d ^ n * m)).1 := Nat.mul_div_cancel' (Nat.dvd_of_mod_eq_zero q.1)
        have m2 : d * ((czN d k (u, d ^ n * m)).2 / d) = (czN d k (u, d ^ n * m)).2 := Nat.mul_div_cancel' (Nat.dvd_of_mod_eq_zero q.2)
        rw [e]
        refine ⟨c * d, ?_, ?_, b, ?_, Or.inl (by omega)⟩
        · show u = c * d * ((czN d k (u, d ^ n * m)).1 / d)
          rw [Nat.mul_assoc, m1]; exact h1
        · show d ^ n * m = c * d * ((czN d k (u, d ^ n * m)).2 / d)
          rw [Nat.mul_assoc, m2]; exact h2
        · show (czN d k (u, d ^ n * m)).2 / d = d ^ b * m
          rw [h3, Nat.pow_succ, Nat.mul_comm (d ^ b) d, Nat.mul_assoc, Nat.mul_div_cancel_left _ (by omega)]
      · have e : czN d (k + 1) (u, d ^ n * m) = czN d k (u, d ^ n * m) := if_neg q
        rw [e]
        refine ⟨c, h1, h2, a, h3, Or.inr fun z => q ⟨z, ?_⟩⟩
        rcases h4 with w | w
        · obtain ⟨b, rfl⟩ : ∃ b, a = b + 1 := ⟨a - 1, by omega⟩
          rw [h3, Nat.pow_succ, Nat.mul_comm (d ^ b) d, Nat.mul_assoc, Nat.mul_mod_right]
        · exact absurd z w
  intro k
  obtain ⟨c, h1, h2, a, h3, h4⟩ := key k k (Nat.le_refl k)
  exact ⟨c, h1, h2, a, h3, by rcases h4 with z | z; exact Or.inl (by omega); exact Or.inr z⟩
theorem cop2 {u : Nat} (h : ¬ u % 2 = 0) : Nat.Coprime u 2 := by
  show Nat.gcd u 2 = 1
  rw [Nat.gcd_comm, Nat.gcd_rec, show u % 2 = 1 by omega]
  decide
theorem cop5 {u : Nat} (h : ¬ u % 5 = 0) : Nat.Coprime u 5 := by
  show Nat.gcd u 5 = 1
  have h5 := Nat.mod_lt u (show 0 < 5 by decide)
  rw [Nat.gcd_comm, Nat.gcd_rec]
  rcases (show u % 5 = 1 ∨ u % 5 = 2 ∨ u % 5 = 3 ∨ u % 5 = 4 by omega) with e | e | e | e <;> (rw [e]; decide)
/-- by two and by five: by all that both have -/
theorem cz_gcd (u w : Nat) : czN 5 w (czN 2 w (u, 10 ^ w)) = (u / Nat.gcd u (10 ^ w), 10 ^ w / Nat.gcd u (10 ^ w)) := by
  have e10 : 10 ^ w = 2 ^ w * 5 ^ w := by rw [← Nat.mul_pow]
  obtain ⟨c, h1, h2, a, h3, h4⟩ := czN_ok (show 2 ≤ 2 by decide) u (5 ^ w) w
  rw [← e10] at h1 h2 h3 h4
  obtain ⟨u1, l1, hx⟩ : ∃ u1 l1, czN 2 w (u, 10 ^ w) = (u1, l1) := ⟨_, _, rfl⟩
  rw [hx] at h1 h2 h3 h4 ⊢
  have h3 : l1 = 2 ^ a * 5 ^ w := h3
  obtain ⟨c2, g1, g2, b, g3, g4⟩ := czN_ok (show 2 ≤ 5 by decide) u1 (2 ^ a) w
  have e3 : (u1, l1) = (u1, 5 ^ w * 2 ^ a) := by rw [h3, Nat.mul_comm]
  rw [e3]
  obtain ⟨u2, l2, hy⟩ : ∃ u2 l2, czN 5 w (u1, 5 ^ w * 2 ^ a) = (u2, l2) := ⟨_, _, rfl⟩
  rw [hy] at g1 g2 g3 g4 ⊢
  have g3 : l2 = 5 ^ b * 2 ^ a := g3
  have g1 : u1 = c2 * u2 := g1
  have g2 : 5 ^ w * 2 ^ a = c2 * l2 := g2
  have h1 : u = c * u1 := h1
  have h2 : 10 ^ w = c * l1 := h2
  have g4 : b = 0 ∨ ¬ u2 % 5 = 0 := g4
  have h4 : a = 0 ∨ ¬ u1 % 2 = 0 := h4
  have A : Nat.Coprime u2 (2 ^ a) := by
    rcases h4 with z | z
    · rw [z]; exact Nat.coprime_one_right u2
    · refine Nat.Coprime.pow_right a (cop2 fun q => z ?_)
      rw [g1]
      exact Nat.mod_eq_zero_of_dvd (Nat.dvd_trans (Nat.dvd_of_mod_eq_zero q) (Nat.dvd_mul_left u2 c2))
  have B : Nat.Coprime u2 (5 ^ b) := by
    rcases g4 with z | z
    · rw [z]; exact Nat.coprime_one_right u2
    · exact Nat.Coprime.pow_right b (cop5 z)
  have Cc : Nat.gcd u2 l2 = 1 := by rw [g3]; exact Nat.Coprime.mul_right B A
  have hu : u = (c * c2) * u2 := by rw [h1, g1, Nat.mul_assoc]
  have hl : 10 ^ w = (c * c2) * l2 := by rw [h2, h3, Nat.mul_comm (2 ^ a), g2, Nat.mul_assoc]
  have hg : Nat.gcd u (10 ^ w) = c * c2 := by rw [hl, hu, Nat.gcd_mul_left, Cc, Nat.mul_one]
  have hp : 0 < c * c2 := by
    rcases Nat.eq_zero_or_pos (c * c2) with z | z
    · rw [z, Nat.zero_mul] at hl
      exact absurd hl (Nat.ne_of_gt (Nat.pow_pos (by decide)))
    · exact z
  rw [hg]
  refine Prod.ext ?_ ?_
  · show u2 = u / (c * c2)
    rw [hu, Nat.mul_div_cancel_left _ hp]
  · show l2 = 10 ^ w / (c * c2)
    rw [hl, Nat.mul_div_cancel_left _ hp]
theorem p10_le {w : Nat} (h : w ≤ 8) : 10 ^ w ≤ 100000000 := Nat.pow_le_pow_right (by decide) h
theorem p28_le {w : Nat} (h : w ≤ 8) : 2 ^ w ≤ 256 := Nat.pow_le_pow_right (by decide) h
theorem acN_tot {D W : Nat → Nat} (hD : ∀ h, D h ≤ 23) (hW : ∀ h, W h ≤ 23) {t : Nat} (ht : t ≤ 10) (f : Nat → Nat) : smN (fun h => acN D W t f 24 h * 1) 24 = 10 * smN (fun h => f h * 1) 24 := by
  rw [acN_sm hD hW t f (fun _ => 1) 24]
  have : ∀ n, smN (fun h => f h * ((10 - t) * 1 + t * 1)) n = 10 * smN (fun h => f h * 1) n := fun n => by
    induction n with
    | zero => rfl
    | succ n ih =>
      show smN (fun h => f h * ((10 - t) * 1 + t * 1)) n + f n * ((10 - t) * 1 + t * 1) = 10 * (smN (fun h => f h * 1) n + f n * 1)
      rw [ih, show (10 - t) * 1 + t * 1 = 10 by omega]
      omega
  exact this 24
theorem smN_ge (f : Nat → Nat) : ∀ {n k : Nat}, k < n → f k ≤ smN f n
  | 0, k, h => absurd h (Nat.not_lt_zero k)
  | n + 1, k, h => by
    show f k ≤ smN f n + f n
    rcases Nat.lt_or_ge k n with q | q
    · have := smN_ge f q; omega
    · rw [show k = n by omega]; omega
theorem wkN_tot {D W : Nat → Nat} (hD : ∀ h, D h ≤ 23) (hW : ∀ h, W h ≤ 23) {t : Nat} (ht : t ≤ 10) {h0 : Nat} (hh : h0 ≤ 23) : ∀ k, smN (fun h => wkN D W t h0 k h * 1) 24 = 10 ^ k
  | 0 => by
    show smN (fun h => (if h = h0 then 1 else 0) * 1) 24 = 10 ^ 0
    rw [wk0_sm h0 (fun _ => 1) 24, if_pos (by omega), Nat.pow_zero]
  | k + 1 => by
    show smN (fun h => acN D W t (wkN D W t h0 k) 24 h * 1) 24 = _
    rw [acN_tot hD hW ht, wkN_tot hD hW ht hh k, Nat.pow_succ, Nat.mul_comm]
theorem wkN_le {D W : Nat → Nat} (hD : ∀ h, D h ≤ 23) (hW : ∀ h, W h ≤ 23) {t : Nat} (ht : t ≤ 10) {h0 : Nat} (hh : h0 ≤ 23) (k : Nat) {h : Nat} (h9 : h < 24) : wkN D W t h0 k h ≤ 10 ^ k := by
  have h1 := wkN_tot hD hW ht hh k
  have h2 := smN_ge (fun h => wkN D W t h0 k h * 1) h9
  have h2 : wkN D W t h0 k h * 1 ≤ _ := h2
  omega
theorem hpN_le {D W : Nat → Nat} (hD : ∀ h, D h ≤ 23) (hW : ∀ h, W h ≤ 23) {h0 : Nat} (hh : h0 ≤ 23) (p : Nat) : ∀ k, hpN D W h0 p k ≤ 23
  | 0 => hh
  | k + 1 => by
    show (if btm p k = true then W (hpN D W h0 p k) else D (hpN D W h0 p k)) ≤ 23
    split
    · exact hW _
    · exact hD _

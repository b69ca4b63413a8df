/-! PURE WORDS, third: weeks, what was seen; the check's own forms of the same -/
/-- the next hour as a function of the hour: early, late, and how much later all early are -/
def nxF (fs : Nat → Int32) (nl n : Nat) (fe fl : Nat → Int32) (la : Int32) : Int32 → Int32 := fun h => nxH fs nl n (fun m9 => cmA h (fe m9 + la) (fl m9)) h
theorem nxF_cong {fs : Nat → Int32} {nl n : Nat} {fe f1 f2 : Nat → Int32} {la : Int32} (h : 1 ≤ n) (hf : ∀ j, j < n → f1 j = f2 j) : nxF fs nl n fe f1 la = nxF fs nl n fe f2 la := by
  funext x
  exact nxH_cong h (fun j hj => by rw [hf j hj]) x
theorem nxF_rng (fs : Nat → Int32) (nl n : Nat) (fe fl : Nat → Int32) (la h : Int32) : ∃ k : Nat, k ≤ 23 ∧ nxF fs nl n fe fl la h = nI k := clp_rng _
def itH (F : Int32 → Int32) : Nat → Int32 → Int32
  | 0, h => h
  | k + 1, h => F (itH F k h)
theorem itH_fix {F : Int32 → Int32} {h : Int32} {k : Nat} (e : F (itH F k h) = itH F k h) : ∀ d, itH F (k + d) h = itH F k h
  | 0 => rfl
  | d + 1 => by
    show F (itH F (k + d) h) = _
    rw [itH_fix e d, e]
theorem itH_stay {F : Int32 → Int32} {h : Int32} {k w : Nat} (e : F (itH F k h) = itH F k h) (hk : k ≤ w) : itH F k h = itH F w h := by
  have := itH_fix e (w - k)
  rw [show k + (w - k) = w by omega] at this
  exact this.symm
theorem itH_rng {F : Int32 → Int32} (hF : ∀ h, ∃ k : Nat, k ≤ 23 ∧ F h = nI k) : ∀ (w : Nat) {h : Nat}, h ≤ 23 → ∃ k : Nat, k ≤ 23 ∧ itH F w (nI h) = nI k
  | 0, h, hh => ⟨h, hh, rfl⟩
  | w + 1, h, _ => hF _
/-- the first k of what was seen hold -/
def SHb (F : Int32 → Int32) (fw fh : Nat → Int32) (from_ : Int32) : Nat → Bool
  | 0 => true
  | k + 1 => SHb F fw fh from_ k && decide (itH F (fw k).toNatClampNeg from_ = fh k)
theorem SHb_mono {F : Int32 → Int32} {fw fh : Nat → Int32} {x : Int32} : ∀ (d k : Nat), SHb F fw fh x k = false → SHb F fw fh x (k + d) = false
  | 0, _, h => h
  | d + 1, k, h => by
    show (SHb F fw fh x (k + d) && _) = false
    rw [SHb_mono d k h]; rfl
/-- the bits of those k below n that P has -/
def cdB (P : Nat → Bool) : Nat → Int32
  | 0 => nI 0
  | k + 1 => if P k = true then cdB P k ||| (nI 1 <<< (nI k &&& 31)) else cdB P k
def cut23 (x : Int32) : Int32 := if x ≤ nI 23 then x else nI 23
def mx2 (h f : Int32) : Int32 := if h ≤ f then f else h
/-- when one comes, in the check's words -/
def cmB (h e la b : Int32) : Int32 := cut23 (mx2 h (cut23 (e + la)) + b)
theorem mn_ge {a b : Int32} (h : b ≤ a) : b = mnI a b := by
  unfold mnI
  by_cases e : b < a
  · rw [if_pos e]
  · rw [if_neg e]
    rw [Int32.le_iff_toInt_le] at h; rw [Int32.lt_iff_toInt_lt] at e
    exact Int32.toInt_inj.mp (by omega)
theorem mn_lt {a b : Int32} (h : ¬ b ≤ a) : a = mnI a b := by
  unfold mnI
  rw [if_neg (fun e => h (by rw [Int32.le_iff_toInt_le]; rw [Int32.lt_iff_toInt_lt] at e; omega))]
theorem mx_le {a b : Int32} (h : a ≤ b) : b = mxI a b := by
  unfold mxI
  by_cases e : a < b
  · rw [if_pos e]
  · rw [if_neg e]
    rw [Int32.le_iff_toInt_le] at h; rw [Int32.lt_iff_toInt_lt] at e
    exact Int32.toInt_inj.mp (by omega)
theorem mx_gt {a b : Int32} (h : ¬ a ≤ b) : a = mxI a b := by
  unfold mxI
  rw [if_neg (fun e => h (by rw [Int32.le_iff_toInt_le]; rw [Int32.lt_iff_toInt_lt] at e; omega))]
theorem nI0I : (nI 0).toInt = 0 := nI_toInt (by omega)
theorem nI23I : (nI 23).toInt = 23 := nI_toInt (by omega)
theorem i0I : (0 : Int32).toInt = 0 := rfl
theorem clp_neg {v : Int32} (h : ¬ 0 ≤ v) : nI 0 = clp v := by
  rw [Int32.le_iff_toInt_le, i0I] at h
  unfold clp mxI mnI
  simp only [Int32.lt_iff_toInt_lt, nI0I, nI23I]
  apply Int32.toInt_inj.mp
  split <;> split <;> simp only [nI0I, nI23I] at * <;> omega
theorem clp_mid {v : Int32} (h : 0 ≤ v) (h2 : v ≤ nI 23) : v = clp v := by
  rw [Int32.le_iff_toInt_le, i0I] at h
  rw [Int32.le_iff_toInt_le, nI23I] at h2
  unfold clp mxI mnI
  simp only [Int32.lt_iff_toInt_lt, nI0I, nI23I]
  apply Int32.toInt_inj.mp
  split <;> split <;> simp only [nI0I, nI23I] at * <;> omega
theorem clp_hi {v : Int32} (h2 : ¬ v ≤ nI 23) : nI 23 = clp v := by
  rw [Int32.le_iff_toInt_le, nI23I] at h2
  unfold clp mxI mnI
  simp only [Int32.lt_iff_toInt_lt, nI0I, nI23I]
  apply Int32.toInt_inj.mp
  split <;> split <;> simp only [nI0I, nI23I] at * <;> omega
theorem ps_sh {sg : Nat → Int32} {q : Nat} (h : (ps sg q).2 = true) : ∃ k, q = k + 1 ∧ isSh (sg k) := by
  match q, h with
  | 0, h => exact absurd h Bool.false_ne_true
  | k + 1, h =>
    cases e : (ps sg k).2 with
    | true => rw [ps_t e] at h; exact absurd h Bool.false_ne_true
    | false => rw [ps_f e] at h; exact ⟨k, rfl, of_decide_eq_true h⟩
/-- the next hour, in the check's words -/
def nxG (fs : Nat → Int32) (nl n : Nat) (fe fb : Nat → Int32) (la : Int32) : Int32 → Int32 := fun h => nxH fs nl n (fun m9 => cmB h (fe m9) la (fb m9)) h
theorem nxG_cong {fs : Nat → Int32} {nl n : Nat} {fe f1 f2 : Nat → Int32} {la : Int32} (h : 1 ≤ n) (hf : ∀ j, j < n → f1 j = f2 j) : nxG fs nl n fe f1 la = nxG fs nl n fe f2 la := by
  funext x
  exact nxH_cong h (fun j hj => by rw [hf j hj]) x
theorem nxG_rng (fs : Nat → Int32) (nl n : Nat) (fe fl : Nat → Int32) (la h : Int32) : ∃ k : Nat, k ≤ 23 ∧ nxG fs nl n fe fl la h = nI k := clp_rng _
theorem upd_cong {f g : Nat → Int32} {mm n : Nat} {v : Int32} (h : ∀ j, j < n → j ≠ mm → f j = g j) : ∀ j, j < n → upd f mm v j = upd g mm v j := fun j hj => by
  by_cases e : j = mm
  · subst e; rw [pk_us, pk_us]
  · rw [pk_un e, pk_un e]; exact h j hj e
theorem mem_iff {v : Int32} {n : Nat} (h1 : 1 ≤ n) (h6 : n ≤ 6) : (nI 0 ≤ v ∧ v ≤ nI (n - 1)) ↔ (nI 0 ≤ v ∧ v < nI n) := by
  simp only [Int32.le_iff_toInt_le, Int32.lt_iff_toInt_lt, nI_toInt (n := n - 1) (by omega), nI_toInt (n := n) (by omega), nI_toInt (n := 0) (by omega)]
  omega
theorem nI_rngL {x : Int32} {n : Nat} (hn : n < 2147483648) (h1 : nI 0 ≤ x) (h2 : x < nI n) : ∃ k : Nat, k < n ∧ x = nI k := by
  rw [Int32.le_iff_toInt_le, nI0I] at h1
  rw [Int32.lt_iff_toInt_lt, nI_toInt hn] at h2
  refine ⟨x.toInt.toNat, by omega, Int32.toInt_inj.mp ?_⟩
  rw [nI_toInt (by omega)]
  omega

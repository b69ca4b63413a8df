/-! PURE WORDS, fifteenth: what the class and the check have in common -/
theorem mxI_n {a b : Nat} (ha : a < 2147483648) (hb : b < 2147483648) : mxI (nI a) (nI b) = nI (max a b) := by
  rcases Nat.le_total a b with h | h
  · rw [mxI_r h hb, Nat.max_eq_right h]
  · rw [mxI_l h ha, Nat.max_eq_left h]
theorem mnI_n {a b : Nat} (ha : a < 2147483648) (hb : b < 2147483648) : mnI (nI a) (nI b) = nI (min a b) := by
  rcases Nat.le_total a b with h | h
  · rw [mnI_l h hb, Nat.min_eq_left h]
  · rw [mnI_r h ha, Nat.min_eq_right h]
theorem mx2_n {a b : Nat} (ha : a < 2147483648) (hb : b < 2147483648) : mx2 (nI a) (nI b) = nI (max a b) := by
  unfold mx2
  rcases Nat.le_total a b with h | h
  · rw [if_pos ((nI_leI ha hb).mpr h), Nat.max_eq_right h]
  · by_cases e : a = b
    · subst e
      rw [if_pos ((nI_leI ha hb).mpr (Nat.le_refl a)), Nat.max_self]
    · rw [if_neg (fun z => e (Nat.le_antisymm ((nI_leI ha hb).mp z) h)), Nat.max_eq_left h]
theorem cut23_n {a : Nat} (ha : a < 2147483648) : cut23 (nI a) = nI (min 23 a) := by
  unfold cut23
  by_cases h : a ≤ 23
  · rw [if_pos ((nI_leI ha (by omega)).mpr h), Nat.min_eq_right h]
  · rw [if_neg (fun z => h ((nI_leI ha (by omega)).mp z)), Nat.min_eq_left (by omega)]
theorem cm_ab {a e r v : Nat} (ha : a ≤ 23) (he : e ≤ 23) (hr : r ≤ 9) (hv : v ≤ 100) : cmA (nI a) (nI e + nI r) (nI v) = cmB (nI a) (nI e) (nI r) (nI v) := by
  unfold cmA cmB
  rw [nI_add, mxI_n (by omega) (by omega), nI_add, mnI_n (by omega) (by omega), cut23_n (by omega), mx2_n (by omega) (by omega), nI_add, cut23_n (by omega)]
  congr 1
  omega
/-- numbers of at most b in the first n places -/
def RNG (n b : Nat) (f : Nat → Int32) : Prop := ∀ j, j < n → ∃ v : Nat, v ≤ b ∧ f j = nI v
theorem FGx {fs fs8 fe fe8 fl fl8 : Nat → Int32} {nl n r : Nat} (h1 : 1 ≤ n) (hV : VL fs nl) (es : ∀ j, j < nl → fs j = fs8 j) (ee : ∀ j, j < n → fe j = fe8 j) (el : ∀ j, j < n → fl j = fl8 j) (he : RNG n 23 fe) (hl : RNG n 100 fl) (hr : r ≤ 9) : ∀ k : Nat, k ≤ 23 → nxF fs nl n fe fl (nI r) (nI k) = nxG fs8 nl n fe8 fl8 (nI r) (nI k) := fun k hk => by
  rw [nxF_congS hV es]
  refine nxH_cong h1 (fun j hj => ?_) (nI k)
  obtain ⟨a, a1, a2⟩ := he j hj
  obtain ⟨b, b1, b2⟩ := hl j hj
  show cmA (nI k) (fe j + nI r) (fl j) = cmB (nI k) (fe8 j) (nI r) (fl8 j)
  rw [← ee j hj, ← el j hj, a2, b2]
  exact cm_ab hk a1 hr b1
theorem itH_G {F G : Int32 → Int32} (hF : FR F) (hG : FR G) (e : ∀ k : Nat, k ≤ 23 → F (nI k) = G (nI k)) {h0 : Nat} (hh : h0 ≤ 23) (w : Nat) : itH F w (nI h0) = itH G w (nI h0) := by
  rw [itH_hsq hF, itH_hsq hG, hsq_cong hF hh e]
theorem far_eq {b b8 : Nat → Int32} {x : Nat} (hx : x ≤ 23) : ∀ {n : Nat}, (∀ j, j < n → b j = b8 j) → RNG n 23 b → farS b (nI x) n = farT b8 (nI x) n
  | 0, _, _ => rfl
  | n + 1, e, h => by
    obtain ⟨v, v1, v2⟩ := h n (by omega)
    have ih := far_eq (n := n) hx (fun j hj => e j (by omega)) (fun j hj => h j (by omega))
    show farS b (nI x) n + abI (nI x - b n) = farT b8 (nI x) n + apI (nI x) (b8 n)
    rw [ih, ← e n (by omega), v2, abI_n (by omega) (by omega), apI_n (by omega) (by omega)]
theorem nxN_cong {F G : Nat → Int32 → Int32} {v h : Nat} (e : F v (nI h) = G v (nI h)) : nxN F v h = nxN G v h := by unfold nxN; rw [e]
theorem Vc_cong {F G : Nat → Int32 → Int32} (hF : ∀ v, FR (F v)) (e : ∀ v h : Nat, v ≤ 5 → h ≤ 23 → F v (nI h) = G v (nI h)) (ff bb : Nat) : ∀ j h, h ≤ 23 → Vc F ff bb j h = Vc G ff bb j h
  | 0, _, _ => rfl
  | j + 1, h, hh => by
    show (mnV 1000000 (Gc F ff bb j h) 6).1 = (mnV 1000000 (Gc G ff bb j h) 6).1
    rw [mnV_cong 6 (fun v hv => ?_)]
    show cN F ff bb v h + Vc F ff bb j (nxN F v h) = cN G ff bb v h + Vc G ff bb j (nxN G v h)
    have e1 := nxN_cong (e v h (by omega) hh)
    rw [Vc_cong hF e ff bb j (nxN F v h) (nxN_le hF v h)]
    unfold cN
    rw [e1]
theorem Pc_cong {F G : Nat → Int32 → Int32} (hF : ∀ v, FR (F v)) (e : ∀ v h : Nat, v ≤ 5 → h ≤ 23 → F v (nI h) = G v (nI h)) (ff bb j : Nat) {h : Nat} (hh : h ≤ 23) : Pc F ff bb j h = Pc G ff bb j h := by
  show (mnV 1000000 (Gc F ff bb j h) 6).2 = (mnV 1000000 (Gc G ff bb j h) 6).2
  rw [mnV_cong 6 (fun v hv => ?_)]
  show cN F ff bb v h + Vc F ff bb j (nxN F v h) = cN G ff bb v h + Vc G ff bb j (nxN G v h)
  have e1 := nxN_cong (e v h (by omega) hh)
  rw [Vc_cong hF e ff bb j (nxN F v h) (nxN_le hF v h)]
  unfold cN
  rw [e1]
theorem choV_cong {F G : Nat → Int32 → Int32} (hF : ∀ v, FR (F v)) (e : ∀ v h : Nat, v ≤ 5 → h ≤ 23 → F v (nI h) = G v (nI h)) {ff bb w x : Nat} (hff : ff ≤ 9) (hbb : bb ≤ 23) (hw : w ≤ 4) (hx : x ≤ 23) (y : Int32) : choV F ff bb w x y = choV G ff bb w x y := by
  have hg : ∀ k, gqN F ff bb w x k = gqN G ff bb w x k := fun k => by
    induction k with
    | zero => rfl
    | succ k ih =>
      have h23 := gqN_le hF (ff := ff) (bb := bb) (w := w) hx k
      have hp := Pc_lt F hF hff hbb (j := w - 1 - k) (h := gqN F ff bb w x k) (by omega)
      show nxN F (Pc F ff bb (w - 1 - k) (gqN F ff bb w x k)) (gqN F ff bb w x k) = nxN G (Pc G ff bb (w - 1 - k) (gqN G ff bb w x k)) (gqN G ff bb w x k)
      rw [← ih, ← Pc_cong hF e ff bb (w - 1 - k) h23]
      exact nxN_cong (e _ _ (by omega) h23)
  unfold choV
  rw [Vc_cong hF e ff bb w x hx, ← hg, Pc_cong hF e ff bb _ (gqN_le hF hx _)]
theorem RSb_cong {nb nb8 : Nat → Nat} {ff n : Nat} {bb bb8 : Nat → Nat} (e : ∀ k, k < 4 ^ n → nb k = nb8 k) (eb : ∀ j, j < n → bb j = bb8 j) : ∀ w, w < 4 ^ n → RSb nb ff n bb w = RSb nb8 ff n bb8 w := fun w hw =>
  alB_cong (fun m hm => alB_cong (fun q hq => by
    show decide (dsN (nb w) (bb m) + ff * d4 n w m ≤ dsN (nb (w - d4 n w m * 4 ^ (n - 1 - m) + q * 4 ^ (n - 1 - m))) (bb m) + ff * q) = decide (dsN (nb8 w) (bb8 m) + ff * d4 n w m ≤ dsN (nb8 (w - d4 n w m * 4 ^ (n - 1 - m) + q * 4 ^ (n - 1 - m))) (bb8 m) + ff * q)
    rw [e w hw, eb m hm, e _ (d4_in hm hw hq)]))
theorem lwB_cong {rk rk8 : Nat → Int32} {ct ct8 : Int32 → Int32} {l0 l8 : Int32} {n : Nat} (er : ∀ q, q < n → rk q = rk8 q) (hr : ∀ q, q < n → rk q = (-6) ∨ ∃ k : Nat, k ≤ 23 ∧ rk q = nI k) (ec : ∀ k : Nat, k ≤ 23 → ct (nI k) = ct8 (nI k)) (hc : ∀ k : Nat, k ≤ 23 → ¬ l0 ≤ ct (nI k) ∧ ¬ l8 ≤ ct (nI k)) : ∀ q, q ≤ n → (lwB rk ct l0 q = lwB rk8 ct8 l8 q) ∨ (lwB rk ct l0 q = ((-6), l0) ∧ lwB rk8 ct8 l8 q = ((-6), l8))
  | 0, _ => Or.inr ⟨rfl, rfl⟩
  | q + 1, h => by
    have e0 : rk q = rk8 q := er q (by omega)
    have s1 : lwB rk ct l0 (q + 1) = if rk q = (-6) then lwB rk ct l0 q else if (lwB rk ct l0 q).2 ≤ ct (rk q) then lwB rk ct l0 q else (nI q, ct (rk q)) := rfl
    have s2 : lwB rk8 ct8 l8 (q + 1) = if rk8 q = (-6) then lwB rk8 ct8 l8 q else if (lwB rk8 ct8 l8 q).2 ≤ ct8 (rk8 q) then lwB rk8 ct8 l8 q else (nI q, ct8 (rk8 q)) := rfl
    rw [s1, s2, ← e0]
    by_cases c : rk q = (-6)
    · rw [if_pos c, if_pos c]
      exact lwB_cong er hr ec hc q (by omega)
    · rw [if_neg c, if_neg c]
      obtain ⟨k, k1, k2⟩ : ∃ k : Nat, k ≤ 23 ∧ rk q = nI k := by
        rcases hr q (by omega) with z | z
        · exact absurd z c
        · exact z
      rw [k2, ← ec k k1]
      rcases lwB_cong er hr ec hc q (by omega) with g | ⟨g1, g2⟩
      · rw [g]; exact Or.inl rfl
      · rw [g1, g2]
        show (if l0 ≤ ct (nI k) then _ else _) = (if l8 ≤ ct (nI k) then _ else _) ∨ _
        rw [if_neg (hc k k1).1, if_neg (hc k k1).2]
        exact Or.inl rfl
theorem SH_eq {F G : Int32 → Int32} (hF : FR F) (hG : FR G) (e : ∀ k : Nat, k ≤ 23 → F (nI k) = G (nI k)) {fw fh f8 : Nat → Int32} {x : Nat} (hx : x ≤ 23) : ∀ {n : Nat}, (∀ j, j < n → fw j = f8 (2 * j) ∧ fh j = f8 (2 * j + 1)) → SHb F fw fh (nI x) n = SHc G f8 (nI x) n
  | 0, _ => rfl
  | n + 1, h => by
    have ih := SH_eq hF hG e hx (fun j hj => h j (by omega)) (n := n)
    obtain ⟨a, b⟩ := h n (by omega)
    show (SHb F fw fh (nI x) n && decide (itH F (fw n).toNatClampNeg (nI x) = fh n)) = (SHc G f8 (nI x) n && decide (itH G (f8 (2 * n)).toNatClampNeg (nI x) = f8 (2 * n + 1)))
    rw [ih, a, b, itH_G hF hG e hx]

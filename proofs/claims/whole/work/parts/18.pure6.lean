/-! PURE WORDS, sixth: where hours tend (fb_holes: kit/laws/COUNTS, pasted) -/
theorem fb_holes : ∀ (m n : Nat) (f : Nat → Nat), (∀ i, i < n → f i < m) → (∀ i j, i < j → j < n → f i ≠ f j) → n ≤ m := by
  intro m
  induction m with
  | zero =>
    intro n f h1 _
    rcases Nat.eq_zero_or_pos n with h | h
    · omega
    · exact absurd (h1 0 h) (Nat.not_lt_zero _)
  | succ m ih =>
    intro n f h1 h2
    by_cases hx : ∃ i, i < n ∧ f i = m
    · obtain ⟨a, ha, hfa⟩ := hx
      have hg := ih (n - 1) (fun i => if i < a then f i else f (i + 1)) (by
        intro i hi
        by_cases q : i < a
        · simp only [if_pos q]
          have b1 := h1 i (by omega)
          have b2 := h2 i a q ha
          omega
        · simp only [if_neg q]
          have b1 := h1 (i + 1) (by omega)
          have b2 := h2 a (i + 1) (by omega) (by omega)
          omega) (by
        intro i j hij hj
        by_cases q : i < a
        · by_cases r : j < a
          · simp only [if_pos q, if_pos r]
            exact h2 i j hij (by omega)
          · simp only [if_pos q, if_neg r]
            exact h2 i (j + 1) (by omega) (by omega)
        · have r : ¬ j < a := by omega
          simp only [if_neg q, if_neg r]
          exact h2 (i + 1) (j + 1) (by omega) (by omega))
      omega
    · have hg := ih n f (fun i hi => by
        have b1 := h1 i hi
        have b2 : f i ≠ m := fun e => hx ⟨i, hi, e⟩
        omega) h2
      omega
/-- F takes hours to hours -/
def FR (F : Int32 → Int32) : Prop := ∀ h, ∃ k : Nat, k ≤ 23 ∧ F h = nI k
theorem FR_F (fs : Nat → Int32) (nl n : Nat) (fe fl : Nat → Int32) (la : Int32) : FR (nxF fs nl n fe fl la) := fun h => nxF_rng fs nl n fe fl la h
theorem FR_G (fs : Nat → Int32) (nl n : Nat) (fe fl : Nat → Int32) (la : Int32) : FR (nxG fs nl n fe fl la) := fun h => nxG_rng fs nl n fe fl la h
/-- the hours, week by week, as numbers -/
def hsq (F : Int32 → Int32) (h0 : Nat) : Nat → Nat
  | 0 => h0
  | k + 1 => (F (nI (hsq F h0 k))).toNatClampNeg
theorem hsq_succ {F : Int32 → Int32} (hF : FR F) (h0 k : Nat) : F (nI (hsq F h0 k)) = nI (hsq F h0 (k + 1)) := by
  obtain ⟨j, h1, h2⟩ := hF (nI (hsq F h0 k))
  show _ = nI (F (nI (hsq F h0 k))).toNatClampNeg
  rw [h2, nI_clamp (by omega)]
theorem hsq_le {F : Int32 → Int32} (hF : FR F) {h0 : Nat} (h : h0 ≤ 23) : ∀ k, hsq F h0 k ≤ 23
  | 0 => h
  | k + 1 => by
    obtain ⟨j, h1, h2⟩ := hF (nI (hsq F h0 k))
    show (F (nI (hsq F h0 k))).toNatClampNeg ≤ 23
    rw [h2, nI_clamp (by omega)]
    exact h1
theorem hsq_cong {F G : Int32 → Int32} (hF : FR F) {h0 : Nat} (h : h0 ≤ 23) (e : ∀ k : Nat, k ≤ 23 → F (nI k) = G (nI k)) : ∀ k, hsq F h0 k = hsq G h0 k
  | 0 => rfl
  | k + 1 => by
    show (F (nI (hsq F h0 k))).toNatClampNeg = (G (nI (hsq G h0 k))).toNatClampNeg
    rw [← hsq_cong hF h e k, e _ (hsq_le hF h k)]
theorem itH_hsq {F : Int32 → Int32} (hF : FR F) {h0 : Nat} : ∀ k, itH F k (nI h0) = nI (hsq F h0 k)
  | 0 => rfl
  | k + 1 => by
    show F (itH F k (nI h0)) = _
    rw [itH_hsq hF k, hsq_succ hF]
def visA (g : Nat → Int32) (x : Nat → Nat) : Nat → (Nat → Int32)
  | 0 => g
  | w + 1 => upd (visA g x w) (x w) (nI w)
def inj (x : Nat → Nat) (w : Nat) : Prop := ∀ i j, i < j → j < w → x i ≠ x j
theorem vis_cases (g : Nat → Int32) (x : Nat → Nat) : ∀ (w j : Nat), inj x w → (∃ k, k < w ∧ x k = j ∧ visA g x w j = nI k) ∨ ((∀ k, k < w → x k ≠ j) ∧ visA g x w j = g j)
  | 0, j, _ => Or.inr ⟨fun k h => absurd h (Nat.not_lt_zero k), rfl⟩
  | w + 1, j, hi => by
    show (∃ k, k < w + 1 ∧ x k = j ∧ upd (visA g x w) (x w) (nI w) j = nI k) ∨ ((∀ k, k < w + 1 → x k ≠ j) ∧ upd (visA g x w) (x w) (nI w) j = g j)
    by_cases e : j = x w
    · subst e
      exact Or.inl ⟨w, by omega, rfl, pk_us⟩
    · rw [pk_un e]
      rcases vis_cases g x w j (fun a b h1 h2 => hi a b h1 (by omega)) with ⟨k, h1, h2, h3⟩ | ⟨h1, h2⟩
      · exact Or.inl ⟨k, by omega, h2, h3⟩
      · refine Or.inr ⟨fun k hk => ?_, h2⟩
        rcases Nat.lt_or_ge k w with q | q
        · exact h1 k q
        · rw [show k = w by omega]
          exact fun z => e z.symm
/-- behind w weeks it is where it was behind a, for the first time -/
def TD (x : Nat → Nat) (w a : Nat) : Prop := a < w ∧ x a = x w ∧ inj x w
def MN (x : Nat → Nat) (a w m : Nat) : Prop := (∃ k, a ≤ k ∧ k < w ∧ x k = m) ∧ ∀ k, a ≤ k → k < w → m ≤ x k
def TDM (x : Nat → Nat) (w a m : Nat) : Prop := TD x w a ∧ MN x a w m
theorem TDM_one {x : Nat → Nat} {w a m w2 a2 m2 : Nat} (h : TDM x w a m) (g : TDM x w2 a2 m2) : w = w2 ∧ a = a2 ∧ m = m2 := by
  obtain ⟨⟨h1, h2, h3⟩, ⟨hk, hm1, hm2, hm3⟩, hm4⟩ := h
  obtain ⟨⟨g1, g2, g3⟩, ⟨gk, gm1, gm2, gm3⟩, gm4⟩ := g
  have hw : w = w2 := by
    rcases Nat.lt_trichotomy w w2 with e | e | e
    · exact absurd h2 (g3 a w h1 e)
    · exact e
    · exact absurd g2 (h3 a2 w2 g1 e)
  subst hw
  have ha : a = a2 := by
    rcases Nat.lt_trichotomy a a2 with e | e | e
    · exact absurd (h2.trans g2.symm) (h3 a a2 e g1)
    · exact e
    · exact absurd (g2.trans h2.symm) (h3 a2 a e h1)
  subst ha
  refine ⟨rfl, rfl, ?_⟩
  have b1 := hm4 gk gm1 gm2
  have b2 := gm4 hk hm1 hm2
  omega
theorem TDM_cong {x y : Nat → Nat} (e : ∀ k, x k = y k) {w a m : Nat} (h : TDM x w a m) : TDM y w a m := by
  have : x = y := funext e
  rw [← this]; exact h
theorem inj_24 {x : Nat → Nat} {w : Nat} (hi : inj x w) (hx : ∀ k, x k ≤ 23) : w ≤ 24 := fb_holes 24 w x (fun i _ => by have := hx i; omega) hi
theorem inj_s {x : Nat → Nat} {w : Nat} (hi : inj x w) (hn : ∀ k, k < w → x k ≠ x w) : inj x (w + 1) := fun i j h1 h2 => by
  rcases Nat.lt_or_ge j w with q | q
  · exact hi i j h1 q
  · rw [show j = w by omega]
    exact hn i (by omega)
theorem inj_0 {x : Nat → Nat} : inj x 0 := fun i j _ h => absurd h (Nat.not_lt_zero j)
/-- at 24 weeks it was there before -/
theorem inj_full {x : Nat → Nat} (hi : inj x 24) (hx : ∀ k, x k ≤ 23) : ∃ a, a < 24 ∧ x a = x 24 :=
  Classical.byContradiction fun h => by
    have := inj_24 (inj_s hi (fun k hk e => h ⟨k, hk, e⟩)) hx
    omega
/-- the ring's hours come again -/
theorem hsq_per {F : Int32 → Int32} {h0 a w : Nat} (e : hsq F h0 a = hsq F h0 w) : ∀ i, hsq F h0 (a + i) = hsq F h0 (w + i)
  | 0 => e
  | i + 1 => by
    show (F (nI (hsq F h0 (a + i)))).toNatClampNeg = (F (nI (hsq F h0 (w + i)))).toNatClampNeg
    rw [hsq_per e i]
/-- the one hour at which it comes to rest; none: -6 -/
def RK (F : Int32 → Int32) (h0 : Nat) (v : Int32) : Prop := ∃ w a m, TDM (hsq F h0) w a m ∧ v = if w - a = 1 then nI m else (-6)
theorem RK_one {F : Int32 → Int32} {h0 : Nat} {v u : Int32} (h : RK F h0 v) (g : RK F h0 u) : v = u := by
  obtain ⟨w, a, m, h1, rfl⟩ := h
  obtain ⟨w2, a2, m2, g1, rfl⟩ := g
  obtain ⟨rfl, rfl, rfl⟩ := TDM_one h1 g1
  rfl
noncomputable def rkF (F : Int32 → Int32) (h0 : Nat) : Int32 := @Classical.epsilon Int32 ⟨0⟩ (fun v => RK F h0 v)
theorem rkF_eq {F : Int32 → Int32} {h0 : Nat} {v : Int32} (h : RK F h0 v) : v = rkF F h0 := RK_one h (@Classical.epsilon_spec Int32 (fun v => RK F h0 v) ⟨v, h⟩)
theorem RK_cong {F G : Int32 → Int32} {h0 : Nat} (e : ∀ k, hsq F h0 k = hsq G h0 k) {v : Int32} (h : RK F h0 v) : RK G h0 v := by
  obtain ⟨w, a, m, h1, h2⟩ := h
  exact ⟨w, a, m, TDM_cong e h1, h2⟩
theorem stp_nx {lf : Int32 → Int32} {x a b : Int32} {st : List Int32} (h : ¬ isSh x) : stp lf x a st = stp lf x b st := by
  unfold stp
  by_cases c1 : x = nI 60
  · rw [if_pos c1, if_pos c1]
  · rw [if_neg c1, if_neg c1]
    by_cases c2 : x = nI 62
    · rw [if_pos c2, if_pos c2]
    · rw [if_neg c2, if_neg c2]
      by_cases c3 : x = nI 47
      · rw [if_pos c3, if_pos c3]
      · rw [if_neg c3, if_neg c3]
        by_cases c4 : x = nI 126
        · rw [if_pos c4, if_pos c4]
        · rw [if_neg c4, if_neg c4, if_neg (fun z => h (Or.inl z)), if_neg (fun z => h (Or.inl z)), if_neg (fun z => h (Or.inr z)), if_neg (fun z => h (Or.inr z))]
theorem ev_cong {f g : Nat → Int32} {lf : Int32 → Int32} {n : Nat} (hV : VL f n) (e : ∀ j, j < n → f j = g j) : ∀ (r q : Nat), q + r = n → ev f lf r q = ev g lf r q
  | 0, q, _ => rfl
  | r + 1, q, h => by
    show stp lf (f q) (f (q + 1)) (ev f lf r (q + 1)) = stp lf (g q) (g (q + 1)) (ev g lf r (q + 1))
    rw [ev_cong hV e r (q + 1) (by omega), ← e q (by omega)]
    rcases Nat.lt_or_ge (q + 1) n with c | c
    · rw [e (q + 1) c]
    · refine stp_nx (fun hs => ?_)
      have h1 := VL_sh hV (show q < n by omega) hs
      rw [show q + 1 = n by omega, VL_end hV] at h1
      exact Bool.false_ne_true h1
theorem nxH_congS {f g : Nat → Int32} {nl n : Nat} (hV : VL f nl) (e : ∀ j, j < nl → f j = g j) (tm : Nat → Int32) (h : Int32) : nxH f nl n tm h = nxH g nl n tm h := by
  unfold nxH mdB
  rw [ev_cong hV e nl 0 (by omega)]
theorem ps_cong {f g : Nat → Int32} : ∀ (k : Nat), (∀ j, j < k → f j = g j) → ps f k = ps g k
  | 0, _ => rfl
  | k + 1, e => by
    have ih := ps_cong k (fun j hj => e j (by omega))
    show (if (ps f k).2 = true then _ else _) = (if (ps g k).2 = true then _ else _)
    rw [ih, e k (by omega)]
theorem VL_cong {f g : Nat → Int32} {n : Nat} (h : VL f n) (e : ∀ j, j < n → f j = g j) : VL g n := by
  obtain ⟨h1, h2, h3⟩ := h
  refine ⟨h1, fun k hk => ?_, by rw [← ps_cong n e]; exact h3⟩
  rw [← ps_cong k (fun j hj => e j (by omega)), ← e k hk]
  exact h2 k hk
theorem nxF_congS {f g : Nat → Int32} {nl n : Nat} {fe fl : Nat → Int32} {la : Int32} (hV : VL f nl) (e : ∀ j, j < nl → f j = g j) : nxF f nl n fe fl la = nxF g nl n fe fl la := by
  funext h
  exact nxH_congS hV e _ h
theorem nxG_congS {f g : Nat → Int32} {nl n : Nat} {fe fl : Nat → Int32} {la : Int32} (hV : VL f nl) (e : ∀ j, j < nl → f j = g j) : nxG f nl n fe fl la = nxG g nl n fe fl la := by
  funext h
  exact nxH_congS hV e _ h
/-- the told law of a number -/
def tS (q : Nat) : Nat → Int32 := fun j => if j = 0 then nI 45 else if j = 1 then nI (48 + q % 6) else nI (sgN (q / 6))
theorem tS_eq (f : Nat → Int32) (q : Nat) : ∀ j, j < 3 → upd (upd (upd f 0 (nI 45)) 1 (nI (48 + q % 6))) 2 (nI (sgN (q / 6))) j = tS q j := fun j hj => by
  rcases (show j = 0 ∨ j = 1 ∨ j = 2 by omega) with rfl | rfl | rfl <;> rfl
theorem tS_VL (q : Nat) : VL (tS q) 3 := by
  have p1 : ps (tS q) 1 = (1, true) := rfl
  have p2 : ps (tS q) 2 = (1, false) := rfl
  have lf : isLf (tS q 2) := by
    show isLf (nI (sgN (q / 6)))
    rcases (show q / 6 = 0 ∨ q / 6 = 1 ∨ q / 6 = 2 ∨ 3 ≤ q / 6 by omega) with e | e | e | e
    · rw [e]; exact Or.inl rfl
    · rw [e]; exact Or.inr (Or.inr (Or.inl rfl))
    · rw [e]; exact Or.inr (Or.inr (Or.inr (Or.inl rfl)))
    · obtain ⟨k, hk⟩ : ∃ k, q / 6 = k + 3 := ⟨q / 6 - 3, by omega⟩
      rw [hk]; exact Or.inr (Or.inl rfl)
  refine ⟨by omega, fun k hk => ?_, ?_⟩
  · rcases (show k = 0 ∨ k = 1 ∨ k = 2 by omega) with rfl | rfl | rfl
    · exact ⟨Nat.le_refl 1, fun z => absurd z Bool.false_ne_true, fun _ => Or.inr (Or.inr (Or.inl (Or.inl rfl)))⟩
    · refine ⟨by rw [p1]; exact Nat.le_refl 1, fun _ => ?_, fun z => by rw [p1] at z; exact absurd z.symm Bool.false_ne_true⟩
      show dgt (nI (48 + q % 6))
      exact ⟨(nI_leI (by omega) (by omega)).mpr (by omega), (nI_leI (by omega) (by omega)).mpr (by omega)⟩
    · exact ⟨by rw [p2]; exact Nat.le_refl 1, fun z => by rw [p2] at z; exact absurd z Bool.false_ne_true, fun _ => Or.inl lf⟩
  · rw [show (3 : Nat) = 2 + 1 from rfl, ps_f (show (ps (tS q) 2).2 = false by rw [p2]), p2, pN_lf lf]
    rfl
/-- of the first q told laws: the best, and its content -/
noncomputable def lwB (rk : Nat → Int32) (ct : Int32 → Int32) (l0 : Int32) : Nat → Int32 × Int32
  | 0 => ((-6), l0)
  | q + 1 => if rk q = (-6) then lwB rk ct l0 q else if (lwB rk ct l0 q).2 ≤ ct (rk q) then lwB rk ct l0 q else (nI q, ct (rk q))
theorem neg_lt (a : Nat) (h : a < 2147483648) : (-1 : Int32) < nI a := by
  rw [Int32.lt_iff_toInt_lt, nI_toInt h]
  have : (-1 : Int32).toInt = -1 := rfl
  omega
theorem lwB_cases (rk : Nat → Int32) (ct : Int32 → Int32) (l0 : Int32) : ∀ q, (lwB rk ct l0 q).1 = (-6) ∨ ∃ j, j < q ∧ (lwB rk ct l0 q).1 = nI j
  | 0 => Or.inl rfl
  | q + 1 => by
    show (if rk q = (-6) then lwB rk ct l0 q else if (lwB rk ct l0 q).2 ≤ ct (rk q) then lwB rk ct l0 q else (nI q, ct (rk q))).1 = (-6) ∨ ∃ j, j < q + 1 ∧ (if rk q = (-6) then lwB rk ct l0 q else if (lwB rk ct l0 q).2 ≤ ct (rk q) then lwB rk ct l0 q else (nI q, ct (rk q))).1 = nI j
    have ih : (lwB rk ct l0 q).1 = (-6) ∨ ∃ j, j < q + 1 ∧ (lwB rk ct l0 q).1 = nI j := by
      rcases lwB_cases rk ct l0 q with z | ⟨j, z1, z2⟩
      · exact Or.inl z
      · exact Or.inr ⟨j, by omega, z2⟩
    split
    · exact ih
    · split
      · exact ih
      · exact Or.inr ⟨q, by omega, rfl⟩
/-- where the best law tends to -/
noncomputable def lwW (rk : Nat → Int32) (b : Int32) : Int32 := if b = (-6) then (-6) else rk b.toNatClampNeg
theorem lwW_n {rk : Nat → Int32} {j : Nat} (h : j < 2147483648) : lwW rk (nI j) = rk j := by
  unfold lwW
  rw [if_neg (m6_ne h), nI_clamp h]
theorem iteL {α : Type} {c : Prop} [Decidable c] {r a b : α} (h1 : r = a) (h2 : r = b) : r = if c then a else b := by
  split
  · exact h1
  · exact h2

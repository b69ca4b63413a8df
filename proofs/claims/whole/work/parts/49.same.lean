/-! PURE WORDS, seventeenth: the two states beside each other, and what every call answers by both -/
theorem RNG_n {n m b : Nat} {f : Nat → Int32} (h : RNG m b f) (hn : n ≤ m) : RNG n b f := fun j hj => h j (by omega)
theorem RNG_b {n b c : Nat} {f : Nat → Int32} (h : RNG n b f) (hb : b ≤ c) : RNG n c f := fun j hj => by
  obtain ⟨v, v1, v2⟩ := h j hj
  exact ⟨v, by omega, v2⟩
theorem RNG_e {n b : Nat} {f g : Nat → Int32} (h : RNG n b f) (e : ∀ j, j < n → f j = g j) : RNG n b g := fun j hj => by
  obtain ⟨v, v1, v2⟩ := h j hj
  exact ⟨v, v1, by rw [← e j hj]; exact v2⟩
theorem RNG_u {n b v k : Nat} {f : Nat → Int32} (h : RNG n b f) (hv : v ≤ b) : RNG n b (upd f k (nI v)) := fun j hj => by
  by_cases c : j = k
  · subst c; exact ⟨v, hv, pk_us⟩
  · obtain ⟨u, u1, u2⟩ := h j hj
    exact ⟨u, u1, by rw [pk_un c]; exact u2⟩
theorem eq_upd {n k : Nat} {v : Int32} {f g : Nat → Int32} (e : ∀ j, j < n → f j = g j) : ∀ j, j < n → upd f k v j = upd g k v j := fun j hj => by
  by_cases c : j = k
  · subst c; rw [pk_us, pk_us]
  · rw [pk_un c, pk_un c, e j hj]
theorem ife {α : Type} {C : Prop} [Decidable C] {a b z : α} (h : C → a = b) : (if C then a else z) = (if C then b else z) := by
  by_cases c : C
  · rw [if_pos c, if_pos c, h c]
  · rw [if_neg c, if_neg c]
def GR (n nl ns ff : Nat) (fe fl fb fs fw : Nat → Int32) : Prop := (1 ≤ n ∧ n ≤ 6 ∧ ff ≤ 9 ∧ ns ≤ 6) ∧ RNG 6 23 fe ∧ RNG 6 5 fl ∧ RNG 6 23 fb ∧ VL fs nl ∧ RNG ns 30 fw
def ER (nl ns : Nat) (fe fl fb fs fw fh fe8 fl8 fb8 fs8 fw8 : Nat → Int32) : Prop := (∀ j, j < 6 → fe j = fe8 j) ∧ (∀ j, j < 6 → fl j = fl8 j) ∧ (∀ j, j < 6 → fb j = fb8 j) ∧ (∀ j, j < nl → fs j = fs8 j) ∧ (∀ j, j < ns → fw j = fw8 (2 * j) ∧ fh j = fw8 (2 * j + 1))
def PR (sc : Nat) (fp fp8 : Nat → Int32) : Prop := sc ≤ 48 ∧ ∀ j, j < sc → fp j = fp8 j
section SM
variable {n nl ns ff : Nat} {fe fl fb fs fw fh fe8 fl8 fb8 fs8 fw8 : Nat → Int32} {r r8 : Int32}
theorem FGt (g : GR n nl ns ff fe fl fb fs fw) (e : ER nl ns fe fl fb fs fw fh fe8 fl8 fb8 fs8 fw8) {t t8 : Nat → Int32} (et : ∀ j, j < n → t j = t8 j) (ht : RNG n 100 t) {q k : Nat} (hq : q ≤ 9) (hk : k ≤ 23) : nxF fs nl n fe t (nI q) (nI k) = nxG fs8 nl n fe8 t8 (nI q) (nI k) := by
  obtain ⟨⟨h1, h6, -, -⟩, he, -, -, hV, -⟩ := g
  obtain ⟨e1, -, -, e4, -⟩ := e
  exact FGx h1 hV e4 (fun j hj => e1 j (by omega)) et (RNG_n he h6) ht hq k hk
theorem FGr (g : GR n nl ns ff fe fl fb fs fw) (e : ER nl ns fe fl fb fs fw fh fe8 fl8 fb8 fs8 fw8) {q k : Nat} (hq : q ≤ 9) (hk : k ≤ 23) : nxF fs nl n fe fl (nI q) (nI k) = nxG fs8 nl n fe8 fl8 (nI q) (nI k) :=
  FGt g e (fun j hj => e.2.1 j (by have := g.1.2.1; omega)) (RNG_b (RNG_n g.2.2.1 g.1.2.1) (by omega)) hq hk
theorem sm_hour (g : GR n nl ns ff fe fl fb fs fw) (e : ER nl ns fe fl fb fs fw fh fe8 fl8 fb8 fs8 fw8) {x w : Int32} (h : r = (if (nI 0 ≤ x ∧ x ≤ nI 23) ∧ (nI 0 ≤ w ∧ w ≤ nI 99) then itH (nxF fs nl n fe fl (nI 0)) w.toNatClampNeg x else (-2))) (k : r8 = (if (nI 0 ≤ x ∧ x ≤ nI 23) ∧ (nI 0 ≤ w ∧ w ≤ nI 99) then itH (nxG fs8 nl n fe8 fl8 (nI 0)) w.toNatClampNeg x else (-2))) : r = r8 := by
  refine h.trans ((ife (fun c => ?_)).trans k.symm)
  obtain ⟨a, -, a2, rfl⟩ := nI_rng (by omega) (by omega) c.1.1 c.1.2
  exact itH_G (FR_F _ _ _ _ _ _) (FR_G _ _ _ _ _ _) (fun k hk => FGr g e (by omega) hk) a2 _
theorem sm_comes (g : GR n nl ns ff fe fl fb fs fw) (e : ER nl ns fe fl fb fs fw fh fe8 fl8 fb8 fs8 fw8) {m9 x w : Int32} (h : r = (if nI 0 ≤ m9 ∧ m9 < nI n then (if (nI 0 ≤ x ∧ x ≤ nI 23) ∧ (nI 0 ≤ w ∧ w ≤ nI 99) then cmA (itH (nxF fs nl n fe fl (nI 0)) w.toNatClampNeg x) (fe m9.toNatClampNeg) (fl m9.toNatClampNeg) else (-2)) else (-1))) (k : r8 = (if nI 0 ≤ m9 ∧ m9 < nI n then (if (nI 0 ≤ x ∧ x ≤ nI 23) ∧ (nI 0 ≤ w ∧ w ≤ nI 99) then cmB (itH (nxG fs8 nl n fe8 fl8 (nI 0)) w.toNatClampNeg x) (fe8 m9.toNatClampNeg) (nI 0) (fl8 m9.toNatClampNeg) else (-2)) else (-1))) : r = r8 := by
  have h6 := g.1.2.1
  refine h.trans ((ife (fun c1 => ife (fun c => ?_))).trans k.symm)
  obtain ⟨a, -, a2, rfl⟩ := nI_rng (by omega) (by omega) c.1.1 c.1.2
  obtain ⟨mm, m2, rfl⟩ := nI_rngL (by omega) c1.1 c1.2
  rw [nI_clamp (show mm < 2 ^ 31 by omega), ← itH_G (FR_F fs nl n fe fl (nI 0)) (FR_G fs8 nl n fe8 fl8 (nI 0)) (fun k hk => FGr g e (by omega) hk) a2 _]
  obtain ⟨q, q1, q2⟩ := itH_rng (FR_F fs nl n fe fl (nI 0)) w.toNatClampNeg a2
  obtain ⟨u, u1, u2⟩ := g.2.1 mm (by omega)
  obtain ⟨v, v1, v2⟩ := g.2.2.1 mm (by omega)
  have z := cm_ab (a := q) (e := u) (r := 0) (v := v) q1 u1 (by omega) (by omega)
  rw [nI_add, Nat.add_zero] at z
  rw [q2, ← e.1 mm (by omega), ← e.2.1 mm (by omega), u2, v2]
  exact z
theorem sm_tends (g : GR n nl ns ff fe fl fb fs fw) (e : ER nl ns fe fl fb fs fw fh fe8 fl8 fb8 fs8 fw8) {x y : Int32} (h : (¬ ((nI 0 ≤ x ∧ x ≤ nI 23) ∧ (nI 0 ≤ y ∧ y ≤ nI 2)) ∧ r = (-2)) ∨ (((nI 0 ≤ x ∧ x ≤ nI 23) ∧ (nI 0 ≤ y ∧ y ≤ nI 2)) ∧ ∃ w a m, TDM (hsq (nxF fs nl n fe fl (nI 0)) x.toNatClampNeg) w a m ∧ r = (if y = nI 0 then nI a else if y = nI 1 then nI (w - a) else nI m)))
    (k : (¬ ((nI 0 ≤ x ∧ x ≤ nI 23) ∧ (nI 0 ≤ y ∧ y ≤ nI 2)) ∧ r8 = (-2)) ∨ (((nI 0 ≤ x ∧ x ≤ nI 23) ∧ (nI 0 ≤ y ∧ y ≤ nI 2)) ∧ ∃ w a m, TDM (hsq (nxG fs8 nl n fe8 fl8 (nI 0)) x.toNatClampNeg) w a m ∧ r8 = (if y = nI 0 then nI a else if y = nI 1 then nI (w - a) else nI m))) : r = r8 := by
  rcases h with ⟨c, rfl⟩ | ⟨c, w, a, m, t, rfl⟩ <;> rcases k with ⟨d, rfl⟩ | ⟨d, w8, a8, m8, t8, rfl⟩
  · rfl
  · exact absurd d c
  · exact absurd c d
  · obtain ⟨b, -, b2, rfl⟩ := nI_rng (by omega) (by omega) c.1.1 c.1.2
    rw [nI_clamp (show b < 2 ^ 31 by omega)] at t t8
    rw [← hsq_FG (FR_F fs nl n fe fl (nI 0)) b2 (fun k hk => FGr g e (by omega) hk)] at t8
    obtain ⟨rfl, rfl, rfl⟩ := TDM_one t t8
    rfl
theorem sm_paid (g : GR n nl ns ff fe fl fb fs fw) (e : ER nl ns fe fl fb fs fw fh fe8 fl8 fb8 fs8 fw8) {m9 w fi : Int32} (h : r = (if nI 0 ≤ m9 ∧ m9 < nI n then (if nI 0 ≤ w ∧ w ≤ nI 99 then fi * fl m9.toNatClampNeg * w else (-2)) else (-1))) (k : r8 = (if nI 0 ≤ m9 ∧ m9 < nI n then (if nI 0 ≤ w ∧ w ≤ nI 99 then fi * fl8 m9.toNatClampNeg * w else (-2)) else (-1))) : r = r8 := by
  have h6 := g.1.2.1
  refine h.trans ((ife (fun c1 => ife (fun c => ?_))).trans k.symm)
  obtain ⟨mm, m2, rfl⟩ := nI_rngL (by omega) c1.1 c1.2
  rw [nI_clamp (show mm < 2 ^ 31 by omega), e.2.1 mm (by omega)]
theorem sm_content (g : GR n nl ns ff fe fl fb fs fw) (e : ER nl ns fe fl fb fs fw fh fe8 fl8 fb8 fs8 fw8) {x : Int32} (h : r = (if nI 0 ≤ x ∧ x ≤ nI 23 then farS fb x n else (-2))) (k : r8 = (if nI 0 ≤ x ∧ x ≤ nI 23 then farT fb8 x n else (-2))) : r = r8 := by
  have h6 := g.1.2.1
  refine h.trans ((ife (fun c => ?_)).trans k.symm)
  obtain ⟨a, -, a2, rfl⟩ := nI_rng (by omega) (by omega) c.1 c.2
  exact far_eq a2 (fun j hj => e.2.2.1 j (by omega)) (RNG_n g.2.2.2.1 h6)
theorem FGu (g : GR n nl ns ff fe fl fb fs fw) (e : ER nl ns fe fl fb fs fw fh fe8 fl8 fb8 fs8 fw8) {mm v k : Nat} (hv : v ≤ 5) (hk : k ≤ 23) : nxF fs nl n fe (upd fl mm (nI v)) (nI 0) (nI k) = nxG fs8 nl n fe8 (upd fl8 mm (nI v)) (nI 0) (nI k) :=
  FGt g e (eq_upd (fun j hj => e.2.1 j (by have := g.1.2.1; omega))) (RNG_u (RNG_b (RNG_n g.2.2.1 g.1.2.1) (by omega)) (by omega)) (by omega) hk
theorem sm_choice (g : GR n nl ns ff fe fl fb fs fw) (e : ER nl ns fe fl fb fs fw fh fe8 fl8 fb8 fs8 fw8) {m9 x w y : Int32}
    (h : r = (if nI 0 ≤ m9 ∧ m9 < nI n then (if (nI 0 ≤ x ∧ x ≤ nI 23) ∧ (nI 1 ≤ w ∧ w ≤ nI 4) ∧ ((-1) ≤ y ∧ y ≤ nI (w.toNatClampNeg - 1)) then choV (fun z9 => nxF fs nl n fe (upd fl m9.toNatClampNeg (nI z9)) (nI 0)) ff (fb m9.toNatClampNeg).toNatClampNeg w.toNatClampNeg x.toNatClampNeg y else (-2)) else (-1)))
    (k : r8 = (if nI 0 ≤ m9 ∧ m9 < nI n then (if (nI 0 ≤ x ∧ x ≤ nI 23) ∧ (nI 1 ≤ w ∧ w ≤ nI 4) ∧ ((-1) ≤ y ∧ y ≤ nI (w.toNatClampNeg - 1)) then choV (fun z9 => nxG fs8 nl n fe8 (upd fl8 m9.toNatClampNeg (nI z9)) (nI 0)) ff (fb8 m9.toNatClampNeg).toNatClampNeg w.toNatClampNeg x.toNatClampNeg y else (-2)) else (-1))) : r = r8 := by
  have h6 := g.1.2.1
  refine h.trans ((ife (fun c1 => ife (fun c => ?_))).trans k.symm)
  obtain ⟨a, -, a2, rfl⟩ := nI_rng (by omega) (by omega) c.1.1 c.1.2
  obtain ⟨q, -, q2, rfl⟩ := nI_rng (by omega) (by omega) c.2.1.1 c.2.1.2
  obtain ⟨mm, m2, rfl⟩ := nI_rngL (by omega) c1.1 c1.2
  rw [nI_clamp (show mm < 2 ^ 31 by omega), nI_clamp (show a < 2 ^ 31 by omega), nI_clamp (show q < 2 ^ 31 by omega), ← e.2.2.1 mm (by omega)]
  obtain ⟨v, v1, v2⟩ := g.2.2.2.1 mm (by omega)
  rw [v2, nI_clamp (show v < 2 ^ 31 by omega)]
  exact choV_cong (F := fun z9 => nxF fs nl n fe (upd fl mm (nI z9)) (nI 0)) (G := fun z9 => nxG fs8 nl n fe8 (upd fl8 mm (nI z9)) (nI 0)) (fun v => FR_F _ _ _ _ _ _) (fun v h hv hh => FGu g e hv hh) g.1.2.2.1 v1 q2 a2 y
theorem sm_rests (g : GR n nl ns ff fe fl fb fs fw) (e : ER nl ns fe fl fb fs fw fh fe8 fl8 fb8 fs8 fw8) {x y : Int32}
    (h : (¬ (nI 0 ≤ x ∧ x ≤ nI 23) ∧ r = (-2)) ∨ ((nI 0 ≤ x ∧ x ≤ nI 23) ∧ ATI (RSb (fun j => nbN (fun z9 => nxF fs nl n fe z9 (nI 0)) n x.toNatClampNeg j) ff n (fun j => (fb j).toNatClampNeg)) (fun w9 => nI (dgN n w9 n)) y (4 ^ n) r))
    (k : (¬ (nI 0 ≤ x ∧ x ≤ nI 23) ∧ r8 = (-2)) ∨ ((nI 0 ≤ x ∧ x ≤ nI 23) ∧ ATI (RSb (fun j => nbN (fun z9 => nxG fs8 nl n fe8 z9 (nI 0)) n x.toNatClampNeg j) ff n (fun j => (fb8 j).toNatClampNeg)) (fun w9 => nI (dgN n w9 n)) y (4 ^ n) r8)) : r = r8 := by
  have h6 := g.1.2.1
  rcases h with ⟨c, rfl⟩ | ⟨c, t⟩ <;> rcases k with ⟨d, rfl⟩ | ⟨d, t8⟩
  · rfl
  · exact absurd d c
  · exact absurd c d
  · obtain ⟨b, -, b2, rfl⟩ := nI_rng (by omega) (by omega) c.1 c.2
    have h4 := p4_le h6
    rw [nI_clamp (show b < 2 ^ 31 by omega)] at t t8
    refine ATI_one (by omega) t (ATI_cong (fun q hq => (RSb_cong (fun k hk => ?_) (fun j hj => ?_) q hq).symm) t8)
    · show nbN _ n b k = nbN _ n b k
      unfold nbN
      have z := FGt g e (t := fun m => nI (d4 n k m)) (t8 := fun m => nI (d4 n k m)) (fun _ _ => rfl) (fun j _ => ⟨d4 n k j, by have := d4_le n k j; omega, rfl⟩) (q := 0) (by omega) b2
      exact congrArg Int32.toNatClampNeg z
    · show (fb j).toNatClampNeg = (fb8 j).toNatClampNeg
      rw [e.2.2.1 j (by omega)]
theorem far_n {b : Nat → Int32} {x : Nat} (hx : x ≤ 23) : ∀ {n : Nat}, RNG n 23 b → ∃ v : Nat, v ≤ 23 * n ∧ farS b (nI x) n = nI v
  | 0, _ => ⟨0, Nat.le_refl _, rfl⟩
  | n + 1, h => by
    obtain ⟨v, v1, v2⟩ := far_n hx (n := n) (fun j hj => h j (by omega))
    obtain ⟨u, u1, u2⟩ := h n (by omega)
    have z := dsN_le hx u1
    refine ⟨v + dsN x u, by omega, ?_⟩
    show farS b (nI x) n + abI (nI x - b n) = _
    rw [v2, u2, abI_n (by omega) (by omega), nI_add]
theorem sm_laws (g : GR n nl ns ff fe fl fb fs fw) (e : ER nl ns fe fl fb fs fw fh fe8 fl8 fb8 fs8 fw8) {x y : Int32}
    (h : r = (if (nI 0 ≤ x ∧ x ≤ nI 23) ∧ (nI 0 ≤ y ∧ y ≤ nI 1) then (if y = nI 0 then (lwB (fun q => rkF (nxF (tS q) 3 n fe fl (nI 0)) x.toNatClampNeg) (fun v => farS fb v n) (nI 1000000) 24).1 else lwW (fun q => rkF (nxF (tS q) 3 n fe fl (nI 0)) x.toNatClampNeg) (lwB (fun q => rkF (nxF (tS q) 3 n fe fl (nI 0)) x.toNatClampNeg) (fun v => farS fb v n) (nI 1000000) 24).1) else (-2)))
    (k : r8 = (if (nI 0 ≤ x ∧ x ≤ nI 23) ∧ (nI 0 ≤ y ∧ y ≤ nI 1) then (if y = nI 0 then (lwB (fun z9 => rkF (nxG (tS z9) 3 n fe8 fl8 (nI 0)) x.toNatClampNeg) (fun v => farT fb8 v n) (nI 1000000) 24).1 else lwW (fun z9 => rkF (nxG (tS z9) 3 n fe8 fl8 (nI 0)) x.toNatClampNeg) (lwB (fun z9 => rkF (nxG (tS z9) 3 n fe8 fl8 (nI 0)) x.toNatClampNeg) (fun v => farT fb8 v n) (nI 1000000) 24).1) else (-2))) : r = r8 := by
  have h6 := g.1.2.1
  refine h.trans ((ife (fun c => ?_)).trans k.symm)
  obtain ⟨a, -, a2, rfl⟩ := nI_rng (by omega) (by omega) c.1.1 c.1.2
  rw [nI_clamp (show a < 2 ^ 31 by omega)]
  have er : ∀ q, q < 24 → rkF (nxF (tS q) 3 n fe fl (nI 0)) a = rkF (nxG (tS q) 3 n fe8 fl8 (nI 0)) a := fun q _ =>
    rk_FG (FR_F _ _ _ _ _ _) a2 (FGx g.1.1 (tS_VL q) (fun _ _ => rfl) (fun j hj => e.1 j (by omega)) (fun j hj => e.2.1 j (by omega)) (RNG_n g.2.1 h6) (RNG_b (RNG_n g.2.2.1 h6) (by omega)) (by omega))
  have hb := RNG_n g.2.2.2.1 h6
  have key := lwB_cong (rk := fun q => rkF (nxF (tS q) 3 n fe fl (nI 0)) a) (rk8 := fun z9 => rkF (nxG (tS z9) 3 n fe8 fl8 (nI 0)) a) (ct := fun v => farS fb v n) (ct8 := fun v => farT fb8 v n) (l0 := nI 1000000) (l8 := nI 1000000) (n := 24) er (fun q _ => rk_rng (FR_F _ _ _ _ _ _) a2) (fun k hk => far_eq hk (fun j hj => e.2.2.1 j (by omega)) hb) (fun k hk => by
    obtain ⟨v, v1, v2⟩ := far_n hk hb
    show ¬ nI 1000000 ≤ farS fb (nI k) n ∧ ¬ nI 1000000 ≤ farS fb (nI k) n
    rw [v2]
    exact ⟨fun z => by have := (nI_leI (by omega) (by omega)).mp z; omega, fun z => by have := (nI_leI (by omega) (by omega)).mp z; omega⟩) 24 (Nat.le_refl _)
  have k1 : (lwB (fun q => rkF (nxF (tS q) 3 n fe fl (nI 0)) a) (fun v => farS fb v n) (nI 1000000) 24).1 = (lwB (fun z9 => rkF (nxG (tS z9) 3 n fe8 fl8 (nI 0)) a) (fun v => farT fb8 v n) (nI 1000000) 24).1 := by
    rcases key with z | ⟨z1, z2⟩
    · rw [z]
    · rw [z1, z2]
  rw [← k1]
  rcases lwB_cases (fun q => rkF (nxF (tS q) 3 n fe fl (nI 0)) a) (fun v => farS fb v n) (nI 1000000) 24 with z | ⟨j, j1, z⟩
  · have w6 : ∀ rk : Nat → Int32, lwW rk (-6) = (-6) := fun rk => if_pos rfl
    rw [z, w6, w6]
  · rw [z, lwW_n (by omega), lwW_n (by omega)]
    show (if y = nI 0 then nI j else rkF (nxF (tS j) 3 n fe fl (nI 0)) a) = (if y = nI 0 then nI j else rkF (nxG (tS j) 3 n fe8 fl8 (nI 0)) a)
    rw [er j j1]
theorem cdB_cong {P Q : Nat → Bool} : ∀ n, (∀ k, k < n → P k = Q k) → cdB P n = cdB Q n
  | 0, _ => rfl
  | n + 1, h => by
    show (if P n = true then cdB P n ||| (nI 1 <<< (nI n &&& 31)) else cdB P n) = (if Q n = true then cdB Q n ||| (nI 1 <<< (nI n &&& 31)) else cdB Q n)
    rw [cdB_cong n (fun k hk => h k (by omega)), h n (by omega)]
theorem sm_could (g : GR n nl ns ff fe fl fb fs fw) (e : ER nl ns fe fl fb fs fw fh fe8 fl8 fb8 fs8 fw8) {m9 x : Int32}
    (h : r = (if nI 0 ≤ m9 ∧ m9 < nI n then (if nI 0 ≤ x ∧ x ≤ nI 23 then cdB (fun k => SHb (nxF fs nl n fe (upd fl m9.toNatClampNeg (nI k)) (nI 0)) fw fh x ns) 6 else (-2)) else (-1)))
    (k : r8 = (if nI 0 ≤ m9 ∧ m9 < nI n then (if nI 0 ≤ x ∧ x ≤ nI 23 then cdB (fun k => SHc (nxG fs8 nl n fe8 (upd fl8 m9.toNatClampNeg (nI k)) (nI 0)) fw8 x ns) 6 else (-2)) else (-1))) : r = r8 := by
  refine h.trans ((ife (fun c1 => ife (fun c => cdB_cong 6 (fun v hv => ?_)))).trans k.symm)
  obtain ⟨a, -, a2, rfl⟩ := nI_rng (by omega) (by omega) c.1 c.2
  exact SH_eq (FR_F _ _ _ _ _ _) (FR_G _ _ _ _ _ _) (fun k hk => FGu g e (by omega) hk) a2 e.2.2.2.2
theorem sm_move (g : GR n nl ns ff fe fl fb fs fw) (e : ER nl ns fe fl fb fs fw fh fe8 fl8 fb8 fs8 fw8) {x w y : Int32}
    (h : (¬ ((nI 0 ≤ x ∧ x ≤ nI 23) ∧ (nI 1 ≤ w ∧ w ≤ nI 9) ∧ (nI 0 ≤ y ∧ y ≤ nI 23)) ∧ r = (-2)) ∨ (((nI 0 ≤ x ∧ x ≤ nI 23) ∧ (nI 1 ≤ w ∧ w ≤ nI 9) ∧ (nI 0 ≤ y ∧ y ≤ nI 23)) ∧ LM (fun s9 => P5 (fun z9 => nxF fs nl n fe z9 (nI 0)) (fun j => (fl j).toNatClampNeg) x.toNatClampNeg w.toNatClampNeg y.toNatClampNeg s9) (2 ^ n) r))
    (k : (¬ ((nI 0 ≤ x ∧ x ≤ nI 23) ∧ (nI 1 ≤ w ∧ w ≤ nI 9) ∧ (nI 0 ≤ y ∧ y ≤ nI 23)) ∧ r8 = (-2)) ∨ (((nI 0 ≤ x ∧ x ≤ nI 23) ∧ (nI 1 ≤ w ∧ w ≤ nI 9) ∧ (nI 0 ≤ y ∧ y ≤ nI 23)) ∧ LM (fun s9 => P6 (fun z9 => nxG fs8 nl n fe8 z9 (nI 0)) (fun j => (fl8 j).toNatClampNeg) x.toNatClampNeg w.toNatClampNeg y.toNatClampNeg s9) (2 ^ n) r8)) : r = r8 := by
  have h6 := g.1.2.1
  rcases h with ⟨c, rfl⟩ | ⟨c, t⟩ <;> rcases k with ⟨d, rfl⟩ | ⟨d, t8⟩
  · rfl
  · exact absurd d c
  · exact absurd c d
  · obtain ⟨b, -, b2, rfl⟩ := nI_rng (by omega) (by omega) c.1.1 c.1.2
    rw [nI_clamp (show b < 2 ^ 31 by omega)] at t t8
    exact mv_eq (F := fun z9 => nxF fs nl n fe z9 (nI 0)) (G := fun z9 => nxG fs8 nl n fe8 z9 (nI 0)) h6 (fun f => FR_F _ _ _ _ _ _) (fun f1 f2 hf => nxF_cong g.1.1 hf) (fun f1 f2 hf => nxG_cong g.1.1 hf) (fun j hj => by
      obtain ⟨v, v1, v2⟩ := g.2.2.1 j (by omega)
      show (fl j).toNatClampNeg ≤ 5
      rw [v2, nI_clamp (by omega)]; exact v1) (fun j hj => by
      show (fl j).toNatClampNeg = (fl8 j).toNatClampNeg
      rw [e.2.1 j (by omega)]) b2 (fun f hf k hk => FGt g e (fun _ _ => rfl) hf (by omega) hk) t t8
theorem sm_rain (g : GR n nl ns ff fe fl fb fs fw) (e : ER nl ns fe fl fb fs fw fh fe8 fl8 fb8 fs8 fw8) {x w t q y : Int32} {R R8 : Int64}
    (h : R = (if (nI 0 ≤ x ∧ x ≤ nI 23) ∧ (nI 0 ≤ w ∧ w ≤ nI 8) ∧ (nI 0 ≤ t ∧ t ≤ nI 10) ∧ (nI 0 ≤ q ∧ q ≤ nI 9) ∧ (nI 0 ≤ y ∧ y ≤ nI 1) then (if y = nI 0 then nL ((rnV (nx1 (nxF fs nl n fe fl (nI 0))) (nx1 (nxF fs nl n fe fl q)) t.toNatClampNeg w.toNatClampNeg x.toNatClampNeg) / Nat.gcd (rnV (nx1 (nxF fs nl n fe fl (nI 0))) (nx1 (nxF fs nl n fe fl q)) t.toNatClampNeg w.toNatClampNeg x.toNatClampNeg) (10 ^ w.toNatClampNeg)) else nL (10 ^ w.toNatClampNeg / Nat.gcd (rnV (nx1 (nxF fs nl n fe fl (nI 0))) (nx1 (nxF fs nl n fe fl q)) t.toNatClampNeg w.toNatClampNeg x.toNatClampNeg) (10 ^ w.toNatClampNeg))) else (-1000000000000000002)))
    (k : R8 = (if (nI 0 ≤ x ∧ x ≤ nI 23) ∧ (nI 0 ≤ w ∧ w ≤ nI 8) ∧ (nI 0 ≤ t ∧ t ≤ nI 10) ∧ (nI 0 ≤ q ∧ q ≤ nI 9) ∧ (nI 0 ≤ y ∧ y ≤ nI 1) then (if y = nI 0 then nL ((rnV (nx1 (nxG fs8 nl n fe8 fl8 (nI 0))) (nx1 (nxG fs8 nl n fe8 fl8 q)) t.toNatClampNeg w.toNatClampNeg x.toNatClampNeg) / Nat.gcd (rnV (nx1 (nxG fs8 nl n fe8 fl8 (nI 0))) (nx1 (nxG fs8 nl n fe8 fl8 q)) t.toNatClampNeg w.toNatClampNeg x.toNatClampNeg) (10 ^ w.toNatClampNeg)) else nL (10 ^ w.toNatClampNeg / Nat.gcd (rnV (nx1 (nxG fs8 nl n fe8 fl8 (nI 0))) (nx1 (nxG fs8 nl n fe8 fl8 q)) t.toNatClampNeg w.toNatClampNeg x.toNatClampNeg) (10 ^ w.toNatClampNeg))) else (-1000000000000000002))) : R = R8 := by
  refine h.trans ((ife (fun c => ?_)).trans k.symm)
  obtain ⟨a, -, a2, rfl⟩ := nI_rng (by omega) (by omega) c.1.1 c.1.2
  obtain ⟨b, -, b2, rfl⟩ := nI_rng (by omega) (by omega) c.2.2.2.1.1 c.2.2.2.1.2
  rw [nI_clamp (show a < 2 ^ 31 by omega)]
  rw [rnV_cong (D := nx1 (nxF fs nl n fe fl (nI 0))) (W := nx1 (nxF fs nl n fe fl (nI b))) (D2 := nx1 (nxG fs8 nl n fe8 fl8 (nI 0))) (W2 := nx1 (nxG fs8 nl n fe8 fl8 (nI b))) (fun h hh => nx1_cong (FGr g e (by omega) hh)) (fun h hh => nx1_cong (FGr g e b2 hh)) (nx1_le (FR_F _ _ _ _ _ _)) (nx1_le (FR_F _ _ _ _ _ _)) _ a a2]
theorem sm_year (g : GR n nl ns ff fe fl fb fs fw) (e : ER nl ns fe fl fb fs fw fh fe8 fl8 fb8 fs8 fw8) {x w h0 y fi : Int32}
    (h : r = (if ((nI 0 ≤ x ∧ x ≤ nI 9999) ∧ (nI 1 ≤ w ∧ w ≤ nI 99)) ∧ (nI 0 ≤ h0 ∧ h0 ≤ nI 23) ∧ (nI 0 ≤ y ∧ y ≤ nI 2) then (if y = nI 0 then yhq (fun g9 h9 => nxF fs nl n fe g9 (nI 0) h9) x fl n h0 w.toNatClampNeg else if y = nI 1 then ymq (fun g9 h9 => nxF fs nl n fe g9 (nI 0) h9) x fl n h0 w.toNatClampNeg else fsW fi x fl n w.toNatClampNeg) else (-2)))
    (k : r8 = (if ((nI 0 ≤ x ∧ x ≤ nI 9999) ∧ (nI 1 ≤ w ∧ w ≤ nI 99)) ∧ (nI 0 ≤ h0 ∧ h0 ≤ nI 23) ∧ (nI 0 ≤ y ∧ y ≤ nI 2) then (if y = nI 0 then yhq (fun g9 h9 => nxG fs8 nl n fe8 g9 (nI 0) h9) x fl8 n h0 w.toNatClampNeg else if y = nI 1 then ymq (fun g9 h9 => nxG fs8 nl n fe8 g9 (nI 0) h9) x fl8 n h0 w.toNatClampNeg else fsW fi x fl8 n w.toNatClampNeg) else (-2))) : r = r8 := by
  have h6 := g.1.2.1
  have el : ∀ j, j < n → fl j = fl8 j := fun j hj => e.2.1 j (by omega)
  refine h.trans ((ife (fun c => ?_)).trans k.symm)
  obtain ⟨a, -, a2, rfl⟩ := nI_rng (by omega) (by omega) c.1.1.1 c.1.1.2
  obtain ⟨b, -, b2, rfl⟩ := nI_rng (by omega) (by omega) c.2.1.1 c.2.1.2
  have key : ∀ q, yhq (fun g9 h9 => nxF fs nl n fe g9 (nI 0) h9) (nI a) fl n (nI b) q = yhq (fun g9 h9 => nxG fs8 nl n fe8 g9 (nI 0) h9) (nI a) fl8 n (nI b) q := fun q =>
    (yh_eq (F := fun g9 h9 => nxF fs nl n fe g9 (nI 0) h9) (G := fun g9 h9 => nxG fs8 nl n fe8 g9 (nI 0) h9) (s := a) (n := n) (fl := fl) (fl8 := fl8) (fun f => FR_F _ _ _ _ _ _) (fun k h hh => FGt g e (laq_eq el k) (laq_RNG (by omega) (RNG_n g.2.2.1 h6) k) (by omega) hh) b2 q).2
  rw [key, ym_eq key, fsW_eq fi (nI a) el]
theorem sm_told {sc : Nat} {fi x : Int32} (g : GR n nl ns ff fe fl fb fs fw) (e : ER nl ns fe fl fb fs fw fh fe8 fl8 fb8 fs8 fw8) (h : r = tlF sc n fi nl ns fe fl fb fs x) (k : r8 = tlF sc n fi nl ns fe8 fl8 fb8 fs8 x) : r = r8 := by
  have h6 := g.1.2.1
  have key : tlR n nl fe fl fb fs x = tlR n nl fe8 fl8 fb8 fs8 x := by
    unfold tlR
    by_cases c : nI 10 ≤ x ∧ x ≤ nI 39
    · rw [if_pos c, if_pos c]
      refine ife (fun c2 => ?_)
      rw [e.1 _ (by omega), e.2.1 _ (by omega), e.2.2.1 _ (by omega)]
    · rw [if_neg c, if_neg c]
      exact ife (fun c2 => e.2.2.2.1 _ c2.2)
  rw [h, k]
  unfold tlF
  rw [key]
theorem gd_cong {f g : Nat → Int32} {i : Nat} (e : ∀ j, j ≤ i → f j = g j) (h : gd f i) : gd g i := by
  unfold gd at h ⊢
  rw [← ps_cong i (fun j hj => e j (by omega)), ← e i (Nat.le_refl _)]
  exact h
theorem FT_cong {f g : Nat → Int32} {m : Nat} {z : Int32} (e : ∀ j, j < m → f j = g j) (h : FT f m z) : FT g m z := by
  rcases h with ⟨k, a1, a2, a3, a4⟩ | ⟨a1, a2, a3⟩ | ⟨a1, a2, a3⟩
  · exact Or.inl ⟨k, a1, fun i hi => gd_cong (fun j hj => e j (by omega)) (a2 i hi), fun z => a3 (gd_cong (fun j hj => (e j (by omega)).symm) z), a4⟩
  · exact Or.inr (Or.inl ⟨fun i hi => gd_cong (fun j hj => e j (by omega)) (a1 i hi), by rw [← ps_cong m e]; exact a2, a3⟩)
  · exact Or.inr (Or.inr ⟨fun i hi => gd_cong (fun j hj => e j (by omega)) (a1 i hi), by rw [← ps_cong m e]; exact a2, a3⟩)
theorem sm_fault {sc : Nat} {fp fp8 : Nat → Int32} (p : PR sc fp fp8) (h : FT fp sc r) (k : FT fp8 sc r8) : r = r8 := FT_one (FT_cong p.2 h) k
end SM

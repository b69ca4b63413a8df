/-! PURE WORDS, eighteenth: what stays in common behind every call that changes something -/
/-- an image: eight addresses (its object, early, late, best, law, its signs, weeks, hours), four numbers (members, signs of the law, sights, fine), six rows -/
abbrev IMt := Nat × Nat × Nat × Nat × Nat × Nat × Nat × Nat × Nat × Nat × Nat × Nat × (Nat → Int32) × (Nat → Int32) × (Nat → Int32) × (Nat → Int32) × (Nat → Int32) × (Nat → Int32)
abbrev tl8 (cI : ClassId) (y0 ye yl yb yw ys yv yz n2 nl2 ns2 ff2 : Nat) (fe2 fl2 fb2 fs2 fw2 fh2 : Nat → Int32) : va_W := [(y0, .inr (3, [.ref ye, .ref yl, .ref yb, .ref yw, .ref yv, .ref yz, .int (nI ns2), .int (nI n2), .int (nI ff2)])), (ye, .inl (cI, 6, .inl fe2)), (yl, .inl (cI, 6, .inl fl2)), (yb, .inl (cI, 6, .inl fb2)), (yw, .inr (4, [.ref ys, .int (nI nl2)])), (ys, .inl (cI, 20, .inl fs2)), (yv, .inl (cI, 6, .inl fw2)), (yz, .inl (cI, 6, .inl fh2))]
def tlI (cI : ClassId) : Option IMt → va_W
  | none => []
  | some (y0, ye, yl, yb, yw, ys, yv, yz, n2, nl2, ns2, ff2, fe2, fl2, fb2, fs2, fw2, fh2) => tl8 cI y0 ye yl yb yw ys yv yz n2 nl2 ns2 ff2 fe2 fl2 fb2 fs2 fw2 fh2
/-- an image of the class stands for a block of the check -/
def IR (k : Nat) (imf : Nat → Option Nat) (zf mf : Nat → Int32) : Option IMt → Prop
  | none => imf k = none ∧ zf k = nI 0
  | some (y0, _, _, _, _, _, _, _, n2, nl2, ns2, ff2, fe2, fl2, fb2, fs2, fw2, fh2) => imf k = some y0 ∧ zf k = nI 1 ∧ (mf (56 * k + 50) = nI n2 ∧ mf (56 * k + 51) = nI ff2 ∧ mf (56 * k + 52) = nI nl2 ∧ mf (56 * k + 53) = nI ns2) ∧ GR n2 nl2 ns2 ff2 fe2 fl2 fb2 fs2 fw2 ∧ ER nl2 ns2 fe2 fl2 fb2 fs2 fw2 fh2 (fun j => mf (56 * k + j)) (fun j => mf (56 * k + 6 + j)) (fun j => mf (56 * k + 12 + j)) (fun j => mf (56 * k + 18 + j)) (fun j => mf (56 * k + 38 + j))
def LI (kk n nl ns sc ff : Nat) (fe fl fb fs fw fh fp fe8 fl8 fb8 fs8 fw8 fp8 : Nat → Int32) (imf : Nat → Option Nat) (zf mf : Nat → Int32) (ia ib : Option IMt) : Prop :=
  GR n nl ns ff fe fl fb fs fw ∧ ER nl ns fe fl fb fs fw fh fe8 fl8 fb8 fs8 fw8 ∧ PR sc fp fp8 ∧ IR kk imf zf mf ia ∧ IR (1 - kk) imf zf mf ib
section KP
variable {kk n nl ns sc ff : Nat} {fe fl fb fs fw fh fp fe8 fl8 fb8 fs8 fw8 fp8 : Nat → Int32} {imf : Nat → Option Nat} {zf mf : Nat → Int32} {ia ib : Option IMt} {r r8 : Int32}
theorem RNG_ite {C : Prop} [Decidable C] {n b : Nat} {f h : Nat → Int32} (h1 : C → RNG n b f) (h2 : RNG n b h) : RNG n b (if C then f else h) := by
  by_cases c : C
  · rw [if_pos c]; exact h1 c
  · rw [if_neg c]; exact h2
theorem ite_ag {C : Prop} [Decidable C] {n : Nat} {f f8 h h8 : Nat → Int32} (h1 : ∀ j, j < n → f j = f8 j) (h2 : ∀ j, j < n → h j = h8 j) : ∀ j, j < n → (if C then f else h) j = (if C then f8 else h8) j := by
  by_cases c : C
  · rw [if_pos c, if_pos c]; exact h1
  · rw [if_neg c, if_neg c]; exact h2
theorem RNG_fil {n b v : Nat} (f : Nat → Int32) (hv : v ≤ b) : RNG n b (filI f (nI v) n) := fun j hj => ⟨v, hv, filI_in f (nI v) n j hj⟩
theorem RNG_0 {b : Nat} {f : Nat → Int32} : RNG 0 b f := fun j hj => absurd hj (Nat.not_lt_zero j)
theorem kp_members (g : GR n nl ns ff fe fl fb fs fw) (e : ER nl ns fe fl fb fs fw fh fe8 fl8 fb8 fs8 fw8) {x : Int32} {u u8 : Nat × Nat × (Nat → Int32) × (Nat → Int32) × (Nat → Int32)}
    (h : r = (if nI 1 ≤ x ∧ x ≤ nI 6 then nI n else (-2)) ∧ u = (if nI 1 ≤ x ∧ x ≤ nI 6 then (x.toNatClampNeg, 0, filI fe (nI 0) 6, filI fl (nI 0) 6, filI fb (nI 12) 6) else (n, ns, fe, fl, fb)))
    (k : r8 = (if nI 1 ≤ x ∧ x ≤ nI 6 then nI n else (-2)) ∧ u8 = (if nI 1 ≤ x ∧ x ≤ nI 6 then (x.toNatClampNeg, 0, filI fe8 (nI 0) 6, filI fl8 (nI 0) 6, filI fb8 (nI 12) 6) else (n, ns, fe8, fl8, fb8))) :
    r = r8 ∧ ∃ (n2 ns2 : Nat) (a1 b1 c1 a2 b2 c2 : Nat → Int32), u = (n2, ns2, a1, b1, c1) ∧ u8 = (n2, ns2, a2, b2, c2) ∧ GR n2 nl ns2 ff a1 b1 c1 fs fw ∧ ER nl ns2 a1 b1 c1 fs fw fh a2 b2 c2 fs8 fw8 := by
  obtain ⟨h1, h2⟩ := h
  obtain ⟨k1, k2⟩ := k
  refine ⟨h1.trans k1.symm, ?_⟩
  by_cases c : nI 1 ≤ x ∧ x ≤ nI 6
  · rw [if_pos c] at h2 k2
    obtain ⟨a, a1, a2, rfl⟩ := nI_rng (by omega) (by omega) c.1 c.2
    rw [nI_clamp (show a < 2 ^ 31 by omega)] at h2 k2
    refine ⟨a, 0, _, _, _, _, _, _, h2, k2, ⟨⟨a1, a2, g.1.2.2.1, by omega⟩, RNG_fil _ (by omega), RNG_fil _ (by omega), RNG_fil _ (by omega), g.2.2.2.2.1, RNG_0⟩, ⟨fun j hj => ?_, fun j hj => ?_, fun j hj => ?_, e.2.2.2.1, fun j hj => absurd hj (Nat.not_lt_zero j)⟩⟩
    · rw [filI_in _ _ _ _ hj, filI_in _ _ _ _ hj]
    · rw [filI_in _ _ _ _ hj, filI_in _ _ _ _ hj]
    · rw [filI_in _ _ _ _ hj, filI_in _ _ _ _ hj]
  · rw [if_neg c] at h2 k2
    exact ⟨n, ns, _, _, _, _, _, _, h2, k2, g, e⟩
theorem kp_member (g : GR n nl ns ff fe fl fb fs fw) (e : ER nl ns fe fl fb fs fw fh fe8 fl8 fb8 fs8 fw8) {x y v : Int32} {u u8 : (Nat → Int32) × (Nat → Int32) × (Nat → Int32)}
    (h : r = (if nI 0 ≤ x ∧ x < nI n then (if (nI 0 ≤ y ∧ y ≤ nI 2) ∧ (nI 0 ≤ v ∧ v ≤ nI (if y = nI 1 then 5 else 23)) then (if y = nI 0 then fe x.toNatClampNeg else if y = nI 1 then fl x.toNatClampNeg else fb x.toNatClampNeg) else (-2)) else (-1)) ∧ u = (if (nI 0 ≤ x ∧ x < nI n) ∧ ((nI 0 ≤ y ∧ y ≤ nI 2) ∧ (nI 0 ≤ v ∧ v ≤ nI (if y = nI 1 then 5 else 23))) then (if y = nI 0 then upd fe x.toNatClampNeg v else fe, if y = nI 1 then upd fl x.toNatClampNeg v else fl, if y = nI 2 then upd fb x.toNatClampNeg v else fb) else (fe, fl, fb)))
    (k : r8 = (if nI 0 ≤ x ∧ x < nI n then (if (nI 0 ≤ y ∧ y ≤ nI 2) ∧ (nI 0 ≤ v ∧ v ≤ nI (if y = nI 1 then 5 else 23)) then (if y = nI 0 then fe8 x.toNatClampNeg else if y = nI 1 then fl8 x.toNatClampNeg else fb8 x.toNatClampNeg) else (-2)) else (-1)) ∧ u8 = (if (nI 0 ≤ x ∧ x < nI n) ∧ ((nI 0 ≤ y ∧ y ≤ nI 2) ∧ (nI 0 ≤ v ∧ v ≤ nI (if y = nI 1 then 5 else 23))) then (if y = nI 0 then upd fe8 x.toNatClampNeg v else fe8, if y = nI 1 then upd fl8 x.toNatClampNeg v else fl8, if y = nI 2 then upd fb8 x.toNatClampNeg v else fb8) else (fe8, fl8, fb8))) :
    r = r8 ∧ ∃ a1 b1 c1 a2 b2 c2 : Nat → Int32, u = (a1, b1, c1) ∧ u8 = (a2, b2, c2) ∧ GR n nl ns ff a1 b1 c1 fs fw ∧ ER nl ns a1 b1 c1 fs fw fh a2 b2 c2 fs8 fw8 := by
  have h6 := g.1.2.1
  obtain ⟨h1, h2⟩ := h
  obtain ⟨k1, k2⟩ := k
  refine ⟨h1.trans ((ife (fun c1 => ?_)).trans k1.symm), ?_⟩
  · obtain ⟨mm, m2, rfl⟩ := nI_rngL (by omega) c1.1 c1.2
    rw [nI_clamp (show mm < 2 ^ 31 by omega), e.1 mm (by omega), e.2.1 mm (by omega), e.2.2.1 mm (by omega)]
  · by_cases c : (nI 0 ≤ x ∧ x < nI n) ∧ ((nI 0 ≤ y ∧ y ≤ nI 2) ∧ (nI 0 ≤ v ∧ v ≤ nI (if y = nI 1 then 5 else 23)))
    · rw [if_pos c] at h2 k2
      obtain ⟨g1, g2, g3, g4, g5, g6⟩ := g
      obtain ⟨e1, e2, e3, e4, e5⟩ := e
      obtain ⟨q, -, q2, rfl⟩ := nI_rng (by omega) (by split <;> omega) c.2.2.1 c.2.2.2
      have q3 : q ≤ 23 := by split at q2 <;> omega
      refine ⟨_, _, _, _, _, _, h2, k2, ⟨g1, ?_, ?_, ?_, g5, g6⟩, ⟨?_, ?_, ?_, e4, e5⟩⟩
      · exact RNG_ite (fun _ => RNG_u g2 q3) g2
      · exact RNG_ite (fun z => RNG_u g3 (by rw [if_pos z] at q2; exact q2)) g3
      · exact RNG_ite (fun _ => RNG_u g4 q3) g4
      · exact ite_ag (eq_upd e1) e1
      · exact ite_ag (eq_upd e2) e2
      · exact ite_ag (eq_upd e3) e3
    · rw [if_neg c] at h2 k2
      exact ⟨_, _, _, _, _, _, h2, k2, g, e⟩
theorem kp_fine (g : GR n nl ns ff fe fl fb fs fw) {x u u8 : Int32} (h : r = (if nI 0 ≤ x ∧ x ≤ nI 9 then nI ff else (-2)) ∧ u = (if nI 0 ≤ x ∧ x ≤ nI 9 then x else nI ff)) (k : r8 = (if nI 0 ≤ x ∧ x ≤ nI 9 then nI ff else (-2)) ∧ u8 = (if nI 0 ≤ x ∧ x ≤ nI 9 then x else nI ff)) :
    r = r8 ∧ ∃ f2 : Nat, u = nI f2 ∧ u8 = nI f2 ∧ GR n nl ns f2 fe fl fb fs fw := by
  obtain ⟨h1, h2⟩ := h
  obtain ⟨k1, k2⟩ := k
  refine ⟨h1.trans k1.symm, ?_⟩
  by_cases c : nI 0 ≤ x ∧ x ≤ nI 9
  · rw [if_pos c] at h2 k2
    obtain ⟨a, a1, a2, rfl⟩ := nI_rng (by omega) (by omega) c.1 c.2
    exact ⟨a, h2, k2, ⟨g.1.1, g.1.2.1, a2, g.1.2.2.2⟩, g.2⟩
  · rw [if_neg c] at h2 k2
    exact ⟨ff, h2, k2, g⟩
theorem kp_say (p : PR sc fp fp8) {x : Int32} {u u8 : Nat × (Nat → Int32)} (h : r = (if nI 33 ≤ x ∧ x ≤ nI 126 then (if sc < 48 then nI (sc + 1) else (-4)) else (-2)) ∧ u = (if (nI 33 ≤ x ∧ x ≤ nI 126) ∧ sc < 48 then (sc + 1, upd fp sc x) else (sc, fp)))
    (k : r8 = (if nI 33 ≤ x ∧ x ≤ nI 126 then (if sc < 48 then nI (sc + 1) else (-4)) else (-2)) ∧ u8 = (if (nI 33 ≤ x ∧ x ≤ nI 126) ∧ sc < 48 then (sc + 1, upd fp8 sc x) else (sc, fp8))) :
    r = r8 ∧ ∃ (s2 : Nat) (p1 p2 : Nat → Int32), u = (s2, p1) ∧ u8 = (s2, p2) ∧ PR s2 p1 p2 := by
  obtain ⟨h1, h2⟩ := h
  obtain ⟨k1, k2⟩ := k
  refine ⟨h1.trans k1.symm, ?_⟩
  by_cases c : (nI 33 ≤ x ∧ x ≤ nI 126) ∧ sc < 48
  · rw [if_pos c] at h2 k2
    refine ⟨_, _, _, h2, k2, c.2, fun j hj => ?_⟩
    by_cases q : j = sc
    · subst q; rw [pk_us, pk_us]
    · rw [pk_un q, pk_un q]; exact p.2 j (by omega)
  · rw [if_neg c] at h2 k2
    exact ⟨_, _, _, h2, k2, p⟩
theorem PR_0 {f g : Nat → Int32} : PR 0 f g := ⟨Nat.zero_le _, fun j hj => absurd hj (Nat.not_lt_zero j)⟩
theorem kp_enact (g : GR n nl ns ff fe fl fb fs fw) (e : ER nl ns fe fl fb fs fw fh fe8 fl8 fb8 fs8 fw8) (p : PR sc fp fp8) {u u8 : Nat × (Nat → Int32) × Nat}
    (h : (∃ z, FT fp sc z ∧ ¬ z = (-6) ∧ r = (-5) ∧ u = (nl, fs, sc)) ∨ (FT fp sc (-6) ∧ r = nI sc ∧ u = (sc, va_cpy fp fs 0 0 sc, 0)))
    (k : (∃ z, FT fp8 sc z ∧ ¬ z = (-6) ∧ r8 = (-5) ∧ u8 = (nl, fs8, sc)) ∨ (FT fp8 sc (-6) ∧ r8 = nI sc ∧ u8 = (sc, cpyI fs8 fp8 sc, 0))) :
    r = r8 ∧ ∃ (nl2 sc2 : Nat) (s1 s2 : Nat → Int32), u = (nl2, s1, sc2) ∧ u8 = (nl2, s2, sc2) ∧ GR n nl2 ns ff fe fl fb s1 fw ∧ ER nl2 ns fe fl fb s1 fw fh fe8 fl8 fb8 s2 fw8 ∧ PR sc2 fp fp8 := by
  have hs := p.1
  rcases h with ⟨z, a1, a2, a3, a4⟩ | ⟨a1, a2, a3⟩ <;> rcases k with ⟨y, b1, b2, b3, b4⟩ | ⟨b1, b2, b3⟩
  · exact ⟨a3.trans b3.symm, nl, sc, fs, fs8, a4, b4, g, e, p⟩
  · exact absurd (FT_one (FT_cong p.2 a1) b1) a2
  · exact absurd (FT_one b1 (FT_cong p.2 a1)) b2
  · have hc : ∀ j, j < sc → va_cpy fp fs 0 0 sc j = fp j := fun j hj => sb_cpy0 hj
    refine ⟨a2.trans b2.symm, sc, 0, _, _, a3, b3, ⟨g.1, g.2.1, g.2.2.1, g.2.2.2.1, VL_cong (FT_VL a1) (fun j hj => (hc j hj).symm), g.2.2.2.2.2⟩, ⟨e.1, e.2.1, e.2.2.1, fun j hj => ?_, e.2.2.2.2⟩, PR_0⟩
    rw [hc j hj, cpyI_in _ _ _ _ hj, p.2 j hj]
theorem kp_seen (g : GR n nl ns ff fe fl fb fs fw) (e : ER nl ns fe fl fb fs fw fh fe8 fl8 fb8 fs8 fw8) {x y : Int32} {u : Nat × (Nat → Int32) × (Nat → Int32)} {u8 : Nat × (Nat → Int32)}
    (h : r = (if (nI 0 ≤ x ∧ x ≤ nI 30) ∧ (nI 0 ≤ y ∧ y ≤ nI 23) then (if ns < 6 then nI (ns + 1) else (-4)) else (-2)) ∧ u = (if ((nI 0 ≤ x ∧ x ≤ nI 30) ∧ (nI 0 ≤ y ∧ y ≤ nI 23)) ∧ ns < 6 then (ns + 1, upd fw ns x, upd fh ns y) else (ns, fw, fh)))
    (k : r8 = (if (nI 0 ≤ x ∧ x ≤ nI 30) ∧ (nI 0 ≤ y ∧ y ≤ nI 23) then (if ns < 6 then nI (ns + 1) else (-4)) else (-2)) ∧ u8 = (if ((nI 0 ≤ x ∧ x ≤ nI 30) ∧ (nI 0 ≤ y ∧ y ≤ nI 23)) ∧ ns < 6 then (ns + 1, upd (upd fw8 (2 * ns) x) (2 * ns + 1) y) else (ns, fw8))) :
    r = r8 ∧ ∃ (n2 : Nat) (w1 h1 w2 : Nat → Int32), u = (n2, w1, h1) ∧ u8 = (n2, w2) ∧ GR n nl n2 ff fe fl fb fs w1 ∧ ER nl n2 fe fl fb fs w1 h1 fe8 fl8 fb8 fs8 w2 := by
  obtain ⟨h1, h2⟩ := h
  obtain ⟨k1, k2⟩ := k
  refine ⟨h1.trans k1.symm, ?_⟩
  by_cases c : ((nI 0 ≤ x ∧ x ≤ nI 30) ∧ (nI 0 ≤ y ∧ y ≤ nI 23)) ∧ ns < 6
  · rw [if_pos c] at h2 k2
    obtain ⟨a, -, a2, rfl⟩ := nI_rng (by omega) (by omega) c.1.1.1 c.1.1.2
    obtain ⟨g1, g2, g3, g4, g5, g6⟩ := g
    obtain ⟨e1, e2, e3, e4, e5⟩ := e
    have c2 := c.2
    refine ⟨_, _, _, _, h2, k2, ⟨⟨g1.1, g1.2.1, g1.2.2.1, by omega⟩, g2, g3, g4, g5, fun j hj => ?_⟩, ⟨e1, e2, e3, e4, fun j hj => ?_⟩⟩
    · by_cases q : j = ns
      · subst q; exact ⟨a, a2, pk_us⟩
      · rw [pk_un q]; exact g6 j (by omega)
    · by_cases q : j = ns
      · subst q
        exact ⟨by rw [pk_us, pk_un (by omega), pk_us], by rw [pk_us, pk_us]⟩
      · rw [pk_un q, pk_un q, pk_un (by omega), pk_un (by omega), pk_un (by omega), pk_un (by omega)]
        exact e5 j (by omega)
  · rw [if_neg c] at h2 k2
    exact ⟨_, _, _, _, h2, k2, g, e⟩
theorem kp_forget (g : GR n nl ns ff fe fl fb fs fw) (e : ER nl ns fe fl fb fs fw fh fe8 fl8 fb8 fs8 fw8) : GR n nl 0 ff fe fl fb fs fw ∧ ER nl 0 fe fl fb fs fw fh fe8 fl8 fb8 fs8 fw8 :=
  ⟨⟨⟨g.1.1, g.1.2.1, g.1.2.2.1, by omega⟩, g.2.1, g.2.2.1, g.2.2.2.1, g.2.2.2.2.1, RNG_0⟩, ⟨e.1, e.2.1, e.2.2.1, e.2.2.2.1, fun j hj => absurd hj (Nat.not_lt_zero j)⟩⟩
theorem kp_laws (g : GR n nl ns ff fe fl fb fs fw) (e : ER nl ns fe fl fb fs fw fh fe8 fl8 fb8 fs8 fw8) {s2 : Nat → Int32} (h : ∀ j, j < 20 → s2 j = fs8 j) : ER nl ns fe fl fb fs fw fh fe8 fl8 fb8 s2 fw8 :=
  ⟨e.1, e.2.1, e.2.2.1, fun j hj => by have := g.2.2.2.2.1.1; rw [h j (by omega)]; exact e.2.2.2.1 j hj, e.2.2.2.2⟩
theorem IR_keep {k : Nat} {imf im2 : Nat → Option Nat} {zf zf2 mf mf2 : Nat → Int32} {i : Option IMt} (h : IR k imf zf mf i) (e1 : im2 k = imf k) (e2 : zf2 k = zf k) (e3 : ∀ p, 56 * k ≤ p → p < 56 * k + 56 → mf2 p = mf p) : IR k im2 zf2 mf2 i := by
  match i, h with
  | none, h => exact ⟨e1.trans h.1, e2.trans h.2⟩
  | some (y0, _, _, _, _, _, _, _, n2, nl2, ns2, ff2, fe2, fl2, fb2, fs2, fw2, fh2), h =>
    obtain ⟨a1, a2, ⟨b1, b2, b3, b4⟩, g, c1, c2, c3, c4, c5⟩ := h
    have hg := g
    obtain ⟨⟨-, -, -, q1⟩, -, -, -, ⟨q2, -⟩, -⟩ := hg
    refine ⟨e1.trans a1, e2.trans a2, ⟨by rw [e3 _ (by omega) (by omega)]; exact b1, by rw [e3 _ (by omega) (by omega)]; exact b2, by rw [e3 _ (by omega) (by omega)]; exact b3, by rw [e3 _ (by omega) (by omega)]; exact b4⟩, g, fun j hj => ?_, fun j hj => ?_, fun j hj => ?_, fun j hj => ?_, fun j hj => ?_⟩
    · rw [c1 j hj]; exact (e3 _ (by omega) (by omega)).symm
    · rw [c2 j hj]; exact (e3 _ (by omega) (by omega)).symm
    · rw [c3 j hj]; exact (e3 _ (by omega) (by omega)).symm
    · rw [c4 j hj]; exact (e3 _ (by omega) (by omega)).symm
    · rw [(c5 j hj).1, (c5 j hj).2]
      exact ⟨(e3 _ (by omega) (by omega)).symm, (e3 _ (by omega) (by omega)).symm⟩
/-- an image is kept: its rows agree with the guild's -/
theorem kp_image (g : GR n nl ns ff fe fl fb fs fw) (e : ER nl ns fe fl fb fs fw fh fe8 fl8 fb8 fs8 fw8) (hk : kk ≤ 1) (hb : IR (1 - kk) imf zf mf ib) {im2 : Nat → Option Nat} {m2 z2 : Nat → Int32} {y0 ye yl yb yw ys yv yz : Nat} {fe2 fl2 fb2 fs2 fw2 fh2 : Nat → Int32}
    (h1 : ∀ j, j < 6 → fe2 j = fe j) (h2 : ∀ j, j < 6 → fl2 j = fl j) (h3 : ∀ j, j < 6 → fb2 j = fb j) (h4 : ∀ j, j < nl → fs2 j = fs j) (h5 : ∀ j, j < 6 → fw2 j = fw j) (h6 : ∀ j, j < 6 → fh2 j = fh j)
    (i1 : im2 kk = some y0) (i2 : im2 (1 - kk) = imf (1 - kk)) (hz : z2 = upd zf kk (nI 1)) (hB : BLK m2 (56 * kk) fe8 fl8 fb8 fs8 fw8 (nI n) (nI ff) (nI nl) (nI ns)) (ho : ∀ p, p < 56 * kk ∨ 56 * kk + 56 ≤ p → m2 p = mf p) :
    IR kk im2 z2 m2 (some (y0, ye, yl, yb, yw, ys, yv, yz, n, nl, ns, ff, fe2, fl2, fb2, fs2, fw2, fh2)) ∧ IR (1 - kk) im2 z2 m2 ib := by
  obtain ⟨⟨q1, q2, q3, q4⟩, g2, g3, g4, g5, g6⟩ := g
  have q5 := g5.1
  obtain ⟨e1, e2, e3, e4, e5⟩ := e
  obtain ⟨b1, b2, b3, b4, b5, b6, b7⟩ := hB
  subst hz
  refine ⟨⟨i1, pk_us, ⟨b4, b5, b6, b7⟩, ⟨⟨q1, q2, q3, q4⟩, RNG_e g2 (fun j hj => (h1 j hj).symm), RNG_e g3 (fun j hj => (h2 j hj).symm), RNG_e g4 (fun j hj => (h3 j hj).symm), VL_cong g5 (fun j hj => (h4 j hj).symm), RNG_e g6 (fun j hj => (h5 j (by omega)).symm)⟩, fun j hj => ?_, fun j hj => ?_, fun j hj => ?_, fun j hj => ?_, fun j hj => ?_⟩, IR_keep hb i2 (pk_un (by omega)) (fun p p1 p2 => ho p (by omega))⟩
  · rw [h1 j hj, e1 j hj]; exact (b1 j hj).1.symm
  · rw [h2 j hj, e2 j hj]; exact (b1 j hj).2.1.symm
  · rw [h3 j hj, e3 j hj]; exact (b1 j hj).2.2.symm
  · rw [h4 j hj, e4 j hj]; exact (b2 j (by omega)).symm
  · rw [h5 j (by omega), h6 j (by omega), (e5 j hj).1, (e5 j hj).2]
    exact ⟨(b3 _ (by omega)).symm, (b3 _ (by omega)).symm⟩
theorem cpy6 {f g : Nat → Int32} {n : Nat} : ∀ j, j < n → va_cpy f g 0 0 n j = f j := fun j hj => sb_cpy0 hj
/-- an image becomes the guild -/
theorem kp_restore {n2 nl2 ns2 ff2 : Nat} {fe2 fl2 fb2 fs2 fw2 fh2 a1 b1 c1 s1 w1 h1 a8 b8 c8 s8 w8 : Nat → Int32} {o : Nat} (g : GR n2 nl2 ns2 ff2 fe2 fl2 fb2 fs2 fw2) (e : ER nl2 ns2 fe2 fl2 fb2 fs2 fw2 fh2 (fun j => mf (o + j)) (fun j => mf (o + 6 + j)) (fun j => mf (o + 12 + j)) (fun j => mf (o + 18 + j)) (fun j => mf (o + 38 + j)))
    (k1 : ∀ j, j < 6 → a1 j = fe2 j) (k2 : ∀ j, j < 6 → b1 j = fl2 j) (k3 : ∀ j, j < 6 → c1 j = fb2 j) (k4 : ∀ j, j < nl2 → s1 j = fs2 j) (k5 : ∀ j, j < 6 → w1 j = fw2 j) (k6 : ∀ j, j < 6 → h1 j = fh2 j)
    (m1 : ∀ j, j < 6 → a8 j = mf (o + j)) (m2 : ∀ j, j < 6 → b8 j = mf (o + 6 + j)) (m3 : ∀ j, j < 6 → c8 j = mf (o + 12 + j)) (m4 : ∀ j, j < 20 → s8 j = mf (o + 18 + j)) (m5 : ∀ j, j < 12 → w8 j = mf (o + 38 + j)) :
    GR n2 nl2 ns2 ff2 a1 b1 c1 s1 w1 ∧ ER nl2 ns2 a1 b1 c1 s1 w1 h1 a8 b8 c8 s8 w8 := by
  obtain ⟨⟨q1, q2, q3, q4⟩, g2, g3, g4, g5, g6⟩ := g
  have q5 := g5.1
  obtain ⟨e1, e2, e3, e4, e5⟩ := e
  refine ⟨⟨⟨q1, q2, q3, q4⟩, RNG_e g2 (fun j hj => (k1 j hj).symm), RNG_e g3 (fun j hj => (k2 j hj).symm), RNG_e g4 (fun j hj => (k3 j hj).symm), VL_cong g5 (fun j hj => (k4 j hj).symm), RNG_e g6 (fun j hj => (k5 j (by omega)).symm)⟩, fun j hj => ?_, fun j hj => ?_, fun j hj => ?_, fun j hj => ?_, fun j hj => ?_⟩
  · rw [k1 j hj, m1 j hj]; exact e1 j hj
  · rw [k2 j hj, m2 j hj]; exact e2 j hj
  · rw [k3 j hj, m3 j hj]; exact e3 j hj
  · rw [k4 j hj, m4 j (by omega)]; exact e4 j hj
  · rw [k5 j (by omega), k6 j (by omega), m5 _ (by omega), m5 _ (by omega)]; exact e5 j hj
/-- the first state -/
theorem LI_0 {fe fl fb fs fw fh fp fe8 fl8 fb8 fw8 fp8 : Nat → Int32} (h1 : ∀ j, j < 6 → fe j = nI 0) (h2 : ∀ j, j < 6 → fl j = nI 0) (h3 : ∀ j, j < 6 → fb j = nI 12) (h4 : fs 0 = nI 108) (k1 : ∀ j, j < 6 → fe8 j = nI 0) (k2 : ∀ j, j < 6 → fl8 j = nI 0) (k3 : ∀ j, j < 6 → fb8 j = nI 12) (k4 : fs8 0 = nI 108) (hi : ∀ k, imf k = none) (hz : ∀ k, zf k = nI 0) : LI 0 4 1 0 0 1 fe fl fb fs fw fh fp fe8 fl8 fb8 fs8 fw8 fp8 imf zf mf none none := by
  refine ⟨⟨⟨by omega, by omega, by omega, by omega⟩, fun j hj => ⟨0, by omega, h1 j hj⟩, fun j hj => ⟨0, by omega, h2 j hj⟩, fun j hj => ⟨12, by omega, h3 j hj⟩, ?_, RNG_0⟩, ⟨fun j hj => (h1 j hj).trans (k1 j hj).symm, fun j hj => (h2 j hj).trans (k2 j hj).symm, fun j hj => (h3 j hj).trans (k3 j hj).symm, fun j hj => ?_, fun j hj => absurd hj (Nat.not_lt_zero j)⟩, PR_0, ⟨hi _, hz _⟩, ⟨hi _, hz _⟩⟩
  · have p0 : ps fs 0 = (1, false) := rfl
    have lf : isLf (fs 0) := Or.inl h4
    refine ⟨by omega, fun k hk => ?_, ?_⟩
    · have e0 : k = 0 := by omega
      subst e0
      rw [p0]
      exact ⟨Nat.le_refl 1, fun z => absurd z (by decide), fun _ => Or.inl lf⟩
    · have h9 := ps_f (sg := fs) (k := 0) rfl
      rw [pN_lf lf] at h9
      exact congrArg Prod.fst h9
  · have e0 : j = 0 := by omega
    subst e0
    exact h4.trans k4.symm
end KP

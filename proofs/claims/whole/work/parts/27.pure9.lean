/-! PURE WORDS, ninth: choice -/
def dsN (a b : Nat) : Nat := if a ≤ b then b - a else a - b
theorem apI_n {a b : Nat} (ha : a < 1000000) (hb : b < 1000000) : apI (nI a) (nI b) = nI (dsN a b) := by
  unfold apI dsN
  by_cases e : a ≤ b
  · rw [if_pos e, if_pos ((nI_leI (by omega) (by omega)).mpr e), pk_sub e]
  · rw [if_neg e, if_neg (fun z => e ((nI_leI (by omega) (by omega)).mp z)), pk_sub (by omega)]
theorem abI_n {a b : Nat} (ha : a < 1000000) (hb : b < 1000000) : abI (nI a - nI b) = nI (dsN a b) := by
  unfold abI dsN
  by_cases e : b ≤ a
  · rw [pk_sub e, if_pos (nI_pos' (by omega))]
    by_cases e2 : a ≤ b
    · rw [if_pos e2, show a - b = b - a by omega]
    · rw [if_neg e2]
  · have hn : ¬ (0 : Int32) ≤ nI a - nI b := fun z => by
      rw [Int32.le_iff_toInt_le, i0I, pk_sub_toInt (by omega) (by omega)] at z
      omega
    rw [if_neg hn, if_pos (show a ≤ b by omega)]
    apply Int32.toInt_inj.mp
    have e1 : (nI a - nI b).toInt = (a : Int) - b := pk_sub_toInt (by omega) (by omega)
    rw [Int32.toInt_sub, i0I, e1, nI_toInt (by omega), Int.bmod_eq_of_le (by omega) (by omega)]
    omega
def nxN (F : Nat → Int32 → Int32) (v h : Nat) : Nat := (F v (nI h)).toNatClampNeg
theorem nxN_eq {F : Nat → Int32 → Int32} (hF : ∀ v, FR (F v)) (v h : Nat) : F v (nI h) = nI (nxN F v h) := by
  obtain ⟨k, h1, h2⟩ := hF v (nI h)
  unfold nxN
  rw [h2, nI_clamp (by omega)]
theorem nxN_le {F : Nat → Int32 → Int32} (hF : ∀ v, FR (F v)) (v h : Nat) : nxN F v h ≤ 23 := by
  obtain ⟨k, h1, h2⟩ := hF v (nI h)
  unfold nxN
  rw [h2, nI_clamp (by omega)]
  exact h1
def cN (F : Nat → Int32 → Int32) (ff bb v h : Nat) : Nat := dsN (nxN F v h) bb + ff * v
theorem dsN_le {a b : Nat} (ha : a ≤ 23) (hb : b ≤ 23) : dsN a b ≤ 23 := by unfold dsN; split <;> omega
theorem cN_le {F : Nat → Int32 → Int32} (hF : ∀ v, FR (F v)) {ff bb v h : Nat} (hff : ff ≤ 9) (hbb : bb ≤ 23) (hv : v ≤ 5) : cN F ff bb v h ≤ 68 := by
  have h1 := dsN_le (nxN_le hF v h) hbb
  have h2 : ff * v ≤ 9 * 5 := Nat.mul_le_mul hff hv
  unfold cN
  omega
/-- the least of the first k, and the first place that has it -/
def mnV (g : Nat → Nat) : Nat → Nat × Nat
  | 0 => (2147483647, 0)
  | k + 1 => if (mnV g k).1 ≤ g k then mnV g k else (g k, k)
theorem mnV_ok (g : Nat → Nat) : ∀ k, (∀ v, v < k → g v < 2147483647) → (∀ v, v < k → (mnV g k).1 ≤ g v) ∧ (1 ≤ k → (mnV g k).2 < k ∧ g (mnV g k).2 = (mnV g k).1 ∧ (mnV g k).1 < 2147483647 ∧ ∀ v, v < (mnV g k).2 → (mnV g k).1 < g v)
  | 0, _ => ⟨fun v h => absurd h (Nat.not_lt_zero v), fun h => absurd h (by omega)⟩
  | k + 1, hg => by
    obtain ⟨i1, i2⟩ := mnV_ok g k (fun v hv => hg v (by omega))
    by_cases c : (mnV g k).1 ≤ g k
    · have e : mnV g (k + 1) = mnV g k := if_pos c
      rw [e]
      refine ⟨fun v hv => ?_, fun _ => ?_⟩
      · rcases Nat.lt_or_ge v k with q | q
        · exact i1 v q
        · rw [show v = k by omega]; exact c
      · rcases Nat.eq_zero_or_pos k with q | q
        · subst q
          have := hg 0 (by omega)
          exact absurd c (by show ¬ 2147483647 ≤ g 0; omega)
        · obtain ⟨j1, j2, j3, j4⟩ := i2 q
          exact ⟨by omega, j2, j3, j4⟩
    · have e : mnV g (k + 1) = (g k, k) := if_neg c
      rw [e]
      refine ⟨fun v hv => ?_, fun _ => ⟨by show k < k + 1; omega, rfl, hg k (by omega), fun v hv => ?_⟩⟩
      · rcases Nat.lt_or_ge v k with q | q
        · have := i1 v q
          show g k ≤ g v
          omega
        · rw [show v = k by omega]; exact Nat.le_refl _
      · have := i1 v hv
        show g k < g v
        omega
/-- what j weeks from an hour cost at least; how late one first comes for it -/
def Vc (F : Nat → Int32 → Int32) (ff bb : Nat) : Nat → Nat → Nat
  | 0, _ => 0
  | j + 1, h => (mnV (fun v => cN F ff bb v h + Vc F ff bb j (nxN F v h)) 6).1
def Gc (F : Nat → Int32 → Int32) (ff bb j h : Nat) : Nat → Nat := fun v => cN F ff bb v h + Vc F ff bb j (nxN F v h)
def Pc (F : Nat → Int32 → Int32) (ff bb j h : Nat) : Nat := (mnV (Gc F ff bb j h) 6).2
theorem Vc_le {F : Nat → Int32 → Int32} (hF : ∀ v, FR (F v)) {ff bb : Nat} (hff : ff ≤ 9) (hbb : bb ≤ 23) : ∀ j h, j ≤ 4 → Vc F ff bb j h ≤ 68 * j
  | 0, _, _ => by show 0 ≤ _; omega
  | j + 1, h, hj => by
    have hg : ∀ v, v < 6 → Gc F ff bb j h v ≤ 68 * (j + 1) := fun v hv => by
      have h1 := cN_le hF hff hbb (show v ≤ 5 by omega) (h := h)
      have h2 := Vc_le hF hff hbb j (nxN F v h) (by omega)
      show cN F ff bb v h + Vc F ff bb j (nxN F v h) ≤ _
      omega
    have h1 := (mnV_ok (Gc F ff bb j h) 6 (fun v hv => by have := hg v hv; omega)).1 0 (by omega)
    exact Nat.le_trans h1 (hg 0 (by omega))
theorem Gc_le {F : Nat → Int32 → Int32} (hF : ∀ v, FR (F v)) {ff bb : Nat} (hff : ff ≤ 9) (hbb : bb ≤ 23) {j h v : Nat} (hj : j ≤ 3) (hv : v ≤ 5) : Gc F ff bb j h v ≤ 272 := by
  have h1 := cN_le hF hff hbb hv (h := h)
  have h2 := Vc_le hF hff hbb j (nxN F v h) (by omega)
  show cN F ff bb v h + Vc F ff bb j (nxN F v h) ≤ _
  omega
/-- rows by their number, but r at i -/
def updF (f : Nat → Nat → Int32) (i : Nat) (r : Nat → Int32) : Nat → Nat → Int32 := fun j => if j = i then r else f j
theorem updF_s (f : Nat → Nat → Int32) (i : Nat) (r : Nat → Int32) : updF f i r i = r := if_pos rfl
theorem updF_n (f : Nat → Nat → Int32) {i j : Nat} (r : Nat → Int32) (h : j ≠ i) : updF f i r j = f j := if_neg h
def rw5 (a b c d e : Nat) : Nat → Option Nat := fun i => if i = 0 then some a else if i = 1 then some b else if i = 2 then some c else if i = 3 then some d else some e
def rw4 (a b c d : Nat) : Nat → Option Nat := fun i => if i = 0 then some a else if i = 1 then some b else if i = 2 then some c else some d
section AAM
variable {p : Program} {l : Launch} {e : Env} {R : Room} {s : State} {m : MethodId} {args : Array Value} {below : List Frame} {meth : Method} {c : Code} {H : Heap} {locs : List Loc} {cells slots : Nat} {Q : State → Prop}
variable {cc : ByteArray} {pc : Nat} {ls : Array Slot} {rest : List Value} {D : va_G} {ty : List (ClassId × FieldType)} {ws : va_W} {ad : Nat}
theorem aaldM_n (hx : p.tables.exec = Jvm.exec) (hb : c.code = cc) (hK : va_K D vwCl ty s) (hP : va_P D vwCl ws H) (q0 t0 : Nat) {cA : ClassId} {n k : Nat} {f : Nat → Option Nat} (ha : ws[q0]? = some (ad, .inl (cA, n, .inr (.inr (.inr (.inr f)))))) (ht : ty[t0]? = some (cA, .array .int)) (hk : k < n) (hn : n < 2147483648) (v : Nat) (hv : f k = some v) (hdg : decode cc pc = .ok (.aaload, 1))
    (kk : W p l e R s m args below meth c H locs cells slots Q (F0 m (pc + 1) ls (.ref v :: rest))) : W p l e R s m args below meth c H locs cells slots Q (F0 m pc ls (.int (nI k) :: .ref ad :: rest)) := by
  have hin := vp_in_nI hk hn
  have hlt : (nI k).toNatClampNeg < n := Nat.not_le.mp fun q => hin (Or.inr q)
  have e1 : va_rf (f (nI k).toNatClampNeg) = .ref v := by rw [nI_clamp (by omega), hv]; rfl
  have kk2 : W p l e R s m args below meth c H locs cells slots Q (F0 m (pc + 1) ls (va_rf (f (nI k).toNatClampNeg) :: rest)) := by rw [e1]; exact kk
  exact W.aald (v := va_rf (f (nI k).toNatClampNeg)) (ty := .array .int) hx hb (hP q0 _ ha) ((hK.2 t0 _ ht).1 n (fun j => va_rf (f j))) rfl (fun q => by cases q) (by show ¬ (nI k < 0 ∨ (arrV _ _ _).slots.size ≤ _); rw [arrV_size]; exact hin) (by show (arrV _ _ _).slots[_]? = _; rw [arrV_read _ _ hlt]) rfl rfl hdg kk2
end AAM

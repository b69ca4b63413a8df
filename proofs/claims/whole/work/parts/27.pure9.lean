/-! PURE WORDS, ninth: choice -/
def dsN (a b : Nat) : Nat := if a ≤ b then b - a else a - b
theorem apI_n {a b : Nat} (ha : a < 1000000) (hb : b < 1000000) : apI (nI a) (nI b) = nI (dsN a b) := by
  unfold apI dsN
  by_cases e : a ≤ b
  · rw [if_pos e, if_pos ((nI_leI (by omega) (by omega)).mpr e), pk_sub e]
  · rw [if_neg e, if_neg (fun z => e ((nI_leI (by omega) (by omega)).mp z)), pk_sub (by omega)]
theorem abI_n {a b : Nat} (ha : a < 1000000) (hb : b < 1000000) : abI (nI a - nI b) = nI (dsN a b) := by
  unfold abI dsN
  by_cases e : b ≤ a
  · rw [pk_sub e, if_pos (nI_pos' (by omega))]
    by_cases e2 : a ≤ b
    · rw [if_pos e2, show a - b = b - a by omega]
    · rw [if_neg e2]
  · have hn : ¬ (0 : Int32) ≤ nI a - nI b := fun z => by
      rw [Int32.le_iff_toInt_le, i0I, pk_sub_toInt (by omega) (by omega)] at z
      omega
    rw [if_neg hn, if_pos (show a ≤ b by omega)]
    apply Int32.toInt_inj.mp
    have e1 : (nI a - nI b).toInt = (a : Int) - b := pk_sub_toInt (by omega) (by omega)
    rw [Int32.toInt_sub, i0I, e1, nI_toInt (by omega), Int.bmod_eq_of_le (by omega) (by omega)]
    omega
def nxN (F : Nat → Int32 → Int32) (v h : Nat) : Nat := (F v (nI h)).toNatClampNeg
theorem nxN_eq {F : Nat → Int32 → Int32} (hF : ∀ v, FR (F v)) (v h : Nat) : F v (nI h) = nI (nxN F v h) := by
  obtain ⟨k, h1, h2⟩ := hF v (nI h)
  unfold nxN
  rw [h2, nI_clamp (by omega)]
theorem nxN_le {F : Nat → Int32 → Int32} (hF : ∀ v, FR (F v)) (v h : Nat) : nxN F v h ≤ 23 := by
  obtain ⟨k, h1, h2⟩ := hF v (nI h)
  unfold nxN
  rw [h2, nI_clamp (by omega)]
  exact h1
def cN (F : Nat → Int32 → Int32) (ff bb v h : Nat) : Nat := dsN (nxN F v h) bb + ff * v
theorem dsN_le {a b : Nat} (ha : a ≤ 23) (hb : b ≤ 23) : dsN a b ≤ 23 := by unfold dsN; split <;> omega
theorem cN_le {F : Nat → Int32 → Int32} (hF : ∀ v, FR (F v)) {ff bb v h : Nat} (hff : ff ≤ 9) (hbb : bb ≤ 23) (hv : v ≤ 5) : cN F ff bb v h ≤ 68 := by
  have h1 := dsN_le (nxN_le hF v h) hbb
  have h2 : ff * v ≤ 9 * 5 := Nat.mul_le_mul hff hv
  unfold cN
  omega
/-- the least of the first k below l0, and the first place that has it -/
def mnV (l0 : Nat) (g : Nat → Nat) : Nat → Nat × Nat
  | 0 => (l0, 0)
  | k + 1 => if (mnV l0 g k).1 ≤ g k then mnV l0 g k else (g k, k)
theorem mnV_top (l0 : Nat) (g : Nat → Nat) : ∀ k, (mnV l0 g k).1 ≤ l0
  | 0 => Nat.le_refl l0
  | k + 1 => by
    have ih := mnV_top l0 g k
    show (if (mnV l0 g k).1 ≤ g k then mnV l0 g k else (g k, k)).1 ≤ l0
    by_cases c : (mnV l0 g k).1 ≤ g k
    · rw [if_pos c]; exact ih
    · rw [if_neg c]; show g k ≤ l0; omega
theorem mnV_in (l0 : Nat) (g : Nat → Nat) : ∀ k, (mnV l0 g k).2 ≤ k
  | 0 => Nat.le_refl 0
  | k + 1 => by
    have ih := mnV_in l0 g k
    show (if (mnV l0 g k).1 ≤ g k then mnV l0 g k else (g k, k)).2 ≤ k + 1
    by_cases c : (mnV l0 g k).1 ≤ g k
    · rw [if_pos c]; omega
    · rw [if_neg c]; show k ≤ k + 1; omega
theorem mnV_ok (l0 : Nat) (g : Nat → Nat) : ∀ k, (∀ v, v < k → g v < l0) → (∀ v, v < k → (mnV l0 g k).1 ≤ g v) ∧ (1 ≤ k → (mnV l0 g k).2 < k ∧ g (mnV l0 g k).2 = (mnV l0 g k).1 ∧ ∀ v, v < (mnV l0 g k).2 → (mnV l0 g k).1 < g v)
  | 0, _ => ⟨fun v h => absurd h (Nat.not_lt_zero v), fun h => absurd h (by omega)⟩
  | k + 1, hg => by
    obtain ⟨i1, i2⟩ := mnV_ok l0 g k (fun v hv => hg v (by omega))
    by_cases c : (mnV l0 g k).1 ≤ g k
    · have e : mnV l0 g (k + 1) = mnV l0 g k := if_pos c
      rw [e]
      refine ⟨fun v hv => ?_, fun _ => ?_⟩
      · rcases Nat.lt_or_ge v k with q | q
        · exact i1 v q
        · rw [show v = k by omega]; exact c
      · rcases Nat.eq_zero_or_pos k with q | q
        · subst q
          have := hg 0 (by omega)
          exact absurd c (by show ¬ l0 ≤ g 0; omega)
        · obtain ⟨j1, j2, j4⟩ := i2 q
          exact ⟨by omega, j2, j4⟩
    · have e : mnV l0 g (k + 1) = (g k, k) := if_neg c
      rw [e]
      refine ⟨fun v hv => ?_, fun _ => ⟨by show k < k + 1; omega, rfl, fun v hv => ?_⟩⟩
      · rcases Nat.lt_or_ge v k with q | q
        · have := i1 v q
          show g k ≤ g v
          omega
        · rw [show v = k by omega]; exact Nat.le_refl _
      · have := i1 v hv
        show g k < g v
        omega
theorem mnV_one {l0 : Nat} {g : Nat → Nat} {k V B : Nat} (hg : ∀ v, v < k → g v < l0) (h1 : B < k) (h2 : g B = V) (h3 : ∀ v, v < k → V ≤ g v) (h4 : ∀ v, v < B → V < g v) : mnV l0 g k = (V, B) := by
  obtain ⟨i1, i2⟩ := mnV_ok l0 g k hg
  obtain ⟨j1, j2, j4⟩ := i2 (by omega)
  have a1 := i1 B h1
  have a2 := h3 _ j1
  have e1 : (mnV l0 g k).1 = V := by omega
  have e2 : (mnV l0 g k).2 = B := by
    rcases Nat.lt_trichotomy (mnV l0 g k).2 B with q | q | q
    · have := h4 _ q; omega
    · exact q
    · have := j4 _ q; omega
  exact Prod.ext e1 e2
theorem mnV_cong {l0 : Nat} {f g : Nat → Nat} : ∀ k, (∀ v, v < k → f v = g v) → mnV l0 f k = mnV l0 g k
  | 0, _ => rfl
  | k + 1, h => by
    show (if (mnV l0 f k).1 ≤ f k then mnV l0 f k else (f k, k)) = (if (mnV l0 g k).1 ≤ g k then mnV l0 g k else (g k, k))
    rw [mnV_cong k (fun v hv => h v (by omega)), h k (by omega)]
/-- what j weeks from an hour cost at least; how late one first comes for it -/
def Vc (F : Nat → Int32 → Int32) (ff bb : Nat) : Nat → Nat → Nat
  | 0, _ => 0
  | j + 1, h => (mnV 1000000 (fun v => cN F ff bb v h + Vc F ff bb j (nxN F v h)) 6).1
def Gc (F : Nat → Int32 → Int32) (ff bb j h : Nat) : Nat → Nat := fun v => cN F ff bb v h + Vc F ff bb j (nxN F v h)
def Pc (F : Nat → Int32 → Int32) (ff bb j h : Nat) : Nat := (mnV 1000000 (Gc F ff bb j h) 6).2
theorem Vc_le {F : Nat → Int32 → Int32} (hF : ∀ v, FR (F v)) {ff bb : Nat} (hff : ff ≤ 9) (hbb : bb ≤ 23) : ∀ j h, j ≤ 4 → Vc F ff bb j h ≤ 68 * j
  | 0, _, _ => by show 0 ≤ _; omega
  | j + 1, h, hj => by
    have hg : ∀ v, v < 6 → Gc F ff bb j h v ≤ 68 * (j + 1) := fun v hv => by
      have h1 := cN_le hF hff hbb (show v ≤ 5 by omega) (h := h)
      have h2 := Vc_le hF hff hbb j (nxN F v h) (by omega)
      show cN F ff bb v h + Vc F ff bb j (nxN F v h) ≤ _
      omega
    have h1 := (mnV_ok 1000000 (Gc F ff bb j h) 6 (fun v hv => by have := hg v hv; omega)).1 0 (by omega)
    exact Nat.le_trans h1 (hg 0 (by omega))
theorem Gc_le {F : Nat → Int32 → Int32} (hF : ∀ v, FR (F v)) {ff bb : Nat} (hff : ff ≤ 9) (hbb : bb ≤ 23) {j h v : Nat} (hj : j ≤ 3) (hv : v ≤ 5) : Gc F ff bb j h v ≤ 272 := by
  have h1 := cN_le hF hff hbb hv (h := h)
  have h2 := Vc_le hF hff hbb j (nxN F v h) (by omega)
  show cN F ff bb v h + Vc F ff bb j (nxN F v h) ≤ _
  omega
/-- the hours, if one comes as is picked, w weeks on -/
def gqN (F : Nat → Int32 → Int32) (ff bb w h0 : Nat) : Nat → Nat
  | 0 => h0
  | k + 1 => nxN F (Pc F ff bb (w - 1 - k) (gqN F ff bb w h0 k)) (gqN F ff bb w h0 k)
theorem gqN_le {F : Nat → Int32 → Int32} (hF : ∀ v, FR (F v)) {ff bb w h0 : Nat} (h : h0 ≤ 23) : ∀ k, gqN F ff bb w h0 k ≤ 23
  | 0 => h
  | k + 1 => nxN_le hF _ _
theorem Pc_lt (F : Nat → Int32 → Int32) (hF : ∀ v, FR (F v)) {ff bb : Nat} (hff : ff ≤ 9) (hbb : bb ≤ 23) {j h : Nat} (hj : j ≤ 3) : Pc F ff bb j h < 6 :=
  ((mnV_ok 1000000 (Gc F ff bb j h) 6 (fun v hv => by have := Gc_le hF hff hbb (h := h) hj (show v ≤ 5 by omega); omega)).2 (by omega)).1
/-- what is told of a choice -/
def choV (F : Nat → Int32 → Int32) (ff bb w x : Nat) (y : Int32) : Int32 := if y < 0 then nI (Vc F ff bb w x) else nI (Pc F ff bb (w - 1 - y.toNatClampNeg) (gqN F ff bb w x y.toNatClampNeg))
/-- rows by their number, but r at i -/
def updF (f : Nat → Nat → Int32) (i : Nat) (r : Nat → Int32) : Nat → Nat → Int32 := fun j => if j = i then r else f j
theorem updF_s (f : Nat → Nat → Int32) (i : Nat) (r : Nat → Int32) : updF f i r i = r := if_pos rfl
theorem updF_n (f : Nat → Nat → Int32) {i j : Nat} (r : Nat → Int32) (h : j ≠ i) : updF f i r j = f j := if_neg h
def rw5 (a b c d e : Nat) : Nat → Option Nat := fun i => if i = 0 then some a else if i = 1 then some b else if i = 2 then some c else if i = 3 then some d else if i = 4 then some e else none
def rw4 (a b c d : Nat) : Nat → Option Nat := fun i => if i = 0 then some a else if i = 1 then some b else if i = 2 then some c else if i = 3 then some d else none
section AAM
variable {p : Program} {l : Launch} {e : Env} {R : Room} {s : State} {m : MethodId} {args : Array Value} {below : List Frame} {meth : Method} {c : Code} {H : Heap} {locs : List Loc} {cells slots : Nat} {Q : State → Prop}
variable {cc : ByteArray} {pc : Nat} {ls : Array Slot} {rest : List Value} {D : va_G} {ty : List (ClassId × FieldType)} {ws : va_W} {ad : Nat}
theorem aaldM_n (hx : p.tables.exec = Jvm.exec) (hb : c.code = cc) (hK : va_K D vwCl ty s) (hP : va_P D vwCl ws H) (q0 t0 : Nat) {cA : ClassId} {n k : Nat} {f : Nat → Option Nat} (ha : ws[q0]? = some (ad, .inl (cA, n, .inr (.inr (.inr (.inr f)))))) (ht : ty[t0]? = some (cA, .array .int)) (hk : k < n) (hn : n < 2147483648) (v : Nat) (hv : f k = some v) (hdg : decode cc pc = .ok (.aaload, 1))
    (kk : W p l e R s m args below meth c H locs cells slots Q (F0 m (pc + 1) ls (.ref v :: rest))) : W p l e R s m args below meth c H locs cells slots Q (F0 m pc ls (.int (nI k) :: .ref ad :: rest)) := by
  have hin := vp_in_nI hk hn
  have hlt : (nI k).toNatClampNeg < n := Nat.not_le.mp fun q => hin (Or.inr q)
  have e1 : va_rf (f (nI k).toNatClampNeg) = .ref v := by rw [nI_clamp (by omega), hv]; rfl
  have kk2 : W p l e R s m args below meth c H locs cells slots Q (F0 m (pc + 1) ls (va_rf (f (nI k).toNatClampNeg) :: rest)) := by rw [e1]; exact kk
  exact W.aald (v := va_rf (f (nI k).toNatClampNeg)) (ty := .array .int) hx hb (hP q0 _ ha) ((hK.2 t0 _ ht).1 n (fun j => va_rf (f j))) rfl (fun q => by cases q) (by show ¬ (nI k < 0 ∨ (arrV _ _ _).slots.size ≤ _); rw [arrV_size]; exact hin) (by show (arrV _ _ _).slots[_]? = _; rw [arrV_read _ _ hlt]) rfl rfl hdg kk2
end AAM
/-! what stands behind a call, place by place -/
def lkq (k : Nat) : List Nat → va_W → Nat × va_E → Nat × va_E
  | i :: is, x :: xs, d => lkq k is xs (cond (Nat.beq k i) x d)
  | [], _, d => d
  | _ :: _, [], d => d
def rq (is : List Nat) (w1 : va_W) : Nat → va_W → va_W
  | _, [] => []
  | k, a :: as => lkq k is w1 a :: rq is w1 (k + 1) as
theorem rq_set (is : List Nat) (xs : va_W) (x : Nat × va_E) : ∀ (ws : va_W) (k j : Nat), rq is xs k (ws.set j x) = rq ((k + j) :: is) (x :: xs) k ws
  | [], _, _ => rfl
  | a :: as, k, 0 => by
    show lkq k is xs x :: rq is xs (k + 1) as = lkq k is xs (cond (Nat.beq k (k + 0)) x a) :: rq ((k + 0) :: is) (x :: xs) (k + 1) as
    have e1 : Nat.beq k (k + 0) = true := Nat.beq_refl k
    rw [e1]
    congr 1
    have key : ∀ (bs : va_W) (q : Nat), k < q → rq is xs q bs = rq ((k + 0) :: is) (x :: xs) q bs := by
      intro bs
      induction bs with
      | nil => intro q _; rfl
      | cons b bs ih =>
        intro q hq
        show lkq q is xs b :: rq is xs (q + 1) bs = lkq q is xs (cond (Nat.beq q (k + 0)) x b) :: rq ((k + 0) :: is) (x :: xs) (q + 1) bs
        have e2 : Nat.beq q (k + 0) = false := by
          cases e : Nat.beq q (k + 0) with
          | false => rfl
          | true => exact absurd (Nat.eq_of_beq_eq_true e) (by omega)
        rw [e2, ih (q + 1) (by omega)]
        rfl
    exact key as (k + 1) (by omega)
  | a :: as, k, j + 1 => by
    show lkq k is xs a :: rq is xs (k + 1) (as.set j x) = lkq k is xs (cond (Nat.beq k (k + (j + 1))) x a) :: rq ((k + (j + 1)) :: is) (x :: xs) (k + 1) as
    have e2 : Nat.beq k (k + (j + 1)) = false := by
      cases e : Nat.beq k (k + (j + 1)) with
      | false => rfl
      | true => exact absurd (Nat.eq_of_beq_eq_true e) (by omega)
    rw [e2, rq_set is xs x as (k + 1) j, show k + 1 + j = k + (j + 1) by omega]
    rfl
theorem rq_nil (w1 : va_W) : ∀ (ws : va_W) (k : Nat), rq [] w1 k ws = ws
  | [], _ => rfl
  | a :: as, k => by
    show lkq k [] w1 a :: rq [] w1 (k + 1) as = a :: as
    rw [rq_nil w1 as (k + 1)]
    rfl
theorem rq_nil2 (i : Nat) (is : List Nat) : ∀ (ws : va_W) (k : Nat), rq (i :: is) [] k ws = ws
  | [], _ => rfl
  | a :: as, k => by
    show lkq k (i :: is) [] a :: rq (i :: is) [] (k + 1) as = a :: as
    rw [rq_nil2 i is as (k + 1)]
    rfl
theorem rp_q : ∀ (is : List Nat) (ws w1 : va_W), rp ws is w1 = rq is w1 0 ws
  | [], ws, [] => (rq_nil [] ws 0).symm
  | [], ws, x :: xs => (rq_nil (x :: xs) ws 0).symm
  | i :: is, ws, [] => (rq_nil2 i is ws 0).symm
  | i :: is, ws, x :: xs => by
    show rp (ws.set i x) is xs = _
    rw [rp_q is (ws.set i x) xs, rq_set is xs x ws 0 i, Nat.zero_add]
theorem pa_q {D : va_G} {cl : List vw_C} {ws w1 : va_W} {is : List Nat} {H : Heap} (h : va_P D cl (rp ws is w1) H) : va_P D cl (rq is w1 0 ws) H := by rw [← rp_q]; exact h
theorem da_q {A : Nat → Prop} {ws w1 : va_W} {is : List Nat} (h : va_D A (rp ws is w1)) : va_D A (rq is w1 0 ws) := by rw [← rp_q]; exact h

/-! THE LAW'S CALLS: worlds in two halves and a rest that nobody opens -/
theorem rp_t : ∀ (is : List Nat) (B w1 T : va_W), (is.all fun i => Nat.blt i B.length) = true → rp (B ++ T) is w1 = rp B is w1 ++ T
  | [], B, [], T, _ => rfl
  | [], B, _ :: _, T, _ => rfl
  | _ :: _, B, [], T, _ => rfl
  | i :: is, B, x :: xs, T, h => by
    rw [List.all_cons, Bool.and_eq_true] at h
    have h1 : i < B.length := Nat.le_of_ble_eq_true h.1
    show rp ((B ++ T).set i x) is xs = rp (B.set i x) is xs ++ T
    rw [List.set_append, if_pos h1]
    exact rp_t is (B.set i x) xs T (by rw [List.length_set]; exact h.2)
theorem pa_mem {D : va_G} {cl : List vw_C} {ws : va_W} {H : Heap} : va_P D cl ws H ↔ ∀ q, q ∈ ws → va_at D cl q H :=
  ⟨fun h q hq => by obtain ⟨k, hk⟩ := List.mem_iff_getElem?.mp hq; exact h k q hk, fun h k q hk => h q (List.mem_of_getElem? hk)⟩
theorem pa_iff {D : va_G} {cl : List vw_C} {a b : va_W} {H : Heap} : va_P D cl (a ++ b) H ↔ va_P D cl a H ∧ va_P D cl b H :=
  ⟨fun h => ⟨pa_mem.mpr (fun q hq => pa_mem.mp h q (List.mem_append.mpr (Or.inl hq))), pa_mem.mpr (fun q hq => pa_mem.mp h q (List.mem_append.mpr (Or.inr hq)))⟩, fun h => pa_mem.mpr (fun q hq => (List.mem_append.mp hq).elim (pa_mem.mp h.1 q) (pa_mem.mp h.2 q))⟩
theorem da_iff {A : Nat → Prop} {a b : va_W} : va_D A (a ++ b) ↔ va_D A a ∧ va_D A b ∧ ∀ x, x ∈ a → ∀ y, y ∈ b → x.1 ≠ y.1 := by
  have g1 : ∀ (k : Nat) (q : Nat × va_E), a[k]? = some q → (a ++ b)[k]? = some q := fun k q h => by
    rw [List.getElem?_append_left (List.getElem?_eq_some_iff.mp h).1]; exact h
  have g2 : ∀ (k : Nat) (q : Nat × va_E), b[k]? = some q → (a ++ b)[a.length + k]? = some q := fun k q h => by
    rw [List.getElem?_append_right (by omega), Nat.add_sub_cancel_left]; exact h
  constructor
  · intro h
    refine ⟨⟨fun i j p q hi hj e => h.1 i j p q (g1 i p hi) (g1 j q hj) e, fun k q hk => h.2 k q (g1 k q hk)⟩, ⟨fun i j p q hi hj e => by have := h.1 _ _ p q (g2 i p hi) (g2 j q hj) e; omega, fun k q hk => h.2 _ q (g2 k q hk)⟩, fun x hx y hy e => ?_⟩
    obtain ⟨i, hi⟩ := List.mem_iff_getElem?.mp hx
    obtain ⟨j, hj⟩ := List.mem_iff_getElem?.mp hy
    have h9 := h.1 _ _ x y (g1 i x hi) (g2 j y hj) e
    have h8 := (List.getElem?_eq_some_iff.mp hi).1
    omega
  · intro h
    exact h.1.app h.2.1 (fun i j p q hi hj => h.2.2 p (List.mem_of_getElem? hi) q (List.mem_of_getElem? hj))
section PMX
variable {D : va_G} {cl : List vw_C} {A : Nat → Prop} {H : Heap} {X Y T a b : va_W}
theorem pa_m2 (h : va_P D cl (X ++ (Y ++ T)) H) : va_P D cl (Y ++ (X ++ T)) H := by
  obtain ⟨h1, h2⟩ := pa_iff.mp h
  obtain ⟨h3, h4⟩ := pa_iff.mp h2
  exact pa_iff.mpr ⟨h3, pa_iff.mpr ⟨h1, h4⟩⟩
theorem da_m2 (h : va_D A (X ++ (Y ++ T))) : va_D A (Y ++ (X ++ T)) := by
  obtain ⟨h1, h2, h3⟩ := da_iff.mp h
  obtain ⟨h4, h5, h6⟩ := da_iff.mp h2
  exact da_iff.mpr ⟨h4, da_iff.mpr ⟨h1, h5, fun x hx y hy => h3 x hx y (List.mem_append.mpr (Or.inr hy))⟩, fun x hx y hy => (List.mem_append.mp hy).elim (fun z e => h3 y z x (List.mem_append.mpr (Or.inl hx)) e.symm) (fun z => h6 x hx y z)⟩
theorem pa_pre {u v : va_W} (h : va_P D cl (X ++ u) H) (hv : va_P D cl u H → va_P D cl v H) : va_P D cl (X ++ v) H := pa_iff.mpr ⟨(pa_iff.mp h).1, hv (pa_iff.mp h).2⟩
theorem da_pre {u v : va_W} (h : va_D A (X ++ u)) (hv : va_D A u → va_D A v) (hm : ∀ y, y ∈ v → y ∈ u) : va_D A (X ++ v) := by
  obtain ⟨h1, h2, h3⟩ := da_iff.mp h
  exact da_iff.mpr ⟨h1, hv h2, fun x hx y hy => h3 x hx y (hm y hy)⟩
theorem mem_m2 {y : Nat × va_E} (h : y ∈ Y ++ (X ++ T)) : y ∈ X ++ (Y ++ T) := by
  simp only [List.mem_append] at h ⊢
  rcases h with h | h | h
  · exact Or.inr (Or.inl h)
  · exact Or.inl h
  · exact Or.inr (Or.inr h)
/-- the first image to the class's half -/
theorem pa_m3 (h : va_P D cl (X ++ (Y ++ (a ++ b))) H) : va_P D cl ((X ++ a) ++ (Y ++ b)) H := by
  rw [List.append_assoc]; exact pa_pre h pa_m2
theorem da_m3 (h : va_D A (X ++ (Y ++ (a ++ b)))) : va_D A ((X ++ a) ++ (Y ++ b)) := by
  rw [List.append_assoc]; exact da_pre h da_m2 (fun y hy => mem_m2 hy)
theorem pa_n3 (h : va_P D cl ((X ++ a) ++ (Y ++ b)) H) : va_P D cl (X ++ (Y ++ (a ++ b))) H := by
  rw [List.append_assoc] at h; exact pa_pre h pa_m2
theorem da_n3 (h : va_D A ((X ++ a) ++ (Y ++ b))) : va_D A (X ++ (Y ++ (a ++ b))) := by
  rw [List.append_assoc] at h; exact da_pre h da_m2 (fun y hy => mem_m2 hy)
theorem pa_sw (h : va_P D cl (a ++ b) H) : va_P D cl (b ++ a) H := pa_iff.mpr ⟨(pa_iff.mp h).2, (pa_iff.mp h).1⟩
theorem da_sw (h : va_D A (a ++ b)) : va_D A (b ++ a) := by
  obtain ⟨h1, h2, h3⟩ := da_iff.mp h
  exact da_iff.mpr ⟨h2, h1, fun x hx y hy e => h3 y hy x hx e.symm⟩
theorem mem_sw {y : Nat × va_E} (h : y ∈ b ++ a) : y ∈ a ++ b := List.mem_append.mpr (List.mem_append.mp h).symm
/-- new cells from the end to the class's half -/
theorem pa_m4 (h : va_P D cl ((X ++ T) ++ a) H) : va_P D cl ((X ++ a) ++ T) H := by
  rw [List.append_assoc] at h ⊢; exact pa_pre h pa_sw
theorem da_m4 (h : va_D A ((X ++ T) ++ a)) : va_D A ((X ++ a) ++ T) := by
  rw [List.append_assoc] at h ⊢; exact da_pre h da_sw (fun y hy => mem_sw hy)
theorem pa_m5 (h : va_P D cl (X ++ (Y ++ (a ++ b))) H) : va_P D cl (X ++ (Y ++ (b ++ a))) H := pa_pre h (fun h => pa_pre h pa_sw)
theorem da_m5 (h : va_D A (X ++ (Y ++ (a ++ b)))) : va_D A (X ++ (Y ++ (b ++ a))) :=
  da_pre h (fun h => da_pre h da_sw (fun y hy => mem_sw hy)) (fun y hy => (List.mem_append.mp hy).elim (fun z => List.mem_append.mpr (Or.inl z)) (fun z => List.mem_append.mpr (Or.inr (mem_sw z))))
end PMX
section CALT
variable {p : Program} {l : Launch} {e : Env} {R : Room} {s : State} {m : MethodId} {args : Array Value} {below : List Frame} {meth : Method} {c : Code} {H : Heap} {locs : List Loc} {cells slots : Nat} {Q : State → Prop}
variable {pc : Nat} {ls : Array Slot} {rest st0 : List Value} {D : va_G} {B T wc : va_W} {A : Nat → Prop} {St : Type} {a : Array Value} {mc ms : Nat} {wn : St → va_W}
theorem cal_iT {post : Int32 → St → Prop} (hr : va_Run p l e R s m args below meth c H locs cells slots mc ms (F0 m pc ls st0) rest (va_Qi post (qw D wn (va_A wc H.size)) (va_A wc H.size) a) (va_A wc H.size))
    (hP : va_P D vwCl (B ++ T) H) (hD : va_D A (B ++ T)) (hS : va_S A s.heap H locs) (hA : ∀ q : Nat, s.heap.size ≤ q → A q) (isC : List Nat) (hC : isC.map (fun i => (B ++ T)[i]?) = wc.map some) (hlt : (isC.all fun i => Nat.blt i B.length) = true) (hlen : ∀ u, isC.length = (wn u).length)
    (kk : ∀ (r : Int32) (u : St) (H1 : Heap) (locs1 : List Loc), post r u → va_P D vwCl (rq isC (wn u) 0 B ++ T) H1 → va_D A (rq isC (wn u) 0 B ++ T) → va_S A s.heap H1 locs1 → W p l e R s m args below meth c H1 locs1 (cells + mc) (slots + ms) Q (F0 m (pc + 3) ls (.int r :: rest))) : W p l e R s m args below meth c H locs cells slots Q (F0 m pc ls st0) := by
  have hF := va_free hD hS hA isC hC
  refine va_calli hr hS (fun q _ h => hF q h) hF (fun r u t H1 locs1 ht _ hp hB _ hk hS1 => ?_)
  obtain ⟨hP1, hD1⟩ := hB
  rw [ht] at hP1
  obtain ⟨g1, g2⟩ := rp_join hP hD isC hC (hlen u) hk hF hP1 hD1
  rw [rp_t _ _ _ _ hlt, rp_q] at g1 g2
  exact kk r u H1 locs1 hp g1 g2 hS1
theorem cal_lT {post : Int64 → St → Prop} (hr : va_Run p l e R s m args below meth c H locs cells slots mc ms (F0 m pc ls st0) rest (va_Ql post (qw D wn (va_A wc H.size)) (va_A wc H.size) a) (va_A wc H.size))
    (hP : va_P D vwCl (B ++ T) H) (hD : va_D A (B ++ T)) (hS : va_S A s.heap H locs) (hA : ∀ q : Nat, s.heap.size ≤ q → A q) (isC : List Nat) (hC : isC.map (fun i => (B ++ T)[i]?) = wc.map some) (hlt : (isC.all fun i => Nat.blt i B.length) = true) (hlen : ∀ u, isC.length = (wn u).length)
    (kk : ∀ (r : Int64) (u : St) (H1 : Heap) (locs1 : List Loc), post r u → va_P D vwCl (rq isC (wn u) 0 B ++ T) H1 → va_D A (rq isC (wn u) 0 B ++ T) → va_S A s.heap H1 locs1 → W p l e R s m args below meth c H1 locs1 (cells + mc) (slots + ms) Q (F0 m (pc + 3) ls (.long r :: rest))) : W p l e R s m args below meth c H locs cells slots Q (F0 m pc ls st0) := by
  have hF := va_free hD hS hA isC hC
  refine va_calll hr hS (fun q _ h => hF q h) hF (fun r u t H1 locs1 ht _ hp hB _ hk hS1 => ?_)
  obtain ⟨hP1, hD1⟩ := hB
  rw [ht] at hP1
  obtain ⟨g1, g2⟩ := rp_join hP hD isC hC (hlen u) hk hF hP1 hD1
  rw [rp_t _ _ _ _ hlt, rp_q] at g1 g2
  exact kk r u H1 locs1 hp g1 g2 hS1
theorem cal_iX {w1 wx : St → va_W} {post : Int32 → St → Prop} (hr : va_Run p l e R s m args below meth c H locs cells slots mc ms (F0 m pc ls st0) rest (va_Qi post (qw D (fun u => w1 u ++ wx u) (va_A wc H.size)) (va_A wc H.size) a) (va_A wc H.size))
    (hP : va_P D vwCl (B ++ T) H) (hD : va_D A (B ++ T)) (hS : va_S A s.heap H locs) (hA : ∀ q : Nat, s.heap.size ≤ q → A q) (isC : List Nat) (hC : isC.map (fun i => (B ++ T)[i]?) = wc.map some) (hlt : (isC.all fun i => Nat.blt i B.length) = true) (hlen : ∀ u, isC.length = (w1 u).length)
    (kk : ∀ (r : Int32) (u : St) (H1 : Heap) (locs1 : List Loc), post r u → va_P D vwCl ((rq isC (w1 u) 0 B ++ T) ++ wx u) H1 → va_D A ((rq isC (w1 u) 0 B ++ T) ++ wx u) → va_S A s.heap H1 locs1 → W p l e R s m args below meth c H1 locs1 (cells + mc) (slots + ms) Q (F0 m (pc + 3) ls (.int r :: rest))) : W p l e R s m args below meth c H locs cells slots Q (F0 m pc ls st0) := by
  have hF := va_free hD hS hA isC hC
  refine va_calli hr hS (fun q _ h => hF q h) hF (fun r u t H1 locs1 ht _ hp hB _ hk hS1 => ?_)
  obtain ⟨hP1, hD1⟩ := hB
  rw [ht] at hP1
  obtain ⟨g1, g2⟩ := rp_joinX hP hD isC hC (hlen u) hk hF hP1 hD1
  rw [rp_t _ _ _ _ hlt, rp_q] at g1 g2
  exact kk r u H1 locs1 hp g1 g2 hS1
theorem sld_n {cc : ByteArray} {H0 : Heap} (hx : p.tables.exec = Jvm.exec) (hb : c.code = cc) {b L : Nat} {xs : Nat → Int32} (hX : va_X b L xs s H0) (hbl : b < H0.size) (hbA : ¬ A b) (hS : va_S A H0 H locs) {k : Nat} (hk : k < L) (hL : L < 2147483648) (hdg : decode cc pc = .ok (.iaload, 1))
    (kk : W p l e R s m args below meth c H locs cells slots Q (F0 m (pc + 1) ls (.int (xs k) :: rest))) : W p l e R s m args below meth c H locs cells slots Q (F0 m pc ls (.int (nI k) :: .ref b :: rest)) :=
  va_sld hx hb hX hbl hbA hS (vp_in_nI hk hL) hdg (by rw [nI_clamp (by omega)]; exact kk)
end CALT
/-- what stands in the law as long as it runs -/
def FX (p : Program) (s : State) (m : MethodId) (c : Code) (b L : Nat) (xs : Nat → Int32) (D : va_G) (cI cJ cZ cG cM : ClassId) : Prop :=
  p.tables.exec = Jvm.exec ∧ c.code = cL_law ∧ CallFix p m c cL_law 4 s #[Value.ref b] wsL_law RL ∧ (∀ w ∈ wsL_law, w.before #[Value.ref b] s = true) ∧ va_X b L xs s s.heap ∧ b < s.heap.size ∧ ¬ s.heap.size ≤ b ∧ L ≤ 3072 ∧ nwB s ∧ va_K D vwCl [(cI, .int), (cJ, .long), (cZ, .boolean), (cG, .object "LatestSets$Guild"), (cM, .array .int)] s

/-! PURE WORDS, second: texts of laws, how they are read, the next hour -/
abbrev dgt (x : Int32) : Prop := nI 48 ≤ x ∧ x ≤ nI 57
abbrev gds (x : Int32) : Prop := isLf x ∨ isPr x ∨ isSh x ∨ x = nI 126
def pN (x : Int32) : Nat := if isPr x then 2 else if isLf x then 0 else 1
/-- how many parts are due ahead of the k-th sign, and whether a digit is -/
def ps (sg : Nat → Int32) : Nat → Nat × Bool
  | 0 => (1, false)
  | k + 1 => if (ps sg k).2 = true then ((ps sg k).1, false) else ((ps sg k).1 + pN (sg k) - 1, decide (isSh (sg k)))
/-- the first n signs are a law -/
def VL (sg : Nat → Int32) (n : Nat) : Prop := n ≤ 20 ∧ (∀ k, k < n → 1 ≤ (ps sg k).1 ∧ ((ps sg k).2 = true → dgt (sg k)) ∧ ((ps sg k).2 = false → gds (sg k))) ∧ (ps sg n).1 = 0
theorem VL_pos {sg : Nat → Int32} {n : Nat} (h : VL sg n) : 1 ≤ n := by
  rcases Nat.eq_zero_or_pos n with e | e
  · subst e; exact absurd h.2.2 (by simp [ps])
  · exact e
theorem dgt_ne {x : Int32} (h : dgt x) {c : Nat} (hc : c < 48 ∨ (57 < c ∧ c < 2147483648)) : ¬ x = nI c := fun e => by
  subst e
  obtain ⟨h1, h2⟩ := h
  rcases hc with hc | ⟨hc, hb⟩
  · have := (nI_leI (by omega) (by omega)).mp h1
    omega
  · have := (nI_leI hb (by omega)).mp h2
    omega
theorem pN_sh {x : Int32} (h : isSh x) : pN x = 1 := by rcases h with h | h <;> (subst h; decide)
theorem ps_t {sg : Nat → Int32} {k : Nat} (h : (ps sg k).2 = true) : ps sg (k + 1) = ((ps sg k).1, false) := if_pos h
theorem ps_f {sg : Nat → Int32} {k : Nat} (h : (ps sg k).2 = false) : ps sg (k + 1) = ((ps sg k).1 + pN (sg k) - 1, decide (isSh (sg k))) := if_neg (by rw [h]; decide)
theorem VL_end {sg : Nat → Int32} {n : Nat} (h : VL sg n) : (ps sg n).2 = false := by
  obtain ⟨m, rfl⟩ : ∃ m, n = m + 1 := ⟨n - 1, by have := VL_pos h; omega⟩
  cases e : (ps sg m).2 with
  | true => rw [ps_t e]
  | false =>
    have h0 := h.2.2
    rw [ps_f e] at h0 ⊢
    have h1 := (h.2.1 m (Nat.lt_succ_self m)).1
    cases e2 : decide (isSh (sg m)) with
    | false => rfl
    | true =>
      rw [pN_sh (of_decide_eq_true e2)] at h0
      simp at h0
      omega
theorem VL_sh {sg : Nat → Int32} {n q : Nat} (h : VL sg n) (hq : q < n) (hs : isSh (sg q)) : (ps sg (q + 1)).2 = true := by
  cases e : (ps sg q).2 with
  | true =>
    have hd := (h.2.1 q hq).2.1 e
    rcases hs with hs | hs
    · exact absurd hs (dgt_ne hd (by omega))
    · exact absurd hs (dgt_ne hd (by omega))
  | false => rw [ps_f e]; exact decide_eq_true hs
/-- one sign read, from the right: what the leaves are, the sign, the sign behind it -/
def stp (lf : Int32 → Int32) (x nx : Int32) (st : List Int32) : List Int32 :=
  if x = nI 60 then (match st with | a :: b :: t => mnI a b :: t | _ => st)
  else if x = nI 62 then (match st with | a :: b :: t => mxI a b :: t | _ => st)
  else if x = nI 47 then (match st with | a :: b :: t => (a + b) / nI 2 :: t | _ => st)
  else if x = nI 126 then (match st with | a :: t => (nI 23 - a) :: t | _ => st)
  else if x = nI 45 then (match st with | a :: t => (a - (nx - nI 48)) :: t | _ => st)
  else if x = nI 43 then (match st with | a :: t => (a + (nx - nI 48)) :: t | _ => st)
  else if isLf x then lf x :: st
  else st
theorem stp_lt {lf : Int32 → Int32} {x nx a b : Int32} {t : List Int32} (h : x = nI 60) : stp lf x nx (a :: b :: t) = mnI a b :: t := by subst h; rfl
theorem stp_gt {lf : Int32 → Int32} {x nx a b : Int32} {t : List Int32} (h : x = nI 62) : stp lf x nx (a :: b :: t) = mxI a b :: t := by subst h; rfl
theorem stp_dv {lf : Int32 → Int32} {x nx a b : Int32} {t : List Int32} (h : x = nI 47) : stp lf x nx (a :: b :: t) = (a + b) / nI 2 :: t := by subst h; rfl
theorem stp_tl {lf : Int32 → Int32} {x nx a : Int32} {t : List Int32} (h : x = nI 126) : stp lf x nx (a :: t) = (nI 23 - a) :: t := by subst h; rfl
theorem stp_mi {lf : Int32 → Int32} {x nx a : Int32} {t : List Int32} (h : x = nI 45) : stp lf x nx (a :: t) = (a - (nx - nI 48)) :: t := by subst h; rfl
theorem stp_pl {lf : Int32 → Int32} {x nx a : Int32} {t : List Int32} (h : x = nI 43) : stp lf x nx (a :: t) = (a + (nx - nI 48)) :: t := by subst h; rfl
theorem stp_lf {lf : Int32 → Int32} {x nx : Int32} {t : List Int32} (h : isLf x) : stp lf x nx t = lf x :: t := by
  rcases h with h | h | h | h | h <;> (subst h; rfl)
theorem stp_dg {lf : Int32 → Int32} {x nx : Int32} {t : List Int32} (h : dgt x) : stp lf x nx t = t := by
  unfold stp
  rw [if_neg (dgt_ne h (by omega)), if_neg (dgt_ne h (by omega)), if_neg (dgt_ne h (by omega)), if_neg (dgt_ne h (by omega)), if_neg (dgt_ne h (by omega)), if_neg (dgt_ne h (by omega)), if_neg]
  rintro (e | e | e | e | e) <;> exact dgt_ne h (by omega) e
/-- the stack behind r signs from the q-th on, read from the right -/
def ev (sg : Nat → Int32) (lf : Int32 → Int32) : Nat → Nat → List Int32
  | 0, _ => []
  | r + 1, q => stp lf (sg q) (sg (q + 1)) (ev sg lf r (q + 1))
theorem len2 {L : List Int32} (h : 2 ≤ L.length) : ∃ a b t, L = a :: b :: t := by
  match L, h with
  | a :: b :: t, _ => exact ⟨a, b, t, rfl⟩
theorem len1 {L : List Int32} (h : 1 ≤ L.length) : ∃ a t, L = a :: t := by
  match L, h with
  | a :: t, _ => exact ⟨a, t, rfl⟩
theorem ev_len {sg : Nat → Int32} {lf : Int32 → Int32} {n : Nat} (hV : VL sg n) : ∀ (r q : Nat), q + r = n → (ev sg lf r q).length = (ps sg q).1
  | 0, q, h => by
    have : q = n := by omega
    subst this
    exact hV.2.2.symm
  | r + 1, q, h => by
    have ih := ev_len (lf := lf) hV r (q + 1) (by omega)
    obtain ⟨h1, h2, h3⟩ := hV.2.1 q (by omega)
    show (stp lf (sg q) (sg (q + 1)) (ev sg lf r (q + 1))).length = _
    cases e : (ps sg q).2 with
    | true => rw [stp_dg (h2 e), ih, ps_t e]
    | false =>
      rw [ps_f e] at ih
      rcases h3 e with g | g | g | g
      · rw [stp_lf g, List.length_cons, ih]
        have : pN (sg q) = 0 := by rcases g with g | g | g | g | g <;> (rw [g]; decide)
        simp only [this]
        omega
      · have hp : pN (sg q) = 2 := by rcases g with g | g | g <;> (rw [g]; decide)
        simp only [hp] at ih
        obtain ⟨a, b, t, ht⟩ := len2 (L := ev sg lf r (q + 1)) (by omega)
        rw [ht] at ih ⊢
        simp only [List.length_cons] at ih
        rcases g with g | g | g
        · rw [stp_lt g, List.length_cons]; omega
        · rw [stp_gt g, List.length_cons]; omega
        · rw [stp_dv g, List.length_cons]; omega
      · have hp : pN (sg q) = 1 := pN_sh g
        simp only [hp] at ih
        obtain ⟨a, t, ht⟩ := len1 (L := ev sg lf r (q + 1)) (by omega)
        rw [ht] at ih ⊢
        simp only [List.length_cons] at ih
        rcases g with g | g
        · rw [stp_mi g, List.length_cons]; omega
        · rw [stp_pl g, List.length_cons]; omega
      · have hp : pN (sg q) = 1 := by rw [g]; decide
        simp only [hp] at ih
        obtain ⟨a, t, ht⟩ := len1 (L := ev sg lf r (q + 1)) (by omega)
        rw [ht] at ih ⊢
        simp only [List.length_cons] at ih
        rw [stp_tl g, List.length_cons]; omega
theorem stp_le {lf : Int32 → Int32} {x nx : Int32} {t : List Int32} : (stp lf x nx t).length ≤ t.length + 1 := by
  unfold stp
  repeat' split
  all_goals first
    | omega
    | (simp only [List.length_cons]; omega)
theorem ev_le {sg : Nat → Int32} {lf : Int32 → Int32} : ∀ (r q : Nat), (ev sg lf r q).length ≤ r
  | 0, _ => Nat.le_refl 0
  | r + 1, q => Nat.le_trans stp_le (Nat.succ_le_succ (ev_le r (q + 1)))
/-- a row that holds a stack, its top at the list's head -/
def stk (f : Nat → Int32) : List Int32 → Prop
  | [] => True
  | a :: t => f t.length = a ∧ stk f t
theorem stk_up {f : Nat → Int32} {x : Int32} : ∀ {t : List Int32} {k : Nat}, t.length ≤ k → stk f t → stk (upd f k x) t
  | [], _, _, _ => trivial
  | a :: t, k, h, hs => by
    simp only [List.length_cons] at h
    exact ⟨(pk_un (by omega)).trans hs.1, stk_up (by omega) hs.2⟩
theorem stk_push {f : Nat → Int32} {x : Int32} {t : List Int32} (hs : stk f t) : stk (upd f t.length x) (x :: t) := ⟨pk_us, stk_up (Nat.le_refl _) hs⟩
/-- what a leaf is: the hour itself, or when one of the row came -/
def lfC (cm : Nat → Int32) (n : Nat) (h : Int32) (x : Int32) : Int32 := if x = nI 104 then h else cm (plc x n)
theorem plc_lt (x : Int32) {n : Nat} (h : 1 ≤ n) : plc x n < n := by
  unfold plc
  split
  · omega
  · split
    · omega
    · split <;> omega
theorem lfC_cong {c1 c2 : Nat → Int32} {n : Nat} (h : 1 ≤ n) (hc : ∀ j, j < n → c1 j = c2 j) (hh : Int32) : lfC c1 n hh = lfC c2 n hh := by
  funext x
  unfold lfC
  rw [hc _ (plc_lt x h)]
/-- the row of those who came, in order, the first k of them -/
def arrS (g0 : Nat → Int32) (tm : Nat → Int32) : Nat → (Nat → Int32)
  | 0 => g0
  | k + 1 => insG (arrS g0 tm k) (tm k) k
theorem insG_out (t : Int32) : ∀ (k : Nat) (g : Nat → Int32) (j : Nat), k < j → insG g t k j = g j
  | 0, g, j, h => pk_un (by omega)
  | k + 1, g, j, h => by
    show (if g k ≤ t then upd g (k + 1) t else insG (upd g (k + 1) (g k)) t k) j = g j
    split
    · exact pk_un (by omega)
    · rw [insG_out t k _ j (by omega)]; exact pk_un (by omega)
theorem insG_cong (t : Int32) : ∀ (k : Nat) (g1 g2 : Nat → Int32), (∀ j, j < k → g1 j = g2 j) → ∀ j, j ≤ k → insG g1 t k j = insG g2 t k j
  | 0, g1, g2, _, j, hj => by
    have : j = 0 := by omega
    subst this
    show upd g1 0 t 0 = upd g2 0 t 0
    rw [pk_us, pk_us]
  | k + 1, g1, g2, h, j, hj => by
    show (if g1 k ≤ t then upd g1 (k + 1) t else insG (upd g1 (k + 1) (g1 k)) t k) j = (if g2 k ≤ t then upd g2 (k + 1) t else insG (upd g2 (k + 1) (g2 k)) t k) j
    have e : g1 k = g2 k := h k (by omega)
    rw [e]
    by_cases c : g2 k ≤ t
    · rw [if_pos c, if_pos c]
      by_cases q : j = k + 1
      · subst q; rw [pk_us, pk_us]
      · rw [pk_un q, pk_un q]; exact h j (by omega)
    · rw [if_neg c, if_neg c]
      by_cases q : j = k + 1
      · subst q
        rw [insG_out t k _ (k + 1) (by omega), insG_out t k _ (k + 1) (by omega), pk_us, pk_us]
      · exact insG_cong t k _ _ (fun i hi => by rw [pk_un (by omega), pk_un (by omega)]; exact h i (by omega)) j (by omega)
theorem arrS_cong {tm1 tm2 : Nat → Int32} (g1 g2 : Nat → Int32) : ∀ (k : Nat), (∀ j, j < k → tm1 j = tm2 j) → ∀ j, j < k → arrS g1 tm1 k j = arrS g2 tm2 k j
  | 0, _, j, hj => absurd hj (Nat.not_lt_zero j)
  | k + 1, h, j, hj => by
    show insG (arrS g1 tm1 k) (tm1 k) k j = insG (arrS g2 tm2 k) (tm2 k) k j
    rw [h k (by omega)]
    exact insG_cong _ k _ _ (arrS_cong g1 g2 k (fun i hi => h i (by omega))) j (by omega)
def clp (v : Int32) : Int32 := mxI (nI 0) (mnI (nI 23) v)
/-- what the law makes of when all came -/
def mdB (sg : Nat → Int32) (len : Nat) (cm : Nat → Int32) (n : Nat) (h : Int32) : Int32 := (ev sg (lfC cm n h) len 0).headD 0
/-- the next hour -/
def nxH (sg : Nat → Int32) (len n : Nat) (tm : Nat → Int32) (h : Int32) : Int32 := clp (mdB sg len (arrS (fun _ => 0) tm n) n h)
theorem mdB_cong {sg : Nat → Int32} {len n : Nat} {c1 c2 : Nat → Int32} (h : 1 ≤ n) (hc : ∀ j, j < n → c1 j = c2 j) (hh : Int32) : mdB sg len c1 n hh = mdB sg len c2 n hh := by
  unfold mdB
  rw [lfC_cong h hc]
theorem nxH_of {sg : Nat → Int32} {len n : Nat} {tm : Nat → Int32} (g0 : Nat → Int32) (h : 1 ≤ n) (hh : Int32) : clp (mdB sg len (arrS g0 tm n) n hh) = nxH sg len n tm hh := by
  unfold nxH
  rw [mdB_cong h (arrS_cong g0 (fun _ => 0) n (fun _ _ => rfl))]
theorem nxH_cong {sg : Nat → Int32} {len n : Nat} {t1 t2 : Nat → Int32} (h : 1 ≤ n) (ht : ∀ j, j < n → t1 j = t2 j) (hh : Int32) : nxH sg len n t1 hh = nxH sg len n t2 hh := by
  unfold nxH
  rw [mdB_cong h (arrS_cong _ _ n ht)]
theorem clp_rng (v : Int32) : ∃ k : Nat, k ≤ 23 ∧ clp v = nI k := by
  have key : nI 0 ≤ clp v ∧ clp v ≤ nI 23 := by
    unfold clp mxI mnI
    simp only [Int32.lt_iff_toInt_lt, Int32.le_iff_toInt_le]
    have a0 : (nI 0).toInt = 0 := nI_toInt (by omega)
    have a23 : (nI 23).toInt = 23 := nI_toInt (by omega)
    split <;> split <;> simp only [a0, a23] at * <;> omega
  obtain ⟨k, -, h2, h3⟩ := nI_rng (by omega) (by omega) key.1 key.2
  exact ⟨k, h2, h3⟩
theorem nxH_rng (sg : Nat → Int32) (len n : Nat) (tm : Nat → Int32) (h : Int32) : ∃ k : Nat, k ≤ 23 ∧ nxH sg len n tm h = nI k := clp_rng _

/-! PURE WORDS, eighth: years -/
def rm3 (x : Int32) : Int32 := x - x / nI 3 * nI 3
def nxtX (x : Int32) : Int32 := (nI 75 * x + nI 74) - (nI 75 * x + nI 74) / nI 65537 * nI 65537
def xq (sd : Int32) : Nat → Int32
  | 0 => sd
  | k + 1 => nxtX (xq sd k)
/-- how late each is in a week, by draws -/
def laq (sd : Int32) (fl : Nat → Int32) (n k m : Nat) : Int32 := fl m + rm3 (xq sd (k * n + m + 1))
def fsM (fi : Int32) (g : Nat → Int32) (a : Int32) : Nat → Int32
  | 0 => a
  | m + 1 => fsM fi g a m + fi * g m
def fsW (fi sd : Int32) (fl : Nat → Int32) (n : Nat) : Nat → Int32
  | 0 => nI 0
  | k + 1 => fsM fi (laq sd fl n k) (fsW fi sd fl n k) n
def yhq (F : (Nat → Int32) → Int32 → Int32) (sd : Int32) (fl : Nat → Int32) (n : Nat) (h0 : Int32) : Nat → Int32
  | 0 => h0
  | k + 1 => F (laq sd fl n k) (yhq F sd fl n h0 k)
def ymq (F : (Nat → Int32) → Int32 → Int32) (sd : Int32) (fl : Nat → Int32) (n : Nat) (h0 : Int32) : Nat → Int32
  | 0 => h0
  | k + 1 => mxI (ymq F sd fl n h0 k) (yhq F sd fl n h0 (k + 1))
/-- the greater one, asked the other way round -/
theorem mx_sw2 {a b : Int32} (h : a ≤ b) : b = mxI b a := by
  unfold mxI
  rw [if_neg (i_lenlt h)]
theorem mx_sw1 {a b : Int32} (h : ¬ a ≤ b) : a = mxI b a := by
  unfold mxI
  rw [if_pos (i_nle h)]

abbrev rm_X1_drawYear : Room := { frames := 4, cells := 0, slots := 0, locals := 93 }
set_option maxHeartbeats 1000000 in
set_option maxRecDepth 100000 in
theorem c_drawYear (l : Launch) (D : va_G) (cI cJ cZ cG cM : ClassId) (cn cw cv : Nat) (up lo : Int64) (lah lmh fin : Int32) (b bt bc bs : Nat) (g ge gl gb gw gsw gsh : Nat) (fi : Int32) (n ns : Nat) (sg nl : Nat) (hg : Int32) (cm fk fs fe fl ft : Nat → Int32) (hV : VL fs nl) (h1 : 1 ≤ n) (h6 : n ≤ 6) (sd h0 : Int32) (wk : Nat) (hwk : wk < 1000) :
    CV l yX1_drawYear wsX1_drawYear rm_X1_drawYear D [(cI, .int), (cJ, .long), (cZ, .boolean), (cG, .object "LatestSets$Guild"), (cM, .array .int)] [(cn, .inr (1, [.ref b, .ref cw, .ref cv, .long up, .long lo, .int lah, .int lmh, .int fin])), (b, .inr (0, [.ref g, .ref bt, .ref bc, .ref bs, .int hg])), (g, .inr (3, [.ref ge, .ref gl, .ref gb, .ref gw, .ref gsw, .ref gsh, .int (nI ns), .int (nI n), .int fi])), (ge, .inl (cI, 6, .inl fe)), (gl, .inl (cI, 6, .inl fl)), (bt, .inl (cI, 6, .inl ft)), (bc, .inl (cI, 6, .inl cm)), (bs, .inl (cI, 20, .inl fk)), (gw, .inr (4, [.ref sg, .int (nI nl)])), (sg, .inl (cI, 20, .inl fs))] [.ref cn, .int sd, .int (nI wk), .int h0] (S := ((Nat → Int32) × (Nat → Int32) × (Nat → Int32) × Int32)) (fun u => True) (fun u => [(cn, .inr (1, [.ref b, .ref cw, .ref cv, .long up, .long lo, .int (yhq (fun g9 h9 => nxF fs nl n fe g9 (nI 0) h9) sd fl n h0 wk), .int (ymq (fun g9 h9 => nxF fs nl n fe g9 (nI 0) h9) sd fl n h0 wk), .int (fsW fi sd fl n wk)])), (b, .inr (0, [.ref g, .ref bt, .ref bc, .ref bs, .int u.2.2.2])), (g, .inr (3, [.ref ge, .ref gl, .ref gb, .ref gw, .ref gsw, .ref gsh, .int (nI ns), .int (nI n), .int fi])), (ge, .inl (cI, 6, .inl fe)), (gl, .inl (cI, 6, .inl fl)), (bt, .inl (cI, 6, .inl u.1)), (bc, .inl (cI, 6, .inl u.2.1)), (bs, .inl (cI, 20, .inl u.2.2.1)), (gw, .inr (4, [.ref sg, .int (nI nl)])), (sg, .inl (cI, 20, .inl fs))]) := by
  refine sv_of (cc := cX1_drawYear) (maxL := 7) (by decide) rfl (Nat.le_of_ble_eq_true rfl) ?_
  intro p e s m args below meth c A ls Q E hret
  obtain ⟨hx, hb, -, hml, hown, hts, -, hin, hA, hK, hP, hD, hS, hl, hN⟩ := E
  have hown : s.vm.findClass RX1 = some m.cls := hown
  have hl : lv_has ls 7 [(0, .ref cn), (1, .int sd), (2, .int (nI wk)), (3, .int h0)] := hl
  have SF : CallFix p m c cX1_drawYear 7 s args wsX1_drawYear RX1 := ⟨hx, hb, hml, hown, hts⟩
  have hw0 := hts (.fieldLink RX1 75 "LatestSets$Chance" "lastHour" "I") (by decide +kernel)
  have hi1 : ∀ x ∈ wsX10, x ∈ wsX1_drawYear := by decide +kernel
  have hw2 := hts (.fieldLink RX1 79 "LatestSets$Chance" "latestHour" "I") (by decide +kernel)
  have hw3 := hts (.fieldLink RX1 82 "LatestSets$Chance" "fines" "I") (by decide +kernel)
  have hw4 := hts (.fieldLink RX1 18 "LatestSets$Chance" "board" "LLatestSets$Board;") (by decide +kernel)
  have hw5 := hts (.fieldLink RX1 49 "LatestSets$Board" "guild" "LLatestSets$Guild;") (by decide +kernel)
  have hi0 : ∀ x ∈ wsX00, x ∈ wsX1_drawYear := by decide +kernel
  have hw7 := hts (.fieldLink RX1 85 "LatestSets$Guild" "count" "I") (by decide +kernel)
  have hi3 : ∀ x ∈ wsX30, x ∈ wsX1_drawYear := by decide +kernel
  have hw9 := hts (.fieldLink RX1 55 "LatestSets$Guild" "law" "LLatestSets$Law;") (by decide +kernel)
  have hw10 := hts (.fieldLink RX1 89 "LatestSets$Board" "trial" "[I") (by decide +kernel)
  have hw11 := hts (.methodLink RX1 95 Lib.Math.max.name) (by decide +kernel)
  have hw12 := hts (.static Lib.Math.max.name) (by decide +kernel)
  have hw13 := hts (.initialized "java/lang/Math") (by decide +kernel)
  have hw14 := hts (.code Lib.Math.max.name Lib.Math.max.code 2 (some .int)) (by decide +kernel)
  have hw15 := hts (.constant RX1 88 (65537)) (by decide +kernel)
  have hw16 := hts (.fieldLink RX1 61 "LatestSets$Guild" "late" "[I") (by decide +kernel)
  have hw17 := hts (.fieldLink RX1 92 "LatestSets$Guild" "fineEach" "I") (by decide +kernel)
  refine lv_iload_n hx hb dX1_drawYear_0 rfl (lv_at hl 1 rfl) ?_
  refine lv_istore (lv' := [(4, .int sd), (0, .ref cn), (1, .int sd), (2, .int (nI wk)), (3, .int h0)]) hx hb dX1_drawYear_1 hl (by decide) rfl (fun ls hl => ?_)
  refine lv_aload_n hx hb dX1_drawYear_3 rfl (lv_at hl 1 rfl) ?_
  refine lv_iload_n hx hb dX1_drawYear_4 rfl (lv_at hl 4 rfl) ?_
  refine va_put (D := D) (ci := 1) (v := .int h0) (ty := .int) (C := RX1) (T := TX1) (N := 8) hx hb hts hi1 tyX1 tyX1_ok nmX1 hown hK hP hD hS 0 rfl rfl 5 (by decide) hw0 (fun _ h9 => h9) rfl (by decide +kernel) rfl rfl (Nat.le_of_ble_eq_true rfl) dX1_drawYear_5 (fun H locs hP hD hS => ?_)
  have hP : va_P D vwCl [(cn, .inr (1, [.ref b, .ref cw, .ref cv, .long up, .long lo, .int h0, .int lmh, .int fin])), (b, .inr (0, [.ref g, .ref bt, .ref bc, .ref bs, .int hg])), (g, .inr (3, [.ref ge, .ref gl, .ref gb, .ref gw, .ref gsw, .ref gsh, .int (nI ns), .int (nI n), .int fi])), (ge, .inl (cI, 6, .inl fe)), (gl, .inl (cI, 6, .inl fl)), (bt, .inl (cI, 6, .inl ft)), (bc, .inl (cI, 6, .inl cm)), (bs, .inl (cI, 20, .inl fk)), (gw, .inr (4, [.ref sg, .int (nI nl)])), (sg, .inl (cI, 20, .inl fs))] H := hP
  have hD : va_D A [(cn, .inr (1, [.ref b, .ref cw, .ref cv, .long up, .long lo, .int h0, .int lmh, .int fin])), (b, .inr (0, [.ref g, .ref bt, .ref bc, .ref bs, .int hg])), (g, .inr (3, [.ref ge, .ref gl, .ref gb, .ref gw, .ref gsw, .ref gsh, .int (nI ns), .int (nI n), .int fi])), (ge, .inl (cI, 6, .inl fe)), (gl, .inl (cI, 6, .inl fl)), (bt, .inl (cI, 6, .inl ft)), (bc, .inl (cI, 6, .inl cm)), (bs, .inl (cI, 20, .inl fk)), (gw, .inr (4, [.ref sg, .int (nI nl)])), (sg, .inl (cI, 20, .inl fs))] := hD
  refine lv_aload_n hx hb dX1_drawYear_8 rfl (lv_at hl 1 rfl) ?_
  refine lv_iload_n hx hb dX1_drawYear_9 rfl (lv_at hl 4 rfl) ?_
  refine va_put (D := D) (ci := 1) (v := .int h0) (ty := .int) (C := RX1) (T := TX1) (N := 8) hx hb hts hi1 tyX1 tyX1_ok nmX1 hown hK hP hD hS 0 rfl rfl 6 (by decide) hw2 (fun _ h9 => h9) rfl (by decide +kernel) rfl rfl (Nat.le_of_ble_eq_true rfl) dX1_drawYear_10 (fun H locs hP hD hS => ?_)
  have hP : va_P D vwCl [(cn, .inr (1, [.ref b, .ref cw, .ref cv, .long up, .long lo, .int h0, .int h0, .int fin])), (b, .inr (0, [.ref g, .ref bt, .ref bc, .ref bs, .int hg])), (g, .inr (3, [.ref ge, .ref gl, .ref gb, .ref gw, .ref gsw, .ref gsh, .int (nI ns), .int (nI n), .int fi])), (ge, .inl (cI, 6, .inl fe)), (gl, .inl (cI, 6, .inl fl)), (bt, .inl (cI, 6, .inl ft)), (bc, .inl (cI, 6, .inl cm)), (bs, .inl (cI, 20, .inl fk)), (gw, .inr (4, [.ref sg, .int (nI nl)])), (sg, .inl (cI, 20, .inl fs))] H := hP
  have hD : va_D A [(cn, .inr (1, [.ref b, .ref cw, .ref cv, .long up, .long lo, .int h0, .int h0, .int fin])), (b, .inr (0, [.ref g, .ref bt, .ref bc, .ref bs, .int hg])), (g, .inr (3, [.ref ge, .ref gl, .ref gb, .ref gw, .ref gsw, .ref gsh, .int (nI ns), .int (nI n), .int fi])), (ge, .inl (cI, 6, .inl fe)), (gl, .inl (cI, 6, .inl fl)), (bt, .inl (cI, 6, .inl ft)), (bc, .inl (cI, 6, .inl cm)), (bs, .inl (cI, 20, .inl fk)), (gw, .inr (4, [.ref sg, .int (nI nl)])), (sg, .inl (cI, 20, .inl fs))] := hD
  refine lv_aload_n hx hb dX1_drawYear_13 rfl (lv_at hl 1 rfl) ?_
  refine lv_iconst (v := nI 0) hx hb dX1_drawYear_14 (by decide) ?_
  refine va_put (D := D) (ci := 1) (v := .int (nI 0)) (ty := .int) (C := RX1) (T := TX1) (N := 8) hx hb hts hi1 tyX1 tyX1_ok nmX1 hown hK hP hD hS 0 rfl rfl 7 (by decide) hw3 (fun _ h9 => h9) rfl (by decide +kernel) rfl rfl (Nat.le_of_ble_eq_true rfl) dX1_drawYear_15 (fun H locs hP hD hS => ?_)
  have hP : va_P D vwCl [(cn, .inr (1, [.ref b, .ref cw, .ref cv, .long up, .long lo, .int h0, .int h0, .int (nI 0)])), (b, .inr (0, [.ref g, .ref bt, .ref bc, .ref bs, .int hg])), (g, .inr (3, [.ref ge, .ref gl, .ref gb, .ref gw, .ref gsw, .ref gsh, .int (nI ns), .int (nI n), .int fi])), (ge, .inl (cI, 6, .inl fe)), (gl, .inl (cI, 6, .inl fl)), (bt, .inl (cI, 6, .inl ft)), (bc, .inl (cI, 6, .inl cm)), (bs, .inl (cI, 20, .inl fk)), (gw, .inr (4, [.ref sg, .int (nI nl)])), (sg, .inl (cI, 20, .inl fs))] H := hP
  have hD : va_D A [(cn, .inr (1, [.ref b, .ref cw, .ref cv, .long up, .long lo, .int h0, .int h0, .int (nI 0)])), (b, .inr (0, [.ref g, .ref bt, .ref bc, .ref bs, .int hg])), (g, .inr (3, [.ref ge, .ref gl, .ref gb, .ref gw, .ref gsw, .ref gsh, .int (nI ns), .int (nI n), .int fi])), (ge, .inl (cI, 6, .inl fe)), (gl, .inl (cI, 6, .inl fl)), (bt, .inl (cI, 6, .inl ft)), (bc, .inl (cI, 6, .inl cm)), (bs, .inl (cI, 20, .inl fk)), (gw, .inr (4, [.ref sg, .int (nI nl)])), (sg, .inl (cI, 20, .inl fs))] := hD
  refine lv_iconst (v := nI 0) hx hb dX1_drawYear_18 (by decide) ?_
  refine lv_istore (lv' := [(5, .int (nI 0)), (4, .int sd), (0, .ref cn), (1, .int sd), (2, .int (nI wk)), (3, .int h0)]) hx hb dX1_drawYear_19 hl (by decide) rfl (fun ls hl => ?_)
  have L21 : ∀ (n9 : Nat) (k : Nat) (ft cm fk : Nat → Int32) (hg : Int32) (hk : k ≤ wk), wk - k < n9 → ∀ (H : Heap) (locs : List Loc), va_P D vwCl [(cn, .inr (1, [.ref b, .ref cw, .ref cv, .long up, .long lo, .int (yhq (fun g9 h9 => nxF fs nl n fe g9 (nI 0) h9) sd fl n h0 k), .int (ymq (fun g9 h9 => nxF fs nl n fe g9 (nI 0) h9) sd fl n h0 k), .int (fsW fi sd fl n k)])), (b, .inr (0, [.ref g, .ref bt, .ref bc, .ref bs, .int hg])), (g, .inr (3, [.ref ge, .ref gl, .ref gb, .ref gw, .ref gsw, .ref gsh, .int (nI ns), .int (nI n), .int fi])), (ge, .inl (cI, 6, .inl fe)), (gl, .inl (cI, 6, .inl fl)), (bt, .inl (cI, 6, .inl ft)), (bc, .inl (cI, 6, .inl cm)), (bs, .inl (cI, 20, .inl fk)), (gw, .inr (4, [.ref sg, .int (nI nl)])), (sg, .inl (cI, 20, .inl fs))] H → va_D A [(cn, .inr (1, [.ref b, .ref cw, .ref cv, .long up, .long lo, .int (yhq (fun g9 h9 => nxF fs nl n fe g9 (nI 0) h9) sd fl n h0 k), .int (ymq (fun g9 h9 => nxF fs nl n fe g9 (nI 0) h9) sd fl n h0 k), .int (fsW fi sd fl n k)])), (b, .inr (0, [.ref g, .ref bt, .ref bc, .ref bs, .int hg])), (g, .inr (3, [.ref ge, .ref gl, .ref gb, .ref gw, .ref gsw, .ref gsh, .int (nI ns), .int (nI n), .int fi])), (ge, .inl (cI, 6, .inl fe)), (gl, .inl (cI, 6, .inl fl)), (bt, .inl (cI, 6, .inl ft)), (bc, .inl (cI, 6, .inl cm)), (bs, .inl (cI, 20, .inl fk)), (gw, .inr (4, [.ref sg, .int (nI nl)])), (sg, .inl (cI, 20, .inl fs))] → va_S A s.heap H locs → ∀ (ls : Array Slot), lv_has ls 7 [(0, .ref cn), (2, .int (nI wk)), (4, .int (xq sd (k * n))), (5, .int (nI k))] → W p l e rm_X1_drawYear s m args below meth c H locs 0 0 Q (F0 m 21 ls []) := by
    intro n9
    induction n9 with
    | zero => intro k ft cm fk hg hk hm; exact absurd hm (Nat.not_lt_zero _)
    | succ n9 ih21 =>
      intro k ft cm fk hg hk hm21 H locs hP hD hS ls hl
      refine lv_iload hx hb dX1_drawYear_21 (lv_at hl 3 rfl) ?_
      refine lv_iload_n hx hb dX1_drawYear_23 rfl (lv_at hl 1 rfl) ?_
      refine icmp_ge_n (a := k) (b := wk) (tgt := 176) hx hb dX1_drawYear_24 (by decide) (by omega) (by omega) (fun c24 => ?_) (fun c24 => ?_)
      · have e9 : k = wk := by omega
        rw [e9] at hP hD
        exact hret ((ft, cm, fk, hg)) _ _ _ _ dX1_drawYear_176 trivial hP hD hS
      · refine lv_iconst (v := nI 0) hx hb dX1_drawYear_27 (by decide) ?_
        refine lv_istore (lv' := [(6, .int (nI 0)), (0, .ref cn), (2, .int (nI wk)), (4, .int (xq sd (k * n))), (5, .int (nI k))]) hx hb dX1_drawYear_28 hl (by decide) rfl (fun ls hl => ?_)
        have L30 : ∀ (n9 : Nat) (m9 : Nat) (hm : m9 ≤ n), n - m9 < n9 → ∀ (H : Heap) (locs : List Loc), va_P D vwCl [(cn, .inr (1, [.ref b, .ref cw, .ref cv, .long up, .long lo, .int (yhq (fun g9 h9 => nxF fs nl n fe g9 (nI 0) h9) sd fl n h0 k), .int (ymq (fun g9 h9 => nxF fs nl n fe g9 (nI 0) h9) sd fl n h0 k), .int (fsM fi (laq sd fl n k) (fsW fi sd fl n k) m9)])), (b, .inr (0, [.ref g, .ref bt, .ref bc, .ref bs, .int hg])), (g, .inr (3, [.ref ge, .ref gl, .ref gb, .ref gw, .ref gsw, .ref gsh, .int (nI ns), .int (nI n), .int fi])), (ge, .inl (cI, 6, .inl fe)), (gl, .inl (cI, 6, .inl fl)), (bt, .inl (cI, 6, .inl (cpyI ft (laq sd fl n k) m9))), (bc, .inl (cI, 6, .inl cm)), (bs, .inl (cI, 20, .inl fk)), (gw, .inr (4, [.ref sg, .int (nI nl)])), (sg, .inl (cI, 20, .inl fs))] H → va_D A [(cn, .inr (1, [.ref b, .ref cw, .ref cv, .long up, .long lo, .int (yhq (fun g9 h9 => nxF fs nl n fe g9 (nI 0) h9) sd fl n h0 k), .int (ymq (fun g9 h9 => nxF fs nl n fe g9 (nI 0) h9) sd fl n h0 k), .int (fsM fi (laq sd fl n k) (fsW fi sd fl n k) m9)])), (b, .inr (0, [.ref g, .ref bt, .ref bc, .ref bs, .int hg])), (g, .inr (3, [.ref ge, .ref gl, .ref gb, .ref gw, .ref gsw, .ref gsh, .int (nI ns), .int (nI n), .int fi])), (ge, .inl (cI, 6, .inl fe)), (gl, .inl (cI, 6, .inl fl)), (bt, .inl (cI, 6, .inl (cpyI ft (laq sd fl n k) m9))), (bc, .inl (cI, 6, .inl cm)), (bs, .inl (cI, 20, .inl fk)), (gw, .inr (4, [.ref sg, .int (nI nl)])), (sg, .inl (cI, 20, .inl fs))] → va_S A s.heap H locs → ∀ (ls : Array Slot), lv_has ls 7 [(0, .ref cn), (2, .int (nI wk)), (4, .int (xq sd (k * n + m9))), (5, .int (nI k)), (6, .int (nI m9))] → W p l e rm_X1_drawYear s m args below meth c H locs 0 0 Q (F0 m 30 ls []) := by
          intro n9
          induction n9 with
          | zero => intro m9 hm hm; exact absurd hm (Nat.not_lt_zero _)
          | succ n9 ih30 =>
            intro m9 hm hm30 H locs hP hD hS ls hl
            refine lv_iload hx hb dX1_drawYear_30 (lv_at hl 4 rfl) ?_
            refine lv_aload_n hx hb dX1_drawYear_32 rfl (lv_at hl 0 rfl) ?_
            refine va_get (D := D) (ci := 1) (v := .ref b) (C := RX1) (T := TX1) (N := 8) hx hb hts hi1 hown hK hP 0 rfl rfl 0 (by decide) hw4 (fun _ h9 => h9) rfl dX1_drawYear_33 ?_
            refine va_get (D := D) (ci := 0) (v := .ref g) (C := RX0) (T := TX0) (N := 5) hx hb hts hi0 hown hK hP 1 rfl rfl 0 (by decide) hw5 (fun _ h9 => h9) rfl dX1_drawYear_36 ?_
            refine va_get (D := D) (ci := 3) (v := .int (nI n)) (C := RX3) (T := TX3) (N := 9) hx hb hts hi3 hown hK hP 2 rfl rfl 7 (by decide) hw7 (fun _ h9 => h9) rfl dX1_drawYear_39 ?_
            refine icmp_ge_n (a := m9) (b := n) (tgt := 122) hx hb dX1_drawYear_42 (by decide) (by omega) (by omega) (fun c42 => ?_) (fun c42 => ?_)
            · have e9 : m9 = n := by omega
              rw [e9] at hP hD hl
              refine lv_aload_n hx hb dX1_drawYear_122 rfl (lv_at hl 0 rfl) ?_
              refine lv_aload_n hx hb dX1_drawYear_123 rfl (lv_at hl 0 rfl) ?_
              refine va_get (D := D) (ci := 1) (v := .ref b) (C := RX1) (T := TX1) (N := 8) hx hb hts hi1 hown hK hP 0 rfl rfl 0 (by decide) hw4 (fun _ h9 => h9) rfl dX1_drawYear_124 ?_
              refine lv_aload_n hx hb dX1_drawYear_127 rfl (lv_at hl 0 rfl) ?_
              refine va_get (D := D) (ci := 1) (v := .ref b) (C := RX1) (T := TX1) (N := 8) hx hb hts hi1 hown hK hP 0 rfl rfl 0 (by decide) hw4 (fun _ h9 => h9) rfl dX1_drawYear_128 ?_
              refine va_get (D := D) (ci := 0) (v := .ref g) (C := RX0) (T := TX0) (N := 5) hx hb hts hi0 hown hK hP 1 rfl rfl 0 (by decide) hw5 (fun _ h9 => h9) rfl dX1_drawYear_131 ?_
              refine va_get (D := D) (ci := 3) (v := .ref gw) (C := RX3) (T := TX3) (N := 9) hx hb hts hi3 hown hK hP 2 rfl rfl 3 (by decide) hw9 (fun _ h9 => h9) rfl dX1_drawYear_134 ?_
              refine lv_aload_n hx hb dX1_drawYear_137 rfl (lv_at hl 0 rfl) ?_
              refine va_get (D := D) (ci := 1) (v := .int (yhq (fun g9 h9 => nxF fs nl n fe g9 (nI 0) h9) sd fl n h0 k)) (C := RX1) (T := TX1) (N := 8) hx hb hts hi1 hown hK hP 0 rfl rfl 5 (by decide) hw0 (fun _ h9 => h9) rfl dX1_drawYear_138 ?_
              refine lv_aload_n hx hb dX1_drawYear_141 rfl (lv_at hl 0 rfl) ?_
              refine va_get (D := D) (ci := 1) (v := .ref b) (C := RX1) (T := TX1) (N := 8) hx hb hts hi1 hown hK hP 0 rfl rfl 0 (by decide) hw4 (fun _ h9 => h9) rfl dX1_drawYear_142 ?_
              refine va_get (D := D) (ci := 0) (v := .ref bt) (C := RX0) (T := TX0) (N := 5) hx hb hts hi0 hown hK hP 1 rfl rfl 1 (by decide) hw10 (fun _ h9 => h9) rfl dX1_drawYear_145 ?_
              refine lv_iconst (v := nI 0) hx hb dX1_drawYear_148 (by decide) ?_
              refine cal_i (run_V (As := [.ref gw, .int (yhq (fun g9 h9 => nxF fs nl n fe g9 (nI 0) h9) sd fl n h0 k), .ref bt, .int (nI 0)]) (rest := [.ref cn]) SF (c_nextHour l D cI cJ cZ cG cM b bt bc bs g ge gl gb gw gsw gsh (nI ns) fi n gw sg nl bt hg (yhq (fun g9 h9 => nxF fs nl n fe g9 (nI 0) h9) sd fl n h0 k) (nI 0) cm fk fs fe (cpyI ft (laq sd fl n k) n) hV h1 h6) (cwV 4 hts gX1_drawYear_X0_nextHour rfl rfl rfl (by decide +kernel) ⟨Nat.le_of_ble_eq_true rfl, Nat.le_of_ble_eq_true rfl⟩) hN hK hP hD [1, 2, 3, 5, 6, 7, 8, 9] rfl (by decide) 0 1 rfl rfl rfl rfl hl.1 rfl (Nat.le_of_ble_eq_true rfl) dX1_drawYear_149 ⟨Nat.le_of_ble_eq_true rfl, Nat.le_of_ble_eq_true rfl⟩) ⟨rfl, rfl⟩ hP hD hS hA [1, 2, 3, 5, 6, 7, 8, 9] rfl (fun _ => rfl) (fun r149 u149 H locs hw hP hD hS => ?_)
              have hP : va_P D vwCl [(cn, .inr (1, [.ref b, .ref cw, .ref cv, .long up, .long lo, .int (yhq (fun g9 h9 => nxF fs nl n fe g9 (nI 0) h9) sd fl n h0 k), .int (ymq (fun g9 h9 => nxF fs nl n fe g9 (nI 0) h9) sd fl n h0 k), .int (fsM fi (laq sd fl n k) (fsW fi sd fl n k) n)])), (b, .inr (0, [.ref g, .ref bt, .ref bc, .ref bs, .int u149.2.2])), (g, .inr (3, [.ref ge, .ref gl, .ref gb, .ref gw, .ref gsw, .ref gsh, .int (nI ns), .int (nI n), .int fi])), (ge, .inl (cI, 6, .inl fe)), (gl, .inl (cI, 6, .inl fl)), (bt, .inl (cI, 6, .inl (cpyI ft (laq sd fl n k) n))), (bc, .inl (cI, 6, .inl u149.1)), (bs, .inl (cI, 20, .inl u149.2.1)), (gw, .inr (4, [.ref sg, .int (nI nl)])), (sg, .inl (cI, 20, .inl fs))] H := hP
              have hD : va_D A [(cn, .inr (1, [.ref b, .ref cw, .ref cv, .long up, .long lo, .int (yhq (fun g9 h9 => nxF fs nl n fe g9 (nI 0) h9) sd fl n h0 k), .int (ymq (fun g9 h9 => nxF fs nl n fe g9 (nI 0) h9) sd fl n h0 k), .int (fsM fi (laq sd fl n k) (fsW fi sd fl n k) n)])), (b, .inr (0, [.ref g, .ref bt, .ref bc, .ref bs, .int u149.2.2])), (g, .inr (3, [.ref ge, .ref gl, .ref gb, .ref gw, .ref gsw, .ref gsh, .int (nI ns), .int (nI n), .int fi])), (ge, .inl (cI, 6, .inl fe)), (gl, .inl (cI, 6, .inl fl)), (bt, .inl (cI, 6, .inl (cpyI ft (laq sd fl n k) n))), (bc, .inl (cI, 6, .inl u149.1)), (bs, .inl (cI, 20, .inl u149.2.1)), (gw, .inr (4, [.ref sg, .int (nI nl)])), (sg, .inl (cI, 20, .inl fs))] := hD
              have hw : r149 = yhq (fun g9 h9 => nxF fs nl n fe g9 (nI 0) h9) sd fl n h0 (k + 1) := hw.trans (congrFun (nxF_cong h1 (fun j hj => cpyI_in _ _ n j hj)) _)
              subst hw
              refine va_put (D := D) (ci := 1) (v := .int (yhq (fun g9 h9 => nxF fs nl n fe g9 (nI 0) h9) sd fl n h0 (k + 1))) (ty := .int) (C := RX1) (T := TX1) (N := 8) hx hb hts hi1 tyX1 tyX1_ok nmX1 hown hK hP hD hS 0 rfl rfl 5 (by decide) hw0 (fun _ h9 => h9) rfl (by decide +kernel) rfl rfl (Nat.le_of_ble_eq_true rfl) dX1_drawYear_152 (fun H locs hP hD hS => ?_)
              have hP : va_P D vwCl [(cn, .inr (1, [.ref b, .ref cw, .ref cv, .long up, .long lo, .int (yhq (fun g9 h9 => nxF fs nl n fe g9 (nI 0) h9) sd fl n h0 (k + 1)), .int (ymq (fun g9 h9 => nxF fs nl n fe g9 (nI 0) h9) sd fl n h0 k), .int (fsM fi (laq sd fl n k) (fsW fi sd fl n k) n)])), (b, .inr (0, [.ref g, .ref bt, .ref bc, .ref bs, .int u149.2.2])), (g, .inr (3, [.ref ge, .ref gl, .ref gb, .ref gw, .ref gsw, .ref gsh, .int (nI ns), .int (nI n), .int fi])), (ge, .inl (cI, 6, .inl fe)), (gl, .inl (cI, 6, .inl fl)), (bt, .inl (cI, 6, .inl (cpyI ft (laq sd fl n k) n))), (bc, .inl (cI, 6, .inl u149.1)), (bs, .inl (cI, 20, .inl u149.2.1)), (gw, .inr (4, [.ref sg, .int (nI nl)])), (sg, .inl (cI, 20, .inl fs))] H := hP
              have hD : va_D A [(cn, .inr (1, [.ref b, .ref cw, .ref cv, .long up, .long lo, .int (yhq (fun g9 h9 => nxF fs nl n fe g9 (nI 0) h9) sd fl n h0 (k + 1)), .int (ymq (fun g9 h9 => nxF fs nl n fe g9 (nI 0) h9) sd fl n h0 k), .int (fsM fi (laq sd fl n k) (fsW fi sd fl n k) n)])), (b, .inr (0, [.ref g, .ref bt, .ref bc, .ref bs, .int u149.2.2])), (g, .inr (3, [.ref ge, .ref gl, .ref gb, .ref gw, .ref gsw, .ref gsh, .int (nI ns), .int (nI n), .int fi])), (ge, .inl (cI, 6, .inl fe)), (gl, .inl (cI, 6, .inl fl)), (bt, .inl (cI, 6, .inl (cpyI ft (laq sd fl n k) n))), (bc, .inl (cI, 6, .inl u149.1)), (bs, .inl (cI, 20, .inl u149.2.1)), (gw, .inr (4, [.ref sg, .int (nI nl)])), (sg, .inl (cI, 20, .inl fs))] := hD
              refine lv_aload_n hx hb dX1_drawYear_155 rfl (lv_at hl 0 rfl) ?_
              refine lv_aload_n hx hb dX1_drawYear_156 rfl (lv_at hl 0 rfl) ?_
              refine va_get (D := D) (ci := 1) (v := .int (ymq (fun g9 h9 => nxF fs nl n fe g9 (nI 0) h9) sd fl n h0 k)) (C := RX1) (T := TX1) (N := 8) hx hb hts hi1 hown hK hP 0 rfl rfl 6 (by decide) hw2 (fun _ h9 => h9) rfl dX1_drawYear_157 ?_
              refine lv_aload_n hx hb dX1_drawYear_160 rfl (lv_at hl 0 rfl) ?_
              refine va_get (D := D) (ci := 1) (v := .int (yhq (fun g9 h9 => nxF fs nl n fe g9 (nI 0) h9) sd fl n h0 (k + 1))) (C := RX1) (T := TX1) (N := 8) hx hb hts hi1 hown hK hP 0 rfl rfl 5 (by decide) hw0 (fun _ h9 => h9) rfl dX1_drawYear_161 ?_
              refine va_mmax hx hb (by rw [hml]; exact hl.1.symm) hown hw11 hw12 hw13 hw14 (Nat.le_of_ble_eq_true rfl) (Nat.le_of_ble_eq_true rfl) (Nat.zero_le _) (Nat.zero_le _) dX1_drawYear_164 ?_
              refine va_put (D := D) (ci := 1) (v := .int (mxI (ymq (fun g9 h9 => nxF fs nl n fe g9 (nI 0) h9) sd fl n h0 k) (yhq (fun g9 h9 => nxF fs nl n fe g9 (nI 0) h9) sd fl n h0 (k + 1)))) (ty := .int) (C := RX1) (T := TX1) (N := 8) hx hb hts hi1 tyX1 tyX1_ok nmX1 hown hK hP hD hS 0 rfl rfl 6 (by decide) hw2 (fun _ h9 => h9) rfl (by decide +kernel) rfl rfl (Nat.le_of_ble_eq_true rfl) dX1_drawYear_167 (fun H locs hP hD hS => ?_)
              have hP : va_P D vwCl [(cn, .inr (1, [.ref b, .ref cw, .ref cv, .long up, .long lo, .int (yhq (fun g9 h9 => nxF fs nl n fe g9 (nI 0) h9) sd fl n h0 (k + 1)), .int (mxI (ymq (fun g9 h9 => nxF fs nl n fe g9 (nI 0) h9) sd fl n h0 k) (yhq (fun g9 h9 => nxF fs nl n fe g9 (nI 0) h9) sd fl n h0 (k + 1))), .int (fsM fi (laq sd fl n k) (fsW fi sd fl n k) n)])), (b, .inr (0, [.ref g, .ref bt, .ref bc, .ref bs, .int u149.2.2])), (g, .inr (3, [.ref ge, .ref gl, .ref gb, .ref gw, .ref gsw, .ref gsh, .int (nI ns), .int (nI n), .int fi])), (ge, .inl (cI, 6, .inl fe)), (gl, .inl (cI, 6, .inl fl)), (bt, .inl (cI, 6, .inl (cpyI ft (laq sd fl n k) n))), (bc, .inl (cI, 6, .inl u149.1)), (bs, .inl (cI, 20, .inl u149.2.1)), (gw, .inr (4, [.ref sg, .int (nI nl)])), (sg, .inl (cI, 20, .inl fs))] H := hP
              have hD : va_D A [(cn, .inr (1, [.ref b, .ref cw, .ref cv, .long up, .long lo, .int (yhq (fun g9 h9 => nxF fs nl n fe g9 (nI 0) h9) sd fl n h0 (k + 1)), .int (mxI (ymq (fun g9 h9 => nxF fs nl n fe g9 (nI 0) h9) sd fl n h0 k) (yhq (fun g9 h9 => nxF fs nl n fe g9 (nI 0) h9) sd fl n h0 (k + 1))), .int (fsM fi (laq sd fl n k) (fsW fi sd fl n k) n)])), (b, .inr (0, [.ref g, .ref bt, .ref bc, .ref bs, .int u149.2.2])), (g, .inr (3, [.ref ge, .ref gl, .ref gb, .ref gw, .ref gsw, .ref gsh, .int (nI ns), .int (nI n), .int fi])), (ge, .inl (cI, 6, .inl fe)), (gl, .inl (cI, 6, .inl fl)), (bt, .inl (cI, 6, .inl (cpyI ft (laq sd fl n k) n))), (bc, .inl (cI, 6, .inl u149.1)), (bs, .inl (cI, 20, .inl u149.2.1)), (gw, .inr (4, [.ref sg, .int (nI nl)])), (sg, .inl (cI, 20, .inl fs))] := hD
              refine lv_iinc (v := nI (k + 1)) (lv' := [(5, .int (nI (k + 1))), (0, .ref cn), (2, .int (nI wk)), (4, .int (xq sd (k * n + n))), (6, .int (nI n))]) hx hb dX1_drawYear_170 hl (k := 3) rfl (nI_1 k) (by decide) rfl (fun ls hl => ?_)
              refine lv_goto (tgt := 21) hx hb dX1_drawYear_173 (by decide) ?_
              have e8 : xq sd (k * n + n) = xq sd ((k + 1) * n) := by rw [Nat.succ_mul]
              have hl : lv_has ls 7 [(5, .int (nI (k + 1))), (0, .ref cn), (2, .int (nI wk)), (4, .int (xq sd ((k + 1) * n))), (6, .int (nI n))] := by rw [← e8]; exact hl
              exact ih21 (k + 1) (cpyI ft (laq sd fl n k) n) u149.1 u149.2.1 u149.2.2 ((by omega)) (by omega) _ _ hP hD hS _ (lv_sub hl [1, 2, 3, 0] rfl)
            · refine lv_bipush (v := nI 75) hx hb dX1_drawYear_45 (by decide) ?_
              refine lv_iload hx hb dX1_drawYear_47 (lv_at hl 2 rfl) ?_
              refine lv_imul hx hb dX1_drawYear_49 ?_
              refine lv_bipush (v := nI 74) hx hb dX1_drawYear_50 (by decide) ?_
              refine lv_iadd hx hb dX1_drawYear_52 ?_
              refine lv_ldc (v := nI 65537) hx hb hown hw15 dX1_drawYear_53 ?_
              refine lv_irem hx hb dX1_drawYear_55 (by decide) ?_
              refine lv_topi (fun y9 e9 => ?_)
              have e9 : xq sd (k * n + m9 + 1) = y9 := (e9.trans (rfl)).symm
              subst e9
              refine lv_istore (lv' := [(4, .int (xq sd (k * n + m9 + 1))), (0, .ref cn), (2, .int (nI wk)), (5, .int (nI k)), (6, .int (nI m9))]) hx hb dX1_drawYear_56 hl (by decide) rfl (fun ls hl => ?_)
              refine lv_aload_n hx hb dX1_drawYear_58 rfl (lv_at hl 1 rfl) ?_
              refine va_get (D := D) (ci := 1) (v := .ref b) (C := RX1) (T := TX1) (N := 8) hx hb hts hi1 hown hK hP 0 rfl rfl 0 (by decide) hw4 (fun _ h9 => h9) rfl dX1_drawYear_59 ?_
              refine va_get (D := D) (ci := 0) (v := .ref bt) (C := RX0) (T := TX0) (N := 5) hx hb hts hi0 hown hK hP 1 rfl rfl 1 (by decide) hw10 (fun _ h9 => h9) rfl dX1_drawYear_62 ?_
              refine lv_iload hx hb dX1_drawYear_65 (lv_at hl 4 rfl) ?_
              refine lv_aload_n hx hb dX1_drawYear_67 rfl (lv_at hl 1 rfl) ?_
              refine va_get (D := D) (ci := 1) (v := .ref b) (C := RX1) (T := TX1) (N := 8) hx hb hts hi1 hown hK hP 0 rfl rfl 0 (by decide) hw4 (fun _ h9 => h9) rfl dX1_drawYear_68 ?_
              refine va_get (D := D) (ci := 0) (v := .ref g) (C := RX0) (T := TX0) (N := 5) hx hb hts hi0 hown hK hP 1 rfl rfl 0 (by decide) hw5 (fun _ h9 => h9) rfl dX1_drawYear_71 ?_
              refine va_get (D := D) (ci := 3) (v := .ref gl) (C := RX3) (T := TX3) (N := 9) hx hb hts hi3 hown hK hP 2 rfl rfl 1 (by decide) hw16 (fun _ h9 => h9) rfl dX1_drawYear_74 ?_
              refine lv_iload hx hb dX1_drawYear_77 (lv_at hl 4 rfl) ?_
              refine iald_n (k := m9) hx hb hK hP 4 0 rfl rfl (by omega) (by omega) dX1_drawYear_79 ?_
              refine lv_iload hx hb dX1_drawYear_80 (lv_at hl 0 rfl) ?_
              refine lv_iconst (v := nI 3) hx hb dX1_drawYear_82 (by decide) ?_
              refine lv_irem hx hb dX1_drawYear_83 (by decide) ?_
              refine lv_iadd hx hb dX1_drawYear_84 ?_
              refine lv_topi (fun y9 e9 => ?_)
              have e9 : laq sd fl n k m9 = y9 := (e9.trans (rfl)).symm
              subst e9
              refine iast_n (k := m9) hx hb hK hP hD hS 5 0 rfl rfl (by omega) (by omega) dX1_drawYear_85 (fun H locs hP hD hS => ?_)
              have hP : va_P D vwCl [(cn, .inr (1, [.ref b, .ref cw, .ref cv, .long up, .long lo, .int (yhq (fun g9 h9 => nxF fs nl n fe g9 (nI 0) h9) sd fl n h0 k), .int (ymq (fun g9 h9 => nxF fs nl n fe g9 (nI 0) h9) sd fl n h0 k), .int (fsM fi (laq sd fl n k) (fsW fi sd fl n k) m9)])), (b, .inr (0, [.ref g, .ref bt, .ref bc, .ref bs, .int hg])), (g, .inr (3, [.ref ge, .ref gl, .ref gb, .ref gw, .ref gsw, .ref gsh, .int (nI ns), .int (nI n), .int fi])), (ge, .inl (cI, 6, .inl fe)), (gl, .inl (cI, 6, .inl fl)), (bt, .inl (cI, 6, .inl (upd (cpyI ft (laq sd fl n k) m9) m9 (laq sd fl n k m9)))), (bc, .inl (cI, 6, .inl cm)), (bs, .inl (cI, 20, .inl fk)), (gw, .inr (4, [.ref sg, .int (nI nl)])), (sg, .inl (cI, 20, .inl fs))] H := hP
              have hD : va_D A [(cn, .inr (1, [.ref b, .ref cw, .ref cv, .long up, .long lo, .int (yhq (fun g9 h9 => nxF fs nl n fe g9 (nI 0) h9) sd fl n h0 k), .int (ymq (fun g9 h9 => nxF fs nl n fe g9 (nI 0) h9) sd fl n h0 k), .int (fsM fi (laq sd fl n k) (fsW fi sd fl n k) m9)])), (b, .inr (0, [.ref g, .ref bt, .ref bc, .ref bs, .int hg])), (g, .inr (3, [.ref ge, .ref gl, .ref gb, .ref gw, .ref gsw, .ref gsh, .int (nI ns), .int (nI n), .int fi])), (ge, .inl (cI, 6, .inl fe)), (gl, .inl (cI, 6, .inl fl)), (bt, .inl (cI, 6, .inl (upd (cpyI ft (laq sd fl n k) m9) m9 (laq sd fl n k m9)))), (bc, .inl (cI, 6, .inl cm)), (bs, .inl (cI, 20, .inl fk)), (gw, .inr (4, [.ref sg, .int (nI nl)])), (sg, .inl (cI, 20, .inl fs))] := hD
              refine lv_aload_n hx hb dX1_drawYear_86 rfl (lv_at hl 1 rfl) ?_
              refine lv_dup hx hb dX1_drawYear_87 rfl ?_
              refine va_get (D := D) (ci := 1) (v := .int (fsM fi (laq sd fl n k) (fsW fi sd fl n k) m9)) (C := RX1) (T := TX1) (N := 8) hx hb hts hi1 hown hK hP 0 rfl rfl 7 (by decide) hw3 (fun _ h9 => h9) rfl dX1_drawYear_88 ?_
              refine lv_aload_n hx hb dX1_drawYear_91 rfl (lv_at hl 1 rfl) ?_
              refine va_get (D := D) (ci := 1) (v := .ref b) (C := RX1) (T := TX1) (N := 8) hx hb hts hi1 hown hK hP 0 rfl rfl 0 (by decide) hw4 (fun _ h9 => h9) rfl dX1_drawYear_92 ?_
              refine va_get (D := D) (ci := 0) (v := .ref g) (C := RX0) (T := TX0) (N := 5) hx hb hts hi0 hown hK hP 1 rfl rfl 0 (by decide) hw5 (fun _ h9 => h9) rfl dX1_drawYear_95 ?_
              refine va_get (D := D) (ci := 3) (v := .int fi) (C := RX3) (T := TX3) (N := 9) hx hb hts hi3 hown hK hP 2 rfl rfl 8 (by decide) hw17 (fun _ h9 => h9) rfl dX1_drawYear_98 ?_
              refine lv_aload_n hx hb dX1_drawYear_101 rfl (lv_at hl 1 rfl) ?_
              refine va_get (D := D) (ci := 1) (v := .ref b) (C := RX1) (T := TX1) (N := 8) hx hb hts hi1 hown hK hP 0 rfl rfl 0 (by decide) hw4 (fun _ h9 => h9) rfl dX1_drawYear_102 ?_
              refine va_get (D := D) (ci := 0) (v := .ref bt) (C := RX0) (T := TX0) (N := 5) hx hb hts hi0 hown hK hP 1 rfl rfl 1 (by decide) hw10 (fun _ h9 => h9) rfl dX1_drawYear_105 ?_
              refine lv_iload hx hb dX1_drawYear_108 (lv_at hl 4 rfl) ?_
              refine iald_n (k := m9) hx hb hK hP 5 0 rfl rfl (by omega) (by omega) dX1_drawYear_110 ?_
              refine lv_topi (fun y9 e9 => ?_)
              have e9 : laq sd fl n k m9 = y9 := (e9.trans (pk_us)).symm
              subst e9
              refine lv_imul hx hb dX1_drawYear_111 ?_
              refine lv_iadd hx hb dX1_drawYear_112 ?_
              refine va_put (D := D) (ci := 1) (v := .int ((fsM fi (laq sd fl n k) (fsW fi sd fl n k) m9) + (fi * (laq sd fl n k m9)))) (ty := .int) (C := RX1) (T := TX1) (N := 8) hx hb hts hi1 tyX1 tyX1_ok nmX1 hown hK hP hD hS 0 rfl rfl 7 (by decide) hw3 (fun _ h9 => h9) rfl (by decide +kernel) rfl rfl (Nat.le_of_ble_eq_true rfl) dX1_drawYear_113 (fun H locs hP hD hS => ?_)
              have hP : va_P D vwCl [(cn, .inr (1, [.ref b, .ref cw, .ref cv, .long up, .long lo, .int (yhq (fun g9 h9 => nxF fs nl n fe g9 (nI 0) h9) sd fl n h0 k), .int (ymq (fun g9 h9 => nxF fs nl n fe g9 (nI 0) h9) sd fl n h0 k), .int ((fsM fi (laq sd fl n k) (fsW fi sd fl n k) m9) + (fi * (laq sd fl n k m9)))])), (b, .inr (0, [.ref g, .ref bt, .ref bc, .ref bs, .int hg])), (g, .inr (3, [.ref ge, .ref gl, .ref gb, .ref gw, .ref gsw, .ref gsh, .int (nI ns), .int (nI n), .int fi])), (ge, .inl (cI, 6, .inl fe)), (gl, .inl (cI, 6, .inl fl)), (bt, .inl (cI, 6, .inl (upd (cpyI ft (laq sd fl n k) m9) m9 (laq sd fl n k m9)))), (bc, .inl (cI, 6, .inl cm)), (bs, .inl (cI, 20, .inl fk)), (gw, .inr (4, [.ref sg, .int (nI nl)])), (sg, .inl (cI, 20, .inl fs))] H := hP
              have hD : va_D A [(cn, .inr (1, [.ref b, .ref cw, .ref cv, .long up, .long lo, .int (yhq (fun g9 h9 => nxF fs nl n fe g9 (nI 0) h9) sd fl n h0 k), .int (ymq (fun g9 h9 => nxF fs nl n fe g9 (nI 0) h9) sd fl n h0 k), .int ((fsM fi (laq sd fl n k) (fsW fi sd fl n k) m9) + (fi * (laq sd fl n k m9)))])), (b, .inr (0, [.ref g, .ref bt, .ref bc, .ref bs, .int hg])), (g, .inr (3, [.ref ge, .ref gl, .ref gb, .ref gw, .ref gsw, .ref gsh, .int (nI ns), .int (nI n), .int fi])), (ge, .inl (cI, 6, .inl fe)), (gl, .inl (cI, 6, .inl fl)), (bt, .inl (cI, 6, .inl (upd (cpyI ft (laq sd fl n k) m9) m9 (laq sd fl n k m9)))), (bc, .inl (cI, 6, .inl cm)), (bs, .inl (cI, 20, .inl fk)), (gw, .inr (4, [.ref sg, .int (nI nl)])), (sg, .inl (cI, 20, .inl fs))] := hD
              refine lv_iinc (v := nI (m9 + 1)) (lv' := [(6, .int (nI (m9 + 1))), (4, .int (xq sd (k * n + m9 + 1))), (0, .ref cn), (2, .int (nI wk)), (5, .int (nI k))]) hx hb dX1_drawYear_116 hl (k := 4) rfl (nI_1 m9) (by decide) rfl (fun ls hl => ?_)
              refine lv_goto (tgt := 30) hx hb dX1_drawYear_119 (by decide) ?_
              exact ih30 (m9 + 1) ((by omega)) (by omega) _ _ hP hD hS _ (lv_sub hl [2, 3, 1, 4, 0] rfl)
        exact L30 _ 0 ((Nat.zero_le _)) (Nat.lt_succ_self _) _ _ hP hD hS _ (lv_sub hl [1, 2, 3, 4, 0] rfl)
  have e8 : sd = xq sd (0 * n) := by rw [Nat.zero_mul]; rfl
  have hl : lv_has ls 7 [(5, .int (nI 0)), (4, .int (xq sd (0 * n))), (0, .ref cn), (1, .int sd), (2, .int (nI wk)), (3, .int h0)] := by rw [← e8]; exact hl
  exact L21 _ 0 ft cm fk hg ((Nat.zero_le _)) (Nat.lt_succ_self _) _ _ hP hD hS _ (lv_sub hl [2, 4, 1, 0] rfl)

abbrev rm_X7_year : Room := { frames := 5, cells := 0, slots := 0, locals := 119 }
set_option maxHeartbeats 1000000 in
set_option maxRecDepth 100000 in
theorem o_year (l : Launch) (D : va_G) (cI cJ cZ cG cM : ClassId) (xo pd b rg ch cn im : Nat) (cw cv : Nat) (up lo : Int64) (lah lmh fin : Int32) (bt bc bs : Nat) (g ge gl gb gw gsw gsh : Nat) (fi : Int32) (n ns : Nat) (sg nl : Nat) (hg : Int32) (cm fk fs fe fl ft : Nat → Int32) (hV : VL fs nl) (h1 : 1 ≤ n) (h6 : n ≤ 6) (x w h0 y : Int32) :
    CI l yX7_year wsX7_year rm_X7_year D [(cI, .int), (cJ, .long), (cZ, .boolean), (cG, .object "LatestSets$Guild"), (cM, .array .int)] [(xo, .inr (7, [.ref g, .ref pd, .ref b, .ref rg, .ref ch, .ref cn, .ref im])), (cn, .inr (1, [.ref b, .ref cw, .ref cv, .long up, .long lo, .int lah, .int lmh, .int fin])), (b, .inr (0, [.ref g, .ref bt, .ref bc, .ref bs, .int hg])), (g, .inr (3, [.ref ge, .ref gl, .ref gb, .ref gw, .ref gsw, .ref gsh, .int (nI ns), .int (nI n), .int fi])), (ge, .inl (cI, 6, .inl fe)), (gl, .inl (cI, 6, .inl fl)), (bt, .inl (cI, 6, .inl ft)), (bc, .inl (cI, 6, .inl cm)), (bs, .inl (cI, 20, .inl fk)), (gw, .inr (4, [.ref sg, .int (nI nl)])), (sg, .inl (cI, 20, .inl fs))] [.ref xo, .int x, .int w, .int h0, .int y] (S := ((Nat → Int32) × (Nat → Int32) × (Nat → Int32) × Int32 × Int32 × Int32 × Int32)) (fun r u => r = (if ((nI 0 ≤ x ∧ x ≤ nI 9999) ∧ (nI 1 ≤ w ∧ w ≤ nI 99)) ∧ (nI 0 ≤ h0 ∧ h0 ≤ nI 23) ∧ (nI 0 ≤ y ∧ y ≤ nI 2) then (if y = nI 0 then yhq (fun g9 h9 => nxF fs nl n fe g9 (nI 0) h9) x fl n h0 w.toNatClampNeg else if y = nI 1 then ymq (fun g9 h9 => nxF fs nl n fe g9 (nI 0) h9) x fl n h0 w.toNatClampNeg else fsW fi x fl n w.toNatClampNeg) else (-2))) (fun u => [(xo, .inr (7, [.ref g, .ref pd, .ref b, .ref rg, .ref ch, .ref cn, .ref im])), (cn, .inr (1, [.ref b, .ref cw, .ref cv, .long up, .long lo, .int u.2.2.2.2.1, .int u.2.2.2.2.2.1, .int u.2.2.2.2.2.2])), (b, .inr (0, [.ref g, .ref bt, .ref bc, .ref bs, .int u.2.2.2.1])), (g, .inr (3, [.ref ge, .ref gl, .ref gb, .ref gw, .ref gsw, .ref gsh, .int (nI ns), .int (nI n), .int fi])), (ge, .inl (cI, 6, .inl fe)), (gl, .inl (cI, 6, .inl fl)), (bt, .inl (cI, 6, .inl u.1)), (bc, .inl (cI, 6, .inl u.2.1)), (bs, .inl (cI, 20, .inl u.2.2.1)), (gw, .inr (4, [.ref sg, .int (nI nl)])), (sg, .inl (cI, 20, .inl fs))]) := by
  refine si_of (cc := cX7_year) (maxL := 5) (by decide) rfl (Nat.le_of_ble_eq_true rfl) ?_
  intro p e s m args below meth c A ls Q E hret
  obtain ⟨hx, hb, -, hml, hown, hts, -, hin, hA, hK, hP, hD, hS, hl, hN⟩ := E
  have hown : s.vm.findClass RX7 = some m.cls := hown
  have hl : lv_has ls 5 [(0, .ref xo), (1, .int x), (2, .int w), (3, .int h0), (4, .int y)] := hl
  have SF : CallFix p m c cX7_year 5 s args wsX7_year RX7 := ⟨hx, hb, hml, hown, hts⟩
  have hw0 := hts (.fieldLink RX7 51 "LatestSets" "chance" "LLatestSets$Chance;") (by decide +kernel)
  have hi7 : ∀ x ∈ wsX70, x ∈ wsX7_year := by decide +kernel
  have hw2 := hts (.fieldLink RX7 200 "LatestSets$Chance" "fines" "I") (by decide +kernel)
  have hi1 : ∀ x ∈ wsX10, x ∈ wsX7_year := by decide +kernel
  have hw4 := hts (.fieldLink RX7 197 "LatestSets$Chance" "latestHour" "I") (by decide +kernel)
  have hw5 := hts (.fieldLink RX7 194 "LatestSets$Chance" "lastHour" "I") (by decide +kernel)
  refine lv_iload_n hx hb dX7_year_0 rfl (lv_at hl 1 rfl) ?_
  refine lv_iconst (v := nI 0) hx hb dX7_year_1 (by decide) ?_
  refine lv_sipush (v := nI 9999) hx hb dX7_year_2 (by decide) ?_
  refine cal_i (run_S (As := [.int x, .int (nI 0), .int (nI 9999)]) (rest := []) SF (c_within l D cI cJ cZ cG cM x (nI 0) (nI 9999)) (va_cwS 3 hts gX7_year_X7_within rfl rfl rfl (by decide +kernel) ⟨Nat.le_of_ble_eq_true rfl, Nat.le_of_ble_eq_true rfl⟩) hN hK hP hD [] rfl (by decide) rfl hl.1 rfl (Nat.le_of_ble_eq_true rfl) dX7_year_5 ⟨Nat.le_of_ble_eq_true rfl, Nat.le_of_ble_eq_true rfl⟩) ⟨rfl, rfl⟩ hP hD hS hA [] rfl (fun _ => rfl) (fun r5 _ H locs hw hP hD hS => ?_)
  have hP : va_P D vwCl [(xo, .inr (7, [.ref g, .ref pd, .ref b, .ref rg, .ref ch, .ref cn, .ref im])), (cn, .inr (1, [.ref b, .ref cw, .ref cv, .long up, .long lo, .int lah, .int lmh, .int fin])), (b, .inr (0, [.ref g, .ref bt, .ref bc, .ref bs, .int hg])), (g, .inr (3, [.ref ge, .ref gl, .ref gb, .ref gw, .ref gsw, .ref gsh, .int (nI ns), .int (nI n), .int fi])), (ge, .inl (cI, 6, .inl fe)), (gl, .inl (cI, 6, .inl fl)), (bt, .inl (cI, 6, .inl ft)), (bc, .inl (cI, 6, .inl cm)), (bs, .inl (cI, 20, .inl fk)), (gw, .inr (4, [.ref sg, .int (nI nl)])), (sg, .inl (cI, 20, .inl fs))] H := hP
  have hD : va_D A [(xo, .inr (7, [.ref g, .ref pd, .ref b, .ref rg, .ref ch, .ref cn, .ref im])), (cn, .inr (1, [.ref b, .ref cw, .ref cv, .long up, .long lo, .int lah, .int lmh, .int fin])), (b, .inr (0, [.ref g, .ref bt, .ref bc, .ref bs, .int hg])), (g, .inr (3, [.ref ge, .ref gl, .ref gb, .ref gw, .ref gsw, .ref gsh, .int (nI ns), .int (nI n), .int fi])), (ge, .inl (cI, 6, .inl fe)), (gl, .inl (cI, 6, .inl fl)), (bt, .inl (cI, 6, .inl ft)), (bc, .inl (cI, 6, .inl cm)), (bs, .inl (cI, 20, .inl fk)), (gw, .inr (4, [.ref sg, .int (nI nl)])), (sg, .inl (cI, 20, .inl fs))] := hD
  rcases hw with ⟨b5, rfl⟩ | ⟨b5, rfl⟩
  · refine lv_if_eq (tgt := 38) hx hb dX7_year_8 (by decide) (fun c9 => absurd c9 (by decide)) (fun _ => ?_)
    refine lv_iload_n hx hb dX7_year_11 rfl (lv_at hl 2 rfl) ?_
    refine lv_iconst (v := nI 1) hx hb dX7_year_12 (by decide) ?_
    refine lv_bipush (v := nI 99) hx hb dX7_year_13 (by decide) ?_
    refine cal_i (run_S (As := [.int w, .int (nI 1), .int (nI 99)]) (rest := []) SF (c_within l D cI cJ cZ cG cM w (nI 1) (nI 99)) (va_cwS 3 hts gX7_year_X7_within rfl rfl rfl (by decide +kernel) ⟨Nat.le_of_ble_eq_true rfl, Nat.le_of_ble_eq_true rfl⟩) hN hK hP hD [] rfl (by decide) rfl hl.1 rfl (Nat.le_of_ble_eq_true rfl) dX7_year_15 ⟨Nat.le_of_ble_eq_true rfl, Nat.le_of_ble_eq_true rfl⟩) ⟨rfl, rfl⟩ hP hD hS hA [] rfl (fun _ => rfl) (fun r15 _ H locs hw hP hD hS => ?_)
    have hP : va_P D vwCl [(xo, .inr (7, [.ref g, .ref pd, .ref b, .ref rg, .ref ch, .ref cn, .ref im])), (cn, .inr (1, [.ref b, .ref cw, .ref cv, .long up, .long lo, .int lah, .int lmh, .int fin])), (b, .inr (0, [.ref g, .ref bt, .ref bc, .ref bs, .int hg])), (g, .inr (3, [.ref ge, .ref gl, .ref gb, .ref gw, .ref gsw, .ref gsh, .int (nI ns), .int (nI n), .int fi])), (ge, .inl (cI, 6, .inl fe)), (gl, .inl (cI, 6, .inl fl)), (bt, .inl (cI, 6, .inl ft)), (bc, .inl (cI, 6, .inl cm)), (bs, .inl (cI, 20, .inl fk)), (gw, .inr (4, [.ref sg, .int (nI nl)])), (sg, .inl (cI, 20, .inl fs))] H := hP
    have hD : va_D A [(xo, .inr (7, [.ref g, .ref pd, .ref b, .ref rg, .ref ch, .ref cn, .ref im])), (cn, .inr (1, [.ref b, .ref cw, .ref cv, .long up, .long lo, .int lah, .int lmh, .int fin])), (b, .inr (0, [.ref g, .ref bt, .ref bc, .ref bs, .int hg])), (g, .inr (3, [.ref ge, .ref gl, .ref gb, .ref gw, .ref gsw, .ref gsh, .int (nI ns), .int (nI n), .int fi])), (ge, .inl (cI, 6, .inl fe)), (gl, .inl (cI, 6, .inl fl)), (bt, .inl (cI, 6, .inl ft)), (bc, .inl (cI, 6, .inl cm)), (bs, .inl (cI, 20, .inl fk)), (gw, .inr (4, [.ref sg, .int (nI nl)])), (sg, .inl (cI, 20, .inl fs))] := hD
    rcases hw with ⟨b15, rfl⟩ | ⟨b15, rfl⟩
    · obtain ⟨wk, k1wk, k2wk, rfl⟩ := nI_rng (by omega) (by omega) b15.1 b15.2
      refine lv_if_eq (tgt := 38) hx hb dX7_year_18 (by decide) (fun c9 => absurd c9 (by decide)) (fun _ => ?_)
      refine lv_iload_n hx hb dX7_year_21 rfl (lv_at hl 3 rfl) ?_
      refine cal_i (run_S (As := [.int h0]) (rest := []) SF (c_isHour l D cI cJ cZ cG cM h0) (va_cwS 1 hts gX7_year_X7_isHour rfl rfl rfl (by decide +kernel) ⟨Nat.le_of_ble_eq_true rfl, Nat.le_of_ble_eq_true rfl⟩) hN hK hP hD [] rfl (by decide) rfl hl.1 rfl (Nat.le_of_ble_eq_true rfl) dX7_year_22 ⟨Nat.le_of_ble_eq_true rfl, Nat.le_of_ble_eq_true rfl⟩) ⟨rfl, rfl⟩ hP hD hS hA [] rfl (fun _ => rfl) (fun r22 _ H locs hw hP hD hS => ?_)
      have hP : va_P D vwCl [(xo, .inr (7, [.ref g, .ref pd, .ref b, .ref rg, .ref ch, .ref cn, .ref im])), (cn, .inr (1, [.ref b, .ref cw, .ref cv, .long up, .long lo, .int lah, .int lmh, .int fin])), (b, .inr (0, [.ref g, .ref bt, .ref bc, .ref bs, .int hg])), (g, .inr (3, [.ref ge, .ref gl, .ref gb, .ref gw, .ref gsw, .ref gsh, .int (nI ns), .int (nI n), .int fi])), (ge, .inl (cI, 6, .inl fe)), (gl, .inl (cI, 6, .inl fl)), (bt, .inl (cI, 6, .inl ft)), (bc, .inl (cI, 6, .inl cm)), (bs, .inl (cI, 20, .inl fk)), (gw, .inr (4, [.ref sg, .int (nI nl)])), (sg, .inl (cI, 20, .inl fs))] H := hP
      have hD : va_D A [(xo, .inr (7, [.ref g, .ref pd, .ref b, .ref rg, .ref ch, .ref cn, .ref im])), (cn, .inr (1, [.ref b, .ref cw, .ref cv, .long up, .long lo, .int lah, .int lmh, .int fin])), (b, .inr (0, [.ref g, .ref bt, .ref bc, .ref bs, .int hg])), (g, .inr (3, [.ref ge, .ref gl, .ref gb, .ref gw, .ref gsw, .ref gsh, .int (nI ns), .int (nI n), .int fi])), (ge, .inl (cI, 6, .inl fe)), (gl, .inl (cI, 6, .inl fl)), (bt, .inl (cI, 6, .inl ft)), (bc, .inl (cI, 6, .inl cm)), (bs, .inl (cI, 20, .inl fk)), (gw, .inr (4, [.ref sg, .int (nI nl)])), (sg, .inl (cI, 20, .inl fs))] := hD
      rcases hw with ⟨b22, rfl⟩ | ⟨b22, rfl⟩
      · refine lv_if_eq (tgt := 38) hx hb dX7_year_25 (by decide) (fun c9 => absurd c9 (by decide)) (fun _ => ?_)
        refine lv_iload hx hb dX7_year_28 (lv_at hl 4 rfl) ?_
        refine lv_iconst (v := nI 0) hx hb dX7_year_30 (by decide) ?_
        refine lv_iconst (v := nI 2) hx hb dX7_year_31 (by decide) ?_
        refine cal_i (run_S (As := [.int y, .int (nI 0), .int (nI 2)]) (rest := []) SF (c_within l D cI cJ cZ cG cM y (nI 0) (nI 2)) (va_cwS 3 hts gX7_year_X7_within rfl rfl rfl (by decide +kernel) ⟨Nat.le_of_ble_eq_true rfl, Nat.le_of_ble_eq_true rfl⟩) hN hK hP hD [] rfl (by decide) rfl hl.1 rfl (Nat.le_of_ble_eq_true rfl) dX7_year_32 ⟨Nat.le_of_ble_eq_true rfl, Nat.le_of_ble_eq_true rfl⟩) ⟨rfl, rfl⟩ hP hD hS hA [] rfl (fun _ => rfl) (fun r32 _ H locs hw hP hD hS => ?_)
        have hP : va_P D vwCl [(xo, .inr (7, [.ref g, .ref pd, .ref b, .ref rg, .ref ch, .ref cn, .ref im])), (cn, .inr (1, [.ref b, .ref cw, .ref cv, .long up, .long lo, .int lah, .int lmh, .int fin])), (b, .inr (0, [.ref g, .ref bt, .ref bc, .ref bs, .int hg])), (g, .inr (3, [.ref ge, .ref gl, .ref gb, .ref gw, .ref gsw, .ref gsh, .int (nI ns), .int (nI n), .int fi])), (ge, .inl (cI, 6, .inl fe)), (gl, .inl (cI, 6, .inl fl)), (bt, .inl (cI, 6, .inl ft)), (bc, .inl (cI, 6, .inl cm)), (bs, .inl (cI, 20, .inl fk)), (gw, .inr (4, [.ref sg, .int (nI nl)])), (sg, .inl (cI, 20, .inl fs))] H := hP
        have hD : va_D A [(xo, .inr (7, [.ref g, .ref pd, .ref b, .ref rg, .ref ch, .ref cn, .ref im])), (cn, .inr (1, [.ref b, .ref cw, .ref cv, .long up, .long lo, .int lah, .int lmh, .int fin])), (b, .inr (0, [.ref g, .ref bt, .ref bc, .ref bs, .int hg])), (g, .inr (3, [.ref ge, .ref gl, .ref gb, .ref gw, .ref gsw, .ref gsh, .int (nI ns), .int (nI n), .int fi])), (ge, .inl (cI, 6, .inl fe)), (gl, .inl (cI, 6, .inl fl)), (bt, .inl (cI, 6, .inl ft)), (bc, .inl (cI, 6, .inl cm)), (bs, .inl (cI, 20, .inl fk)), (gw, .inr (4, [.ref sg, .int (nI nl)])), (sg, .inl (cI, 20, .inl fs))] := hD
        rcases hw with ⟨b32, rfl⟩ | ⟨b32, rfl⟩
        · obtain ⟨ky, k1ky, k2ky, rfl⟩ := nI_rng (by omega) (by omega) b32.1 b32.2
          refine lv_if_ne (tgt := 41) hx hb dX7_year_35 (by decide) (fun _ => ?_) (fun c9 => absurd c9 (by decide))
          refine lv_aload_n hx hb dX7_year_41 rfl (lv_at hl 0 rfl) ?_
          refine va_get (D := D) (ci := 7) (v := .ref cn) (C := RX7) (T := TX7) (N := 7) hx hb hts hi7 hown hK hP 0 rfl rfl 5 (by decide) hw0 (fun _ h9 => h9) rfl dX7_year_42 ?_
          refine lv_iload_n hx hb dX7_year_45 rfl (lv_at hl 1 rfl) ?_
          refine lv_iload_n hx hb dX7_year_46 rfl (lv_at hl 2 rfl) ?_
          refine lv_iload_n hx hb dX7_year_47 rfl (lv_at hl 3 rfl) ?_
          refine cal_v (run_V (As := [.int x, .int (nI wk), .int h0]) (rest := []) SF (c_drawYear l D cI cJ cZ cG cM cn cw cv up lo lah lmh fin b bt bc bs g ge gl gb gw gsw gsh fi n ns sg nl hg cm fk fs fe fl ft hV h1 h6 x h0 wk (by omega)) (cwV 3 hts gX7_year_X1_drawYear rfl rfl rfl (by decide +kernel) ⟨Nat.le_of_ble_eq_true rfl, Nat.le_of_ble_eq_true rfl⟩) hN hK hP hD [1, 2, 3, 4, 5, 6, 7, 8, 9, 10] rfl (by decide) 1 1 rfl rfl rfl rfl hl.1 rfl (Nat.le_of_ble_eq_true rfl) dX7_year_48 ⟨Nat.le_of_ble_eq_true rfl, Nat.le_of_ble_eq_true rfl⟩) ⟨rfl, rfl⟩ hP hD hS hA [1, 2, 3, 4, 5, 6, 7, 8, 9, 10] rfl (fun _ => rfl) (fun u48 H locs hw hP hD hS => ?_)
          have hP : va_P D vwCl [(xo, .inr (7, [.ref g, .ref pd, .ref b, .ref rg, .ref ch, .ref cn, .ref im])), (cn, .inr (1, [.ref b, .ref cw, .ref cv, .long up, .long lo, .int (yhq (fun g9 h9 => nxF fs nl n fe g9 (nI 0) h9) x fl n h0 wk), .int (ymq (fun g9 h9 => nxF fs nl n fe g9 (nI 0) h9) x fl n h0 wk), .int (fsW fi x fl n wk)])), (b, .inr (0, [.ref g, .ref bt, .ref bc, .ref bs, .int u48.2.2.2])), (g, .inr (3, [.ref ge, .ref gl, .ref gb, .ref gw, .ref gsw, .ref gsh, .int (nI ns), .int (nI n), .int fi])), (ge, .inl (cI, 6, .inl fe)), (gl, .inl (cI, 6, .inl fl)), (bt, .inl (cI, 6, .inl u48.1)), (bc, .inl (cI, 6, .inl u48.2.1)), (bs, .inl (cI, 20, .inl u48.2.2.1)), (gw, .inr (4, [.ref sg, .int (nI nl)])), (sg, .inl (cI, 20, .inl fs))] H := hP
          have hD : va_D A [(xo, .inr (7, [.ref g, .ref pd, .ref b, .ref rg, .ref ch, .ref cn, .ref im])), (cn, .inr (1, [.ref b, .ref cw, .ref cv, .long up, .long lo, .int (yhq (fun g9 h9 => nxF fs nl n fe g9 (nI 0) h9) x fl n h0 wk), .int (ymq (fun g9 h9 => nxF fs nl n fe g9 (nI 0) h9) x fl n h0 wk), .int (fsW fi x fl n wk)])), (b, .inr (0, [.ref g, .ref bt, .ref bc, .ref bs, .int u48.2.2.2])), (g, .inr (3, [.ref ge, .ref gl, .ref gb, .ref gw, .ref gsw, .ref gsh, .int (nI ns), .int (nI n), .int fi])), (ge, .inl (cI, 6, .inl fe)), (gl, .inl (cI, 6, .inl fl)), (bt, .inl (cI, 6, .inl u48.1)), (bc, .inl (cI, 6, .inl u48.2.1)), (bs, .inl (cI, 20, .inl u48.2.2.1)), (gw, .inr (4, [.ref sg, .int (nI nl)])), (sg, .inl (cI, 20, .inl fs))] := hD
          refine lv_iload hx hb dX7_year_51 (lv_at hl 4 rfl) ?_
          refine if_ne_n (a := ky) (tgt := 64) hx hb dX7_year_53 (by decide) (by omega) (fun c53 => ?_) (fun c53 => ?_)
          · refine lv_iload hx hb dX7_year_64 (lv_at hl 4 rfl) ?_
            refine lv_iconst (v := nI 1) hx hb dX7_year_66 (by decide) ?_
            refine icmp_ne_n (a := ky) (b := 1) (tgt := 80) hx hb dX7_year_67 (by decide) (by omega) (by omega) (fun c67 => ?_) (fun c67 => ?_)
            · refine lv_aload_n hx hb dX7_year_80 rfl (lv_at hl 0 rfl) ?_
              refine va_get (D := D) (ci := 7) (v := .ref cn) (C := RX7) (T := TX7) (N := 7) hx hb hts hi7 hown hK hP 0 rfl rfl 5 (by decide) hw0 (fun _ h9 => h9) rfl dX7_year_81 ?_
              refine va_get (D := D) (ci := 1) (v := .int (fsW fi x fl n wk)) (C := RX1) (T := TX1) (N := 8) hx hb hts hi1 hown hK hP 1 rfl rfl 7 (by decide) hw2 (fun _ h9 => h9) rfl dX7_year_84 ?_
              exact hret (fsW fi x fl n wk) ((u48.1, u48.2.1, u48.2.2.1, u48.2.2.2, yhq (fun g9 h9 => nxF fs nl n fe g9 (nI 0) h9) x fl n h0 wk, ymq (fun g9 h9 => nxF fs nl n fe g9 (nI 0) h9) x fl n h0 wk, fsW fi x fl n wk)) _ _ _ _ dX7_year_87 (by rw [if_pos ⟨⟨b5, b15⟩, b22, b32⟩, nI_clamp (by omega)]; rw [if_neg (by rw [nI_eq (by omega) (by omega)]; omega), if_neg (by rw [nI_eq (by omega) (by omega)]; omega)]) hP hD hS
            · refine lv_aload_n hx hb dX7_year_70 rfl (lv_at hl 0 rfl) ?_
              refine va_get (D := D) (ci := 7) (v := .ref cn) (C := RX7) (T := TX7) (N := 7) hx hb hts hi7 hown hK hP 0 rfl rfl 5 (by decide) hw0 (fun _ h9 => h9) rfl dX7_year_71 ?_
              refine va_get (D := D) (ci := 1) (v := .int (ymq (fun g9 h9 => nxF fs nl n fe g9 (nI 0) h9) x fl n h0 wk)) (C := RX1) (T := TX1) (N := 8) hx hb hts hi1 hown hK hP 1 rfl rfl 6 (by decide) hw4 (fun _ h9 => h9) rfl dX7_year_74 ?_
              refine lv_goto (tgt := 87) hx hb dX7_year_77 (by decide) ?_
              exact hret (ymq (fun g9 h9 => nxF fs nl n fe g9 (nI 0) h9) x fl n h0 wk) ((u48.1, u48.2.1, u48.2.2.1, u48.2.2.2, yhq (fun g9 h9 => nxF fs nl n fe g9 (nI 0) h9) x fl n h0 wk, ymq (fun g9 h9 => nxF fs nl n fe g9 (nI 0) h9) x fl n h0 wk, fsW fi x fl n wk)) _ _ _ _ dX7_year_87 (by rw [if_pos ⟨⟨b5, b15⟩, b22, b32⟩, nI_clamp (by omega)]; rw [if_neg (by rw [nI_eq (by omega) (by omega)]; omega), if_pos (by rw [c67])]) hP hD hS
          · refine lv_aload_n hx hb dX7_year_56 rfl (lv_at hl 0 rfl) ?_
            refine va_get (D := D) (ci := 7) (v := .ref cn) (C := RX7) (T := TX7) (N := 7) hx hb hts hi7 hown hK hP 0 rfl rfl 5 (by decide) hw0 (fun _ h9 => h9) rfl dX7_year_57 ?_
            refine va_get (D := D) (ci := 1) (v := .int (yhq (fun g9 h9 => nxF fs nl n fe g9 (nI 0) h9) x fl n h0 wk)) (C := RX1) (T := TX1) (N := 8) hx hb hts hi1 hown hK hP 1 rfl rfl 5 (by decide) hw5 (fun _ h9 => h9) rfl dX7_year_60 ?_
            exact hret (yhq (fun g9 h9 => nxF fs nl n fe g9 (nI 0) h9) x fl n h0 wk) ((u48.1, u48.2.1, u48.2.2.1, u48.2.2.2, yhq (fun g9 h9 => nxF fs nl n fe g9 (nI 0) h9) x fl n h0 wk, ymq (fun g9 h9 => nxF fs nl n fe g9 (nI 0) h9) x fl n h0 wk, fsW fi x fl n wk)) _ _ _ _ dX7_year_63 (by rw [if_pos ⟨⟨b5, b15⟩, b22, b32⟩, nI_clamp (by omega)]; rw [if_pos (by rw [c53])]) hP hD hS
        · refine lv_if_ne (tgt := 41) hx hb dX7_year_35 (by decide) (fun c9 => absurd c9 (by decide)) (fun _ => ?_)
          refine lv_bipush (v := (-2)) hx hb dX7_year_38 (by decide) ?_
          exact hret ((-2)) ((ft, cm, fk, hg, lah, lmh, fin)) _ _ _ _ dX7_year_40 (by rw [if_neg (fun z => b32 z.2.2)]) hP hD hS
      · refine lv_if_eq (tgt := 38) hx hb dX7_year_25 (by decide) (fun _ => ?_) (fun c9 => absurd (by decide) c9)
        refine lv_bipush (v := (-2)) hx hb dX7_year_38 (by decide) ?_
        exact hret ((-2)) ((ft, cm, fk, hg, lah, lmh, fin)) _ _ _ _ dX7_year_40 (by rw [if_neg (fun z => b22 z.2.1)]) hP hD hS
    · refine lv_if_eq (tgt := 38) hx hb dX7_year_18 (by decide) (fun _ => ?_) (fun c9 => absurd (by decide) c9)
      refine lv_bipush (v := (-2)) hx hb dX7_year_38 (by decide) ?_
      exact hret ((-2)) ((ft, cm, fk, hg, lah, lmh, fin)) _ _ _ _ dX7_year_40 (by rw [if_neg (fun z => b15 z.1.2)]) hP hD hS
  · refine lv_if_eq (tgt := 38) hx hb dX7_year_8 (by decide) (fun _ => ?_) (fun c9 => absurd (by decide) c9)
    refine lv_bipush (v := (-2)) hx hb dX7_year_38 (by decide) ?_
    exact hret ((-2)) ((ft, cm, fk, hg, lah, lmh, fin)) _ _ _ _ dX7_year_40 (by rw [if_neg (fun z => b5 z.1.1)]) hP hD hS

abbrev rm_X8_year : Room := { frames := 3, cells := 0, slots := 0, locals := 75 }
set_option maxHeartbeats 1000000 in
set_option maxRecDepth 100000 in
theorem m_year (l : Launch) (D : va_G) (cI cJ cZ cG cM : ClassId) (o me ml mb mt ms mp my mc mk mw mo mq mi mz : Nat) (fi si sn la ah ri lh : Int32) (n nl : Nat) (fe fb cm fk fs fl : Nat → Int32) (hV : VL fs nl) (h1 : 1 ≤ n) (h6 : n ≤ 6) (x w h0 y : Int32) :
    CI l yX8_year wsX8_year rm_X8_year D [(cI, .int), (cJ, .long), (cZ, .boolean), (cG, .object "LatestSets$Guild"), (cM, .array .int)] [(o, .inr (8, [.int (nI n), .ref me, .ref ml, .ref mb, .int fi, .int (nI nl), .ref mt, .int si, .ref ms, .int sn, .ref mp, .ref my, .ref mc, .int la, .ref mk, .ref mw, .int ah, .int ri, .int lh, .ref mo, .ref mq, .ref mi, .ref mz])), (me, .inl (cI, 6, .inl fe)), (my, .inl (cI, 6, .inl fb)), (mc, .inl (cI, 6, .inl cm)), (mk, .inl (cI, 24, .inl fk)), (mt, .inl (cI, 20, .inl fs)), (ml, .inl (cI, 6, .inl fl))] [.ref o, .int x, .int w, .int h0, .int y] (S := (Int32 × (Nat → Int32) × (Nat → Int32) × (Nat → Int32))) (fun r u => r = (if ((nI 0 ≤ x ∧ x ≤ nI 9999) ∧ (nI 1 ≤ w ∧ w ≤ nI 99)) ∧ (nI 0 ≤ h0 ∧ h0 ≤ nI 23) ∧ (nI 0 ≤ y ∧ y ≤ nI 2) then (if y = nI 0 then yhq (fun g9 h9 => nxG fs nl n fe g9 (nI 0) h9) x fl n h0 w.toNatClampNeg else if y = nI 1 then ymq (fun g9 h9 => nxG fs nl n fe g9 (nI 0) h9) x fl n h0 w.toNatClampNeg else fsW fi x fl n w.toNatClampNeg) else (-2))) (fun u => [(o, .inr (8, [.int (nI n), .ref me, .ref ml, .ref mb, .int fi, .int (nI nl), .ref mt, .int si, .ref ms, .int sn, .ref mp, .ref my, .ref mc, .int u.1, .ref mk, .ref mw, .int ah, .int ri, .int lh, .ref mo, .ref mq, .ref mi, .ref mz])), (me, .inl (cI, 6, .inl fe)), (my, .inl (cI, 6, .inl u.2.1)), (mc, .inl (cI, 6, .inl u.2.2.1)), (mk, .inl (cI, 24, .inl u.2.2.2)), (mt, .inl (cI, 20, .inl fs)), (ml, .inl (cI, 6, .inl fl))]) := by
  refine si_of (cc := cX8_year) (maxL := 11) (by decide) rfl (Nat.le_of_ble_eq_true rfl) ?_
  intro p e s m args below meth c A ls Q E hret
  obtain ⟨hx, hb, -, hml, hown, hts, -, hin, hA, hK, hP, hD, hS, hl, hN⟩ := E
  have hown : s.vm.findClass RX8 = some m.cls := hown
  have hl : lv_has ls 11 [(0, .ref o), (1, .int x), (2, .int w), (3, .int h0), (4, .int y)] := hl
  have SF : CallFix p m c cX8_year 11 s args wsX8_year RX8 := ⟨hx, hb, hml, hown, hts⟩
  have hw0 := hts (.fieldLink RX8 7 "LatestSetsModel" "members" "I") (by decide +kernel)
  have hi8 : ∀ x ∈ wsX80, x ∈ wsX8_year := by decide +kernel
  have hw2 := hts (.constant RX8 171 (65537)) (by decide +kernel)
  have hw3 := hts (.fieldLink RX8 38 "LatestSetsModel" "by" "[I") (by decide +kernel)
  have hw4 := hts (.fieldLink RX8 17 "LatestSetsModel" "late" "[I") (by decide +kernel)
  have hw5 := hts (.fieldLink RX8 23 "LatestSetsModel" "fine" "I") (by decide +kernel)
  refine lv_iload_n hx hb dX8_year_0 rfl (lv_at hl 1 rfl) ?_
  refine lv_iconst (v := nI 0) hx hb dX8_year_1 (by decide) ?_
  refine lv_sipush (v := nI 9999) hx hb dX8_year_2 (by decide) ?_
  refine cal_i (run_S (As := [.int x, .int (nI 0), .int (nI 9999)]) (rest := []) SF (c_in8 l D cI cJ cZ cG cM x (nI 0) (nI 9999)) (va_cwS 3 hts gX8_year_X8_in rfl rfl rfl (by decide +kernel) ⟨Nat.le_of_ble_eq_true rfl, Nat.le_of_ble_eq_true rfl⟩) hN hK hP hD [] rfl (by decide) rfl hl.1 rfl (Nat.le_of_ble_eq_true rfl) dX8_year_5 ⟨Nat.le_of_ble_eq_true rfl, Nat.le_of_ble_eq_true rfl⟩) ⟨rfl, rfl⟩ hP hD hS hA [] rfl (fun _ => rfl) (fun r5 _ H locs hw hP hD hS => ?_)
  have hP : va_P D vwCl [(o, .inr (8, [.int (nI n), .ref me, .ref ml, .ref mb, .int fi, .int (nI nl), .ref mt, .int si, .ref ms, .int sn, .ref mp, .ref my, .ref mc, .int la, .ref mk, .ref mw, .int ah, .int ri, .int lh, .ref mo, .ref mq, .ref mi, .ref mz])), (me, .inl (cI, 6, .inl fe)), (my, .inl (cI, 6, .inl fb)), (mc, .inl (cI, 6, .inl cm)), (mk, .inl (cI, 24, .inl fk)), (mt, .inl (cI, 20, .inl fs)), (ml, .inl (cI, 6, .inl fl))] H := hP
  have hD : va_D A [(o, .inr (8, [.int (nI n), .ref me, .ref ml, .ref mb, .int fi, .int (nI nl), .ref mt, .int si, .ref ms, .int sn, .ref mp, .ref my, .ref mc, .int la, .ref mk, .ref mw, .int ah, .int ri, .int lh, .ref mo, .ref mq, .ref mi, .ref mz])), (me, .inl (cI, 6, .inl fe)), (my, .inl (cI, 6, .inl fb)), (mc, .inl (cI, 6, .inl cm)), (mk, .inl (cI, 24, .inl fk)), (mt, .inl (cI, 20, .inl fs)), (ml, .inl (cI, 6, .inl fl))] := hD
  rcases hw with ⟨b5, rfl⟩ | ⟨b5, rfl⟩
  · refine lv_if_eq (tgt := 38) hx hb dX8_year_8 (by decide) (fun c9 => absurd c9 (by decide)) (fun _ => ?_)
    refine lv_iload_n hx hb dX8_year_11 rfl (lv_at hl 2 rfl) ?_
    refine lv_iconst (v := nI 1) hx hb dX8_year_12 (by decide) ?_
    refine lv_bipush (v := nI 99) hx hb dX8_year_13 (by decide) ?_
    refine cal_i (run_S (As := [.int w, .int (nI 1), .int (nI 99)]) (rest := []) SF (c_in8 l D cI cJ cZ cG cM w (nI 1) (nI 99)) (va_cwS 3 hts gX8_year_X8_in rfl rfl rfl (by decide +kernel) ⟨Nat.le_of_ble_eq_true rfl, Nat.le_of_ble_eq_true rfl⟩) hN hK hP hD [] rfl (by decide) rfl hl.1 rfl (Nat.le_of_ble_eq_true rfl) dX8_year_15 ⟨Nat.le_of_ble_eq_true rfl, Nat.le_of_ble_eq_true rfl⟩) ⟨rfl, rfl⟩ hP hD hS hA [] rfl (fun _ => rfl) (fun r15 _ H locs hw hP hD hS => ?_)
    have hP : va_P D vwCl [(o, .inr (8, [.int (nI n), .ref me, .ref ml, .ref mb, .int fi, .int (nI nl), .ref mt, .int si, .ref ms, .int sn, .ref mp, .ref my, .ref mc, .int la, .ref mk, .ref mw, .int ah, .int ri, .int lh, .ref mo, .ref mq, .ref mi, .ref mz])), (me, .inl (cI, 6, .inl fe)), (my, .inl (cI, 6, .inl fb)), (mc, .inl (cI, 6, .inl cm)), (mk, .inl (cI, 24, .inl fk)), (mt, .inl (cI, 20, .inl fs)), (ml, .inl (cI, 6, .inl fl))] H := hP
    have hD : va_D A [(o, .inr (8, [.int (nI n), .ref me, .ref ml, .ref mb, .int fi, .int (nI nl), .ref mt, .int si, .ref ms, .int sn, .ref mp, .ref my, .ref mc, .int la, .ref mk, .ref mw, .int ah, .int ri, .int lh, .ref mo, .ref mq, .ref mi, .ref mz])), (me, .inl (cI, 6, .inl fe)), (my, .inl (cI, 6, .inl fb)), (mc, .inl (cI, 6, .inl cm)), (mk, .inl (cI, 24, .inl fk)), (mt, .inl (cI, 20, .inl fs)), (ml, .inl (cI, 6, .inl fl))] := hD
    rcases hw with ⟨b15, rfl⟩ | ⟨b15, rfl⟩
    · obtain ⟨kw, k1kw, k2kw, rfl⟩ := nI_rng (by omega) (by omega) b15.1 b15.2
      refine lv_if_eq (tgt := 38) hx hb dX8_year_18 (by decide) (fun c9 => absurd c9 (by decide)) (fun _ => ?_)
      refine lv_iload_n hx hb dX8_year_21 rfl (lv_at hl 3 rfl) ?_
      refine cal_i (run_S (As := [.int h0]) (rest := []) SF (c_isHour8 l D cI cJ cZ cG cM h0) (va_cwS 1 hts gX8_year_X8_isHour rfl rfl rfl (by decide +kernel) ⟨Nat.le_of_ble_eq_true rfl, Nat.le_of_ble_eq_true rfl⟩) hN hK hP hD [] rfl (by decide) rfl hl.1 rfl (Nat.le_of_ble_eq_true rfl) dX8_year_22 ⟨Nat.le_of_ble_eq_true rfl, Nat.le_of_ble_eq_true rfl⟩) ⟨rfl, rfl⟩ hP hD hS hA [] rfl (fun _ => rfl) (fun r22 _ H locs hw hP hD hS => ?_)
      have hP : va_P D vwCl [(o, .inr (8, [.int (nI n), .ref me, .ref ml, .ref mb, .int fi, .int (nI nl), .ref mt, .int si, .ref ms, .int sn, .ref mp, .ref my, .ref mc, .int la, .ref mk, .ref mw, .int ah, .int ri, .int lh, .ref mo, .ref mq, .ref mi, .ref mz])), (me, .inl (cI, 6, .inl fe)), (my, .inl (cI, 6, .inl fb)), (mc, .inl (cI, 6, .inl cm)), (mk, .inl (cI, 24, .inl fk)), (mt, .inl (cI, 20, .inl fs)), (ml, .inl (cI, 6, .inl fl))] H := hP
      have hD : va_D A [(o, .inr (8, [.int (nI n), .ref me, .ref ml, .ref mb, .int fi, .int (nI nl), .ref mt, .int si, .ref ms, .int sn, .ref mp, .ref my, .ref mc, .int la, .ref mk, .ref mw, .int ah, .int ri, .int lh, .ref mo, .ref mq, .ref mi, .ref mz])), (me, .inl (cI, 6, .inl fe)), (my, .inl (cI, 6, .inl fb)), (mc, .inl (cI, 6, .inl cm)), (mk, .inl (cI, 24, .inl fk)), (mt, .inl (cI, 20, .inl fs)), (ml, .inl (cI, 6, .inl fl))] := hD
      rcases hw with ⟨b22, rfl⟩ | ⟨b22, rfl⟩
      · refine lv_if_eq (tgt := 38) hx hb dX8_year_25 (by decide) (fun c9 => absurd c9 (by decide)) (fun _ => ?_)
        refine lv_iload hx hb dX8_year_28 (lv_at hl 4 rfl) ?_
        refine lv_iconst (v := nI 0) hx hb dX8_year_30 (by decide) ?_
        refine lv_iconst (v := nI 2) hx hb dX8_year_31 (by decide) ?_
        refine cal_i (run_S (As := [.int y, .int (nI 0), .int (nI 2)]) (rest := []) SF (c_in8 l D cI cJ cZ cG cM y (nI 0) (nI 2)) (va_cwS 3 hts gX8_year_X8_in rfl rfl rfl (by decide +kernel) ⟨Nat.le_of_ble_eq_true rfl, Nat.le_of_ble_eq_true rfl⟩) hN hK hP hD [] rfl (by decide) rfl hl.1 rfl (Nat.le_of_ble_eq_true rfl) dX8_year_32 ⟨Nat.le_of_ble_eq_true rfl, Nat.le_of_ble_eq_true rfl⟩) ⟨rfl, rfl⟩ hP hD hS hA [] rfl (fun _ => rfl) (fun r32 _ H locs hw hP hD hS => ?_)
        have hP : va_P D vwCl [(o, .inr (8, [.int (nI n), .ref me, .ref ml, .ref mb, .int fi, .int (nI nl), .ref mt, .int si, .ref ms, .int sn, .ref mp, .ref my, .ref mc, .int la, .ref mk, .ref mw, .int ah, .int ri, .int lh, .ref mo, .ref mq, .ref mi, .ref mz])), (me, .inl (cI, 6, .inl fe)), (my, .inl (cI, 6, .inl fb)), (mc, .inl (cI, 6, .inl cm)), (mk, .inl (cI, 24, .inl fk)), (mt, .inl (cI, 20, .inl fs)), (ml, .inl (cI, 6, .inl fl))] H := hP
        have hD : va_D A [(o, .inr (8, [.int (nI n), .ref me, .ref ml, .ref mb, .int fi, .int (nI nl), .ref mt, .int si, .ref ms, .int sn, .ref mp, .ref my, .ref mc, .int la, .ref mk, .ref mw, .int ah, .int ri, .int lh, .ref mo, .ref mq, .ref mi, .ref mz])), (me, .inl (cI, 6, .inl fe)), (my, .inl (cI, 6, .inl fb)), (mc, .inl (cI, 6, .inl cm)), (mk, .inl (cI, 24, .inl fk)), (mt, .inl (cI, 20, .inl fs)), (ml, .inl (cI, 6, .inl fl))] := hD
        rcases hw with ⟨b32, rfl⟩ | ⟨b32, rfl⟩
        · obtain ⟨ky, k1ky, k2ky, rfl⟩ := nI_rng (by omega) (by omega) b32.1 b32.2
          refine lv_if_ne (tgt := 41) hx hb dX8_year_35 (by decide) (fun _ => ?_) (fun c9 => absurd c9 (by decide))
          refine lv_aload_n hx hb dX8_year_41 rfl (lv_at hl 0 rfl) ?_
          refine cal_v (run_V (As := []) (rest := []) SF (c_asTold l D cI cJ cZ cG cM o me ml mb mt ms mp my mc mk mw mo mq mi mz fi si sn la ah ri lh n nl fl fb) (cwV 0 hts gX8_year_X8_asTold rfl rfl rfl (by decide +kernel) ⟨Nat.le_of_ble_eq_true rfl, Nat.le_of_ble_eq_true rfl⟩) hN hK hP hD [0, 6, 2] rfl (by decide) 8 0 rfl rfl rfl rfl hl.1 rfl (Nat.le_of_ble_eq_true rfl) dX8_year_42 ⟨Nat.le_of_ble_eq_true rfl, Nat.le_of_ble_eq_true rfl⟩) ⟨rfl, rfl⟩ hP hD hS hA [0, 6, 2] rfl (fun _ => rfl) (fun u42 H locs hw hP hD hS => ?_)
          have hP : va_P D vwCl [(o, .inr (8, [.int (nI n), .ref me, .ref ml, .ref mb, .int fi, .int (nI nl), .ref mt, .int si, .ref ms, .int sn, .ref mp, .ref my, .ref mc, .int (nI 0), .ref mk, .ref mw, .int ah, .int ri, .int lh, .ref mo, .ref mq, .ref mi, .ref mz])), (me, .inl (cI, 6, .inl fe)), (my, .inl (cI, 6, .inl u42)), (mc, .inl (cI, 6, .inl cm)), (mk, .inl (cI, 24, .inl fk)), (mt, .inl (cI, 20, .inl fs)), (ml, .inl (cI, 6, .inl fl))] H := hP
          have hD : va_D A [(o, .inr (8, [.int (nI n), .ref me, .ref ml, .ref mb, .int fi, .int (nI nl), .ref mt, .int si, .ref ms, .int sn, .ref mp, .ref my, .ref mc, .int (nI 0), .ref mk, .ref mw, .int ah, .int ri, .int lh, .ref mo, .ref mq, .ref mi, .ref mz])), (me, .inl (cI, 6, .inl fe)), (my, .inl (cI, 6, .inl u42)), (mc, .inl (cI, 6, .inl cm)), (mk, .inl (cI, 24, .inl fk)), (mt, .inl (cI, 20, .inl fs)), (ml, .inl (cI, 6, .inl fl))] := hD
          refine lv_iload_n hx hb dX8_year_45 rfl (lv_at hl 1 rfl) ?_
          refine lv_istore (lv' := [(5, .int x), (0, .ref o), (1, .int x), (2, .int (nI kw)), (3, .int h0), (4, .int (nI ky))]) hx hb dX8_year_46 hl (by decide) rfl (fun ls hl => ?_)
          refine lv_iload_n hx hb dX8_year_48 rfl (lv_at hl 4 rfl) ?_
          refine lv_istore (lv' := [(6, .int h0), (5, .int x), (0, .ref o), (1, .int x), (2, .int (nI kw)), (3, .int h0), (4, .int (nI ky))]) hx hb dX8_year_49 hl (by decide) rfl (fun ls hl => ?_)
          refine lv_iload_n hx hb dX8_year_51 rfl (lv_at hl 5 rfl) ?_
          refine lv_istore (lv' := [(7, .int h0), (6, .int h0), (5, .int x), (0, .ref o), (1, .int x), (2, .int (nI kw)), (3, .int h0), (4, .int (nI ky))]) hx hb dX8_year_52 hl (by decide) rfl (fun ls hl => ?_)
          refine lv_iconst (v := nI 0) hx hb dX8_year_54 (by decide) ?_
          refine lv_istore (lv' := [(8, .int (nI 0)), (7, .int h0), (6, .int h0), (5, .int x), (0, .ref o), (1, .int x), (2, .int (nI kw)), (3, .int h0), (4, .int (nI ky))]) hx hb dX8_year_55 hl (by decide) rfl (fun ls hl => ?_)
          refine lv_iconst (v := nI 0) hx hb dX8_year_57 (by decide) ?_
          refine lv_istore (lv' := [(9, .int (nI 0)), (8, .int (nI 0)), (7, .int h0), (6, .int h0), (5, .int x), (0, .ref o), (1, .int x), (2, .int (nI kw)), (3, .int h0), (4, .int (nI ky))]) hx hb dX8_year_58 hl (by decide) rfl (fun ls hl => ?_)
          have L60 : ∀ (n9 : Nat) (k : Nat) (fb cm fk : Nat → Int32) (hk : k ≤ kw), kw - k < n9 → ∀ (H : Heap) (locs : List Loc), va_P D vwCl [(o, .inr (8, [.int (nI n), .ref me, .ref ml, .ref mb, .int fi, .int (nI nl), .ref mt, .int si, .ref ms, .int sn, .ref mp, .ref my, .ref mc, .int (nI 0), .ref mk, .ref mw, .int ah, .int ri, .int lh, .ref mo, .ref mq, .ref mi, .ref mz])), (me, .inl (cI, 6, .inl fe)), (my, .inl (cI, 6, .inl fb)), (mc, .inl (cI, 6, .inl cm)), (mk, .inl (cI, 24, .inl fk)), (mt, .inl (cI, 20, .inl fs)), (ml, .inl (cI, 6, .inl fl))] H → va_D A [(o, .inr (8, [.int (nI n), .ref me, .ref ml, .ref mb, .int fi, .int (nI nl), .ref mt, .int si, .ref ms, .int sn, .ref mp, .ref my, .ref mc, .int (nI 0), .ref mk, .ref mw, .int ah, .int ri, .int lh, .ref mo, .ref mq, .ref mi, .ref mz])), (me, .inl (cI, 6, .inl fe)), (my, .inl (cI, 6, .inl fb)), (mc, .inl (cI, 6, .inl cm)), (mk, .inl (cI, 24, .inl fk)), (mt, .inl (cI, 20, .inl fs)), (ml, .inl (cI, 6, .inl fl))] → va_S A s.heap H locs → ∀ (ls : Array Slot), lv_has ls 11 [(0, .ref o), (2, .int (nI kw)), (3, .int h0), (4, .int (nI ky)), (5, .int (xq x (k * n))), (6, .int (yhq (fun g9 h9 => nxG fs nl n fe g9 (nI 0) h9) x fl n h0 k)), (7, .int (ymq (fun g9 h9 => nxG fs nl n fe g9 (nI 0) h9) x fl n h0 k)), (8, .int (fsW fi x fl n k)), (9, .int (nI k))] → W p l e rm_X8_year s m args below meth c H locs 0 0 Q (F0 m 60 ls []) := by
            intro n9
            induction n9 with
            | zero => intro k fb cm fk hk hm; exact absurd hm (Nat.not_lt_zero _)
            | succ n9 ih60 =>
              intro k fb cm fk hk hm60 H locs hP hD hS ls hl
              refine lv_iload hx hb dX8_year_60 (lv_at hl 8 rfl) ?_
              refine lv_iload_n hx hb dX8_year_62 rfl (lv_at hl 1 rfl) ?_
              refine icmp_ge_n (a := k) (b := kw) (tgt := 163) hx hb dX8_year_63 (by decide) (by omega) (by omega) (fun c63 => ?_) (fun c63 => ?_)
              · have e9 : k = kw := by omega
                rw [e9] at hl
                refine lv_iload hx hb dX8_year_163 (lv_at hl 3 rfl) ?_
                refine if_ne_n (a := ky) (tgt := 173) hx hb dX8_year_165 (by decide) (by omega) (fun c165 => ?_) (fun c165 => ?_)
                · refine lv_iload hx hb dX8_year_173 (lv_at hl 3 rfl) ?_
                  refine lv_iconst (v := nI 1) hx hb dX8_year_175 (by decide) ?_
                  refine icmp_ne_n (a := ky) (b := 1) (tgt := 184) hx hb dX8_year_176 (by decide) (by omega) (by omega) (fun c176 => ?_) (fun c176 => ?_)
                  · refine lv_iload hx hb dX8_year_184 (lv_at hl 7 rfl) ?_
                    exact hret (fsW fi x fl n kw) ((nI 0, fb, cm, fk)) _ _ _ _ dX8_year_186 (by rw [if_pos ⟨⟨b5, b15⟩, b22, b32⟩, nI_clamp (by omega)]; rw [if_neg (by rw [nI_eq (by omega) (by omega)]; omega), if_neg (by rw [nI_eq (by omega) (by omega)]; omega)]) hP hD hS
                  · refine lv_iload hx hb dX8_year_179 (lv_at hl 6 rfl) ?_
                    refine lv_goto (tgt := 186) hx hb dX8_year_181 (by decide) ?_
                    exact hret (ymq (fun g9 h9 => nxG fs nl n fe g9 (nI 0) h9) x fl n h0 kw) ((nI 0, fb, cm, fk)) _ _ _ _ dX8_year_186 (by rw [if_pos ⟨⟨b5, b15⟩, b22, b32⟩, nI_clamp (by omega)]; rw [if_neg (by rw [nI_eq (by omega) (by omega)]; omega), if_pos (by rw [c176])]) hP hD hS
                · refine lv_iload hx hb dX8_year_168 (lv_at hl 5 rfl) ?_
                  refine lv_goto (tgt := 186) hx hb dX8_year_170 (by decide) ?_
                  exact hret (yhq (fun g9 h9 => nxG fs nl n fe g9 (nI 0) h9) x fl n h0 kw) ((nI 0, fb, cm, fk)) _ _ _ _ dX8_year_186 (by rw [if_pos ⟨⟨b5, b15⟩, b22, b32⟩, nI_clamp (by omega)]; rw [if_pos (by rw [c165])]) hP hD hS
              · refine lv_iconst (v := nI 0) hx hb dX8_year_66 (by decide) ?_
                refine lv_istore (lv' := [(10, .int (nI 0)), (0, .ref o), (2, .int (nI kw)), (3, .int h0), (4, .int (nI ky)), (5, .int (xq x (k * n))), (6, .int (yhq (fun g9 h9 => nxG fs nl n fe g9 (nI 0) h9) x fl n h0 k)), (7, .int (ymq (fun g9 h9 => nxG fs nl n fe g9 (nI 0) h9) x fl n h0 k)), (8, .int (fsW fi x fl n k)), (9, .int (nI k))]) hx hb dX8_year_67 hl (by decide) rfl (fun ls hl => ?_)
                have L69 : ∀ (n9 : Nat) (m9 : Nat) (hm : m9 ≤ n), n - m9 < n9 → ∀ (H : Heap) (locs : List Loc), va_P D vwCl [(o, .inr (8, [.int (nI n), .ref me, .ref ml, .ref mb, .int fi, .int (nI nl), .ref mt, .int si, .ref ms, .int sn, .ref mp, .ref my, .ref mc, .int (nI 0), .ref mk, .ref mw, .int ah, .int ri, .int lh, .ref mo, .ref mq, .ref mi, .ref mz])), (me, .inl (cI, 6, .inl fe)), (my, .inl (cI, 6, .inl (cpyI fb (laq x fl n k) m9))), (mc, .inl (cI, 6, .inl cm)), (mk, .inl (cI, 24, .inl fk)), (mt, .inl (cI, 20, .inl fs)), (ml, .inl (cI, 6, .inl fl))] H → va_D A [(o, .inr (8, [.int (nI n), .ref me, .ref ml, .ref mb, .int fi, .int (nI nl), .ref mt, .int si, .ref ms, .int sn, .ref mp, .ref my, .ref mc, .int (nI 0), .ref mk, .ref mw, .int ah, .int ri, .int lh, .ref mo, .ref mq, .ref mi, .ref mz])), (me, .inl (cI, 6, .inl fe)), (my, .inl (cI, 6, .inl (cpyI fb (laq x fl n k) m9))), (mc, .inl (cI, 6, .inl cm)), (mk, .inl (cI, 24, .inl fk)), (mt, .inl (cI, 20, .inl fs)), (ml, .inl (cI, 6, .inl fl))] → va_S A s.heap H locs → ∀ (ls : Array Slot), lv_has ls 11 [(0, .ref o), (2, .int (nI kw)), (3, .int h0), (4, .int (nI ky)), (6, .int (yhq (fun g9 h9 => nxG fs nl n fe g9 (nI 0) h9) x fl n h0 k)), (7, .int (ymq (fun g9 h9 => nxG fs nl n fe g9 (nI 0) h9) x fl n h0 k)), (9, .int (nI k)), (5, .int (xq x (k * n + m9))), (8, .int (fsM fi (laq x fl n k) (fsW fi x fl n k) m9)), (10, .int (nI m9))] → W p l e rm_X8_year s m args below meth c H locs 0 0 Q (F0 m 69 ls []) := by
                  intro n9
                  induction n9 with
                  | zero => intro m9 hm hm; exact absurd hm (Nat.not_lt_zero _)
                  | succ n9 ih69 =>
                    intro m9 hm hm69 H locs hP hD hS ls hl
                    refine lv_iload hx hb dX8_year_69 (lv_at hl 9 rfl) ?_
                    refine lv_aload_n hx hb dX8_year_71 rfl (lv_at hl 0 rfl) ?_
                    refine va_get (D := D) (ci := 8) (v := .int (nI n)) (C := RX8) (T := TX8) (N := 23) hx hb hts hi8 hown hK hP 0 rfl rfl 0 (by decide) hw0 (fun _ h9 => h9) rfl dX8_year_72 ?_
                    refine icmp_ge_n (a := m9) (b := n) (tgt := 133) hx hb dX8_year_75 (by decide) (by omega) (by omega) (fun c75 => ?_) (fun c75 => ?_)
                    · have e9 : m9 = n := by omega
                      rw [e9] at hP hD hl
                      refine lv_aload_n hx hb dX8_year_133 rfl (lv_at hl 0 rfl) ?_
                      refine lv_iload hx hb dX8_year_134 (lv_at hl 4 rfl) ?_
                      refine cal_i (run_V (As := [.int (yhq (fun g9 h9 => nxG fs nl n fe g9 (nI 0) h9) x fl n h0 k)]) (rest := []) SF (c_nextOf l D cI cJ cZ cG cM o me ml mb mt ms mp my mc mk mw mo mq mi mz fi si sn (nI 0) ah ri lh n nl (yhq (fun g9 h9 => nxG fs nl n fe g9 (nI 0) h9) x fl n h0 k) fe (cpyI fb (laq x fl n k) n) cm fk fs hV h1 h6) (cwV 1 hts gX8_year_X8_nextOf rfl rfl rfl (by decide +kernel) ⟨Nat.le_of_ble_eq_true rfl, Nat.le_of_ble_eq_true rfl⟩) hN hK hP hD [0, 1, 2, 3, 4, 5] rfl (by decide) 8 0 rfl rfl rfl rfl hl.1 rfl (Nat.le_of_ble_eq_true rfl) dX8_year_136 ⟨Nat.le_of_ble_eq_true rfl, Nat.le_of_ble_eq_true rfl⟩) ⟨rfl, rfl⟩ hP hD hS hA [0, 1, 2, 3, 4, 5] rfl (fun _ => rfl) (fun r136 u136 H locs hw hP hD hS => ?_)
                      have hP : va_P D vwCl [(o, .inr (8, [.int (nI n), .ref me, .ref ml, .ref mb, .int fi, .int (nI nl), .ref mt, .int si, .ref ms, .int sn, .ref mp, .ref my, .ref mc, .int (nI 0), .ref mk, .ref mw, .int ah, .int ri, .int lh, .ref mo, .ref mq, .ref mi, .ref mz])), (me, .inl (cI, 6, .inl fe)), (my, .inl (cI, 6, .inl (cpyI fb (laq x fl n k) n))), (mc, .inl (cI, 6, .inl u136.1)), (mk, .inl (cI, 24, .inl u136.2)), (mt, .inl (cI, 20, .inl fs)), (ml, .inl (cI, 6, .inl fl))] H := hP
                      have hD : va_D A [(o, .inr (8, [.int (nI n), .ref me, .ref ml, .ref mb, .int fi, .int (nI nl), .ref mt, .int si, .ref ms, .int sn, .ref mp, .ref my, .ref mc, .int (nI 0), .ref mk, .ref mw, .int ah, .int ri, .int lh, .ref mo, .ref mq, .ref mi, .ref mz])), (me, .inl (cI, 6, .inl fe)), (my, .inl (cI, 6, .inl (cpyI fb (laq x fl n k) n))), (mc, .inl (cI, 6, .inl u136.1)), (mk, .inl (cI, 24, .inl u136.2)), (mt, .inl (cI, 20, .inl fs)), (ml, .inl (cI, 6, .inl fl))] := hD
                      have hw : r136 = yhq (fun g9 h9 => nxG fs nl n fe g9 (nI 0) h9) x fl n h0 (k + 1) := hw.trans (congrFun (nxG_cong h1 (fun j hj => cpyI_in _ _ n j hj)) _)
                      subst hw
                      refine lv_istore (lv' := [(6, .int (yhq (fun g9 h9 => nxG fs nl n fe g9 (nI 0) h9) x fl n h0 (k + 1))), (0, .ref o), (2, .int (nI kw)), (3, .int h0), (4, .int (nI ky)), (7, .int (ymq (fun g9 h9 => nxG fs nl n fe g9 (nI 0) h9) x fl n h0 k)), (9, .int (nI k)), (5, .int (xq x (k * n + n))), (8, .int (fsM fi (laq x fl n k) (fsW fi x fl n k) n)), (10, .int (nI n))]) hx hb dX8_year_139 hl (by decide) rfl (fun ls hl => ?_)
                      refine lv_iload hx hb dX8_year_141 (lv_at hl 0 rfl) ?_
                      refine lv_iload hx hb dX8_year_143 (lv_at hl 5 rfl) ?_
                      refine lv_icmp_le (tgt := 153) hx hb dX8_year_145 (by decide) (fun c145 => ?_) (fun c145 => ?_)
                      · refine lv_iload hx hb dX8_year_153 (lv_at hl 5 rfl) ?_
                        refine lv_topi (fun y9 e9 => ?_)
                        have e9 : ymq (fun g9 h9 => nxG fs nl n fe g9 (nI 0) h9) x fl n h0 (k + 1) = y9 := (e9.trans (mx_sw2 c145)).symm
                        subst e9
                        refine lv_istore (lv' := [(7, .int (ymq (fun g9 h9 => nxG fs nl n fe g9 (nI 0) h9) x fl n h0 (k + 1))), (6, .int (yhq (fun g9 h9 => nxG fs nl n fe g9 (nI 0) h9) x fl n h0 (k + 1))), (0, .ref o), (2, .int (nI kw)), (3, .int h0), (4, .int (nI ky)), (9, .int (nI k)), (5, .int (xq x (k * n + n))), (8, .int (fsM fi (laq x fl n k) (fsW fi x fl n k) n)), (10, .int (nI n))]) hx hb dX8_year_155 hl (by decide) rfl (fun ls hl => ?_)
                        refine lv_iinc (v := nI (k + 1)) (lv' := [(9, .int (nI (k + 1))), (7, .int (ymq (fun g9 h9 => nxG fs nl n fe g9 (nI 0) h9) x fl n h0 (k + 1))), (6, .int (yhq (fun g9 h9 => nxG fs nl n fe g9 (nI 0) h9) x fl n h0 (k + 1))), (0, .ref o), (2, .int (nI kw)), (3, .int h0), (4, .int (nI ky)), (5, .int (xq x (k * n + n))), (8, .int (fsM fi (laq x fl n k) (fsW fi x fl n k) n)), (10, .int (nI n))]) hx hb dX8_year_157 hl (k := 6) rfl (nI_1 k) (by decide) rfl (fun ls hl => ?_)
                        refine lv_goto (tgt := 60) hx hb dX8_year_160 (by decide) ?_
                        have e8 : xq x (k * n + n) = xq x ((k + 1) * n) := by rw [Nat.succ_mul]
                        have hl : lv_has ls 11 [(9, .int (nI (k + 1))), (7, .int (ymq (fun g9 h9 => nxG fs nl n fe g9 (nI 0) h9) x fl n h0 (k + 1))), (6, .int (yhq (fun g9 h9 => nxG fs nl n fe g9 (nI 0) h9) x fl n h0 (k + 1))), (0, .ref o), (2, .int (nI kw)), (3, .int h0), (4, .int (nI ky)), (5, .int (xq x ((k + 1) * n))), (8, .int (fsM fi (laq x fl n k) (fsW fi x fl n k) n)), (10, .int (nI n))] := by rw [← e8]; exact hl
                        exact ih60 (k + 1) (cpyI fb (laq x fl n k) n) u136.1 u136.2 ((by omega)) (by omega) _ _ hP hD hS _ (lv_sub hl [3, 4, 5, 6, 7, 2, 1, 8, 0] rfl)
                      · refine lv_iload hx hb dX8_year_148 (lv_at hl 0 rfl) ?_
                        refine lv_goto (tgt := 155) hx hb dX8_year_150 (by decide) ?_
                        refine lv_topi (fun y9 e9 => ?_)
                        have e9 : ymq (fun g9 h9 => nxG fs nl n fe g9 (nI 0) h9) x fl n h0 (k + 1) = y9 := (e9.trans (mx_sw1 c145)).symm
                        subst e9
                        refine lv_istore (lv' := [(7, .int (ymq (fun g9 h9 => nxG fs nl n fe g9 (nI 0) h9) x fl n h0 (k + 1))), (6, .int (yhq (fun g9 h9 => nxG fs nl n fe g9 (nI 0) h9) x fl n h0 (k + 1))), (0, .ref o), (2, .int (nI kw)), (3, .int h0), (4, .int (nI ky)), (9, .int (nI k)), (5, .int (xq x (k * n + n))), (8, .int (fsM fi (laq x fl n k) (fsW fi x fl n k) n)), (10, .int (nI n))]) hx hb dX8_year_155 hl (by decide) rfl (fun ls hl => ?_)
                        refine lv_iinc (v := nI (k + 1)) (lv' := [(9, .int (nI (k + 1))), (7, .int (ymq (fun g9 h9 => nxG fs nl n fe g9 (nI 0) h9) x fl n h0 (k + 1))), (6, .int (yhq (fun g9 h9 => nxG fs nl n fe g9 (nI 0) h9) x fl n h0 (k + 1))), (0, .ref o), (2, .int (nI kw)), (3, .int h0), (4, .int (nI ky)), (5, .int (xq x (k * n + n))), (8, .int (fsM fi (laq x fl n k) (fsW fi x fl n k) n)), (10, .int (nI n))]) hx hb dX8_year_157 hl (k := 6) rfl (nI_1 k) (by decide) rfl (fun ls hl => ?_)
                        refine lv_goto (tgt := 60) hx hb dX8_year_160 (by decide) ?_
                        have e8 : xq x (k * n + n) = xq x ((k + 1) * n) := by rw [Nat.succ_mul]
                        have hl : lv_has ls 11 [(9, .int (nI (k + 1))), (7, .int (ymq (fun g9 h9 => nxG fs nl n fe g9 (nI 0) h9) x fl n h0 (k + 1))), (6, .int (yhq (fun g9 h9 => nxG fs nl n fe g9 (nI 0) h9) x fl n h0 (k + 1))), (0, .ref o), (2, .int (nI kw)), (3, .int h0), (4, .int (nI ky)), (5, .int (xq x ((k + 1) * n))), (8, .int (fsM fi (laq x fl n k) (fsW fi x fl n k) n)), (10, .int (nI n))] := by rw [← e8]; exact hl
                        exact ih60 (k + 1) (cpyI fb (laq x fl n k) n) u136.1 u136.2 ((by omega)) (by omega) _ _ hP hD hS _ (lv_sub hl [3, 4, 5, 6, 7, 2, 1, 8, 0] rfl)
                    · refine lv_bipush (v := nI 75) hx hb dX8_year_78 (by decide) ?_
                      refine lv_iload hx hb dX8_year_80 (lv_at hl 7 rfl) ?_
                      refine lv_imul hx hb dX8_year_82 ?_
                      refine lv_bipush (v := nI 74) hx hb dX8_year_83 (by decide) ?_
                      refine lv_iadd hx hb dX8_year_85 ?_
                      refine lv_ldc (v := nI 65537) hx hb hown hw2 dX8_year_86 ?_
                      refine lv_irem hx hb dX8_year_88 (by decide) ?_
                      refine lv_topi (fun y9 e9 => ?_)
                      have e9 : xq x (k * n + m9 + 1) = y9 := (e9.trans (rfl)).symm
                      subst e9
                      refine lv_istore (lv' := [(5, .int (xq x (k * n + m9 + 1))), (0, .ref o), (2, .int (nI kw)), (3, .int h0), (4, .int (nI ky)), (6, .int (yhq (fun g9 h9 => nxG fs nl n fe g9 (nI 0) h9) x fl n h0 k)), (7, .int (ymq (fun g9 h9 => nxG fs nl n fe g9 (nI 0) h9) x fl n h0 k)), (9, .int (nI k)), (8, .int (fsM fi (laq x fl n k) (fsW fi x fl n k) m9)), (10, .int (nI m9))]) hx hb dX8_year_89 hl (by decide) rfl (fun ls hl => ?_)
                      refine lv_aload_n hx hb dX8_year_91 rfl (lv_at hl 1 rfl) ?_
                      refine va_get (D := D) (ci := 8) (v := .ref my) (C := RX8) (T := TX8) (N := 23) hx hb hts hi8 hown hK hP 0 rfl rfl 11 (by decide) hw3 (fun _ h9 => h9) rfl dX8_year_92 ?_
                      refine lv_iload hx hb dX8_year_95 (lv_at hl 9 rfl) ?_
                      refine lv_aload_n hx hb dX8_year_97 rfl (lv_at hl 1 rfl) ?_
                      refine va_get (D := D) (ci := 8) (v := .ref ml) (C := RX8) (T := TX8) (N := 23) hx hb hts hi8 hown hK hP 0 rfl rfl 2 (by decide) hw4 (fun _ h9 => h9) rfl dX8_year_98 ?_
                      refine lv_iload hx hb dX8_year_101 (lv_at hl 9 rfl) ?_
                      refine iald_n (k := m9) hx hb hK hP 6 0 rfl rfl (by omega) (by omega) dX8_year_103 ?_
                      refine lv_iload hx hb dX8_year_104 (lv_at hl 0 rfl) ?_
                      refine lv_iconst (v := nI 3) hx hb dX8_year_106 (by decide) ?_
                      refine lv_irem hx hb dX8_year_107 (by decide) ?_
                      refine lv_iadd hx hb dX8_year_108 ?_
                      refine lv_topi (fun y9 e9 => ?_)
                      have e9 : laq x fl n k m9 = y9 := (e9.trans (rfl)).symm
                      subst e9
                      refine iast_n (k := m9) hx hb hK hP hD hS 2 0 rfl rfl (by omega) (by omega) dX8_year_109 (fun H locs hP hD hS => ?_)
                      have hP : va_P D vwCl [(o, .inr (8, [.int (nI n), .ref me, .ref ml, .ref mb, .int fi, .int (nI nl), .ref mt, .int si, .ref ms, .int sn, .ref mp, .ref my, .ref mc, .int (nI 0), .ref mk, .ref mw, .int ah, .int ri, .int lh, .ref mo, .ref mq, .ref mi, .ref mz])), (me, .inl (cI, 6, .inl fe)), (my, .inl (cI, 6, .inl (upd (cpyI fb (laq x fl n k) m9) m9 (laq x fl n k m9)))), (mc, .inl (cI, 6, .inl cm)), (mk, .inl (cI, 24, .inl fk)), (mt, .inl (cI, 20, .inl fs)), (ml, .inl (cI, 6, .inl fl))] H := hP
                      have hD : va_D A [(o, .inr (8, [.int (nI n), .ref me, .ref ml, .ref mb, .int fi, .int (nI nl), .ref mt, .int si, .ref ms, .int sn, .ref mp, .ref my, .ref mc, .int (nI 0), .ref mk, .ref mw, .int ah, .int ri, .int lh, .ref mo, .ref mq, .ref mi, .ref mz])), (me, .inl (cI, 6, .inl fe)), (my, .inl (cI, 6, .inl (upd (cpyI fb (laq x fl n k) m9) m9 (laq x fl n k m9)))), (mc, .inl (cI, 6, .inl cm)), (mk, .inl (cI, 24, .inl fk)), (mt, .inl (cI, 20, .inl fs)), (ml, .inl (cI, 6, .inl fl))] := hD
                      refine lv_iload hx hb dX8_year_110 (lv_at hl 8 rfl) ?_
                      refine lv_aload_n hx hb dX8_year_112 rfl (lv_at hl 1 rfl) ?_
                      refine va_get (D := D) (ci := 8) (v := .int fi) (C := RX8) (T := TX8) (N := 23) hx hb hts hi8 hown hK hP 0 rfl rfl 4 (by decide) hw5 (fun _ h9 => h9) rfl dX8_year_113 ?_
                      refine lv_aload_n hx hb dX8_year_116 rfl (lv_at hl 1 rfl) ?_
                      refine va_get (D := D) (ci := 8) (v := .ref my) (C := RX8) (T := TX8) (N := 23) hx hb hts hi8 hown hK hP 0 rfl rfl 11 (by decide) hw3 (fun _ h9 => h9) rfl dX8_year_117 ?_
                      refine lv_iload hx hb dX8_year_120 (lv_at hl 9 rfl) ?_
                      refine iald_n (k := m9) hx hb hK hP 2 0 rfl rfl (by omega) (by omega) dX8_year_122 ?_
                      refine lv_topi (fun y9 e9 => ?_)
                      have e9 : laq x fl n k m9 = y9 := (e9.trans (pk_us)).symm
                      subst e9
                      refine lv_imul hx hb dX8_year_123 ?_
                      refine lv_iadd hx hb dX8_year_124 ?_
                      refine lv_istore (lv' := [(8, .int ((fsM fi (laq x fl n k) (fsW fi x fl n k) m9) + (fi * (laq x fl n k m9)))), (5, .int (xq x (k * n + m9 + 1))), (0, .ref o), (2, .int (nI kw)), (3, .int h0), (4, .int (nI ky)), (6, .int (yhq (fun g9 h9 => nxG fs nl n fe g9 (nI 0) h9) x fl n h0 k)), (7, .int (ymq (fun g9 h9 => nxG fs nl n fe g9 (nI 0) h9) x fl n h0 k)), (9, .int (nI k)), (10, .int (nI m9))]) hx hb dX8_year_125 hl (by decide) rfl (fun ls hl => ?_)
                      refine lv_iinc (v := nI (m9 + 1)) (lv' := [(10, .int (nI (m9 + 1))), (8, .int ((fsM fi (laq x fl n k) (fsW fi x fl n k) m9) + (fi * (laq x fl n k m9)))), (5, .int (xq x (k * n + m9 + 1))), (0, .ref o), (2, .int (nI kw)), (3, .int h0), (4, .int (nI ky)), (6, .int (yhq (fun g9 h9 => nxG fs nl n fe g9 (nI 0) h9) x fl n h0 k)), (7, .int (ymq (fun g9 h9 => nxG fs nl n fe g9 (nI 0) h9) x fl n h0 k)), (9, .int (nI k))]) hx hb dX8_year_127 hl (k := 9) rfl (nI_1 m9) (by decide) rfl (fun ls hl => ?_)
                      refine lv_goto (tgt := 69) hx hb dX8_year_130 (by decide) ?_
                      exact ih69 (m9 + 1) ((by omega)) (by omega) _ _ hP hD hS _ (lv_sub hl [3, 4, 5, 6, 7, 8, 9, 2, 1, 0] rfl)
                exact L69 _ 0 ((Nat.zero_le _)) (Nat.lt_succ_self _) _ _ hP hD hS _ (lv_sub hl [1, 2, 3, 4, 6, 7, 9, 5, 8, 0] rfl)
          have e8 : x = xq x (0 * n) := by rw [Nat.zero_mul]; rfl
          have hl : lv_has ls 11 [(9, .int (nI 0)), (8, .int (nI 0)), (7, .int h0), (6, .int h0), (5, .int (xq x (0 * n))), (0, .ref o), (1, .int x), (2, .int (nI kw)), (3, .int h0), (4, .int (nI ky))] := by rw [← e8]; exact hl
          have e8 : h0 = yhq (fun g9 h9 => nxG fs nl n fe g9 (nI 0) h9) x fl n h0 0 := rfl
          have hl : lv_has ls 11 [(9, .int (nI 0)), (8, .int (nI 0)), (7, .int h0), (6, .int (yhq (fun g9 h9 => nxG fs nl n fe g9 (nI 0) h9) x fl n h0 0)), (5, .int (xq x (0 * n))), (0, .ref o), (1, .int x), (2, .int (nI kw)), (3, .int h0), (4, .int (nI ky))] := by rw [← e8]; exact hl
          have e8 : h0 = ymq (fun g9 h9 => nxG fs nl n fe g9 (nI 0) h9) x fl n h0 0 := rfl
          have hl : lv_has ls 11 [(9, .int (nI 0)), (8, .int (nI 0)), (7, .int (ymq (fun g9 h9 => nxG fs nl n fe g9 (nI 0) h9) x fl n h0 0)), (6, .int (yhq (fun g9 h9 => nxG fs nl n fe g9 (nI 0) h9) x fl n h0 0)), (5, .int (xq x (0 * n))), (0, .ref o), (1, .int x), (2, .int (nI kw)), (3, .int h0), (4, .int (nI ky))] := by rw [← e8]; exact hl
          have e8 : nI 0 = fsW fi x fl n 0 := rfl
          have hl : lv_has ls 11 [(9, .int (nI 0)), (8, .int (fsW fi x fl n 0)), (7, .int (ymq (fun g9 h9 => nxG fs nl n fe g9 (nI 0) h9) x fl n h0 0)), (6, .int (yhq (fun g9 h9 => nxG fs nl n fe g9 (nI 0) h9) x fl n h0 0)), (5, .int (xq x (0 * n))), (0, .ref o), (1, .int x), (2, .int (nI kw)), (3, .int h0), (4, .int (nI ky))] := by rw [← e8]; exact hl
          exact L60 _ 0 u42 cm fk ((Nat.zero_le _)) (Nat.lt_succ_self _) _ _ hP hD hS _ (lv_sub hl [5, 7, 8, 9, 4, 3, 2, 1, 0] rfl)
        · refine lv_if_ne (tgt := 41) hx hb dX8_year_35 (by decide) (fun c9 => absurd c9 (by decide)) (fun _ => ?_)
          refine lv_bipush (v := (-2)) hx hb dX8_year_38 (by decide) ?_
          exact hret ((-2)) ((la, fb, cm, fk)) _ _ _ _ dX8_year_40 (by rw [if_neg (fun z => b32 z.2.2)]) hP hD hS
      · refine lv_if_eq (tgt := 38) hx hb dX8_year_25 (by decide) (fun _ => ?_) (fun c9 => absurd (by decide) c9)
        refine lv_bipush (v := (-2)) hx hb dX8_year_38 (by decide) ?_
        exact hret ((-2)) ((la, fb, cm, fk)) _ _ _ _ dX8_year_40 (by rw [if_neg (fun z => b22 z.2.1)]) hP hD hS
    · refine lv_if_eq (tgt := 38) hx hb dX8_year_18 (by decide) (fun _ => ?_) (fun c9 => absurd (by decide) c9)
      refine lv_bipush (v := (-2)) hx hb dX8_year_38 (by decide) ?_
      exact hret ((-2)) ((la, fb, cm, fk)) _ _ _ _ dX8_year_40 (by rw [if_neg (fun z => b15 z.1.2)]) hP hD hS
  · refine lv_if_eq (tgt := 38) hx hb dX8_year_8 (by decide) (fun _ => ?_) (fun c9 => absurd (by decide) c9)
    refine lv_bipush (v := (-2)) hx hb dX8_year_38 (by decide) ?_
    exact hret ((-2)) ((la, fb, cm, fk)) _ _ _ _ dX8_year_40 (by rw [if_neg (fun z => b5 z.1.1)]) hP hD hS

abbrev rm_X1_rainOneWeek : Room := { frames := 4, cells := 0, slots := 0, locals := 93 }
set_option maxHeartbeats 1000000 in
set_option maxRecDepth 100000 in
theorem c_rainOneWeek (l : Launch) (D : va_G) (cI cJ cZ cG cM : ClassId) (cn cw cv : Nat) (up lo : Int64) (lah lmh fin : Int32) (b bt bc bs : Nat) (g ge gl gb gw gsw gsh : Nat) (fi : Int32) (n ns : Nat) (sg nl : Nat) (hg : Int32) (wf vf : Nat → Int64) (cm fk fs fe fl : Nat → Int32) (hV : VL fs nl) (h1 : 1 ≤ n) (h6 : n ≤ 6) (wn : Nat → Nat) (t9 r9 : Nat) (ht9 : t9 ≤ 10) (hwn : ∀ h9, h9 < 24 → wf h9 = nL (wn h9)) (hwl : ∀ h9, h9 < 24 → wn h9 < 9223372036854775808) :
    CV l yX1_rainOneWeek wsX1_rainOneWeek rm_X1_rainOneWeek D [(cI, .int), (cJ, .long), (cZ, .boolean), (cG, .object "LatestSets$Guild"), (cM, .array .int)] [(cn, .inr (1, [.ref b, .ref cw, .ref cv, .long up, .long lo, .int lah, .int lmh, .int fin])), (b, .inr (0, [.ref g, .ref bt, .ref bc, .ref bs, .int hg])), (g, .inr (3, [.ref ge, .ref gl, .ref gb, .ref gw, .ref gsw, .ref gsh, .int (nI ns), .int (nI n), .int fi])), (ge, .inl (cI, 6, .inl fe)), (gl, .inl (cI, 6, .inl fl)), (bc, .inl (cI, 6, .inl cm)), (bs, .inl (cI, 20, .inl fk)), (gw, .inr (4, [.ref sg, .int (nI nl)])), (sg, .inl (cI, 20, .inl fs)), (cw, .inl (cJ, 24, .inr (.inl wf))), (cv, .inl (cJ, 24, .inr (.inl vf)))] [.ref cn, .int (nI t9), .int (nI r9)] (S := ((Nat → Int64) × (Nat → Int64) × (Nat → Int32) × (Nat → Int32) × Int32)) (fun u => ∀ h9, h9 < 24 → u.1 h9 = nL (acN (nx1 (nxF fs nl n fe fl (nI 0))) (nx1 (nxF fs nl n fe fl (nI r9))) t9 wn 24 h9)) (fun u => [(cn, .inr (1, [.ref b, .ref cw, .ref cv, .long up, .long lo, .int lah, .int lmh, .int fin])), (b, .inr (0, [.ref g, .ref bt, .ref bc, .ref bs, .int u.2.2.2.2])), (g, .inr (3, [.ref ge, .ref gl, .ref gb, .ref gw, .ref gsw, .ref gsh, .int (nI ns), .int (nI n), .int fi])), (ge, .inl (cI, 6, .inl fe)), (gl, .inl (cI, 6, .inl fl)), (bc, .inl (cI, 6, .inl u.2.2.1)), (bs, .inl (cI, 20, .inl u.2.2.2.1)), (gw, .inr (4, [.ref sg, .int (nI nl)])), (sg, .inl (cI, 20, .inl fs)), (cw, .inl (cJ, 24, .inr (.inl u.1))), (cv, .inl (cJ, 24, .inr (.inl u.2.1)))]) := by
  refine sv_of (cc := cX1_rainOneWeek) (maxL := 6) (by decide) rfl (Nat.le_of_ble_eq_true rfl) ?_
  intro p e s m args below meth c A ls Q E hret
  obtain ⟨hx, hb, -, hml, hown, hts, -, hin, hA, hK, hP, hD, hS, hl, hN⟩ := E
  have hown : s.vm.findClass RX1 = some m.cls := hown
  have hl : lv_has ls 6 [(0, .ref cn), (1, .int (nI t9)), (2, .int (nI r9))] := hl
  have SF : CallFix p m c cX1_rainOneWeek 6 s args wsX1_rainOneWeek RX1 := ⟨hx, hb, hml, hown, hts⟩
  have hw0 := hts (.fieldLink RX1 15 "LatestSets$Chance" "nextWeight" "[J") (by decide +kernel)
  have hi1 : ∀ x ∈ wsX10, x ∈ wsX1_rainOneWeek := by decide +kernel
  have hw2 := hts (.fieldLink RX1 9 "LatestSets$Chance" "weight" "[J") (by decide +kernel)
  have hw3 := hts (.methodLink RX1 69 arraycopyName) (by decide +kernel)
  have hw4 := hts (.native arraycopyName) (by decide +kernel)
  have hw5 := hts (.static arraycopyName) (by decide +kernel)
  have hw6 := hts (.initialized "java/lang/System") (by decide +kernel)
  have hw7 := hts (.fieldLink RX1 18 "LatestSets$Chance" "board" "LLatestSets$Board;") (by decide +kernel)
  have hw8 := hts (.fieldLink RX1 49 "LatestSets$Board" "guild" "LLatestSets$Guild;") (by decide +kernel)
  have hi0 : ∀ x ∈ wsX00, x ∈ wsX1_rainOneWeek := by decide +kernel
  have hw10 := hts (.fieldLink RX1 55 "LatestSets$Guild" "law" "LLatestSets$Law;") (by decide +kernel)
  have hi3 : ∀ x ∈ wsX30, x ∈ wsX1_rainOneWeek := by decide +kernel
  have hw12 := hts (.fieldLink RX1 61 "LatestSets$Guild" "late" "[I") (by decide +kernel)
  refine lv_aload_n hx hb dX1_rainOneWeek_0 rfl (lv_at hl 0 rfl) ?_
  refine va_get (D := D) (ci := 1) (v := .ref cv) (C := RX1) (T := TX1) (N := 8) hx hb hts hi1 hown hK hP 0 rfl rfl 2 (by decide) hw0 (fun _ h9 => h9) rfl dX1_rainOneWeek_1 ?_
  refine lv_lconst (v := 0) hx hb dX1_rainOneWeek_4 (by decide) ?_
  refine cal_v (run_S (As := [.ref cv, .long 0]) (rest := []) SF (c_fillJ l D cI cJ cZ cG cM cv 24 vf 0 (by omega)) (va_cwS 2 hts gX1_rainOneWeek_J7_fill_d0a16 rfl rfl rfl (by decide +kernel) ⟨Nat.le_of_ble_eq_true rfl, Nat.le_of_ble_eq_true rfl⟩) hN hK hP hD [10] rfl (by decide) rfl hl.1 rfl (Nat.le_of_ble_eq_true rfl) dX1_rainOneWeek_5 ⟨Nat.le_of_ble_eq_true rfl, Nat.le_of_ble_eq_true rfl⟩) ⟨rfl, rfl⟩ hP hD hS hA [10] rfl (fun _ => rfl) (fun _ H locs hw hP hD hS => ?_)
  have hP : va_P D vwCl [(cn, .inr (1, [.ref b, .ref cw, .ref cv, .long up, .long lo, .int lah, .int lmh, .int fin])), (b, .inr (0, [.ref g, .ref bt, .ref bc, .ref bs, .int hg])), (g, .inr (3, [.ref ge, .ref gl, .ref gb, .ref gw, .ref gsw, .ref gsh, .int (nI ns), .int (nI n), .int fi])), (ge, .inl (cI, 6, .inl fe)), (gl, .inl (cI, 6, .inl fl)), (bc, .inl (cI, 6, .inl cm)), (bs, .inl (cI, 20, .inl fk)), (gw, .inr (4, [.ref sg, .int (nI nl)])), (sg, .inl (cI, 20, .inl fs)), (cw, .inl (cJ, 24, .inr (.inl wf))), (cv, .inl (cJ, 24, .inr (.inl (filJ vf 0 24))))] H := hP
  have hD : va_D A [(cn, .inr (1, [.ref b, .ref cw, .ref cv, .long up, .long lo, .int lah, .int lmh, .int fin])), (b, .inr (0, [.ref g, .ref bt, .ref bc, .ref bs, .int hg])), (g, .inr (3, [.ref ge, .ref gl, .ref gb, .ref gw, .ref gsw, .ref gsh, .int (nI ns), .int (nI n), .int fi])), (ge, .inl (cI, 6, .inl fe)), (gl, .inl (cI, 6, .inl fl)), (bc, .inl (cI, 6, .inl cm)), (bs, .inl (cI, 20, .inl fk)), (gw, .inr (4, [.ref sg, .int (nI nl)])), (sg, .inl (cI, 20, .inl fs)), (cw, .inl (cJ, 24, .inr (.inl wf))), (cv, .inl (cJ, 24, .inr (.inl (filJ vf 0 24))))] := hD
  refine lv_iconst (v := nI 0) hx hb dX1_rainOneWeek_8 (by decide) ?_
  refine lv_istore_n (lv' := [(3, .int (nI 0)), (0, .ref cn), (1, .int (nI t9)), (2, .int (nI r9))]) hx hb dX1_rainOneWeek_9 rfl hl (by decide) rfl (fun ls hl => ?_)
  have L10 : ∀ (n9 : Nat) (k : Nat) (vf : Nat → Int64) (cm fk : Nat → Int32) (hg : Int32) (hk : k ≤ 24) (hacc : ∀ h9, h9 < 24 → vf h9 = nL (acN (nx1 (nxF fs nl n fe fl (nI 0))) (nx1 (nxF fs nl n fe fl (nI r9))) t9 wn k h9)), 24 - k < n9 → ∀ (H : Heap) (locs : List Loc), va_P D vwCl [(cn, .inr (1, [.ref b, .ref cw, .ref cv, .long up, .long lo, .int lah, .int lmh, .int fin])), (b, .inr (0, [.ref g, .ref bt, .ref bc, .ref bs, .int hg])), (g, .inr (3, [.ref ge, .ref gl, .ref gb, .ref gw, .ref gsw, .ref gsh, .int (nI ns), .int (nI n), .int fi])), (ge, .inl (cI, 6, .inl fe)), (gl, .inl (cI, 6, .inl fl)), (bc, .inl (cI, 6, .inl cm)), (bs, .inl (cI, 20, .inl fk)), (gw, .inr (4, [.ref sg, .int (nI nl)])), (sg, .inl (cI, 20, .inl fs)), (cw, .inl (cJ, 24, .inr (.inl wf))), (cv, .inl (cJ, 24, .inr (.inl vf)))] H → va_D A [(cn, .inr (1, [.ref b, .ref cw, .ref cv, .long up, .long lo, .int lah, .int lmh, .int fin])), (b, .inr (0, [.ref g, .ref bt, .ref bc, .ref bs, .int hg])), (g, .inr (3, [.ref ge, .ref gl, .ref gb, .ref gw, .ref gsw, .ref gsh, .int (nI ns), .int (nI n), .int fi])), (ge, .inl (cI, 6, .inl fe)), (gl, .inl (cI, 6, .inl fl)), (bc, .inl (cI, 6, .inl cm)), (bs, .inl (cI, 20, .inl fk)), (gw, .inr (4, [.ref sg, .int (nI nl)])), (sg, .inl (cI, 20, .inl fs)), (cw, .inl (cJ, 24, .inr (.inl wf))), (cv, .inl (cJ, 24, .inr (.inl vf)))] → va_S A s.heap H locs → ∀ (ls : Array Slot), lv_has ls 6 [(0, .ref cn), (1, .int (nI t9)), (2, .int (nI r9)), (3, .int (nI k))] → W p l e rm_X1_rainOneWeek s m args below meth c H locs 0 0 Q (F0 m 10 ls []) := by
    intro n9
    induction n9 with
    | zero => intro k vf cm fk hg hk hacc hm; exact absurd hm (Nat.not_lt_zero _)
    | succ n9 ih10 =>
      intro k vf cm fk hg hk hacc hm10 H locs hP hD hS ls hl
      refine lv_iload_n hx hb dX1_rainOneWeek_10 rfl (lv_at hl 3 rfl) ?_
      refine lv_bipush (v := nI 24) hx hb dX1_rainOneWeek_11 (by decide) ?_
      refine icmp_ge_n (a := k) (b := 24) (tgt := 136) hx hb dX1_rainOneWeek_13 (by decide) (by omega) (by omega) (fun c13 => ?_) (fun c13 => ?_)
      · refine lv_aload_n hx hb dX1_rainOneWeek_136 rfl (lv_at hl 0 rfl) ?_
        refine va_get (D := D) (ci := 1) (v := .ref cv) (C := RX1) (T := TX1) (N := 8) hx hb hts hi1 hown hK hP 0 rfl rfl 2 (by decide) hw0 (fun _ h9 => h9) rfl dX1_rainOneWeek_137 ?_
        refine lv_iconst (v := nI 0) hx hb dX1_rainOneWeek_140 (by decide) ?_
        refine lv_aload_n hx hb dX1_rainOneWeek_141 rfl (lv_at hl 0 rfl) ?_
        refine va_get (D := D) (ci := 1) (v := .ref cw) (C := RX1) (T := TX1) (N := 8) hx hb hts hi1 hown hK hP 0 rfl rfl 1 (by decide) hw2 (fun _ h9 => h9) rfl dX1_rainOneWeek_142 ?_
        refine lv_iconst (v := nI 0) hx hb dX1_rainOneWeek_145 (by decide) ?_
        refine lv_bipush (v := nI 24) hx hb dX1_rainOneWeek_146 (by decide) ?_
        refine copyL_n (sp := 0) (dp := 0) (n := 24) hx hb (by rw [hml]; exact hl.1.symm) hown hw3 hw4 hw5 hw6 hK hP hD hS 10 9 1 rfl rfl rfl (by omega) (by omega) (by omega) (by omega) (by omega) (Nat.le_of_ble_eq_true rfl) (Nat.le_of_ble_eq_true rfl) dX1_rainOneWeek_148 (fun H locs hP hD hS => ?_)
        have hP : va_P D vwCl [(cn, .inr (1, [.ref b, .ref cw, .ref cv, .long up, .long lo, .int lah, .int lmh, .int fin])), (b, .inr (0, [.ref g, .ref bt, .ref bc, .ref bs, .int hg])), (g, .inr (3, [.ref ge, .ref gl, .ref gb, .ref gw, .ref gsw, .ref gsh, .int (nI ns), .int (nI n), .int fi])), (ge, .inl (cI, 6, .inl fe)), (gl, .inl (cI, 6, .inl fl)), (bc, .inl (cI, 6, .inl cm)), (bs, .inl (cI, 20, .inl fk)), (gw, .inr (4, [.ref sg, .int (nI nl)])), (sg, .inl (cI, 20, .inl fs)), (cw, .inl (cJ, 24, .inr (.inl (va_cpy vf wf 0 0 24)))), (cv, .inl (cJ, 24, .inr (.inl vf)))] H := hP
        have hD : va_D A [(cn, .inr (1, [.ref b, .ref cw, .ref cv, .long up, .long lo, .int lah, .int lmh, .int fin])), (b, .inr (0, [.ref g, .ref bt, .ref bc, .ref bs, .int hg])), (g, .inr (3, [.ref ge, .ref gl, .ref gb, .ref gw, .ref gsw, .ref gsh, .int (nI ns), .int (nI n), .int fi])), (ge, .inl (cI, 6, .inl fe)), (gl, .inl (cI, 6, .inl fl)), (bc, .inl (cI, 6, .inl cm)), (bs, .inl (cI, 20, .inl fk)), (gw, .inr (4, [.ref sg, .int (nI nl)])), (sg, .inl (cI, 20, .inl fs)), (cw, .inl (cJ, 24, .inr (.inl (va_cpy vf wf 0 0 24)))), (cv, .inl (cJ, 24, .inr (.inl vf)))] := hD
        have ek9 : k = 24 := by omega
        rw [ek9] at hacc
        exact hret ((va_cpy vf wf 0 0 24, vf, cm, fk, hg)) _ _ _ _ dX1_rainOneWeek_151 (fun h9 hh => (pk_cpy_in (by omega) (by omega)).trans (by rw [Nat.zero_add, Nat.sub_zero]; exact hacc h9 hh)) hP hD hS
      · refine lv_aload_n hx hb dX1_rainOneWeek_16 rfl (lv_at hl 0 rfl) ?_
        refine va_get (D := D) (ci := 1) (v := .ref cw) (C := RX1) (T := TX1) (N := 8) hx hb hts hi1 hown hK hP 0 rfl rfl 1 (by decide) hw2 (fun _ h9 => h9) rfl dX1_rainOneWeek_17 ?_
        refine lv_iload_n hx hb dX1_rainOneWeek_20 rfl (lv_at hl 3 rfl) ?_
        refine lald_n (k := k) hx hb hK hP 9 1 rfl rfl (by omega) (by omega) dX1_rainOneWeek_21 ?_
        refine lv_lconst (v := 0) hx hb dX1_rainOneWeek_22 (by decide) ?_
        refine W.lcmp hx hb dX1_rainOneWeek_23 ?_
        refine lv_if_eq (tgt := 130) hx hb dX1_rainOneWeek_24 (by decide) (fun c24 => ?_) (fun c24 => ?_)
        · refine lv_iinc (v := nI (k + 1)) (lv' := [(3, .int (nI (k + 1))), (0, .ref cn), (1, .int (nI t9)), (2, .int (nI r9))]) hx hb dX1_rainOneWeek_130 hl (k := 3) rfl (nI_1 k) (by decide) rfl (fun ls hl => ?_)
          refine lv_goto (tgt := 10) hx hb dX1_rainOneWeek_133 (by decide) ?_
          have hz9 : wn k = 0 := by have e8 := (lc_eq.mp c24); rw [hwn k (by omega), nL_0] at e8; exact (nL_eq (hwl k (by omega)) (by omega)).mp e8
          exact ih10 (k + 1) vf cm fk hg ((by omega)) ((fun h9 hh => by rw [acN_z hz9]; exact hacc h9 hh)) (by omega) _ _ hP hD hS _ (lv_sub hl [1, 2, 3, 0] rfl)
        · refine lv_aload_n hx hb dX1_rainOneWeek_27 rfl (lv_at hl 0 rfl) ?_
          refine va_get (D := D) (ci := 1) (v := .ref b) (C := RX1) (T := TX1) (N := 8) hx hb hts hi1 hown hK hP 0 rfl rfl 0 (by decide) hw7 (fun _ h9 => h9) rfl dX1_rainOneWeek_28 ?_
          refine lv_aload_n hx hb dX1_rainOneWeek_31 rfl (lv_at hl 0 rfl) ?_
          refine va_get (D := D) (ci := 1) (v := .ref b) (C := RX1) (T := TX1) (N := 8) hx hb hts hi1 hown hK hP 0 rfl rfl 0 (by decide) hw7 (fun _ h9 => h9) rfl dX1_rainOneWeek_32 ?_
          refine va_get (D := D) (ci := 0) (v := .ref g) (C := RX0) (T := TX0) (N := 5) hx hb hts hi0 hown hK hP 1 rfl rfl 0 (by decide) hw8 (fun _ h9 => h9) rfl dX1_rainOneWeek_35 ?_
          refine va_get (D := D) (ci := 3) (v := .ref gw) (C := RX3) (T := TX3) (N := 9) hx hb hts hi3 hown hK hP 2 rfl rfl 3 (by decide) hw10 (fun _ h9 => h9) rfl dX1_rainOneWeek_38 ?_
          refine lv_iload_n hx hb dX1_rainOneWeek_41 rfl (lv_at hl 3 rfl) ?_
          refine lv_aload_n hx hb dX1_rainOneWeek_42 rfl (lv_at hl 0 rfl) ?_
          refine va_get (D := D) (ci := 1) (v := .ref b) (C := RX1) (T := TX1) (N := 8) hx hb hts hi1 hown hK hP 0 rfl rfl 0 (by decide) hw7 (fun _ h9 => h9) rfl dX1_rainOneWeek_43 ?_
          refine va_get (D := D) (ci := 0) (v := .ref g) (C := RX0) (T := TX0) (N := 5) hx hb hts hi0 hown hK hP 1 rfl rfl 0 (by decide) hw8 (fun _ h9 => h9) rfl dX1_rainOneWeek_46 ?_
          refine va_get (D := D) (ci := 3) (v := .ref gl) (C := RX3) (T := TX3) (N := 9) hx hb hts hi3 hown hK hP 2 rfl rfl 1 (by decide) hw12 (fun _ h9 => h9) rfl dX1_rainOneWeek_49 ?_
          refine lv_iconst (v := nI 0) hx hb dX1_rainOneWeek_52 (by decide) ?_
          refine cal_i (run_V (As := [.ref gw, .int (nI k), .ref gl, .int (nI 0)]) (rest := []) SF (c_nextHour l D cI cJ cZ cG cM b bt bc bs g ge gl gb gw gsw gsh (nI ns) fi n gw sg nl gl hg (nI k) (nI 0) cm fk fs fe fl hV h1 h6) (cwV 4 hts gX1_rainOneWeek_X0_nextHour rfl rfl rfl (by decide +kernel) ⟨Nat.le_of_ble_eq_true rfl, Nat.le_of_ble_eq_true rfl⟩) hN hK hP hD [1, 2, 3, 4, 5, 6, 7, 8] rfl (by decide) 0 1 rfl rfl rfl rfl hl.1 rfl (Nat.le_of_ble_eq_true rfl) dX1_rainOneWeek_53 ⟨Nat.le_of_ble_eq_true rfl, Nat.le_of_ble_eq_true rfl⟩) ⟨rfl, rfl⟩ hP hD hS hA [1, 2, 3, 4, 5, 6, 7, 8] rfl (fun _ => rfl) (fun r53 u53 H locs hw hP hD hS => ?_)
          have hP : va_P D vwCl [(cn, .inr (1, [.ref b, .ref cw, .ref cv, .long up, .long lo, .int lah, .int lmh, .int fin])), (b, .inr (0, [.ref g, .ref bt, .ref bc, .ref bs, .int u53.2.2])), (g, .inr (3, [.ref ge, .ref gl, .ref gb, .ref gw, .ref gsw, .ref gsh, .int (nI ns), .int (nI n), .int fi])), (ge, .inl (cI, 6, .inl fe)), (gl, .inl (cI, 6, .inl fl)), (bc, .inl (cI, 6, .inl u53.1)), (bs, .inl (cI, 20, .inl u53.2.1)), (gw, .inr (4, [.ref sg, .int (nI nl)])), (sg, .inl (cI, 20, .inl fs)), (cw, .inl (cJ, 24, .inr (.inl wf))), (cv, .inl (cJ, 24, .inr (.inl vf)))] H := hP
          have hD : va_D A [(cn, .inr (1, [.ref b, .ref cw, .ref cv, .long up, .long lo, .int lah, .int lmh, .int fin])), (b, .inr (0, [.ref g, .ref bt, .ref bc, .ref bs, .int u53.2.2])), (g, .inr (3, [.ref ge, .ref gl, .ref gb, .ref gw, .ref gsw, .ref gsh, .int (nI ns), .int (nI n), .int fi])), (ge, .inl (cI, 6, .inl fe)), (gl, .inl (cI, 6, .inl fl)), (bc, .inl (cI, 6, .inl u53.1)), (bs, .inl (cI, 20, .inl u53.2.1)), (gw, .inr (4, [.ref sg, .int (nI nl)])), (sg, .inl (cI, 20, .inl fs)), (cw, .inl (cJ, 24, .inr (.inl wf))), (cv, .inl (cJ, 24, .inr (.inl vf)))] := hD
          have hw : r53 = nI ((nx1 (nxF fs nl n fe fl (nI 0))) k) := hw.trans (nx1_eq (F := nxF fs nl n fe fl (nI 0)) (FR_F _ _ _ _ _ _) k)
          subst hw
          have hn53 := nx1_le (F := nxF fs nl n fe fl (nI 0)) (FR_F _ _ _ _ _ _) k
          refine lv_istore (lv' := [(4, .int (nI ((nx1 (nxF fs nl n fe fl (nI 0))) k))), (0, .ref cn), (1, .int (nI t9)), (2, .int (nI r9)), (3, .int (nI k))]) hx hb dX1_rainOneWeek_56 hl (by decide) rfl (fun ls hl => ?_)
          refine lv_aload_n hx hb dX1_rainOneWeek_58 rfl (lv_at hl 1 rfl) ?_
          refine va_get (D := D) (ci := 1) (v := .ref b) (C := RX1) (T := TX1) (N := 8) hx hb hts hi1 hown hK hP 0 rfl rfl 0 (by decide) hw7 (fun _ h9 => h9) rfl dX1_rainOneWeek_59 ?_
          refine lv_aload_n hx hb dX1_rainOneWeek_62 rfl (lv_at hl 1 rfl) ?_
          refine va_get (D := D) (ci := 1) (v := .ref b) (C := RX1) (T := TX1) (N := 8) hx hb hts hi1 hown hK hP 0 rfl rfl 0 (by decide) hw7 (fun _ h9 => h9) rfl dX1_rainOneWeek_63 ?_
          refine va_get (D := D) (ci := 0) (v := .ref g) (C := RX0) (T := TX0) (N := 5) hx hb hts hi0 hown hK hP 1 rfl rfl 0 (by decide) hw8 (fun _ h9 => h9) rfl dX1_rainOneWeek_66 ?_
          refine va_get (D := D) (ci := 3) (v := .ref gw) (C := RX3) (T := TX3) (N := 9) hx hb hts hi3 hown hK hP 2 rfl rfl 3 (by decide) hw10 (fun _ h9 => h9) rfl dX1_rainOneWeek_69 ?_
          refine lv_iload_n hx hb dX1_rainOneWeek_72 rfl (lv_at hl 4 rfl) ?_
          refine lv_aload_n hx hb dX1_rainOneWeek_73 rfl (lv_at hl 1 rfl) ?_
          refine va_get (D := D) (ci := 1) (v := .ref b) (C := RX1) (T := TX1) (N := 8) hx hb hts hi1 hown hK hP 0 rfl rfl 0 (by decide) hw7 (fun _ h9 => h9) rfl dX1_rainOneWeek_74 ?_
          refine va_get (D := D) (ci := 0) (v := .ref g) (C := RX0) (T := TX0) (N := 5) hx hb hts hi0 hown hK hP 1 rfl rfl 0 (by decide) hw8 (fun _ h9 => h9) rfl dX1_rainOneWeek_77 ?_
          refine va_get (D := D) (ci := 3) (v := .ref gl) (C := RX3) (T := TX3) (N := 9) hx hb hts hi3 hown hK hP 2 rfl rfl 1 (by decide) hw12 (fun _ h9 => h9) rfl dX1_rainOneWeek_80 ?_
          refine lv_iload_n hx hb dX1_rainOneWeek_83 rfl (lv_at hl 3 rfl) ?_
          refine cal_i (run_V (As := [.ref gw, .int (nI k), .ref gl, .int (nI r9)]) (rest := []) SF (c_nextHour l D cI cJ cZ cG cM b bt bc bs g ge gl gb gw gsw gsh (nI ns) fi n gw sg nl gl u53.2.2 (nI k) (nI r9) u53.1 u53.2.1 fs fe fl hV h1 h6) (cwV 4 hts gX1_rainOneWeek_X0_nextHour rfl rfl rfl (by decide +kernel) ⟨Nat.le_of_ble_eq_true rfl, Nat.le_of_ble_eq_true rfl⟩) hN hK hP hD [1, 2, 3, 4, 5, 6, 7, 8] rfl (by decide) 0 1 rfl rfl rfl rfl hl.1 rfl (Nat.le_of_ble_eq_true rfl) dX1_rainOneWeek_84 ⟨Nat.le_of_ble_eq_true rfl, Nat.le_of_ble_eq_true rfl⟩) ⟨rfl, rfl⟩ hP hD hS hA [1, 2, 3, 4, 5, 6, 7, 8] rfl (fun _ => rfl) (fun r84 u84 H locs hw hP hD hS => ?_)
          have hP : va_P D vwCl [(cn, .inr (1, [.ref b, .ref cw, .ref cv, .long up, .long lo, .int lah, .int lmh, .int fin])), (b, .inr (0, [.ref g, .ref bt, .ref bc, .ref bs, .int u84.2.2])), (g, .inr (3, [.ref ge, .ref gl, .ref gb, .ref gw, .ref gsw, .ref gsh, .int (nI ns), .int (nI n), .int fi])), (ge, .inl (cI, 6, .inl fe)), (gl, .inl (cI, 6, .inl fl)), (bc, .inl (cI, 6, .inl u84.1)), (bs, .inl (cI, 20, .inl u84.2.1)), (gw, .inr (4, [.ref sg, .int (nI nl)])), (sg, .inl (cI, 20, .inl fs)), (cw, .inl (cJ, 24, .inr (.inl wf))), (cv, .inl (cJ, 24, .inr (.inl vf)))] H := hP
          have hD : va_D A [(cn, .inr (1, [.ref b, .ref cw, .ref cv, .long up, .long lo, .int lah, .int lmh, .int fin])), (b, .inr (0, [.ref g, .ref bt, .ref bc, .ref bs, .int u84.2.2])), (g, .inr (3, [.ref ge, .ref gl, .ref gb, .ref gw, .ref gsw, .ref gsh, .int (nI ns), .int (nI n), .int fi])), (ge, .inl (cI, 6, .inl fe)), (gl, .inl (cI, 6, .inl fl)), (bc, .inl (cI, 6, .inl u84.1)), (bs, .inl (cI, 20, .inl u84.2.1)), (gw, .inr (4, [.ref sg, .int (nI nl)])), (sg, .inl (cI, 20, .inl fs)), (cw, .inl (cJ, 24, .inr (.inl wf))), (cv, .inl (cJ, 24, .inr (.inl vf)))] := hD
          have hw : r84 = nI ((nx1 (nxF fs nl n fe fl (nI r9))) k) := hw.trans (nx1_eq (F := nxF fs nl n fe fl (nI r9)) (FR_F _ _ _ _ _ _) k)
          subst hw
          have hn84 := nx1_le (F := nxF fs nl n fe fl (nI r9)) (FR_F _ _ _ _ _ _) k
          refine lv_istore (lv' := [(5, .int (nI ((nx1 (nxF fs nl n fe fl (nI r9))) k))), (4, .int (nI ((nx1 (nxF fs nl n fe fl (nI 0))) k))), (0, .ref cn), (1, .int (nI t9)), (2, .int (nI r9)), (3, .int (nI k))]) hx hb dX1_rainOneWeek_87 hl (by decide) rfl (fun ls hl => ?_)
          refine lv_aload_n hx hb dX1_rainOneWeek_89 rfl (lv_at hl 2 rfl) ?_
          refine va_get (D := D) (ci := 1) (v := .ref cv) (C := RX1) (T := TX1) (N := 8) hx hb hts hi1 hown hK hP 0 rfl rfl 2 (by decide) hw0 (fun _ h9 => h9) rfl dX1_rainOneWeek_90 ?_
          refine lv_iload hx hb dX1_rainOneWeek_93 (lv_at hl 1 rfl) ?_
          refine lv_dup2_11 hx hb dX1_rainOneWeek_95 rfl rfl ?_
          refine lald_n (k := (nx1 (nxF fs nl n fe fl (nI 0))) k) hx hb hK hP 10 1 rfl rfl (by omega) (by omega) dX1_rainOneWeek_96 ?_
          refine lv_aload_n hx hb dX1_rainOneWeek_97 rfl (lv_at hl 2 rfl) ?_
          refine va_get (D := D) (ci := 1) (v := .ref cw) (C := RX1) (T := TX1) (N := 8) hx hb hts hi1 hown hK hP 0 rfl rfl 1 (by decide) hw2 (fun _ h9 => h9) rfl dX1_rainOneWeek_98 ?_
          refine lv_iload_n hx hb dX1_rainOneWeek_101 rfl (lv_at hl 5 rfl) ?_
          refine lald_n (k := k) hx hb hK hP 9 1 rfl rfl (by omega) (by omega) dX1_rainOneWeek_102 ?_
          refine lv_bipush (v := nI 10) hx hb dX1_rainOneWeek_103 (by decide) ?_
          refine lv_iload_n hx hb dX1_rainOneWeek_105 rfl (lv_at hl 3 rfl) ?_
          refine isub_n (a := 10) (b := t9) hx hb dX1_rainOneWeek_106 (by omega) ?_
          refine lv_i2l (v := (nI (10 - t9)).toInt64) hx hb dX1_rainOneWeek_107 rfl ?_
          refine lv_lmul hx hb dX1_rainOneWeek_108 ?_
          refine lv_ladd hx hb dX1_rainOneWeek_109 ?_
          refine last_n (k := (nx1 (nxF fs nl n fe fl (nI 0))) k) hx hb hK hP hD hS 10 1 rfl rfl (by omega) (by omega) dX1_rainOneWeek_110 (fun H locs hP hD hS => ?_)
          have hP : va_P D vwCl [(cn, .inr (1, [.ref b, .ref cw, .ref cv, .long up, .long lo, .int lah, .int lmh, .int fin])), (b, .inr (0, [.ref g, .ref bt, .ref bc, .ref bs, .int u84.2.2])), (g, .inr (3, [.ref ge, .ref gl, .ref gb, .ref gw, .ref gsw, .ref gsh, .int (nI ns), .int (nI n), .int fi])), (ge, .inl (cI, 6, .inl fe)), (gl, .inl (cI, 6, .inl fl)), (bc, .inl (cI, 6, .inl u84.1)), (bs, .inl (cI, 20, .inl u84.2.1)), (gw, .inr (4, [.ref sg, .int (nI nl)])), (sg, .inl (cI, 20, .inl fs)), (cw, .inl (cJ, 24, .inr (.inl wf))), (cv, .inl (cJ, 24, .inr (.inl (vp_updL vf ((nx1 (nxF fs nl n fe fl (nI 0))) k) ((vf ((nx1 (nxF fs nl n fe fl (nI 0))) k)) + ((wf k) * ((nI (10 - t9)).toInt64)))))))] H := hP
          have hD : va_D A [(cn, .inr (1, [.ref b, .ref cw, .ref cv, .long up, .long lo, .int lah, .int lmh, .int fin])), (b, .inr (0, [.ref g, .ref bt, .ref bc, .ref bs, .int u84.2.2])), (g, .inr (3, [.ref ge, .ref gl, .ref gb, .ref gw, .ref gsw, .ref gsh, .int (nI ns), .int (nI n), .int fi])), (ge, .inl (cI, 6, .inl fe)), (gl, .inl (cI, 6, .inl fl)), (bc, .inl (cI, 6, .inl u84.1)), (bs, .inl (cI, 20, .inl u84.2.1)), (gw, .inr (4, [.ref sg, .int (nI nl)])), (sg, .inl (cI, 20, .inl fs)), (cw, .inl (cJ, 24, .inr (.inl wf))), (cv, .inl (cJ, 24, .inr (.inl (vp_updL vf ((nx1 (nxF fs nl n fe fl (nI 0))) k) ((vf ((nx1 (nxF fs nl n fe fl (nI 0))) k)) + ((wf k) * ((nI (10 - t9)).toInt64)))))))] := hD
          refine lv_aload_n hx hb dX1_rainOneWeek_111 rfl (lv_at hl 2 rfl) ?_
          refine va_get (D := D) (ci := 1) (v := .ref cv) (C := RX1) (T := TX1) (N := 8) hx hb hts hi1 hown hK hP 0 rfl rfl 2 (by decide) hw0 (fun _ h9 => h9) rfl dX1_rainOneWeek_112 ?_
          refine lv_iload hx hb dX1_rainOneWeek_115 (lv_at hl 0 rfl) ?_
          refine lv_dup2_11 hx hb dX1_rainOneWeek_117 rfl rfl ?_
          refine lald_n (k := (nx1 (nxF fs nl n fe fl (nI r9))) k) hx hb hK hP 10 1 rfl rfl (by omega) (by omega) dX1_rainOneWeek_118 ?_
          refine lv_aload_n hx hb dX1_rainOneWeek_119 rfl (lv_at hl 2 rfl) ?_
          refine va_get (D := D) (ci := 1) (v := .ref cw) (C := RX1) (T := TX1) (N := 8) hx hb hts hi1 hown hK hP 0 rfl rfl 1 (by decide) hw2 (fun _ h9 => h9) rfl dX1_rainOneWeek_120 ?_
          refine lv_iload_n hx hb dX1_rainOneWeek_123 rfl (lv_at hl 5 rfl) ?_
          refine lald_n (k := k) hx hb hK hP 9 1 rfl rfl (by omega) (by omega) dX1_rainOneWeek_124 ?_
          refine lv_iload_n hx hb dX1_rainOneWeek_125 rfl (lv_at hl 3 rfl) ?_
          refine lv_i2l (v := (nI t9).toInt64) hx hb dX1_rainOneWeek_126 rfl ?_
          refine lv_lmul hx hb dX1_rainOneWeek_127 ?_
          refine lv_ladd hx hb dX1_rainOneWeek_128 ?_
          refine last_n (k := (nx1 (nxF fs nl n fe fl (nI r9))) k) hx hb hK hP hD hS 10 1 rfl rfl (by omega) (by omega) dX1_rainOneWeek_129 (fun H locs hP hD hS => ?_)
          have hP : va_P D vwCl [(cn, .inr (1, [.ref b, .ref cw, .ref cv, .long up, .long lo, .int lah, .int lmh, .int fin])), (b, .inr (0, [.ref g, .ref bt, .ref bc, .ref bs, .int u84.2.2])), (g, .inr (3, [.ref ge, .ref gl, .ref gb, .ref gw, .ref gsw, .ref gsh, .int (nI ns), .int (nI n), .int fi])), (ge, .inl (cI, 6, .inl fe)), (gl, .inl (cI, 6, .inl fl)), (bc, .inl (cI, 6, .inl u84.1)), (bs, .inl (cI, 20, .inl u84.2.1)), (gw, .inr (4, [.ref sg, .int (nI nl)])), (sg, .inl (cI, 20, .inl fs)), (cw, .inl (cJ, 24, .inr (.inl wf))), (cv, .inl (cJ, 24, .inr (.inl (vp_updL (vp_updL vf ((nx1 (nxF fs nl n fe fl (nI 0))) k) ((vf ((nx1 (nxF fs nl n fe fl (nI 0))) k)) + ((wf k) * ((nI (10 - t9)).toInt64)))) ((nx1 (nxF fs nl n fe fl (nI r9))) k) (((vp_updL vf ((nx1 (nxF fs nl n fe fl (nI 0))) k) ((vf ((nx1 (nxF fs nl n fe fl (nI 0))) k)) + ((wf k) * ((nI (10 - t9)).toInt64)))) ((nx1 (nxF fs nl n fe fl (nI r9))) k)) + ((wf k) * ((nI t9).toInt64)))))))] H := hP
          have hD : va_D A [(cn, .inr (1, [.ref b, .ref cw, .ref cv, .long up, .long lo, .int lah, .int lmh, .int fin])), (b, .inr (0, [.ref g, .ref bt, .ref bc, .ref bs, .int u84.2.2])), (g, .inr (3, [.ref ge, .ref gl, .ref gb, .ref gw, .ref gsw, .ref gsh, .int (nI ns), .int (nI n), .int fi])), (ge, .inl (cI, 6, .inl fe)), (gl, .inl (cI, 6, .inl fl)), (bc, .inl (cI, 6, .inl u84.1)), (bs, .inl (cI, 20, .inl u84.2.1)), (gw, .inr (4, [.ref sg, .int (nI nl)])), (sg, .inl (cI, 20, .inl fs)), (cw, .inl (cJ, 24, .inr (.inl wf))), (cv, .inl (cJ, 24, .inr (.inl (vp_updL (vp_updL vf ((nx1 (nxF fs nl n fe fl (nI 0))) k) ((vf ((nx1 (nxF fs nl n fe fl (nI 0))) k)) + ((wf k) * ((nI (10 - t9)).toInt64)))) ((nx1 (nxF fs nl n fe fl (nI r9))) k) (((vp_updL vf ((nx1 (nxF fs nl n fe fl (nI 0))) k) ((vf ((nx1 (nxF fs nl n fe fl (nI 0))) k)) + ((wf k) * ((nI (10 - t9)).toInt64)))) ((nx1 (nxF fs nl n fe fl (nI r9))) k)) + ((wf k) * ((nI t9).toInt64)))))))] := hD
          refine lv_iinc (v := nI (k + 1)) (lv' := [(3, .int (nI (k + 1))), (5, .int (nI ((nx1 (nxF fs nl n fe fl (nI r9))) k))), (4, .int (nI ((nx1 (nxF fs nl n fe fl (nI 0))) k))), (0, .ref cn), (1, .int (nI t9)), (2, .int (nI r9))]) hx hb dX1_rainOneWeek_130 hl (k := 5) rfl (nI_1 k) (by decide) rfl (fun ls hl => ?_)
          refine lv_goto (tgt := 10) hx hb dX1_rainOneWeek_133 (by decide) ?_
          have st1 : ∀ h9, h9 < 24 → (vp_updL vf ((nx1 (nxF fs nl n fe fl (nI 0))) k) ((vf ((nx1 (nxF fs nl n fe fl (nI 0))) k)) + ((wf k) * ((nI (10 - t9)).toInt64)))) h9 = nL (adN (acN (nx1 (nxF fs nl n fe fl (nI 0))) (nx1 (nxF fs nl n fe fl (nI r9))) t9 wn k) ((nx1 (nxF fs nl n fe fl (nI 0))) k) (wn k * (10 - t9)) h9) := fun h9 hh => by
            by_cases e7 : h9 = ((nx1 (nxF fs nl n fe fl (nI 0))) k)
            · rw [e7, pk_uLs, hacc _ (by omega), hwn k (by omega), nI_L (by omega), nL_mul, nL_add]; exact congrArg nL (if_pos rfl).symm
            · rw [pk_uLn e7, hacc h9 hh]; exact congrArg nL (if_neg e7).symm
          have st2 : ∀ h9, h9 < 24 → (vp_updL (vp_updL vf ((nx1 (nxF fs nl n fe fl (nI 0))) k) ((vf ((nx1 (nxF fs nl n fe fl (nI 0))) k)) + ((wf k) * ((nI (10 - t9)).toInt64)))) ((nx1 (nxF fs nl n fe fl (nI r9))) k) (((vp_updL vf ((nx1 (nxF fs nl n fe fl (nI 0))) k) ((vf ((nx1 (nxF fs nl n fe fl (nI 0))) k)) + ((wf k) * ((nI (10 - t9)).toInt64)))) ((nx1 (nxF fs nl n fe fl (nI r9))) k)) + ((wf k) * ((nI t9).toInt64)))) h9 = nL (acN (nx1 (nxF fs nl n fe fl (nI 0))) (nx1 (nxF fs nl n fe fl (nI r9))) t9 wn (k + 1) h9) := fun h9 hh => by
            by_cases e7 : h9 = ((nx1 (nxF fs nl n fe fl (nI r9))) k)
            · rw [e7, pk_uLs, st1 _ (by omega), hwn k (by omega), nI_L (by omega), nL_mul, nL_add]; exact congrArg nL (if_pos rfl).symm
            · rw [pk_uLn e7, st1 h9 hh]; exact congrArg nL (if_neg e7).symm
          exact ih10 (k + 1) (vp_updL (vp_updL vf ((nx1 (nxF fs nl n fe fl (nI 0))) k) ((vf ((nx1 (nxF fs nl n fe fl (nI 0))) k)) + ((wf k) * ((nI (10 - t9)).toInt64)))) ((nx1 (nxF fs nl n fe fl (nI r9))) k) (((vp_updL vf ((nx1 (nxF fs nl n fe fl (nI 0))) k) ((vf ((nx1 (nxF fs nl n fe fl (nI 0))) k)) + ((wf k) * ((nI (10 - t9)).toInt64)))) ((nx1 (nxF fs nl n fe fl (nI r9))) k)) + ((wf k) * ((nI t9).toInt64)))) u84.1 u84.2.1 u84.2.2 ((by omega)) st2 (by omega) _ _ hP hD hS _ (lv_sub hl [3, 4, 5, 0] rfl)
  exact L10 _ 0 (filJ vf 0 24) cm fk hg ((by omega)) ((fun h9 hh => filJ_in _ _ 24 h9 hh)) (Nat.lt_succ_self _) _ _ hP hD hS _ (lv_sub hl [1, 2, 3, 0] rfl)

abbrev rm_X1_cancel : Room := { frames := 0, cells := 0, slots := 0, locals := 0 }
set_option maxHeartbeats 1000000 in
set_option maxRecDepth 100000 in
theorem c_cancel (l : Launch) (D : va_G) (cI cJ cZ cG cM : ClassId) (cn b cw cv : Nat) (lah lmh fin : Int32) (ua la d9 k9 : Nat) (hu9 : ua < 9223372036854775808) (hl9 : la < 9223372036854775808) (hd9 : 2 ≤ d9) (hd8 : d9 < 1000) (hk9 : k9 < 1000) :
    CV l yX1_cancel wsX1_cancel rm_X1_cancel D [(cI, .int), (cJ, .long), (cZ, .boolean), (cG, .object "LatestSets$Guild"), (cM, .array .int)] [(cn, .inr (1, [.ref b, .ref cw, .ref cv, .long (nL ua), .long (nL la), .int lah, .int lmh, .int fin]))] [.ref cn, .long (nL d9), .int (nI k9)] (S := Unit) (fun u => True) (fun u => [(cn, .inr (1, [.ref b, .ref cw, .ref cv, .long (nL (czN d9 k9 (ua, la)).1), .long (nL (czN d9 k9 (ua, la)).2), .int lah, .int lmh, .int fin]))]) := by
  refine sv_of (cc := cX1_cancel) (maxL := 5) (by decide) rfl (Nat.le_of_ble_eq_true rfl) ?_
  intro p e s m args below meth c A ls Q E hret
  obtain ⟨hx, hb, -, hml, hown, hts, -, hin, hA, hK, hP, hD, hS, hl, hN⟩ := E
  have hown : s.vm.findClass RX1 = some m.cls := hown
  have hl : lv_has ls 5 [(0, .ref cn), (1, .long (nL d9)), (3, .int (nI k9))] := hl
  have SF : CallFix p m c cX1_cancel 5 s args wsX1_cancel RX1 := ⟨hx, hb, hml, hown, hts⟩
  have hw0 := hts (.fieldLink RX1 38 "LatestSets$Chance" "upper" "J") (by decide +kernel)
  have hi1 : ∀ x ∈ wsX10, x ∈ wsX1_cancel := by decide +kernel
  have hw2 := hts (.fieldLink RX1 28 "LatestSets$Chance" "lower" "J") (by decide +kernel)
  refine lv_lload_n hx hb dX1_cancel_0 rfl (lv_at hl 1 rfl) ?_
  refine lv_lconst (v := 0) hx hb dX1_cancel_1 (by decide) ?_
  refine W.lcmp hx hb dX1_cancel_2 ?_
  refine lv_if_ne (tgt := 7) hx hb dX1_cancel_3 (by decide) (fun c3 => ?_) (fun c3 => ?_)
  · refine lv_iconst (v := nI 0) hx hb dX1_cancel_7 (by decide) ?_
    refine lv_istore (lv' := [(4, .int (nI 0)), (0, .ref cn), (1, .long (nL d9)), (3, .int (nI k9))]) hx hb dX1_cancel_8 hl (by decide) rfl (fun ls hl => ?_)
    have L10 : ∀ (n9 : Nat) (k : Nat) (hk : k ≤ k9), k9 - k < n9 → ∀ (H : Heap) (locs : List Loc), va_P D vwCl [(cn, .inr (1, [.ref b, .ref cw, .ref cv, .long (nL (czN d9 k (ua, la)).1), .long (nL (czN d9 k (ua, la)).2), .int lah, .int lmh, .int fin]))] H → va_D A [(cn, .inr (1, [.ref b, .ref cw, .ref cv, .long (nL (czN d9 k (ua, la)).1), .long (nL (czN d9 k (ua, la)).2), .int lah, .int lmh, .int fin]))] → va_S A s.heap H locs → ∀ (ls : Array Slot), lv_has ls 5 [(0, .ref cn), (1, .long (nL d9)), (3, .int (nI k9)), (4, .int (nI k))] → W p l e rm_X1_cancel s m args below meth c H locs 0 0 Q (F0 m 10 ls []) := by
      intro n9
      induction n9 with
      | zero => intro k hk hm; exact absurd hm (Nat.not_lt_zero _)
      | succ n9 ih10 =>
        intro k hk hm10 H locs hP hD hS ls hl
        have hcz := czN_le d9 (ua, la) k
        refine lv_iload hx hb dX1_cancel_10 (lv_at hl 3 rfl) ?_
        refine lv_iload_n hx hb dX1_cancel_12 rfl (lv_at hl 2 rfl) ?_
        refine icmp_ge_n (a := k) (b := k9) (tgt := 64) hx hb dX1_cancel_13 (by decide) (by omega) (by omega) (fun c13 => ?_) (fun c13 => ?_)
        · have ek9 : k = k9 := by omega
          rw [ek9] at hP hD
          exact hret (()) _ _ _ _ dX1_cancel_64 trivial hP hD hS
        · have hcu : (czN d9 k (ua, la)).1 ≤ ua := hcz.1
          have hcl : (czN d9 k (ua, la)).2 ≤ la := hcz.2
          refine lv_aload_n hx hb dX1_cancel_16 rfl (lv_at hl 0 rfl) ?_
          refine va_get (D := D) (ci := 1) (v := .long (nL (czN d9 k (ua, la)).1)) (C := RX1) (T := TX1) (N := 8) hx hb hts hi1 hown hK hP 0 rfl rfl 3 (by decide) hw0 (fun _ h9 => h9) rfl dX1_cancel_17 ?_
          refine lv_lload_n hx hb dX1_cancel_20 rfl (lv_at hl 1 rfl) ?_
          refine lv_lrem hx hb dX1_cancel_21 (nL_ne0 (by omega) (by omega)) ?_
          refine lv_lconst (v := 0) hx hb dX1_cancel_22 (by decide) ?_
          refine W.lcmp hx hb dX1_cancel_23 ?_
          refine lv_if_ne (tgt := 58) hx hb dX1_cancel_24 (by decide) (fun c24 => ?_) (fun c24 => ?_)
          · have q24 : ¬ (czN d9 k (ua, la)).1 % d9 = 0 := fun z => c24 (lc_eq.mpr ((nL_rem (by omega) (by omega) (by omega)).trans (congrArg nL z)))
            refine lv_iinc (v := nI (k + 1)) (lv' := [(4, .int (nI (k + 1))), (0, .ref cn), (1, .long (nL d9)), (3, .int (nI k9))]) hx hb dX1_cancel_58 hl (k := 3) rfl (nI_1 k) (by decide) rfl (fun ls hl => ?_)
            refine lv_goto (tgt := 10) hx hb dX1_cancel_61 (by decide) ?_
            have e7 : (czN d9 k (ua, la)) = (czN d9 (k + 1) (ua, la)) := (if_neg (fun z => q24 z.1)).symm
            have e8 : nL (czN d9 k (ua, la)).1 = nL (czN d9 (k + 1) (ua, la)).1 := congrArg nL (congrArg Prod.fst e7)
            rw [e8] at hP hD
            have e8 : nL (czN d9 k (ua, la)).2 = nL (czN d9 (k + 1) (ua, la)).2 := congrArg nL (congrArg Prod.snd e7)
            rw [e8] at hP hD
            exact ih10 (k + 1) ((by omega)) (by omega) _ _ hP hD hS _ (lv_sub hl [1, 2, 3, 0] rfl)
          · have q24 : (czN d9 k (ua, la)).1 % d9 = 0 := (nL_eq (Nat.lt_of_le_of_lt (Nat.mod_le _ _) (by omega)) (by omega)).mp ((nL_rem (by omega) (by omega) (by omega)).symm.trans (lc_eq.mp c24))
            refine lv_aload_n hx hb dX1_cancel_27 rfl (lv_at hl 0 rfl) ?_
            refine va_get (D := D) (ci := 1) (v := .long (nL (czN d9 k (ua, la)).2)) (C := RX1) (T := TX1) (N := 8) hx hb hts hi1 hown hK hP 0 rfl rfl 4 (by decide) hw2 (fun _ h9 => h9) rfl dX1_cancel_28 ?_
            refine lv_lload_n hx hb dX1_cancel_31 rfl (lv_at hl 1 rfl) ?_
            refine lv_lrem hx hb dX1_cancel_32 (nL_ne0 (by omega) (by omega)) ?_
            refine lv_lconst (v := 0) hx hb dX1_cancel_33 (by decide) ?_
            refine W.lcmp hx hb dX1_cancel_34 ?_
            refine lv_if_ne (tgt := 58) hx hb dX1_cancel_35 (by decide) (fun c35 => ?_) (fun c35 => ?_)
            · have q35 : ¬ (czN d9 k (ua, la)).2 % d9 = 0 := fun z => c35 (lc_eq.mpr ((nL_rem (by omega) (by omega) (by omega)).trans (congrArg nL z)))
              refine lv_iinc (v := nI (k + 1)) (lv' := [(4, .int (nI (k + 1))), (0, .ref cn), (1, .long (nL d9)), (3, .int (nI k9))]) hx hb dX1_cancel_58 hl (k := 3) rfl (nI_1 k) (by decide) rfl (fun ls hl => ?_)
              refine lv_goto (tgt := 10) hx hb dX1_cancel_61 (by decide) ?_
              have e7 : (czN d9 k (ua, la)) = (czN d9 (k + 1) (ua, la)) := (if_neg (fun z => q35 z.2)).symm
              have e8 : nL (czN d9 k (ua, la)).1 = nL (czN d9 (k + 1) (ua, la)).1 := congrArg nL (congrArg Prod.fst e7)
              rw [e8] at hP hD
              have e8 : nL (czN d9 k (ua, la)).2 = nL (czN d9 (k + 1) (ua, la)).2 := congrArg nL (congrArg Prod.snd e7)
              rw [e8] at hP hD
              exact ih10 (k + 1) ((by omega)) (by omega) _ _ hP hD hS _ (lv_sub hl [1, 2, 3, 0] rfl)
            · have q35 : (czN d9 k (ua, la)).2 % d9 = 0 := (nL_eq (Nat.lt_of_le_of_lt (Nat.mod_le _ _) (by omega)) (by omega)).mp ((nL_rem (by omega) (by omega) (by omega)).symm.trans (lc_eq.mp c35))
              refine lv_aload_n hx hb dX1_cancel_38 rfl (lv_at hl 0 rfl) ?_
              refine lv_dup hx hb dX1_cancel_39 rfl ?_
              refine va_get (D := D) (ci := 1) (v := .long (nL (czN d9 k (ua, la)).1)) (C := RX1) (T := TX1) (N := 8) hx hb hts hi1 hown hK hP 0 rfl rfl 3 (by decide) hw0 (fun _ h9 => h9) rfl dX1_cancel_40 ?_
              refine lv_lload_n hx hb dX1_cancel_43 rfl (lv_at hl 1 rfl) ?_
              refine lv_ldiv hx hb dX1_cancel_44 (nL_ne0 (by omega) (by omega)) ?_
              refine va_put (D := D) (ci := 1) (v := .long ((nL (czN d9 k (ua, la)).1) / (nL d9))) (ty := .long) (C := RX1) (T := TX1) (N := 8) hx hb hts hi1 tyX1 tyX1_ok nmX1 hown hK hP hD hS 0 rfl rfl 3 (by decide) hw0 (fun _ h9 => h9) rfl (by decide +kernel) rfl rfl (Nat.le_of_ble_eq_true rfl) dX1_cancel_45 (fun H locs hP hD hS => ?_)
              have hP : va_P D vwCl [(cn, .inr (1, [.ref b, .ref cw, .ref cv, .long ((nL (czN d9 k (ua, la)).1) / (nL d9)), .long (nL (czN d9 k (ua, la)).2), .int lah, .int lmh, .int fin]))] H := hP
              have hD : va_D A [(cn, .inr (1, [.ref b, .ref cw, .ref cv, .long ((nL (czN d9 k (ua, la)).1) / (nL d9)), .long (nL (czN d9 k (ua, la)).2), .int lah, .int lmh, .int fin]))] := hD
              refine lv_aload_n hx hb dX1_cancel_48 rfl (lv_at hl 0 rfl) ?_
              refine lv_dup hx hb dX1_cancel_49 rfl ?_
              refine va_get (D := D) (ci := 1) (v := .long (nL (czN d9 k (ua, la)).2)) (C := RX1) (T := TX1) (N := 8) hx hb hts hi1 hown hK hP 0 rfl rfl 4 (by decide) hw2 (fun _ h9 => h9) rfl dX1_cancel_50 ?_
              refine lv_lload_n hx hb dX1_cancel_53 rfl (lv_at hl 1 rfl) ?_
              refine lv_ldiv hx hb dX1_cancel_54 (nL_ne0 (by omega) (by omega)) ?_
              refine va_put (D := D) (ci := 1) (v := .long ((nL (czN d9 k (ua, la)).2) / (nL d9))) (ty := .long) (C := RX1) (T := TX1) (N := 8) hx hb hts hi1 tyX1 tyX1_ok nmX1 hown hK hP hD hS 0 rfl rfl 4 (by decide) hw2 (fun _ h9 => h9) rfl (by decide +kernel) rfl rfl (Nat.le_of_ble_eq_true rfl) dX1_cancel_55 (fun H locs hP hD hS => ?_)
              have hP : va_P D vwCl [(cn, .inr (1, [.ref b, .ref cw, .ref cv, .long ((nL (czN d9 k (ua, la)).1) / (nL d9)), .long ((nL (czN d9 k (ua, la)).2) / (nL d9)), .int lah, .int lmh, .int fin]))] H := hP
              have hD : va_D A [(cn, .inr (1, [.ref b, .ref cw, .ref cv, .long ((nL (czN d9 k (ua, la)).1) / (nL d9)), .long ((nL (czN d9 k (ua, la)).2) / (nL d9)), .int lah, .int lmh, .int fin]))] := hD
              refine lv_iinc (v := nI (k + 1)) (lv' := [(4, .int (nI (k + 1))), (0, .ref cn), (1, .long (nL d9)), (3, .int (nI k9))]) hx hb dX1_cancel_58 hl (k := 3) rfl (nI_1 k) (by decide) rfl (fun ls hl => ?_)
              refine lv_goto (tgt := 10) hx hb dX1_cancel_61 (by decide) ?_
              have e7 : (((czN d9 k (ua, la)).1 / d9, (czN d9 k (ua, la)).2 / d9) : Nat × Nat) = (czN d9 (k + 1) (ua, la)) := (if_pos ⟨q24, q35⟩).symm
              have e8 : (nL (czN d9 k (ua, la)).1) / (nL d9) = nL (czN d9 (k + 1) (ua, la)).1 := (nL_div (by omega) (by omega) (by omega)).trans (congrArg nL (congrArg Prod.fst e7))
              rw [e8] at hP hD
              have e8 : (nL (czN d9 k (ua, la)).2) / (nL d9) = nL (czN d9 (k + 1) (ua, la)).2 := (nL_div (by omega) (by omega) (by omega)).trans (congrArg nL (congrArg Prod.snd e7))
              rw [e8] at hP hD
              exact ih10 (k + 1) ((by omega)) (by omega) _ _ hP hD hS _ (lv_sub hl [1, 2, 3, 0] rfl)
    exact L10 _ 0 ((Nat.zero_le _)) (Nat.lt_succ_self _) _ _ hP hD hS _ (lv_sub hl [1, 2, 3, 0] rfl)
  · exact absurd (lc_eq.mp c3) (nL_ne0 (by omega) (by omega))

abbrev rm_X1_rainOn : Room := { frames := 5, cells := 0, slots := 0, locals := 118 }
set_option maxHeartbeats 1000000 in
set_option maxRecDepth 100000 in
theorem c_rainOn (l : Launch) (D : va_G) (cI cJ cZ cG cM : ClassId) (cn cw cv : Nat) (up lo : Int64) (lah lmh fin : Int32) (b bt bc bs : Nat) (g ge gl gb gw gsw gsh : Nat) (fi : Int32) (n ns : Nat) (sg nl : Nat) (hg : Int32) (wf vf : Nat → Int64) (cm fk fs fe fl : Nat → Int32) (hV : VL fs nl) (h1 : 1 ≤ n) (h6 : n ≤ 6) (x w t9 r9 : Nat) (hx9 : x ≤ 23) (hw9 : w ≤ 8) (ht9 : t9 ≤ 10) :
    CV l yX1_rainOn wsX1_rainOn rm_X1_rainOn D [(cI, .int), (cJ, .long), (cZ, .boolean), (cG, .object "LatestSets$Guild"), (cM, .array .int)] [(cn, .inr (1, [.ref b, .ref cw, .ref cv, .long up, .long lo, .int lah, .int lmh, .int fin])), (b, .inr (0, [.ref g, .ref bt, .ref bc, .ref bs, .int hg])), (g, .inr (3, [.ref ge, .ref gl, .ref gb, .ref gw, .ref gsw, .ref gsh, .int (nI ns), .int (nI n), .int fi])), (ge, .inl (cI, 6, .inl fe)), (gl, .inl (cI, 6, .inl fl)), (bc, .inl (cI, 6, .inl cm)), (bs, .inl (cI, 20, .inl fk)), (gw, .inr (4, [.ref sg, .int (nI nl)])), (sg, .inl (cI, 20, .inl fs)), (cw, .inl (cJ, 24, .inr (.inl wf))), (cv, .inl (cJ, 24, .inr (.inl vf)))] [.ref cn, .int (nI x), .int (nI w), .int (nI t9), .int (nI r9)] (S := ((Nat → Int64) × (Nat → Int64) × (Nat → Int32) × (Nat → Int32) × Int32)) (fun u => True) (fun u => [(cn, .inr (1, [.ref b, .ref cw, .ref cv, .long (nL ((rnV (nx1 (nxF fs nl n fe fl (nI 0))) (nx1 (nxF fs nl n fe fl (nI r9))) t9 w x) / Nat.gcd (rnV (nx1 (nxF fs nl n fe fl (nI 0))) (nx1 (nxF fs nl n fe fl (nI r9))) t9 w x) (10 ^ w))), .long (nL (10 ^ w / Nat.gcd (rnV (nx1 (nxF fs nl n fe fl (nI 0))) (nx1 (nxF fs nl n fe fl (nI r9))) t9 w x) (10 ^ w))), .int lah, .int lmh, .int fin])), (b, .inr (0, [.ref g, .ref bt, .ref bc, .ref bs, .int u.2.2.2.2])), (g, .inr (3, [.ref ge, .ref gl, .ref gb, .ref gw, .ref gsw, .ref gsh, .int (nI ns), .int (nI n), .int fi])), (ge, .inl (cI, 6, .inl fe)), (gl, .inl (cI, 6, .inl fl)), (bc, .inl (cI, 6, .inl u.2.2.1)), (bs, .inl (cI, 20, .inl u.2.2.2.1)), (gw, .inr (4, [.ref sg, .int (nI nl)])), (sg, .inl (cI, 20, .inl fs)), (cw, .inl (cJ, 24, .inr (.inl u.1))), (cv, .inl (cJ, 24, .inr (.inl u.2.1)))]) := by
  refine sv_of (cc := cX1_rainOn) (maxL := 6) (by decide) rfl (Nat.le_of_ble_eq_true rfl) ?_
  intro p e s m args below meth c A ls Q E hret
  obtain ⟨hx, hb, -, hml, hown, hts, -, hin, hA, hK, hP, hD, hS, hl, hN⟩ := E
  have hown : s.vm.findClass RX1 = some m.cls := hown
  have hl : lv_has ls 6 [(0, .ref cn), (1, .int (nI x)), (2, .int (nI w)), (3, .int (nI t9)), (4, .int (nI r9))] := hl
  have SF : CallFix p m c cX1_rainOn 6 s args wsX1_rainOn RX1 := ⟨hx, hb, hml, hown, hts⟩
  have hw0 := hts (.fieldLink RX1 9 "LatestSets$Chance" "weight" "[J") (by decide +kernel)
  have hi1 : ∀ x ∈ wsX10, x ∈ wsX1_rainOn := by decide +kernel
  have hw2 := hts (.fieldLink RX1 28 "LatestSets$Chance" "lower" "J") (by decide +kernel)
  have hw3 := hts (.fieldLink RX1 38 "LatestSets$Chance" "upper" "J") (by decide +kernel)
  have hw4 := hts (.constantLong RX1 41 (2)) (by decide +kernel)
  have hw5 := hts (.constantLong RX1 47 (5)) (by decide +kernel)
  have hw6 := hts (.constantLong RX1 36 (10)) (by decide +kernel)
  have hp10 := p10_le hw9
  refine lv_aload_n hx hb dX1_rainOn_0 rfl (lv_at hl 0 rfl) ?_
  refine va_get (D := D) (ci := 1) (v := .ref cw) (C := RX1) (T := TX1) (N := 8) hx hb hts hi1 hown hK hP 0 rfl rfl 1 (by decide) hw0 (fun _ h9 => h9) rfl dX1_rainOn_1 ?_
  refine lv_lconst (v := 0) hx hb dX1_rainOn_4 (by decide) ?_
  refine cal_v (run_S (As := [.ref cw, .long 0]) (rest := []) SF (c_fillJ l D cI cJ cZ cG cM cw 24 wf 0 (by omega)) (va_cwS 2 hts gX1_rainOn_J7_fill_d0a16 rfl rfl rfl (by decide +kernel) ⟨Nat.le_of_ble_eq_true rfl, Nat.le_of_ble_eq_true rfl⟩) hN hK hP hD [9] rfl (by decide) rfl hl.1 rfl (Nat.le_of_ble_eq_true rfl) dX1_rainOn_5 ⟨Nat.le_of_ble_eq_true rfl, Nat.le_of_ble_eq_true rfl⟩) ⟨rfl, rfl⟩ hP hD hS hA [9] rfl (fun _ => rfl) (fun _ H locs hw hP hD hS => ?_)
  have hP : va_P D vwCl [(cn, .inr (1, [.ref b, .ref cw, .ref cv, .long up, .long lo, .int lah, .int lmh, .int fin])), (b, .inr (0, [.ref g, .ref bt, .ref bc, .ref bs, .int hg])), (g, .inr (3, [.ref ge, .ref gl, .ref gb, .ref gw, .ref gsw, .ref gsh, .int (nI ns), .int (nI n), .int fi])), (ge, .inl (cI, 6, .inl fe)), (gl, .inl (cI, 6, .inl fl)), (bc, .inl (cI, 6, .inl cm)), (bs, .inl (cI, 20, .inl fk)), (gw, .inr (4, [.ref sg, .int (nI nl)])), (sg, .inl (cI, 20, .inl fs)), (cw, .inl (cJ, 24, .inr (.inl (filJ wf 0 24)))), (cv, .inl (cJ, 24, .inr (.inl vf)))] H := hP
  have hD : va_D A [(cn, .inr (1, [.ref b, .ref cw, .ref cv, .long up, .long lo, .int lah, .int lmh, .int fin])), (b, .inr (0, [.ref g, .ref bt, .ref bc, .ref bs, .int hg])), (g, .inr (3, [.ref ge, .ref gl, .ref gb, .ref gw, .ref gsw, .ref gsh, .int (nI ns), .int (nI n), .int fi])), (ge, .inl (cI, 6, .inl fe)), (gl, .inl (cI, 6, .inl fl)), (bc, .inl (cI, 6, .inl cm)), (bs, .inl (cI, 20, .inl fk)), (gw, .inr (4, [.ref sg, .int (nI nl)])), (sg, .inl (cI, 20, .inl fs)), (cw, .inl (cJ, 24, .inr (.inl (filJ wf 0 24)))), (cv, .inl (cJ, 24, .inr (.inl vf)))] := hD
  refine lv_aload_n hx hb dX1_rainOn_8 rfl (lv_at hl 0 rfl) ?_
  refine va_get (D := D) (ci := 1) (v := .ref cw) (C := RX1) (T := TX1) (N := 8) hx hb hts hi1 hown hK hP 0 rfl rfl 1 (by decide) hw0 (fun _ h9 => h9) rfl dX1_rainOn_9 ?_
  refine lv_iload_n hx hb dX1_rainOn_12 rfl (lv_at hl 1 rfl) ?_
  refine lv_lconst (v := 1) hx hb dX1_rainOn_13 (by decide) ?_
  refine last_n (k := x) hx hb hK hP hD hS 9 1 rfl rfl (by omega) (by omega) dX1_rainOn_14 (fun H locs hP hD hS => ?_)
  have hP : va_P D vwCl [(cn, .inr (1, [.ref b, .ref cw, .ref cv, .long up, .long lo, .int lah, .int lmh, .int fin])), (b, .inr (0, [.ref g, .ref bt, .ref bc, .ref bs, .int hg])), (g, .inr (3, [.ref ge, .ref gl, .ref gb, .ref gw, .ref gsw, .ref gsh, .int (nI ns), .int (nI n), .int fi])), (ge, .inl (cI, 6, .inl fe)), (gl, .inl (cI, 6, .inl fl)), (bc, .inl (cI, 6, .inl cm)), (bs, .inl (cI, 20, .inl fk)), (gw, .inr (4, [.ref sg, .int (nI nl)])), (sg, .inl (cI, 20, .inl fs)), (cw, .inl (cJ, 24, .inr (.inl (vp_updL (filJ wf 0 24) x 1)))), (cv, .inl (cJ, 24, .inr (.inl vf)))] H := hP
  have hD : va_D A [(cn, .inr (1, [.ref b, .ref cw, .ref cv, .long up, .long lo, .int lah, .int lmh, .int fin])), (b, .inr (0, [.ref g, .ref bt, .ref bc, .ref bs, .int hg])), (g, .inr (3, [.ref ge, .ref gl, .ref gb, .ref gw, .ref gsw, .ref gsh, .int (nI ns), .int (nI n), .int fi])), (ge, .inl (cI, 6, .inl fe)), (gl, .inl (cI, 6, .inl fl)), (bc, .inl (cI, 6, .inl cm)), (bs, .inl (cI, 20, .inl fk)), (gw, .inr (4, [.ref sg, .int (nI nl)])), (sg, .inl (cI, 20, .inl fs)), (cw, .inl (cJ, 24, .inr (.inl (vp_updL (filJ wf 0 24) x 1)))), (cv, .inl (cJ, 24, .inr (.inl vf)))] := hD
  refine lv_aload_n hx hb dX1_rainOn_15 rfl (lv_at hl 0 rfl) ?_
  refine lv_lconst (v := 1) hx hb dX1_rainOn_16 (by decide) ?_
  refine va_put (D := D) (ci := 1) (v := .long 1) (ty := .long) (C := RX1) (T := TX1) (N := 8) hx hb hts hi1 tyX1 tyX1_ok nmX1 hown hK hP hD hS 0 rfl rfl 4 (by decide) hw2 (fun _ h9 => h9) rfl (by decide +kernel) rfl rfl (Nat.le_of_ble_eq_true rfl) dX1_rainOn_17 (fun H locs hP hD hS => ?_)
  have hP : va_P D vwCl [(cn, .inr (1, [.ref b, .ref cw, .ref cv, .long up, .long 1, .int lah, .int lmh, .int fin])), (b, .inr (0, [.ref g, .ref bt, .ref bc, .ref bs, .int hg])), (g, .inr (3, [.ref ge, .ref gl, .ref gb, .ref gw, .ref gsw, .ref gsh, .int (nI ns), .int (nI n), .int fi])), (ge, .inl (cI, 6, .inl fe)), (gl, .inl (cI, 6, .inl fl)), (bc, .inl (cI, 6, .inl cm)), (bs, .inl (cI, 20, .inl fk)), (gw, .inr (4, [.ref sg, .int (nI nl)])), (sg, .inl (cI, 20, .inl fs)), (cw, .inl (cJ, 24, .inr (.inl (vp_updL (filJ wf 0 24) x 1)))), (cv, .inl (cJ, 24, .inr (.inl vf)))] H := hP
  have hD : va_D A [(cn, .inr (1, [.ref b, .ref cw, .ref cv, .long up, .long 1, .int lah, .int lmh, .int fin])), (b, .inr (0, [.ref g, .ref bt, .ref bc, .ref bs, .int hg])), (g, .inr (3, [.ref ge, .ref gl, .ref gb, .ref gw, .ref gsw, .ref gsh, .int (nI ns), .int (nI n), .int fi])), (ge, .inl (cI, 6, .inl fe)), (gl, .inl (cI, 6, .inl fl)), (bc, .inl (cI, 6, .inl cm)), (bs, .inl (cI, 20, .inl fk)), (gw, .inr (4, [.ref sg, .int (nI nl)])), (sg, .inl (cI, 20, .inl fs)), (cw, .inl (cJ, 24, .inr (.inl (vp_updL (filJ wf 0 24) x 1)))), (cv, .inl (cJ, 24, .inr (.inl vf)))] := hD
  refine lv_iconst (v := nI 0) hx hb dX1_rainOn_20 (by decide) ?_
  refine lv_istore (lv' := [(5, .int (nI 0)), (0, .ref cn), (1, .int (nI x)), (2, .int (nI w)), (3, .int (nI t9)), (4, .int (nI r9))]) hx hb dX1_rainOn_21 hl (by decide) rfl (fun ls hl => ?_)
  have L23 : ∀ (n9 : Nat) (k : Nat) (wf vf : Nat → Int64) (cm fk : Nat → Int32) (hg : Int32) (hk : k ≤ w) (hW : ∀ h9, h9 < 24 → wf h9 = nL (wkN (nx1 (nxF fs nl n fe fl (nI 0))) (nx1 (nxF fs nl n fe fl (nI r9))) t9 x k h9)), w - k < n9 → ∀ (H : Heap) (locs : List Loc), va_P D vwCl [(cn, .inr (1, [.ref b, .ref cw, .ref cv, .long up, .long (nL (10 ^ k)), .int lah, .int lmh, .int fin])), (b, .inr (0, [.ref g, .ref bt, .ref bc, .ref bs, .int hg])), (g, .inr (3, [.ref ge, .ref gl, .ref gb, .ref gw, .ref gsw, .ref gsh, .int (nI ns), .int (nI n), .int fi])), (ge, .inl (cI, 6, .inl fe)), (gl, .inl (cI, 6, .inl fl)), (bc, .inl (cI, 6, .inl cm)), (bs, .inl (cI, 20, .inl fk)), (gw, .inr (4, [.ref sg, .int (nI nl)])), (sg, .inl (cI, 20, .inl fs)), (cw, .inl (cJ, 24, .inr (.inl wf))), (cv, .inl (cJ, 24, .inr (.inl vf)))] H → va_D A [(cn, .inr (1, [.ref b, .ref cw, .ref cv, .long up, .long (nL (10 ^ k)), .int lah, .int lmh, .int fin])), (b, .inr (0, [.ref g, .ref bt, .ref bc, .ref bs, .int hg])), (g, .inr (3, [.ref ge, .ref gl, .ref gb, .ref gw, .ref gsw, .ref gsh, .int (nI ns), .int (nI n), .int fi])), (ge, .inl (cI, 6, .inl fe)), (gl, .inl (cI, 6, .inl fl)), (bc, .inl (cI, 6, .inl cm)), (bs, .inl (cI, 20, .inl fk)), (gw, .inr (4, [.ref sg, .int (nI nl)])), (sg, .inl (cI, 20, .inl fs)), (cw, .inl (cJ, 24, .inr (.inl wf))), (cv, .inl (cJ, 24, .inr (.inl vf)))] → va_S A s.heap H locs → ∀ (ls : Array Slot), lv_has ls 6 [(0, .ref cn), (1, .int (nI x)), (2, .int (nI w)), (3, .int (nI t9)), (4, .int (nI r9)), (5, .int (nI k))] → W p l e rm_X1_rainOn s m args below meth c H locs 0 0 Q (F0 m 23 ls []) := by
    intro n9
    induction n9 with
    | zero => intro k wf vf cm fk hg hk hW hm; exact absurd hm (Nat.not_lt_zero _)
    | succ n9 ih23 =>
      intro k wf vf cm fk hg hk hW hm23 H locs hP hD hS ls hl
      refine lv_iload hx hb dX1_rainOn_23 (lv_at hl 5 rfl) ?_
      refine lv_iload_n hx hb dX1_rainOn_25 rfl (lv_at hl 2 rfl) ?_
      refine icmp_ge_n (a := k) (b := w) (tgt := 54) hx hb dX1_rainOn_26 (by decide) (by omega) (by omega) (fun c26 => ?_) (fun c26 => ?_)
      · have ek9 : k = w := by omega
        have hW9 := hW
        rw [ek9] at hW9
        have e8 : nL (10 ^ k) = nL (10 ^ w) := by rw [ek9]
        rw [e8] at hP hD
        refine lv_aload_n hx hb dX1_rainOn_54 rfl (lv_at hl 0 rfl) ?_
        refine lv_lconst (v := 0) hx hb dX1_rainOn_55 (by decide) ?_
        refine va_put (D := D) (ci := 1) (v := .long 0) (ty := .long) (C := RX1) (T := TX1) (N := 8) hx hb hts hi1 tyX1 tyX1_ok nmX1 hown hK hP hD hS 0 rfl rfl 3 (by decide) hw3 (fun _ h9 => h9) rfl (by decide +kernel) rfl rfl (Nat.le_of_ble_eq_true rfl) dX1_rainOn_56 (fun H locs hP hD hS => ?_)
        have hP : va_P D vwCl [(cn, .inr (1, [.ref b, .ref cw, .ref cv, .long 0, .long (nL (10 ^ w)), .int lah, .int lmh, .int fin])), (b, .inr (0, [.ref g, .ref bt, .ref bc, .ref bs, .int hg])), (g, .inr (3, [.ref ge, .ref gl, .ref gb, .ref gw, .ref gsw, .ref gsh, .int (nI ns), .int (nI n), .int fi])), (ge, .inl (cI, 6, .inl fe)), (gl, .inl (cI, 6, .inl fl)), (bc, .inl (cI, 6, .inl cm)), (bs, .inl (cI, 20, .inl fk)), (gw, .inr (4, [.ref sg, .int (nI nl)])), (sg, .inl (cI, 20, .inl fs)), (cw, .inl (cJ, 24, .inr (.inl wf))), (cv, .inl (cJ, 24, .inr (.inl vf)))] H := hP
        have hD : va_D A [(cn, .inr (1, [.ref b, .ref cw, .ref cv, .long 0, .long (nL (10 ^ w)), .int lah, .int lmh, .int fin])), (b, .inr (0, [.ref g, .ref bt, .ref bc, .ref bs, .int hg])), (g, .inr (3, [.ref ge, .ref gl, .ref gb, .ref gw, .ref gsw, .ref gsh, .int (nI ns), .int (nI n), .int fi])), (ge, .inl (cI, 6, .inl fe)), (gl, .inl (cI, 6, .inl fl)), (bc, .inl (cI, 6, .inl cm)), (bs, .inl (cI, 20, .inl fk)), (gw, .inr (4, [.ref sg, .int (nI nl)])), (sg, .inl (cI, 20, .inl fs)), (cw, .inl (cJ, 24, .inr (.inl wf))), (cv, .inl (cJ, 24, .inr (.inl vf)))] := hD
        refine lv_iconst (v := nI 0) hx hb dX1_rainOn_59 (by decide) ?_
        refine lv_istore (lv' := [(5, .int (nI 0)), (0, .ref cn), (1, .int (nI x)), (2, .int (nI w)), (3, .int (nI t9)), (4, .int (nI r9))]) hx hb dX1_rainOn_60 hl (by decide) rfl (fun ls hl => ?_)
        have L62 : ∀ (n9 : Nat) (k : Nat) (hk : k ≤ 24), 24 - k < n9 → ∀ (H : Heap) (locs : List Loc), va_P D vwCl [(cn, .inr (1, [.ref b, .ref cw, .ref cv, .long (nL (smN (fun h => h * wkN (nx1 (nxF fs nl n fe fl (nI 0))) (nx1 (nxF fs nl n fe fl (nI r9))) t9 x w h) k)), .long (nL (10 ^ w)), .int lah, .int lmh, .int fin])), (b, .inr (0, [.ref g, .ref bt, .ref bc, .ref bs, .int hg])), (g, .inr (3, [.ref ge, .ref gl, .ref gb, .ref gw, .ref gsw, .ref gsh, .int (nI ns), .int (nI n), .int fi])), (ge, .inl (cI, 6, .inl fe)), (gl, .inl (cI, 6, .inl fl)), (bc, .inl (cI, 6, .inl cm)), (bs, .inl (cI, 20, .inl fk)), (gw, .inr (4, [.ref sg, .int (nI nl)])), (sg, .inl (cI, 20, .inl fs)), (cw, .inl (cJ, 24, .inr (.inl wf))), (cv, .inl (cJ, 24, .inr (.inl vf)))] H → va_D A [(cn, .inr (1, [.ref b, .ref cw, .ref cv, .long (nL (smN (fun h => h * wkN (nx1 (nxF fs nl n fe fl (nI 0))) (nx1 (nxF fs nl n fe fl (nI r9))) t9 x w h) k)), .long (nL (10 ^ w)), .int lah, .int lmh, .int fin])), (b, .inr (0, [.ref g, .ref bt, .ref bc, .ref bs, .int hg])), (g, .inr (3, [.ref ge, .ref gl, .ref gb, .ref gw, .ref gsw, .ref gsh, .int (nI ns), .int (nI n), .int fi])), (ge, .inl (cI, 6, .inl fe)), (gl, .inl (cI, 6, .inl fl)), (bc, .inl (cI, 6, .inl cm)), (bs, .inl (cI, 20, .inl fk)), (gw, .inr (4, [.ref sg, .int (nI nl)])), (sg, .inl (cI, 20, .inl fs)), (cw, .inl (cJ, 24, .inr (.inl wf))), (cv, .inl (cJ, 24, .inr (.inl vf)))] → va_S A s.heap H locs → ∀ (ls : Array Slot), lv_has ls 6 [(0, .ref cn), (2, .int (nI w)), (5, .int (nI k))] → W p l e rm_X1_rainOn s m args below meth c H locs 0 0 Q (F0 m 62 ls []) := by
          intro n9
          induction n9 with
          | zero => intro k hk hm; exact absurd hm (Nat.not_lt_zero _)
          | succ n9 ih62 =>
            intro k hk hm62 H locs hP hD hS ls hl
            refine lv_iload hx hb dX1_rainOn_62 (lv_at hl 2 rfl) ?_
            refine lv_bipush (v := nI 24) hx hb dX1_rainOn_64 (by decide) ?_
            refine icmp_ge_n (a := k) (b := 24) (tgt := 95) hx hb dX1_rainOn_66 (by decide) (by omega) (by omega) (fun c66 => ?_) (fun c66 => ?_)
            · have ek8 : k = 24 := by omega
              have hup := up_sm (D := (nx1 (nxF fs nl n fe fl (nI 0)))) (W := (nx1 (nxF fs nl n fe fl (nI r9)))) (fun h => nx1_le (FR_F _ _ _ _ _ _) h) (fun h => nx1_le (FR_F _ _ _ _ _ _) h) t9 (w := w) hx9
              have e8 : nL (smN (fun h => h * wkN (nx1 (nxF fs nl n fe fl (nI 0))) (nx1 (nxF fs nl n fe fl (nI r9))) t9 x w h) k) = nL (rnV (nx1 (nxF fs nl n fe fl (nI 0))) (nx1 (nxF fs nl n fe fl (nI r9))) t9 w x) := by rw [ek8, hup]
              rw [e8] at hP hD
              have hrn := rnV_le (D := (nx1 (nxF fs nl n fe fl (nI 0)))) (W := (nx1 (nxF fs nl n fe fl (nI r9)))) (fun h => nx1_le (FR_F _ _ _ _ _ _) h) (fun h => nx1_le (FR_F _ _ _ _ _ _) h) ht9 w x hx9
              refine lv_aload_n hx hb dX1_rainOn_95 rfl (lv_at hl 0 rfl) ?_
              refine lv_ldc2 (v := 2) hx hb hown hw4 dX1_rainOn_96 ?_
              refine lv_iload_n hx hb dX1_rainOn_99 rfl (lv_at hl 1 rfl) ?_
              refine cal_v (run_V (As := [.long 2, .int (nI w)]) (rest := []) SF (c_cancel l D cI cJ cZ cG cM cn b cw cv lah lmh fin (rnV (nx1 (nxF fs nl n fe fl (nI 0))) (nx1 (nxF fs nl n fe fl (nI r9))) t9 w x) (10 ^ w) 2 w (by omega) (by omega) (by decide) (by decide) (by omega)) (cwV 2 hts gX1_rainOn_X1_cancel rfl rfl rfl (by decide +kernel) ⟨Nat.le_of_ble_eq_true rfl, Nat.le_of_ble_eq_true rfl⟩) hN hK hP hD [0] rfl (by decide) 1 0 rfl rfl rfl rfl hl.1 rfl (Nat.le_of_ble_eq_true rfl) dX1_rainOn_100 ⟨Nat.le_of_ble_eq_true rfl, Nat.le_of_ble_eq_true rfl⟩) ⟨rfl, rfl⟩ hP hD hS hA [0] rfl (fun _ => rfl) (fun _ H locs hw hP hD hS => ?_)
              have hP : va_P D vwCl [(cn, .inr (1, [.ref b, .ref cw, .ref cv, .long (nL (czN 2 w (((rnV (nx1 (nxF fs nl n fe fl (nI 0))) (nx1 (nxF fs nl n fe fl (nI r9))) t9 w x)), ((10 ^ w)))).1), .long (nL (czN 2 w (((rnV (nx1 (nxF fs nl n fe fl (nI 0))) (nx1 (nxF fs nl n fe fl (nI r9))) t9 w x)), ((10 ^ w)))).2), .int lah, .int lmh, .int fin])), (b, .inr (0, [.ref g, .ref bt, .ref bc, .ref bs, .int hg])), (g, .inr (3, [.ref ge, .ref gl, .ref gb, .ref gw, .ref gsw, .ref gsh, .int (nI ns), .int (nI n), .int fi])), (ge, .inl (cI, 6, .inl fe)), (gl, .inl (cI, 6, .inl fl)), (bc, .inl (cI, 6, .inl cm)), (bs, .inl (cI, 20, .inl fk)), (gw, .inr (4, [.ref sg, .int (nI nl)])), (sg, .inl (cI, 20, .inl fs)), (cw, .inl (cJ, 24, .inr (.inl wf))), (cv, .inl (cJ, 24, .inr (.inl vf)))] H := hP
              have hD : va_D A [(cn, .inr (1, [.ref b, .ref cw, .ref cv, .long (nL (czN 2 w (((rnV (nx1 (nxF fs nl n fe fl (nI 0))) (nx1 (nxF fs nl n fe fl (nI r9))) t9 w x)), ((10 ^ w)))).1), .long (nL (czN 2 w (((rnV (nx1 (nxF fs nl n fe fl (nI 0))) (nx1 (nxF fs nl n fe fl (nI r9))) t9 w x)), ((10 ^ w)))).2), .int lah, .int lmh, .int fin])), (b, .inr (0, [.ref g, .ref bt, .ref bc, .ref bs, .int hg])), (g, .inr (3, [.ref ge, .ref gl, .ref gb, .ref gw, .ref gsw, .ref gsh, .int (nI ns), .int (nI n), .int fi])), (ge, .inl (cI, 6, .inl fe)), (gl, .inl (cI, 6, .inl fl)), (bc, .inl (cI, 6, .inl cm)), (bs, .inl (cI, 20, .inl fk)), (gw, .inr (4, [.ref sg, .int (nI nl)])), (sg, .inl (cI, 20, .inl fs)), (cw, .inl (cJ, 24, .inr (.inl wf))), (cv, .inl (cJ, 24, .inr (.inl vf)))] := hD
              refine lv_aload_n hx hb dX1_rainOn_103 rfl (lv_at hl 0 rfl) ?_
              refine lv_ldc2 (v := 5) hx hb hown hw5 dX1_rainOn_104 ?_
              refine lv_iload_n hx hb dX1_rainOn_107 rfl (lv_at hl 1 rfl) ?_
              refine cal_v (run_V (As := [.long 5, .int (nI w)]) (rest := []) SF (c_cancel l D cI cJ cZ cG cM cn b cw cv lah lmh fin ((czN 2 w (rnV (nx1 (nxF fs nl n fe fl (nI 0))) (nx1 (nxF fs nl n fe fl (nI r9))) t9 w x, 10 ^ w)).1) ((czN 2 w (rnV (nx1 (nxF fs nl n fe fl (nI 0))) (nx1 (nxF fs nl n fe fl (nI r9))) t9 w x, 10 ^ w)).2) 5 w (by have h8 := czN_le 2 (rnV (nx1 (nxF fs nl n fe fl (nI 0))) (nx1 (nxF fs nl n fe fl (nI r9))) t9 w x, 10 ^ w) w; have h9 : (czN 2 w (rnV (nx1 (nxF fs nl n fe fl (nI 0))) (nx1 (nxF fs nl n fe fl (nI r9))) t9 w x, 10 ^ w)).1 ≤ rnV (nx1 (nxF fs nl n fe fl (nI 0))) (nx1 (nxF fs nl n fe fl (nI r9))) t9 w x := h8.1; omega) (by have h8 := czN_le 2 (rnV (nx1 (nxF fs nl n fe fl (nI 0))) (nx1 (nxF fs nl n fe fl (nI r9))) t9 w x, 10 ^ w) w; have h9 : (czN 2 w (rnV (nx1 (nxF fs nl n fe fl (nI 0))) (nx1 (nxF fs nl n fe fl (nI r9))) t9 w x, 10 ^ w)).2 ≤ 10 ^ w := h8.2; omega) (by decide) (by decide) (by omega)) (cwV 2 hts gX1_rainOn_X1_cancel rfl rfl rfl (by decide +kernel) ⟨Nat.le_of_ble_eq_true rfl, Nat.le_of_ble_eq_true rfl⟩) hN hK hP hD [0] rfl (by decide) 1 0 rfl rfl rfl rfl hl.1 rfl (Nat.le_of_ble_eq_true rfl) dX1_rainOn_108 ⟨Nat.le_of_ble_eq_true rfl, Nat.le_of_ble_eq_true rfl⟩) ⟨rfl, rfl⟩ hP hD hS hA [0] rfl (fun _ => rfl) (fun _ H locs hw hP hD hS => ?_)
              have hP : va_P D vwCl [(cn, .inr (1, [.ref b, .ref cw, .ref cv, .long (nL (czN 5 w (((czN 2 w (rnV (nx1 (nxF fs nl n fe fl (nI 0))) (nx1 (nxF fs nl n fe fl (nI r9))) t9 w x, 10 ^ w)).1), ((czN 2 w (rnV (nx1 (nxF fs nl n fe fl (nI 0))) (nx1 (nxF fs nl n fe fl (nI r9))) t9 w x, 10 ^ w)).2))).1), .long (nL (czN 5 w (((czN 2 w (rnV (nx1 (nxF fs nl n fe fl (nI 0))) (nx1 (nxF fs nl n fe fl (nI r9))) t9 w x, 10 ^ w)).1), ((czN 2 w (rnV (nx1 (nxF fs nl n fe fl (nI 0))) (nx1 (nxF fs nl n fe fl (nI r9))) t9 w x, 10 ^ w)).2))).2), .int lah, .int lmh, .int fin])), (b, .inr (0, [.ref g, .ref bt, .ref bc, .ref bs, .int hg])), (g, .inr (3, [.ref ge, .ref gl, .ref gb, .ref gw, .ref gsw, .ref gsh, .int (nI ns), .int (nI n), .int fi])), (ge, .inl (cI, 6, .inl fe)), (gl, .inl (cI, 6, .inl fl)), (bc, .inl (cI, 6, .inl cm)), (bs, .inl (cI, 20, .inl fk)), (gw, .inr (4, [.ref sg, .int (nI nl)])), (sg, .inl (cI, 20, .inl fs)), (cw, .inl (cJ, 24, .inr (.inl wf))), (cv, .inl (cJ, 24, .inr (.inl vf)))] H := hP
              have hD : va_D A [(cn, .inr (1, [.ref b, .ref cw, .ref cv, .long (nL (czN 5 w (((czN 2 w (rnV (nx1 (nxF fs nl n fe fl (nI 0))) (nx1 (nxF fs nl n fe fl (nI r9))) t9 w x, 10 ^ w)).1), ((czN 2 w (rnV (nx1 (nxF fs nl n fe fl (nI 0))) (nx1 (nxF fs nl n fe fl (nI r9))) t9 w x, 10 ^ w)).2))).1), .long (nL (czN 5 w (((czN 2 w (rnV (nx1 (nxF fs nl n fe fl (nI 0))) (nx1 (nxF fs nl n fe fl (nI r9))) t9 w x, 10 ^ w)).1), ((czN 2 w (rnV (nx1 (nxF fs nl n fe fl (nI 0))) (nx1 (nxF fs nl n fe fl (nI r9))) t9 w x, 10 ^ w)).2))).2), .int lah, .int lmh, .int fin])), (b, .inr (0, [.ref g, .ref bt, .ref bc, .ref bs, .int hg])), (g, .inr (3, [.ref ge, .ref gl, .ref gb, .ref gw, .ref gsw, .ref gsh, .int (nI ns), .int (nI n), .int fi])), (ge, .inl (cI, 6, .inl fe)), (gl, .inl (cI, 6, .inl fl)), (bc, .inl (cI, 6, .inl cm)), (bs, .inl (cI, 20, .inl fk)), (gw, .inr (4, [.ref sg, .int (nI nl)])), (sg, .inl (cI, 20, .inl fs)), (cw, .inl (cJ, 24, .inr (.inl wf))), (cv, .inl (cJ, 24, .inr (.inl vf)))] := hD
              have hcz := cz_gcd (rnV (nx1 (nxF fs nl n fe fl (nI 0))) (nx1 (nxF fs nl n fe fl (nI r9))) t9 w x) w
              have e8 : nL (czN 5 w (((czN 2 w (rnV (nx1 (nxF fs nl n fe fl (nI 0))) (nx1 (nxF fs nl n fe fl (nI r9))) t9 w x, 10 ^ w)).1), ((czN 2 w (rnV (nx1 (nxF fs nl n fe fl (nI 0))) (nx1 (nxF fs nl n fe fl (nI r9))) t9 w x, 10 ^ w)).2))).1 = nL ((rnV (nx1 (nxF fs nl n fe fl (nI 0))) (nx1 (nxF fs nl n fe fl (nI r9))) t9 w x) / Nat.gcd (rnV (nx1 (nxF fs nl n fe fl (nI 0))) (nx1 (nxF fs nl n fe fl (nI r9))) t9 w x) (10 ^ w)) := congrArg nL (congrArg Prod.fst hcz)
              rw [e8] at hP hD
              have e8 : nL (czN 5 w (((czN 2 w (rnV (nx1 (nxF fs nl n fe fl (nI 0))) (nx1 (nxF fs nl n fe fl (nI r9))) t9 w x, 10 ^ w)).1), ((czN 2 w (rnV (nx1 (nxF fs nl n fe fl (nI 0))) (nx1 (nxF fs nl n fe fl (nI r9))) t9 w x, 10 ^ w)).2))).2 = nL (10 ^ w / Nat.gcd (rnV (nx1 (nxF fs nl n fe fl (nI 0))) (nx1 (nxF fs nl n fe fl (nI r9))) t9 w x) (10 ^ w)) := congrArg nL (congrArg Prod.snd hcz)
              rw [e8] at hP hD
              exact hret ((wf, vf, cm, fk, hg)) _ _ _ _ dX1_rainOn_111 trivial hP hD hS
            · refine lv_aload_n hx hb dX1_rainOn_69 rfl (lv_at hl 0 rfl) ?_
              refine lv_dup hx hb dX1_rainOn_70 rfl ?_
              refine va_get (D := D) (ci := 1) (v := .long (nL (smN (fun h => h * wkN (nx1 (nxF fs nl n fe fl (nI 0))) (nx1 (nxF fs nl n fe fl (nI r9))) t9 x w h) k))) (C := RX1) (T := TX1) (N := 8) hx hb hts hi1 hown hK hP 0 rfl rfl 3 (by decide) hw3 (fun _ h9 => h9) rfl dX1_rainOn_71 ?_
              refine lv_iload hx hb dX1_rainOn_74 (lv_at hl 2 rfl) ?_
              refine lv_i2l (v := (nI k).toInt64) hx hb dX1_rainOn_76 rfl ?_
              refine lv_aload_n hx hb dX1_rainOn_77 rfl (lv_at hl 0 rfl) ?_
              refine va_get (D := D) (ci := 1) (v := .ref cw) (C := RX1) (T := TX1) (N := 8) hx hb hts hi1 hown hK hP 0 rfl rfl 1 (by decide) hw0 (fun _ h9 => h9) rfl dX1_rainOn_78 ?_
              refine lv_iload hx hb dX1_rainOn_81 (lv_at hl 2 rfl) ?_
              refine lald_n (k := k) hx hb hK hP 9 1 rfl rfl (by omega) (by omega) dX1_rainOn_83 ?_
              refine lv_lmul hx hb dX1_rainOn_84 ?_
              refine lv_ladd hx hb dX1_rainOn_85 ?_
              refine va_put (D := D) (ci := 1) (v := .long ((nL (smN (fun h => h * wkN (nx1 (nxF fs nl n fe fl (nI 0))) (nx1 (nxF fs nl n fe fl (nI r9))) t9 x w h) k)) + (((nI k).toInt64) * (wf k)))) (ty := .long) (C := RX1) (T := TX1) (N := 8) hx hb hts hi1 tyX1 tyX1_ok nmX1 hown hK hP hD hS 0 rfl rfl 3 (by decide) hw3 (fun _ h9 => h9) rfl (by decide +kernel) rfl rfl (Nat.le_of_ble_eq_true rfl) dX1_rainOn_86 (fun H locs hP hD hS => ?_)
              have hP : va_P D vwCl [(cn, .inr (1, [.ref b, .ref cw, .ref cv, .long ((nL (smN (fun h => h * wkN (nx1 (nxF fs nl n fe fl (nI 0))) (nx1 (nxF fs nl n fe fl (nI r9))) t9 x w h) k)) + (((nI k).toInt64) * (wf k))), .long (nL (10 ^ w)), .int lah, .int lmh, .int fin])), (b, .inr (0, [.ref g, .ref bt, .ref bc, .ref bs, .int hg])), (g, .inr (3, [.ref ge, .ref gl, .ref gb, .ref gw, .ref gsw, .ref gsh, .int (nI ns), .int (nI n), .int fi])), (ge, .inl (cI, 6, .inl fe)), (gl, .inl (cI, 6, .inl fl)), (bc, .inl (cI, 6, .inl cm)), (bs, .inl (cI, 20, .inl fk)), (gw, .inr (4, [.ref sg, .int (nI nl)])), (sg, .inl (cI, 20, .inl fs)), (cw, .inl (cJ, 24, .inr (.inl wf))), (cv, .inl (cJ, 24, .inr (.inl vf)))] H := hP
              have hD : va_D A [(cn, .inr (1, [.ref b, .ref cw, .ref cv, .long ((nL (smN (fun h => h * wkN (nx1 (nxF fs nl n fe fl (nI 0))) (nx1 (nxF fs nl n fe fl (nI r9))) t9 x w h) k)) + (((nI k).toInt64) * (wf k))), .long (nL (10 ^ w)), .int lah, .int lmh, .int fin])), (b, .inr (0, [.ref g, .ref bt, .ref bc, .ref bs, .int hg])), (g, .inr (3, [.ref ge, .ref gl, .ref gb, .ref gw, .ref gsw, .ref gsh, .int (nI ns), .int (nI n), .int fi])), (ge, .inl (cI, 6, .inl fe)), (gl, .inl (cI, 6, .inl fl)), (bc, .inl (cI, 6, .inl cm)), (bs, .inl (cI, 20, .inl fk)), (gw, .inr (4, [.ref sg, .int (nI nl)])), (sg, .inl (cI, 20, .inl fs)), (cw, .inl (cJ, 24, .inr (.inl wf))), (cv, .inl (cJ, 24, .inr (.inl vf)))] := hD
              refine lv_iinc (v := nI (k + 1)) (lv' := [(5, .int (nI (k + 1))), (0, .ref cn), (2, .int (nI w))]) hx hb dX1_rainOn_89 hl (k := 2) rfl (nI_1 k) (by decide) rfl (fun ls hl => ?_)
              refine lv_goto (tgt := 62) hx hb dX1_rainOn_92 (by decide) ?_
              have e8 : (nL (smN (fun h => h * wkN (nx1 (nxF fs nl n fe fl (nI 0))) (nx1 (nxF fs nl n fe fl (nI r9))) t9 x w h) k)) + (((nI k).toInt64) * (wf k)) = nL (smN (fun h => h * wkN (nx1 (nxF fs nl n fe fl (nI 0))) (nx1 (nxF fs nl n fe fl (nI r9))) t9 x w h) (k + 1)) := by rw [nI_L (by omega), hW9 k (by omega), nL_mul, nL_add]; rfl
              rw [e8] at hP hD
              exact ih62 (k + 1) ((by omega)) (by omega) _ _ hP hD hS _ (lv_sub hl [1, 2, 0] rfl)
        exact L62 _ 0 ((Nat.zero_le _)) (Nat.lt_succ_self _) _ _ hP hD hS _ (lv_sub hl [1, 3, 0] rfl)
      · refine lv_aload_n hx hb dX1_rainOn_29 rfl (lv_at hl 0 rfl) ?_
        refine lv_iload_n hx hb dX1_rainOn_30 rfl (lv_at hl 3 rfl) ?_
        refine lv_iload hx hb dX1_rainOn_31 (lv_at hl 4 rfl) ?_
        refine cal_v (run_V (As := [.int (nI t9), .int (nI r9)]) (rest := []) SF (c_rainOneWeek l D cI cJ cZ cG cM cn cw cv up (nL (10 ^ k)) lah lmh fin b bt bc bs g ge gl gb gw gsw gsh fi n ns sg nl hg wf vf cm fk fs fe fl hV h1 h6 (wkN (nx1 (nxF fs nl n fe fl (nI 0))) (nx1 (nxF fs nl n fe fl (nI r9))) t9 x k) t9 r9 ht9 hW (fun h9 hh => by have := wkN_le (D := (nx1 (nxF fs nl n fe fl (nI 0)))) (W := (nx1 (nxF fs nl n fe fl (nI r9)))) (fun h => nx1_le (FR_F _ _ _ _ _ _) h) (fun h => nx1_le (FR_F _ _ _ _ _ _) h) ht9 hx9 k hh; have := p10_le (w := k) (by omega); omega)) (cwV 2 hts gX1_rainOn_X1_rainOneWeek rfl rfl rfl (by decide +kernel) ⟨Nat.le_of_ble_eq_true rfl, Nat.le_of_ble_eq_true rfl⟩) hN hK hP hD [0, 1, 2, 3, 4, 5, 6, 7, 8, 9, 10] rfl (by decide) 1 0 rfl rfl rfl rfl hl.1 rfl (Nat.le_of_ble_eq_true rfl) dX1_rainOn_33 ⟨Nat.le_of_ble_eq_true rfl, Nat.le_of_ble_eq_true rfl⟩) ⟨rfl, rfl⟩ hP hD hS hA [0, 1, 2, 3, 4, 5, 6, 7, 8, 9, 10] rfl (fun _ => rfl) (fun u33 H locs hw hP hD hS => ?_)
        have hP : va_P D vwCl [(cn, .inr (1, [.ref b, .ref cw, .ref cv, .long up, .long (nL (10 ^ k)), .int lah, .int lmh, .int fin])), (b, .inr (0, [.ref g, .ref bt, .ref bc, .ref bs, .int u33.2.2.2.2])), (g, .inr (3, [.ref ge, .ref gl, .ref gb, .ref gw, .ref gsw, .ref gsh, .int (nI ns), .int (nI n), .int fi])), (ge, .inl (cI, 6, .inl fe)), (gl, .inl (cI, 6, .inl fl)), (bc, .inl (cI, 6, .inl u33.2.2.1)), (bs, .inl (cI, 20, .inl u33.2.2.2.1)), (gw, .inr (4, [.ref sg, .int (nI nl)])), (sg, .inl (cI, 20, .inl fs)), (cw, .inl (cJ, 24, .inr (.inl u33.1))), (cv, .inl (cJ, 24, .inr (.inl u33.2.1)))] H := hP
        have hD : va_D A [(cn, .inr (1, [.ref b, .ref cw, .ref cv, .long up, .long (nL (10 ^ k)), .int lah, .int lmh, .int fin])), (b, .inr (0, [.ref g, .ref bt, .ref bc, .ref bs, .int u33.2.2.2.2])), (g, .inr (3, [.ref ge, .ref gl, .ref gb, .ref gw, .ref gsw, .ref gsh, .int (nI ns), .int (nI n), .int fi])), (ge, .inl (cI, 6, .inl fe)), (gl, .inl (cI, 6, .inl fl)), (bc, .inl (cI, 6, .inl u33.2.2.1)), (bs, .inl (cI, 20, .inl u33.2.2.2.1)), (gw, .inr (4, [.ref sg, .int (nI nl)])), (sg, .inl (cI, 20, .inl fs)), (cw, .inl (cJ, 24, .inr (.inl u33.1))), (cv, .inl (cJ, 24, .inr (.inl u33.2.1)))] := hD
        refine lv_aload_n hx hb dX1_rainOn_36 rfl (lv_at hl 0 rfl) ?_
        refine lv_dup hx hb dX1_rainOn_37 rfl ?_
        refine va_get (D := D) (ci := 1) (v := .long (nL (10 ^ k))) (C := RX1) (T := TX1) (N := 8) hx hb hts hi1 hown hK hP 0 rfl rfl 4 (by decide) hw2 (fun _ h9 => h9) rfl dX1_rainOn_38 ?_
        refine lv_ldc2 (v := 10) hx hb hown hw6 dX1_rainOn_41 ?_
        refine lv_lmul hx hb dX1_rainOn_44 ?_
        refine va_put (D := D) (ci := 1) (v := .long ((nL (10 ^ k)) * 10)) (ty := .long) (C := RX1) (T := TX1) (N := 8) hx hb hts hi1 tyX1 tyX1_ok nmX1 hown hK hP hD hS 0 rfl rfl 4 (by decide) hw2 (fun _ h9 => h9) rfl (by decide +kernel) rfl rfl (Nat.le_of_ble_eq_true rfl) dX1_rainOn_45 (fun H locs hP hD hS => ?_)
        have hP : va_P D vwCl [(cn, .inr (1, [.ref b, .ref cw, .ref cv, .long up, .long ((nL (10 ^ k)) * 10), .int lah, .int lmh, .int fin])), (b, .inr (0, [.ref g, .ref bt, .ref bc, .ref bs, .int u33.2.2.2.2])), (g, .inr (3, [.ref ge, .ref gl, .ref gb, .ref gw, .ref gsw, .ref gsh, .int (nI ns), .int (nI n), .int fi])), (ge, .inl (cI, 6, .inl fe)), (gl, .inl (cI, 6, .inl fl)), (bc, .inl (cI, 6, .inl u33.2.2.1)), (bs, .inl (cI, 20, .inl u33.2.2.2.1)), (gw, .inr (4, [.ref sg, .int (nI nl)])), (sg, .inl (cI, 20, .inl fs)), (cw, .inl (cJ, 24, .inr (.inl u33.1))), (cv, .inl (cJ, 24, .inr (.inl u33.2.1)))] H := hP
        have hD : va_D A [(cn, .inr (1, [.ref b, .ref cw, .ref cv, .long up, .long ((nL (10 ^ k)) * 10), .int lah, .int lmh, .int fin])), (b, .inr (0, [.ref g, .ref bt, .ref bc, .ref bs, .int u33.2.2.2.2])), (g, .inr (3, [.ref ge, .ref gl, .ref gb, .ref gw, .ref gsw, .ref gsh, .int (nI ns), .int (nI n), .int fi])), (ge, .inl (cI, 6, .inl fe)), (gl, .inl (cI, 6, .inl fl)), (bc, .inl (cI, 6, .inl u33.2.2.1)), (bs, .inl (cI, 20, .inl u33.2.2.2.1)), (gw, .inr (4, [.ref sg, .int (nI nl)])), (sg, .inl (cI, 20, .inl fs)), (cw, .inl (cJ, 24, .inr (.inl u33.1))), (cv, .inl (cJ, 24, .inr (.inl u33.2.1)))] := hD
        refine lv_iinc (v := nI (k + 1)) (lv' := [(5, .int (nI (k + 1))), (0, .ref cn), (1, .int (nI x)), (2, .int (nI w)), (3, .int (nI t9)), (4, .int (nI r9))]) hx hb dX1_rainOn_48 hl (k := 5) rfl (nI_1 k) (by decide) rfl (fun ls hl => ?_)
        refine lv_goto (tgt := 23) hx hb dX1_rainOn_51 (by decide) ?_
        have e8 : (nL (10 ^ k)) * 10 = nL (10 ^ (k + 1)) := by rw [nL_10, nL_mul, Nat.pow_succ]
        rw [e8] at hP hD
        exact ih23 (k + 1) u33.1 u33.2.1 u33.2.2.1 u33.2.2.2.1 u33.2.2.2.2 ((by omega)) hw (by omega) _ _ hP hD hS _ (lv_sub hl [1, 2, 3, 4, 5, 0] rfl)
  exact L23 _ 0 (vp_updL (filJ wf 0 24) x 1) vf cm fk hg ((Nat.zero_le _)) ((fun h9 hh => by by_cases e7 : h9 = x; (rw [e7, pk_uLs]; exact congrArg nL (if_pos rfl).symm); (rw [pk_uLn e7, filJ_in _ _ 24 h9 hh]; exact congrArg nL (if_neg e7).symm))) (Nat.lt_succ_self _) _ _ hP hD hS _ (lv_sub hl [1, 2, 3, 4, 5, 0] rfl)

abbrev rm_X7_rain : Room := { frames := 6, cells := 0, slots := 0, locals := 143 }
set_option maxHeartbeats 1000000 in
set_option maxRecDepth 100000 in
theorem o_rain (l : Launch) (D : va_G) (cI cJ cZ cG cM : ClassId) (xo pd b rg ch cn im : Nat) (cw cv : Nat) (up lo : Int64) (lah lmh fin : Int32) (bt bc bs : Nat) (g ge gl gb gw gsw gsh : Nat) (fi : Int32) (n ns : Nat) (sg nl : Nat) (hg : Int32) (wf vf : Nat → Int64) (cm fk fs fe fl : Nat → Int32) (hV : VL fs nl) (h1 : 1 ≤ n) (h6 : n ≤ 6) (x w t q y : Int32) :
    CL l yX7_rain wsX7_rain rm_X7_rain D [(cI, .int), (cJ, .long), (cZ, .boolean), (cG, .object "LatestSets$Guild"), (cM, .array .int)] [(xo, .inr (7, [.ref g, .ref pd, .ref b, .ref rg, .ref ch, .ref cn, .ref im])), (cn, .inr (1, [.ref b, .ref cw, .ref cv, .long up, .long lo, .int lah, .int lmh, .int fin])), (b, .inr (0, [.ref g, .ref bt, .ref bc, .ref bs, .int hg])), (g, .inr (3, [.ref ge, .ref gl, .ref gb, .ref gw, .ref gsw, .ref gsh, .int (nI ns), .int (nI n), .int fi])), (ge, .inl (cI, 6, .inl fe)), (gl, .inl (cI, 6, .inl fl)), (bc, .inl (cI, 6, .inl cm)), (bs, .inl (cI, 20, .inl fk)), (gw, .inr (4, [.ref sg, .int (nI nl)])), (sg, .inl (cI, 20, .inl fs)), (cw, .inl (cJ, 24, .inr (.inl wf))), (cv, .inl (cJ, 24, .inr (.inl vf)))] [.ref xo, .int x, .int w, .int t, .int q, .int y] (S := ((Nat → Int64) × (Nat → Int64) × (Nat → Int32) × (Nat → Int32) × Int32 × Int64 × Int64)) (fun r u => r = (if (nI 0 ≤ x ∧ x ≤ nI 23) ∧ (nI 0 ≤ w ∧ w ≤ nI 8) ∧ (nI 0 ≤ t ∧ t ≤ nI 10) ∧ (nI 0 ≤ q ∧ q ≤ nI 9) ∧ (nI 0 ≤ y ∧ y ≤ nI 1) then (if y = nI 0 then nL ((rnV (nx1 (nxF fs nl n fe fl (nI 0))) (nx1 (nxF fs nl n fe fl q)) t.toNatClampNeg w.toNatClampNeg x.toNatClampNeg) / Nat.gcd (rnV (nx1 (nxF fs nl n fe fl (nI 0))) (nx1 (nxF fs nl n fe fl q)) t.toNatClampNeg w.toNatClampNeg x.toNatClampNeg) (10 ^ w.toNatClampNeg)) else nL (10 ^ w.toNatClampNeg / Nat.gcd (rnV (nx1 (nxF fs nl n fe fl (nI 0))) (nx1 (nxF fs nl n fe fl q)) t.toNatClampNeg w.toNatClampNeg x.toNatClampNeg) (10 ^ w.toNatClampNeg))) else (-1000000000000000002))) (fun u => [(xo, .inr (7, [.ref g, .ref pd, .ref b, .ref rg, .ref ch, .ref cn, .ref im])), (cn, .inr (1, [.ref b, .ref cw, .ref cv, .long u.2.2.2.2.2.1, .long u.2.2.2.2.2.2, .int lah, .int lmh, .int fin])), (b, .inr (0, [.ref g, .ref bt, .ref bc, .ref bs, .int u.2.2.2.2.1])), (g, .inr (3, [.ref ge, .ref gl, .ref gb, .ref gw, .ref gsw, .ref gsh, .int (nI ns), .int (nI n), .int fi])), (ge, .inl (cI, 6, .inl fe)), (gl, .inl (cI, 6, .inl fl)), (bc, .inl (cI, 6, .inl u.2.2.1)), (bs, .inl (cI, 20, .inl u.2.2.2.1)), (gw, .inr (4, [.ref sg, .int (nI nl)])), (sg, .inl (cI, 20, .inl fs)), (cw, .inl (cJ, 24, .inr (.inl u.1))), (cv, .inl (cJ, 24, .inr (.inl u.2.1)))]) := by
  refine sl_of (cc := cX7_rain) (maxL := 6) (by decide) rfl (Nat.le_of_ble_eq_true rfl) ?_
  intro p e s m args below meth c A ls Q E hret
  obtain ⟨hx, hb, -, hml, hown, hts, -, hin, hA, hK, hP, hD, hS, hl, hN⟩ := E
  have hown : s.vm.findClass RX7 = some m.cls := hown
  have hl : lv_has ls 6 [(0, .ref xo), (1, .int x), (2, .int w), (3, .int t), (4, .int q), (5, .int y)] := hl
  have SF : CallFix p m c cX7_rain 6 s args wsX7_rain RX7 := ⟨hx, hb, hml, hown, hts⟩
  have hw0 := hts (.fieldLink RX7 51 "LatestSets" "chance" "LLatestSets$Chance;") (by decide +kernel)
  have hi7 : ∀ x ∈ wsX70, x ∈ wsX7_rain := by decide +kernel
  have hw2 := hts (.fieldLink RX7 187 "LatestSets$Chance" "lower" "J") (by decide +kernel)
  have hi1 : ∀ x ∈ wsX10, x ∈ wsX7_rain := by decide +kernel
  have hw4 := hts (.fieldLink RX7 183 "LatestSets$Chance" "upper" "J") (by decide +kernel)
  have hw5 := hts (.constantLong RX7 177 (-1000000000000000002)) (by decide +kernel)
  refine lv_iload_n hx hb dX7_rain_0 rfl (lv_at hl 1 rfl) ?_
  refine cal_i (run_S (As := [.int x]) (rest := []) SF (c_isHour l D cI cJ cZ cG cM x) (va_cwS 1 hts gX7_rain_X7_isHour rfl rfl rfl (by decide +kernel) ⟨Nat.le_of_ble_eq_true rfl, Nat.le_of_ble_eq_true rfl⟩) hN hK hP hD [] rfl (by decide) rfl hl.1 rfl (Nat.le_of_ble_eq_true rfl) dX7_rain_1 ⟨Nat.le_of_ble_eq_true rfl, Nat.le_of_ble_eq_true rfl⟩) ⟨rfl, rfl⟩ hP hD hS hA [] rfl (fun _ => rfl) (fun r1 _ H locs hw hP hD hS => ?_)
  have hP : va_P D vwCl [(xo, .inr (7, [.ref g, .ref pd, .ref b, .ref rg, .ref ch, .ref cn, .ref im])), (cn, .inr (1, [.ref b, .ref cw, .ref cv, .long up, .long lo, .int lah, .int lmh, .int fin])), (b, .inr (0, [.ref g, .ref bt, .ref bc, .ref bs, .int hg])), (g, .inr (3, [.ref ge, .ref gl, .ref gb, .ref gw, .ref gsw, .ref gsh, .int (nI ns), .int (nI n), .int fi])), (ge, .inl (cI, 6, .inl fe)), (gl, .inl (cI, 6, .inl fl)), (bc, .inl (cI, 6, .inl cm)), (bs, .inl (cI, 20, .inl fk)), (gw, .inr (4, [.ref sg, .int (nI nl)])), (sg, .inl (cI, 20, .inl fs)), (cw, .inl (cJ, 24, .inr (.inl wf))), (cv, .inl (cJ, 24, .inr (.inl vf)))] H := hP
  have hD : va_D A [(xo, .inr (7, [.ref g, .ref pd, .ref b, .ref rg, .ref ch, .ref cn, .ref im])), (cn, .inr (1, [.ref b, .ref cw, .ref cv, .long up, .long lo, .int lah, .int lmh, .int fin])), (b, .inr (0, [.ref g, .ref bt, .ref bc, .ref bs, .int hg])), (g, .inr (3, [.ref ge, .ref gl, .ref gb, .ref gw, .ref gsw, .ref gsh, .int (nI ns), .int (nI n), .int fi])), (ge, .inl (cI, 6, .inl fe)), (gl, .inl (cI, 6, .inl fl)), (bc, .inl (cI, 6, .inl cm)), (bs, .inl (cI, 20, .inl fk)), (gw, .inr (4, [.ref sg, .int (nI nl)])), (sg, .inl (cI, 20, .inl fs)), (cw, .inl (cJ, 24, .inr (.inl wf))), (cv, .inl (cJ, 24, .inr (.inl vf)))] := hD
  rcases hw with ⟨b1, rfl⟩ | ⟨b1, rfl⟩
  · obtain ⟨kx, k1kx, k2kx, rfl⟩ := nI_rng (by omega) (by omega) b1.1 b1.2
    refine lv_if_eq (tgt := 48) hx hb dX7_rain_4 (by decide) (fun c9 => absurd c9 (by decide)) (fun _ => ?_)
    refine lv_iload_n hx hb dX7_rain_7 rfl (lv_at hl 2 rfl) ?_
    refine lv_iconst (v := nI 0) hx hb dX7_rain_8 (by decide) ?_
    refine lv_bipush (v := nI 8) hx hb dX7_rain_9 (by decide) ?_
    refine cal_i (run_S (As := [.int w, .int (nI 0), .int (nI 8)]) (rest := []) SF (c_within l D cI cJ cZ cG cM w (nI 0) (nI 8)) (va_cwS 3 hts gX7_rain_X7_within rfl rfl rfl (by decide +kernel) ⟨Nat.le_of_ble_eq_true rfl, Nat.le_of_ble_eq_true rfl⟩) hN hK hP hD [] rfl (by decide) rfl hl.1 rfl (Nat.le_of_ble_eq_true rfl) dX7_rain_11 ⟨Nat.le_of_ble_eq_true rfl, Nat.le_of_ble_eq_true rfl⟩) ⟨rfl, rfl⟩ hP hD hS hA [] rfl (fun _ => rfl) (fun r11 _ H locs hw hP hD hS => ?_)
    have hP : va_P D vwCl [(xo, .inr (7, [.ref g, .ref pd, .ref b, .ref rg, .ref ch, .ref cn, .ref im])), (cn, .inr (1, [.ref b, .ref cw, .ref cv, .long up, .long lo, .int lah, .int lmh, .int fin])), (b, .inr (0, [.ref g, .ref bt, .ref bc, .ref bs, .int hg])), (g, .inr (3, [.ref ge, .ref gl, .ref gb, .ref gw, .ref gsw, .ref gsh, .int (nI ns), .int (nI n), .int fi])), (ge, .inl (cI, 6, .inl fe)), (gl, .inl (cI, 6, .inl fl)), (bc, .inl (cI, 6, .inl cm)), (bs, .inl (cI, 20, .inl fk)), (gw, .inr (4, [.ref sg, .int (nI nl)])), (sg, .inl (cI, 20, .inl fs)), (cw, .inl (cJ, 24, .inr (.inl wf))), (cv, .inl (cJ, 24, .inr (.inl vf)))] H := hP
    have hD : va_D A [(xo, .inr (7, [.ref g, .ref pd, .ref b, .ref rg, .ref ch, .ref cn, .ref im])), (cn, .inr (1, [.ref b, .ref cw, .ref cv, .long up, .long lo, .int lah, .int lmh, .int fin])), (b, .inr (0, [.ref g, .ref bt, .ref bc, .ref bs, .int hg])), (g, .inr (3, [.ref ge, .ref gl, .ref gb, .ref gw, .ref gsw, .ref gsh, .int (nI ns), .int (nI n), .int fi])), (ge, .inl (cI, 6, .inl fe)), (gl, .inl (cI, 6, .inl fl)), (bc, .inl (cI, 6, .inl cm)), (bs, .inl (cI, 20, .inl fk)), (gw, .inr (4, [.ref sg, .int (nI nl)])), (sg, .inl (cI, 20, .inl fs)), (cw, .inl (cJ, 24, .inr (.inl wf))), (cv, .inl (cJ, 24, .inr (.inl vf)))] := hD
    rcases hw with ⟨b11, rfl⟩ | ⟨b11, rfl⟩
    · obtain ⟨kw, k1kw, k2kw, rfl⟩ := nI_rng (by omega) (by omega) b11.1 b11.2
      refine lv_if_eq (tgt := 48) hx hb dX7_rain_14 (by decide) (fun c9 => absurd c9 (by decide)) (fun _ => ?_)
      refine lv_iload_n hx hb dX7_rain_17 rfl (lv_at hl 3 rfl) ?_
      refine lv_iconst (v := nI 0) hx hb dX7_rain_18 (by decide) ?_
      refine lv_bipush (v := nI 10) hx hb dX7_rain_19 (by decide) ?_
      refine cal_i (run_S (As := [.int t, .int (nI 0), .int (nI 10)]) (rest := []) SF (c_within l D cI cJ cZ cG cM t (nI 0) (nI 10)) (va_cwS 3 hts gX7_rain_X7_within rfl rfl rfl (by decide +kernel) ⟨Nat.le_of_ble_eq_true rfl, Nat.le_of_ble_eq_true rfl⟩) hN hK hP hD [] rfl (by decide) rfl hl.1 rfl (Nat.le_of_ble_eq_true rfl) dX7_rain_21 ⟨Nat.le_of_ble_eq_true rfl, Nat.le_of_ble_eq_true rfl⟩) ⟨rfl, rfl⟩ hP hD hS hA [] rfl (fun _ => rfl) (fun r21 _ H locs hw hP hD hS => ?_)
      have hP : va_P D vwCl [(xo, .inr (7, [.ref g, .ref pd, .ref b, .ref rg, .ref ch, .ref cn, .ref im])), (cn, .inr (1, [.ref b, .ref cw, .ref cv, .long up, .long lo, .int lah, .int lmh, .int fin])), (b, .inr (0, [.ref g, .ref bt, .ref bc, .ref bs, .int hg])), (g, .inr (3, [.ref ge, .ref gl, .ref gb, .ref gw, .ref gsw, .ref gsh, .int (nI ns), .int (nI n), .int fi])), (ge, .inl (cI, 6, .inl fe)), (gl, .inl (cI, 6, .inl fl)), (bc, .inl (cI, 6, .inl cm)), (bs, .inl (cI, 20, .inl fk)), (gw, .inr (4, [.ref sg, .int (nI nl)])), (sg, .inl (cI, 20, .inl fs)), (cw, .inl (cJ, 24, .inr (.inl wf))), (cv, .inl (cJ, 24, .inr (.inl vf)))] H := hP
      have hD : va_D A [(xo, .inr (7, [.ref g, .ref pd, .ref b, .ref rg, .ref ch, .ref cn, .ref im])), (cn, .inr (1, [.ref b, .ref cw, .ref cv, .long up, .long lo, .int lah, .int lmh, .int fin])), (b, .inr (0, [.ref g, .ref bt, .ref bc, .ref bs, .int hg])), (g, .inr (3, [.ref ge, .ref gl, .ref gb, .ref gw, .ref gsw, .ref gsh, .int (nI ns), .int (nI n), .int fi])), (ge, .inl (cI, 6, .inl fe)), (gl, .inl (cI, 6, .inl fl)), (bc, .inl (cI, 6, .inl cm)), (bs, .inl (cI, 20, .inl fk)), (gw, .inr (4, [.ref sg, .int (nI nl)])), (sg, .inl (cI, 20, .inl fs)), (cw, .inl (cJ, 24, .inr (.inl wf))), (cv, .inl (cJ, 24, .inr (.inl vf)))] := hD
      rcases hw with ⟨b21, rfl⟩ | ⟨b21, rfl⟩
      · obtain ⟨kt, k1kt, k2kt, rfl⟩ := nI_rng (by omega) (by omega) b21.1 b21.2
        refine lv_if_eq (tgt := 48) hx hb dX7_rain_24 (by decide) (fun c9 => absurd c9 (by decide)) (fun _ => ?_)
        refine lv_iload hx hb dX7_rain_27 (lv_at hl 4 rfl) ?_
        refine lv_iconst (v := nI 0) hx hb dX7_rain_29 (by decide) ?_
        refine lv_bipush (v := nI 9) hx hb dX7_rain_30 (by decide) ?_
        refine cal_i (run_S (As := [.int q, .int (nI 0), .int (nI 9)]) (rest := []) SF (c_within l D cI cJ cZ cG cM q (nI 0) (nI 9)) (va_cwS 3 hts gX7_rain_X7_within rfl rfl rfl (by decide +kernel) ⟨Nat.le_of_ble_eq_true rfl, Nat.le_of_ble_eq_true rfl⟩) hN hK hP hD [] rfl (by decide) rfl hl.1 rfl (Nat.le_of_ble_eq_true rfl) dX7_rain_32 ⟨Nat.le_of_ble_eq_true rfl, Nat.le_of_ble_eq_true rfl⟩) ⟨rfl, rfl⟩ hP hD hS hA [] rfl (fun _ => rfl) (fun r32 _ H locs hw hP hD hS => ?_)
        have hP : va_P D vwCl [(xo, .inr (7, [.ref g, .ref pd, .ref b, .ref rg, .ref ch, .ref cn, .ref im])), (cn, .inr (1, [.ref b, .ref cw, .ref cv, .long up, .long lo, .int lah, .int lmh, .int fin])), (b, .inr (0, [.ref g, .ref bt, .ref bc, .ref bs, .int hg])), (g, .inr (3, [.ref ge, .ref gl, .ref gb, .ref gw, .ref gsw, .ref gsh, .int (nI ns), .int (nI n), .int fi])), (ge, .inl (cI, 6, .inl fe)), (gl, .inl (cI, 6, .inl fl)), (bc, .inl (cI, 6, .inl cm)), (bs, .inl (cI, 20, .inl fk)), (gw, .inr (4, [.ref sg, .int (nI nl)])), (sg, .inl (cI, 20, .inl fs)), (cw, .inl (cJ, 24, .inr (.inl wf))), (cv, .inl (cJ, 24, .inr (.inl vf)))] H := hP
        have hD : va_D A [(xo, .inr (7, [.ref g, .ref pd, .ref b, .ref rg, .ref ch, .ref cn, .ref im])), (cn, .inr (1, [.ref b, .ref cw, .ref cv, .long up, .long lo, .int lah, .int lmh, .int fin])), (b, .inr (0, [.ref g, .ref bt, .ref bc, .ref bs, .int hg])), (g, .inr (3, [.ref ge, .ref gl, .ref gb, .ref gw, .ref gsw, .ref gsh, .int (nI ns), .int (nI n), .int fi])), (ge, .inl (cI, 6, .inl fe)), (gl, .inl (cI, 6, .inl fl)), (bc, .inl (cI, 6, .inl cm)), (bs, .inl (cI, 20, .inl fk)), (gw, .inr (4, [.ref sg, .int (nI nl)])), (sg, .inl (cI, 20, .inl fs)), (cw, .inl (cJ, 24, .inr (.inl wf))), (cv, .inl (cJ, 24, .inr (.inl vf)))] := hD
        rcases hw with ⟨b32, rfl⟩ | ⟨b32, rfl⟩
        · obtain ⟨kq, k1kq, k2kq, rfl⟩ := nI_rng (by omega) (by omega) b32.1 b32.2
          refine lv_if_eq (tgt := 48) hx hb dX7_rain_35 (by decide) (fun c9 => absurd c9 (by decide)) (fun _ => ?_)
          refine lv_iload hx hb dX7_rain_38 (lv_at hl 5 rfl) ?_
          refine lv_iconst (v := nI 0) hx hb dX7_rain_40 (by decide) ?_
          refine lv_iconst (v := nI 1) hx hb dX7_rain_41 (by decide) ?_
          refine cal_i (run_S (As := [.int y, .int (nI 0), .int (nI 1)]) (rest := []) SF (c_within l D cI cJ cZ cG cM y (nI 0) (nI 1)) (va_cwS 3 hts gX7_rain_X7_within rfl rfl rfl (by decide +kernel) ⟨Nat.le_of_ble_eq_true rfl, Nat.le_of_ble_eq_true rfl⟩) hN hK hP hD [] rfl (by decide) rfl hl.1 rfl (Nat.le_of_ble_eq_true rfl) dX7_rain_42 ⟨Nat.le_of_ble_eq_true rfl, Nat.le_of_ble_eq_true rfl⟩) ⟨rfl, rfl⟩ hP hD hS hA [] rfl (fun _ => rfl) (fun r42 _ H locs hw hP hD hS => ?_)
          have hP : va_P D vwCl [(xo, .inr (7, [.ref g, .ref pd, .ref b, .ref rg, .ref ch, .ref cn, .ref im])), (cn, .inr (1, [.ref b, .ref cw, .ref cv, .long up, .long lo, .int lah, .int lmh, .int fin])), (b, .inr (0, [.ref g, .ref bt, .ref bc, .ref bs, .int hg])), (g, .inr (3, [.ref ge, .ref gl, .ref gb, .ref gw, .ref gsw, .ref gsh, .int (nI ns), .int (nI n), .int fi])), (ge, .inl (cI, 6, .inl fe)), (gl, .inl (cI, 6, .inl fl)), (bc, .inl (cI, 6, .inl cm)), (bs, .inl (cI, 20, .inl fk)), (gw, .inr (4, [.ref sg, .int (nI nl)])), (sg, .inl (cI, 20, .inl fs)), (cw, .inl (cJ, 24, .inr (.inl wf))), (cv, .inl (cJ, 24, .inr (.inl vf)))] H := hP
          have hD : va_D A [(xo, .inr (7, [.ref g, .ref pd, .ref b, .ref rg, .ref ch, .ref cn, .ref im])), (cn, .inr (1, [.ref b, .ref cw, .ref cv, .long up, .long lo, .int lah, .int lmh, .int fin])), (b, .inr (0, [.ref g, .ref bt, .ref bc, .ref bs, .int hg])), (g, .inr (3, [.ref ge, .ref gl, .ref gb, .ref gw, .ref gsw, .ref gsh, .int (nI ns), .int (nI n), .int fi])), (ge, .inl (cI, 6, .inl fe)), (gl, .inl (cI, 6, .inl fl)), (bc, .inl (cI, 6, .inl cm)), (bs, .inl (cI, 20, .inl fk)), (gw, .inr (4, [.ref sg, .int (nI nl)])), (sg, .inl (cI, 20, .inl fs)), (cw, .inl (cJ, 24, .inr (.inl wf))), (cv, .inl (cJ, 24, .inr (.inl vf)))] := hD
          rcases hw with ⟨b42, rfl⟩ | ⟨b42, rfl⟩
          · obtain ⟨ky, k1ky, k2ky, rfl⟩ := nI_rng (by omega) (by omega) b42.1 b42.2
            refine lv_if_ne (tgt := 52) hx hb dX7_rain_45 (by decide) (fun _ => ?_) (fun c9 => absurd c9 (by decide))
            refine lv_aload_n hx hb dX7_rain_52 rfl (lv_at hl 0 rfl) ?_
            refine va_get (D := D) (ci := 7) (v := .ref cn) (C := RX7) (T := TX7) (N := 7) hx hb hts hi7 hown hK hP 0 rfl rfl 5 (by decide) hw0 (fun _ h9 => h9) rfl dX7_rain_53 ?_
            refine lv_iload_n hx hb dX7_rain_56 rfl (lv_at hl 1 rfl) ?_
            refine lv_iload_n hx hb dX7_rain_57 rfl (lv_at hl 2 rfl) ?_
            refine lv_iload_n hx hb dX7_rain_58 rfl (lv_at hl 3 rfl) ?_
            refine lv_iload hx hb dX7_rain_59 (lv_at hl 4 rfl) ?_
            refine cal_v (run_V (As := [.int (nI kx), .int (nI kw), .int (nI kt), .int (nI kq)]) (rest := []) SF (c_rainOn l D cI cJ cZ cG cM cn cw cv up lo lah lmh fin b bt bc bs g ge gl gb gw gsw gsh fi n ns sg nl hg wf vf cm fk fs fe fl hV h1 h6 kx kw kt kq (by omega) (by omega) (by omega)) (cwV 4 hts gX7_rain_X1_rainOn rfl rfl rfl (by decide +kernel) ⟨Nat.le_of_ble_eq_true rfl, Nat.le_of_ble_eq_true rfl⟩) hN hK hP hD [1, 2, 3, 4, 5, 6, 7, 8, 9, 10, 11] rfl (by decide) 1 1 rfl rfl rfl rfl hl.1 rfl (Nat.le_of_ble_eq_true rfl) dX7_rain_61 ⟨Nat.le_of_ble_eq_true rfl, Nat.le_of_ble_eq_true rfl⟩) ⟨rfl, rfl⟩ hP hD hS hA [1, 2, 3, 4, 5, 6, 7, 8, 9, 10, 11] rfl (fun _ => rfl) (fun u61 H locs hw hP hD hS => ?_)
            have hP : va_P D vwCl [(xo, .inr (7, [.ref g, .ref pd, .ref b, .ref rg, .ref ch, .ref cn, .ref im])), (cn, .inr (1, [.ref b, .ref cw, .ref cv, .long (nL ((rnV (nx1 (nxF fs nl n fe fl (nI 0))) (nx1 (nxF fs nl n fe fl (nI kq))) kt kw kx) / Nat.gcd (rnV (nx1 (nxF fs nl n fe fl (nI 0))) (nx1 (nxF fs nl n fe fl (nI kq))) kt kw kx) (10 ^ kw))), .long (nL (10 ^ kw / Nat.gcd (rnV (nx1 (nxF fs nl n fe fl (nI 0))) (nx1 (nxF fs nl n fe fl (nI kq))) kt kw kx) (10 ^ kw))), .int lah, .int lmh, .int fin])), (b, .inr (0, [.ref g, .ref bt, .ref bc, .ref bs, .int u61.2.2.2.2])), (g, .inr (3, [.ref ge, .ref gl, .ref gb, .ref gw, .ref gsw, .ref gsh, .int (nI ns), .int (nI n), .int fi])), (ge, .inl (cI, 6, .inl fe)), (gl, .inl (cI, 6, .inl fl)), (bc, .inl (cI, 6, .inl u61.2.2.1)), (bs, .inl (cI, 20, .inl u61.2.2.2.1)), (gw, .inr (4, [.ref sg, .int (nI nl)])), (sg, .inl (cI, 20, .inl fs)), (cw, .inl (cJ, 24, .inr (.inl u61.1))), (cv, .inl (cJ, 24, .inr (.inl u61.2.1)))] H := hP
            have hD : va_D A [(xo, .inr (7, [.ref g, .ref pd, .ref b, .ref rg, .ref ch, .ref cn, .ref im])), (cn, .inr (1, [.ref b, .ref cw, .ref cv, .long (nL ((rnV (nx1 (nxF fs nl n fe fl (nI 0))) (nx1 (nxF fs nl n fe fl (nI kq))) kt kw kx) / Nat.gcd (rnV (nx1 (nxF fs nl n fe fl (nI 0))) (nx1 (nxF fs nl n fe fl (nI kq))) kt kw kx) (10 ^ kw))), .long (nL (10 ^ kw / Nat.gcd (rnV (nx1 (nxF fs nl n fe fl (nI 0))) (nx1 (nxF fs nl n fe fl (nI kq))) kt kw kx) (10 ^ kw))), .int lah, .int lmh, .int fin])), (b, .inr (0, [.ref g, .ref bt, .ref bc, .ref bs, .int u61.2.2.2.2])), (g, .inr (3, [.ref ge, .ref gl, .ref gb, .ref gw, .ref gsw, .ref gsh, .int (nI ns), .int (nI n), .int fi])), (ge, .inl (cI, 6, .inl fe)), (gl, .inl (cI, 6, .inl fl)), (bc, .inl (cI, 6, .inl u61.2.2.1)), (bs, .inl (cI, 20, .inl u61.2.2.2.1)), (gw, .inr (4, [.ref sg, .int (nI nl)])), (sg, .inl (cI, 20, .inl fs)), (cw, .inl (cJ, 24, .inr (.inl u61.1))), (cv, .inl (cJ, 24, .inr (.inl u61.2.1)))] := hD
            refine lv_iload hx hb dX7_rain_64 (lv_at hl 5 rfl) ?_
            refine if_ne_n (a := ky) (tgt := 79) hx hb dX7_rain_66 (by decide) (by omega) (fun c66 => ?_) (fun c66 => ?_)
            · refine lv_aload_n hx hb dX7_rain_79 rfl (lv_at hl 0 rfl) ?_
              refine va_get (D := D) (ci := 7) (v := .ref cn) (C := RX7) (T := TX7) (N := 7) hx hb hts hi7 hown hK hP 0 rfl rfl 5 (by decide) hw0 (fun _ h9 => h9) rfl dX7_rain_80 ?_
              refine va_get (D := D) (ci := 1) (v := .long (nL (10 ^ kw / Nat.gcd (rnV (nx1 (nxF fs nl n fe fl (nI 0))) (nx1 (nxF fs nl n fe fl (nI kq))) kt kw kx) (10 ^ kw)))) (C := RX1) (T := TX1) (N := 8) hx hb hts hi1 hown hK hP 1 rfl rfl 4 (by decide) hw2 (fun _ h9 => h9) rfl dX7_rain_83 ?_
              exact hret (nL (10 ^ kw / Nat.gcd (rnV (nx1 (nxF fs nl n fe fl (nI 0))) (nx1 (nxF fs nl n fe fl (nI kq))) kt kw kx) (10 ^ kw))) ((u61.1, u61.2.1, u61.2.2.1, u61.2.2.2.1, u61.2.2.2.2, nL ((rnV (nx1 (nxF fs nl n fe fl (nI 0))) (nx1 (nxF fs nl n fe fl (nI kq))) kt kw kx) / Nat.gcd (rnV (nx1 (nxF fs nl n fe fl (nI 0))) (nx1 (nxF fs nl n fe fl (nI kq))) kt kw kx) (10 ^ kw)), nL (10 ^ kw / Nat.gcd (rnV (nx1 (nxF fs nl n fe fl (nI 0))) (nx1 (nxF fs nl n fe fl (nI kq))) kt kw kx) (10 ^ kw)))) _ _ _ _ dX7_rain_86 (by rw [if_pos ⟨b1, b11, b21, b32, b42⟩, nI_clamp (by omega), nI_clamp (by omega), nI_clamp (by omega)]; rw [if_neg (by rw [nI_eq (by omega) (by omega)]; omega)]) hP hD hS
            · refine lv_aload_n hx hb dX7_rain_69 rfl (lv_at hl 0 rfl) ?_
              refine va_get (D := D) (ci := 7) (v := .ref cn) (C := RX7) (T := TX7) (N := 7) hx hb hts hi7 hown hK hP 0 rfl rfl 5 (by decide) hw0 (fun _ h9 => h9) rfl dX7_rain_70 ?_
              refine va_get (D := D) (ci := 1) (v := .long (nL ((rnV (nx1 (nxF fs nl n fe fl (nI 0))) (nx1 (nxF fs nl n fe fl (nI kq))) kt kw kx) / Nat.gcd (rnV (nx1 (nxF fs nl n fe fl (nI 0))) (nx1 (nxF fs nl n fe fl (nI kq))) kt kw kx) (10 ^ kw)))) (C := RX1) (T := TX1) (N := 8) hx hb hts hi1 hown hK hP 1 rfl rfl 3 (by decide) hw4 (fun _ h9 => h9) rfl dX7_rain_73 ?_
              refine lv_goto (tgt := 86) hx hb dX7_rain_76 (by decide) ?_
              exact hret (nL ((rnV (nx1 (nxF fs nl n fe fl (nI 0))) (nx1 (nxF fs nl n fe fl (nI kq))) kt kw kx) / Nat.gcd (rnV (nx1 (nxF fs nl n fe fl (nI 0))) (nx1 (nxF fs nl n fe fl (nI kq))) kt kw kx) (10 ^ kw))) ((u61.1, u61.2.1, u61.2.2.1, u61.2.2.2.1, u61.2.2.2.2, nL ((rnV (nx1 (nxF fs nl n fe fl (nI 0))) (nx1 (nxF fs nl n fe fl (nI kq))) kt kw kx) / Nat.gcd (rnV (nx1 (nxF fs nl n fe fl (nI 0))) (nx1 (nxF fs nl n fe fl (nI kq))) kt kw kx) (10 ^ kw)), nL (10 ^ kw / Nat.gcd (rnV (nx1 (nxF fs nl n fe fl (nI 0))) (nx1 (nxF fs nl n fe fl (nI kq))) kt kw kx) (10 ^ kw)))) _ _ _ _ dX7_rain_86 (by rw [if_pos ⟨b1, b11, b21, b32, b42⟩, nI_clamp (by omega), nI_clamp (by omega), nI_clamp (by omega)]; rw [if_pos (by rw [c66])]) hP hD hS
          · refine lv_if_ne (tgt := 52) hx hb dX7_rain_45 (by decide) (fun c9 => absurd c9 (by decide)) (fun _ => ?_)
            refine lv_ldc2 (v := -1000000000000000002) hx hb hown hw5 dX7_rain_48 ?_
            exact hret ((-1000000000000000002)) ((wf, vf, cm, fk, hg, up, lo)) _ _ _ _ dX7_rain_51 (by rw [if_neg (fun z => b42 z.2.2.2.2)]) hP hD hS
        · refine lv_if_eq (tgt := 48) hx hb dX7_rain_35 (by decide) (fun _ => ?_) (fun c9 => absurd (by decide) c9)
          refine lv_ldc2 (v := -1000000000000000002) hx hb hown hw5 dX7_rain_48 ?_
          exact hret ((-1000000000000000002)) ((wf, vf, cm, fk, hg, up, lo)) _ _ _ _ dX7_rain_51 (by rw [if_neg (fun z => b32 z.2.2.2.1)]) hP hD hS
      · refine lv_if_eq (tgt := 48) hx hb dX7_rain_24 (by decide) (fun _ => ?_) (fun c9 => absurd (by decide) c9)
        refine lv_ldc2 (v := -1000000000000000002) hx hb hown hw5 dX7_rain_48 ?_
        exact hret ((-1000000000000000002)) ((wf, vf, cm, fk, hg, up, lo)) _ _ _ _ dX7_rain_51 (by rw [if_neg (fun z => b21 z.2.2.1)]) hP hD hS
    · refine lv_if_eq (tgt := 48) hx hb dX7_rain_14 (by decide) (fun _ => ?_) (fun c9 => absurd (by decide) c9)
      refine lv_ldc2 (v := -1000000000000000002) hx hb hown hw5 dX7_rain_48 ?_
      exact hret ((-1000000000000000002)) ((wf, vf, cm, fk, hg, up, lo)) _ _ _ _ dX7_rain_51 (by rw [if_neg (fun z => b11 z.2.1)]) hP hD hS
  · refine lv_if_eq (tgt := 48) hx hb dX7_rain_4 (by decide) (fun _ => ?_) (fun c9 => absurd (by decide) c9)
    refine lv_ldc2 (v := -1000000000000000002) hx hb hown hw5 dX7_rain_48 ?_
    exact hret ((-1000000000000000002)) ((wf, vf, cm, fk, hg, up, lo)) _ _ _ _ dX7_rain_51 (by rw [if_neg (fun z => b1 z.1)]) hP hD hS

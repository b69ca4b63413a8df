abbrev rm_X0_hourAfter : Room := { frames := 4, cells := 0, slots := 0, locals := 93 }
set_option maxHeartbeats 4000000 in
set_option maxRecDepth 100000 in
theorem c_hourAfter (l : Launch) (D : va_G) (cI cJ cZ cG cM : ClassId) (b bt bc bs : Nat) (g ge gl gb gw gsw gsh : Nat) (si fi : Int32) (n : Nat) (sg nl lt : Nat) (hg : Int32) (cm fk fs fe fl : Nat → Int32) (hV : VL fs nl) (h1 : 1 ≤ n) (h6 : n ≤ 6) (h : Int32) (wk : Nat) (hwk : wk < 1000) :
    CI l yX0_hourAfter wsX0_hourAfter rm_X0_hourAfter D [(cI, .int), (cJ, .long), (cZ, .boolean), (cG, .object "LatestSets$Guild"), (cM, .array .int)] [(b, .inr (0, [.ref g, .ref bt, .ref bc, .ref bs, .int hg])), (g, .inr (3, [.ref ge, .ref gl, .ref gb, .ref gw, .ref gsw, .ref gsh, .int si, .int (nI n), .int fi])), (ge, .inl (cI, 6, .inl fe)), (lt, .inl (cI, 6, .inl fl)), (bc, .inl (cI, 6, .inl cm)), (bs, .inl (cI, 20, .inl fk)), (gw, .inr (4, [.ref sg, .int (nI nl)])), (sg, .inl (cI, 20, .inl fs))] [.ref b, .int h, .int (nI wk), .ref lt] (S := ((Nat → Int32) × (Nat → Int32) × Int32)) (fun r u => r = itH (nxF fs nl n fe fl (nI 0)) wk h) (fun u => [(b, .inr (0, [.ref g, .ref bt, .ref bc, .ref bs, .int u.2.2])), (g, .inr (3, [.ref ge, .ref gl, .ref gb, .ref gw, .ref gsw, .ref gsh, .int si, .int (nI n), .int fi])), (ge, .inl (cI, 6, .inl fe)), (lt, .inl (cI, 6, .inl fl)), (bc, .inl (cI, 6, .inl u.1)), (bs, .inl (cI, 20, .inl u.2.1)), (gw, .inr (4, [.ref sg, .int (nI nl)])), (sg, .inl (cI, 20, .inl fs))]) := by
  refine si_of (cc := cX0_hourAfter) (maxL := 7) (by decide) rfl (Nat.le_of_ble_eq_true rfl) ?_
  intro p e s m args below meth c A ls Q E hret
  obtain ⟨hx, hb, -, hml, hown, hts, -, hin, hA, hK, hP, hD, hS, hl, hN⟩ := E
  have hown : s.vm.findClass RX0 = some m.cls := hown
  have hl : lv_has ls 7 [(0, .ref b), (1, .int h), (2, .int (nI wk)), (3, .ref lt)] := hl
  have SF : CallFix p m c cX0_hourAfter 7 s args wsX0_hourAfter RX0 := ⟨hx, hb, hml, hown, hts⟩
  have hw0 := hts (.fieldLink RX0 21 "LatestSets$Board" "guild" "LLatestSets$Guild;") (by decide +kernel)
  have hi0 : ∀ x ∈ wsX00, x ∈ wsX0_hourAfter := by decide +kernel
  have hw2 := hts (.fieldLink RX0 64 "LatestSets$Guild" "law" "LLatestSets$Law;") (by decide +kernel)
  have hi3 : ∀ x ∈ wsX30, x ∈ wsX0_hourAfter := by decide +kernel
  refine lv_iload_n hx hb dX0_hourAfter_0 rfl (lv_at hl 1 rfl) ?_
  refine lv_istore (lv' := [(4, .int h), (0, .ref b), (1, .int h), (2, .int (nI wk)), (3, .ref lt)]) hx hb dX0_hourAfter_1 hl (by decide) rfl (fun ls hl => ?_)
  refine lv_iconst (v := nI 0) hx hb dX0_hourAfter_3 (by decide) ?_
  refine lv_istore (lv' := [(5, .int (nI 0)), (4, .int h), (0, .ref b), (1, .int h), (2, .int (nI wk)), (3, .ref lt)]) hx hb dX0_hourAfter_4 hl (by decide) rfl (fun ls hl => ?_)
  have L6 : ∀ (n9 : Nat) (k : Nat) (cm fk : Nat → Int32) (hg : Int32) (hk : k ≤ wk), wk - k < n9 → ∀ (H : Heap) (locs : List Loc), va_P D vwCl [(b, .inr (0, [.ref g, .ref bt, .ref bc, .ref bs, .int hg])), (g, .inr (3, [.ref ge, .ref gl, .ref gb, .ref gw, .ref gsw, .ref gsh, .int si, .int (nI n), .int fi])), (ge, .inl (cI, 6, .inl fe)), (lt, .inl (cI, 6, .inl fl)), (bc, .inl (cI, 6, .inl cm)), (bs, .inl (cI, 20, .inl fk)), (gw, .inr (4, [.ref sg, .int (nI nl)])), (sg, .inl (cI, 20, .inl fs))] H → va_D A [(b, .inr (0, [.ref g, .ref bt, .ref bc, .ref bs, .int hg])), (g, .inr (3, [.ref ge, .ref gl, .ref gb, .ref gw, .ref gsw, .ref gsh, .int si, .int (nI n), .int fi])), (ge, .inl (cI, 6, .inl fe)), (lt, .inl (cI, 6, .inl fl)), (bc, .inl (cI, 6, .inl cm)), (bs, .inl (cI, 20, .inl fk)), (gw, .inr (4, [.ref sg, .int (nI nl)])), (sg, .inl (cI, 20, .inl fs))] → va_S A s.heap H locs → ∀ (ls : Array Slot), lv_has ls 7 [(0, .ref b), (1, .int h), (2, .int (nI wk)), (3, .ref lt), (4, .int (itH (nxF fs nl n fe fl (nI 0)) k h)), (5, .int (nI k))] → W p l e rm_X0_hourAfter s m args below meth c H locs 0 0 Q (F0 m 6 ls []) := by
    intro n9
    induction n9 with
    | zero => intro k cm fk hg hk hm; exact absurd hm (Nat.not_lt_zero _)
    | succ n9 ih6 =>
      intro k cm fk hg hk hm6 H locs hP hD hS ls hl
      refine lv_iload hx hb dX0_hourAfter_6 (lv_at hl 5 rfl) ?_
      refine lv_iload_n hx hb dX0_hourAfter_8 rfl (lv_at hl 2 rfl) ?_
      refine icmp_ge_n (a := k) (b := wk) (tgt := 49) hx hb dX0_hourAfter_9 (by decide) (by omega) (by omega) (fun c9 => ?_) (fun c9 => ?_)
      · refine lv_iload hx hb dX0_hourAfter_49 (lv_at hl 4 rfl) ?_
        have e9 : k = wk := by omega
        exact hret (itH (nxF fs nl n fe fl (nI 0)) k h) ((cm, fk, hg)) _ _ _ _ dX0_hourAfter_51 (by rw [← e9]) hP hD hS
      · refine lv_aload_n hx hb dX0_hourAfter_12 rfl (lv_at hl 0 rfl) ?_
        refine lv_aload_n hx hb dX0_hourAfter_13 rfl (lv_at hl 0 rfl) ?_
        refine va_get (D := D) (ci := 0) (v := .ref g) (C := RX0) (T := TX0) (N := 5) hx hb hts hi0 hown hK hP 0 rfl rfl 0 (by decide) hw0 (fun _ h9 => h9) rfl dX0_hourAfter_14 ?_
        refine va_get (D := D) (ci := 3) (v := .ref gw) (C := RX3) (T := TX3) (N := 9) hx hb hts hi3 hown hK hP 1 rfl rfl 3 (by decide) hw2 (fun _ h9 => h9) rfl dX0_hourAfter_17 ?_
        refine lv_iload hx hb dX0_hourAfter_20 (lv_at hl 4 rfl) ?_
        refine lv_aload_n hx hb dX0_hourAfter_22 rfl (lv_at hl 3 rfl) ?_
        refine lv_iconst (v := nI 0) hx hb dX0_hourAfter_23 (by decide) ?_
        refine cal_i (run_V (As := [.ref gw, .int (itH (nxF fs nl n fe fl (nI 0)) k h), .ref lt, .int (nI 0)]) (rest := []) SF (c_nextHour l D cI cJ cZ cG cM b bt bc bs g ge gl gb gw gsw gsh si fi n gw sg nl lt hg (itH (nxF fs nl n fe fl (nI 0)) k h) (nI 0) cm fk fs fe fl hV h1 h6) (cwV 4 hts gX0_hourAfter_X0_nextHour rfl rfl rfl (by decide +kernel) ⟨Nat.le_of_ble_eq_true rfl, Nat.le_of_ble_eq_true rfl⟩) hN hK hP hD [0, 1, 2, 3, 4, 5, 6, 7] rfl (by decide) 0 0 rfl rfl rfl rfl hl.1 rfl (Nat.le_of_ble_eq_true rfl) dX0_hourAfter_24 ⟨Nat.le_of_ble_eq_true rfl, Nat.le_of_ble_eq_true rfl⟩) ⟨rfl, rfl⟩ hP hD hS hA [0, 1, 2, 3, 4, 5, 6, 7] rfl (fun _ => rfl) (fun r24 u24 H locs hw hP hD hS => ?_)
        have hP : va_P D vwCl [(b, .inr (0, [.ref g, .ref bt, .ref bc, .ref bs, .int u24.2.2])), (g, .inr (3, [.ref ge, .ref gl, .ref gb, .ref gw, .ref gsw, .ref gsh, .int si, .int (nI n), .int fi])), (ge, .inl (cI, 6, .inl fe)), (lt, .inl (cI, 6, .inl fl)), (bc, .inl (cI, 6, .inl u24.1)), (bs, .inl (cI, 20, .inl u24.2.1)), (gw, .inr (4, [.ref sg, .int (nI nl)])), (sg, .inl (cI, 20, .inl fs))] H := hP
        have hD : va_D A [(b, .inr (0, [.ref g, .ref bt, .ref bc, .ref bs, .int u24.2.2])), (g, .inr (3, [.ref ge, .ref gl, .ref gb, .ref gw, .ref gsw, .ref gsh, .int si, .int (nI n), .int fi])), (ge, .inl (cI, 6, .inl fe)), (lt, .inl (cI, 6, .inl fl)), (bc, .inl (cI, 6, .inl u24.1)), (bs, .inl (cI, 20, .inl u24.2.1)), (gw, .inr (4, [.ref sg, .int (nI nl)])), (sg, .inl (cI, 20, .inl fs))] := hD
        change r24 = itH (nxF fs nl n fe fl (nI 0)) (k + 1) h at hw
        refine lv_istore (lv' := [(6, .int r24), (0, .ref b), (1, .int h), (2, .int (nI wk)), (3, .ref lt), (4, .int (itH (nxF fs nl n fe fl (nI 0)) k h)), (5, .int (nI k))]) hx hb dX0_hourAfter_27 hl (by decide) rfl (fun ls hl => ?_)
        refine lv_iload hx hb dX0_hourAfter_29 (lv_at hl 0 rfl) ?_
        refine lv_iload hx hb dX0_hourAfter_31 (lv_at hl 5 rfl) ?_
        refine lv_icmp_ne (tgt := 39) hx hb dX0_hourAfter_33 (by decide) (fun c33 => ?_) (fun c33 => ?_)
        · refine lv_iload hx hb dX0_hourAfter_39 (lv_at hl 0 rfl) ?_
          refine lv_istore (lv' := [(4, .int r24), (6, .int r24), (0, .ref b), (1, .int h), (2, .int (nI wk)), (3, .ref lt), (5, .int (nI k))]) hx hb dX0_hourAfter_41 hl (by decide) rfl (fun ls hl => ?_)
          refine lv_iinc (v := nI (k + 1)) (lv' := [(5, .int (nI (k + 1))), (4, .int r24), (6, .int r24), (0, .ref b), (1, .int h), (2, .int (nI wk)), (3, .ref lt)]) hx hb dX0_hourAfter_43 hl (k := 6) rfl (nI_1 k) (by decide) rfl (fun ls hl => ?_)
          refine lv_goto (tgt := 6) hx hb dX0_hourAfter_46 (by decide) ?_
          rw [hw] at hl
          exact ih6 (k + 1) u24.1 u24.2.1 u24.2.2 ((by omega)) (by omega) _ _ hP hD hS _ (lv_sub hl [3, 4, 5, 6, 1, 0] rfl)
        · refine lv_iload hx hb dX0_hourAfter_36 (lv_at hl 5 rfl) ?_
          exact hret (itH (nxF fs nl n fe fl (nI 0)) k h) ((u24.1, u24.2.1, u24.2.2)) _ _ _ _ dX0_hourAfter_38 (itH_stay (F := (nxF fs nl n fe fl (nI 0))) (hw.symm.trans c33) hk) hP hD hS
  exact L6 _ 0 cm fk hg ((Nat.zero_le _)) (Nat.lt_succ_self _) _ _ hP hD hS _ (lv_sub hl [2, 3, 4, 5, 1, 0] rfl)

abbrev rm_X0_allSightsHold : Room := { frames := 5, cells := 0, slots := 0, locals := 119 }
set_option maxHeartbeats 4000000 in
set_option maxRecDepth 100000 in
theorem c_allSights (l : Launch) (D : va_G) (cI cJ cZ cG cM : ClassId) (b bt bc bs : Nat) (g ge gl gb gw gsw gsh : Nat) (fi : Int32) (n ns : Nat) (sg nl : Nat) (hg : Int32) (cm fk fs fe ft fw fh : Nat → Int32) (hV : VL fs nl) (h1 : 1 ≤ n) (h6 : n ≤ 6) (hns : ns ≤ 6) (hsw : ∀ j, j < ns → ∃ k : Nat, k ≤ 30 ∧ fw j = nI k) (h : Int32) :
    CI l yX0_allSightsHold wsX0_allSightsHold rm_X0_allSightsHold D [(cI, .int), (cJ, .long), (cZ, .boolean), (cG, .object "LatestSets$Guild"), (cM, .array .int)] [(b, .inr (0, [.ref g, .ref bt, .ref bc, .ref bs, .int hg])), (g, .inr (3, [.ref ge, .ref gl, .ref gb, .ref gw, .ref gsw, .ref gsh, .int (nI ns), .int (nI n), .int fi])), (ge, .inl (cI, 6, .inl fe)), (bt, .inl (cI, 6, .inl ft)), (bc, .inl (cI, 6, .inl cm)), (bs, .inl (cI, 20, .inl fk)), (gw, .inr (4, [.ref sg, .int (nI nl)])), (sg, .inl (cI, 20, .inl fs)), (gsw, .inl (cI, 6, .inl fw)), (gsh, .inl (cI, 6, .inl fh))] [.ref b, .int h] (S := ((Nat → Int32) × (Nat → Int32) × Int32)) (fun r u => bz (SHb (nxF fs nl n fe ft (nI 0)) fw fh h ns = true) r) (fun u => [(b, .inr (0, [.ref g, .ref bt, .ref bc, .ref bs, .int u.2.2])), (g, .inr (3, [.ref ge, .ref gl, .ref gb, .ref gw, .ref gsw, .ref gsh, .int (nI ns), .int (nI n), .int fi])), (ge, .inl (cI, 6, .inl fe)), (bt, .inl (cI, 6, .inl ft)), (bc, .inl (cI, 6, .inl u.1)), (bs, .inl (cI, 20, .inl u.2.1)), (gw, .inr (4, [.ref sg, .int (nI nl)])), (sg, .inl (cI, 20, .inl fs)), (gsw, .inl (cI, 6, .inl fw)), (gsh, .inl (cI, 6, .inl fh))]) := by
  refine sz_of (cc := cX0_allSightsHold) (maxL := 3) (by decide) rfl (Nat.le_of_ble_eq_true rfl) ?_
  intro p e s m args below meth c A ls Q E hret
  obtain ⟨hx, hb, -, hml, hown, hts, -, hin, hA, hK, hP, hD, hS, hl, hN⟩ := E
  have hown : s.vm.findClass RX0 = some m.cls := hown
  have hl : lv_has ls 3 [(0, .ref b), (1, .int h)] := hl
  have SF : CallFix p m c cX0_allSightsHold 3 s args wsX0_allSightsHold RX0 := ⟨hx, hb, hml, hown, hts⟩
  have hw0 := hts (.fieldLink RX0 21 "LatestSets$Board" "guild" "LLatestSets$Guild;") (by decide +kernel)
  have hi0 : ∀ x ∈ wsX00, x ∈ wsX0_allSightsHold := by decide +kernel
  have hw2 := hts (.fieldLink RX0 79 "LatestSets$Guild" "sights" "I") (by decide +kernel)
  have hi3 : ∀ x ∈ wsX30, x ∈ wsX0_allSightsHold := by decide +kernel
  have hw4 := hts (.fieldLink RX0 82 "LatestSets$Guild" "sightWeek" "[I") (by decide +kernel)
  have hw5 := hts (.fieldLink RX0 9 "LatestSets$Board" "trial" "[I") (by decide +kernel)
  have hw6 := hts (.fieldLink RX0 89 "LatestSets$Guild" "sightHour" "[I") (by decide +kernel)
  refine lv_iconst (v := nI 0) hx hb dX0_allSightsHold_0 (by decide) ?_
  refine lv_istore_n (lv' := [(2, .int (nI 0)), (0, .ref b), (1, .int h)]) hx hb dX0_allSightsHold_1 rfl hl (by decide) rfl (fun ls hl => ?_)
  have L2 : ∀ (n9 : Nat) (k : Nat) (cm fk : Nat → Int32) (hg : Int32) (hk : k ≤ ns) (hin2 : SHb (nxF fs nl n fe ft (nI 0)) fw fh h k = true), ns - k < n9 → ∀ (H : Heap) (locs : List Loc), va_P D vwCl [(b, .inr (0, [.ref g, .ref bt, .ref bc, .ref bs, .int hg])), (g, .inr (3, [.ref ge, .ref gl, .ref gb, .ref gw, .ref gsw, .ref gsh, .int (nI ns), .int (nI n), .int fi])), (ge, .inl (cI, 6, .inl fe)), (bt, .inl (cI, 6, .inl ft)), (bc, .inl (cI, 6, .inl cm)), (bs, .inl (cI, 20, .inl fk)), (gw, .inr (4, [.ref sg, .int (nI nl)])), (sg, .inl (cI, 20, .inl fs)), (gsw, .inl (cI, 6, .inl fw)), (gsh, .inl (cI, 6, .inl fh))] H → va_D A [(b, .inr (0, [.ref g, .ref bt, .ref bc, .ref bs, .int hg])), (g, .inr (3, [.ref ge, .ref gl, .ref gb, .ref gw, .ref gsw, .ref gsh, .int (nI ns), .int (nI n), .int fi])), (ge, .inl (cI, 6, .inl fe)), (bt, .inl (cI, 6, .inl ft)), (bc, .inl (cI, 6, .inl cm)), (bs, .inl (cI, 20, .inl fk)), (gw, .inr (4, [.ref sg, .int (nI nl)])), (sg, .inl (cI, 20, .inl fs)), (gsw, .inl (cI, 6, .inl fw)), (gsh, .inl (cI, 6, .inl fh))] → va_S A s.heap H locs → ∀ (ls : Array Slot), lv_has ls 3 [(0, .ref b), (1, .int h), (2, .int (nI k))] → W p l e rm_X0_allSightsHold s m args below meth c H locs 0 0 Q (F0 m 2 ls []) := by
    intro n9
    induction n9 with
    | zero => intro k cm fk hg hk hin2 hm; exact absurd hm (Nat.not_lt_zero _)
    | succ n9 ih2 =>
      intro k cm fk hg hk hin2 hm2 H locs hP hD hS ls hl
      refine lv_iload_n hx hb dX0_allSightsHold_2 rfl (lv_at hl 2 rfl) ?_
      refine lv_aload_n hx hb dX0_allSightsHold_3 rfl (lv_at hl 0 rfl) ?_
      refine va_get (D := D) (ci := 0) (v := .ref g) (C := RX0) (T := TX0) (N := 5) hx hb hts hi0 hown hK hP 0 rfl rfl 0 (by decide) hw0 (fun _ h9 => h9) rfl dX0_allSightsHold_4 ?_
      refine va_get (D := D) (ci := 3) (v := .int (nI ns)) (C := RX3) (T := TX3) (N := 9) hx hb hts hi3 hown hK hP 1 rfl rfl 6 (by decide) hw2 (fun _ h9 => h9) rfl dX0_allSightsHold_7 ?_
      refine icmp_ge_n (a := k) (b := ns) (tgt := 51) hx hb dX0_allSightsHold_10 (by decide) (by omega) (by omega) (fun c10 => ?_) (fun c10 => ?_)
      · refine lv_iconst (v := nI 1) hx hb dX0_allSightsHold_51 (by decide) ?_
        have e9 : k = ns := by omega
        exact hret (nI 1) ((cm, fk, hg)) _ _ _ _ dX0_allSightsHold_52 rfl (bz1 (by rw [← e9]; exact hin2)) hP hD hS
      · refine lv_aload_n hx hb dX0_allSightsHold_13 rfl (lv_at hl 0 rfl) ?_
        refine lv_iload_n hx hb dX0_allSightsHold_14 rfl (lv_at hl 1 rfl) ?_
        refine lv_aload_n hx hb dX0_allSightsHold_15 rfl (lv_at hl 0 rfl) ?_
        refine va_get (D := D) (ci := 0) (v := .ref g) (C := RX0) (T := TX0) (N := 5) hx hb hts hi0 hown hK hP 0 rfl rfl 0 (by decide) hw0 (fun _ h9 => h9) rfl dX0_allSightsHold_16 ?_
        refine va_get (D := D) (ci := 3) (v := .ref gsw) (C := RX3) (T := TX3) (N := 9) hx hb hts hi3 hown hK hP 1 rfl rfl 4 (by decide) hw4 (fun _ h9 => h9) rfl dX0_allSightsHold_19 ?_
        refine lv_iload_n hx hb dX0_allSightsHold_22 rfl (lv_at hl 2 rfl) ?_
        refine iald_n (k := k) hx hb hK hP 8 0 rfl rfl (by omega) (by omega) dX0_allSightsHold_23 ?_
        obtain ⟨wk, hwk, hwe⟩ := hsw k (by omega)
        refine lv_topi (fun y9 e9 => ?_)
        have e9 : nI wk = y9 := (e9.trans (hwe)).symm
        subst e9
        refine lv_aload_n hx hb dX0_allSightsHold_24 rfl (lv_at hl 0 rfl) ?_
        refine va_get (D := D) (ci := 0) (v := .ref bt) (C := RX0) (T := TX0) (N := 5) hx hb hts hi0 hown hK hP 0 rfl rfl 1 (by decide) hw5 (fun _ h9 => h9) rfl dX0_allSightsHold_25 ?_
        refine cal_i (run_V (As := [.int h, .int (nI wk), .ref bt]) (rest := []) SF (c_hourAfter l D cI cJ cZ cG cM b bt bc bs g ge gl gb gw gsw gsh (nI ns) fi n sg nl bt hg cm fk fs fe ft hV h1 h6 h wk (by omega)) (cwV 3 hts gX0_allSightsHold_X0_hourAfter rfl rfl rfl (by decide +kernel) ⟨Nat.le_of_ble_eq_true rfl, Nat.le_of_ble_eq_true rfl⟩) hN hK hP hD [0, 1, 2, 3, 4, 5, 6, 7] rfl (by decide) 0 0 rfl rfl rfl rfl hl.1 rfl (Nat.le_of_ble_eq_true rfl) dX0_allSightsHold_28 ⟨Nat.le_of_ble_eq_true rfl, Nat.le_of_ble_eq_true rfl⟩) ⟨rfl, rfl⟩ hP hD hS hA [0, 1, 2, 3, 4, 5, 6, 7] rfl (fun _ => rfl) (fun r28 u28 H locs hw hP hD hS => ?_)
        have hP : va_P D vwCl [(b, .inr (0, [.ref g, .ref bt, .ref bc, .ref bs, .int u28.2.2])), (g, .inr (3, [.ref ge, .ref gl, .ref gb, .ref gw, .ref gsw, .ref gsh, .int (nI ns), .int (nI n), .int fi])), (ge, .inl (cI, 6, .inl fe)), (bt, .inl (cI, 6, .inl ft)), (bc, .inl (cI, 6, .inl u28.1)), (bs, .inl (cI, 20, .inl u28.2.1)), (gw, .inr (4, [.ref sg, .int (nI nl)])), (sg, .inl (cI, 20, .inl fs)), (gsw, .inl (cI, 6, .inl fw)), (gsh, .inl (cI, 6, .inl fh))] H := hP
        have hD : va_D A [(b, .inr (0, [.ref g, .ref bt, .ref bc, .ref bs, .int u28.2.2])), (g, .inr (3, [.ref ge, .ref gl, .ref gb, .ref gw, .ref gsw, .ref gsh, .int (nI ns), .int (nI n), .int fi])), (ge, .inl (cI, 6, .inl fe)), (bt, .inl (cI, 6, .inl ft)), (bc, .inl (cI, 6, .inl u28.1)), (bs, .inl (cI, 20, .inl u28.2.1)), (gw, .inr (4, [.ref sg, .int (nI nl)])), (sg, .inl (cI, 20, .inl fs)), (gsw, .inl (cI, 6, .inl fw)), (gsh, .inl (cI, 6, .inl fh))] := hD
        refine lv_aload_n hx hb dX0_allSightsHold_31 rfl (lv_at hl 0 rfl) ?_
        refine va_get (D := D) (ci := 0) (v := .ref g) (C := RX0) (T := TX0) (N := 5) hx hb hts hi0 hown hK hP 0 rfl rfl 0 (by decide) hw0 (fun _ h9 => h9) rfl dX0_allSightsHold_32 ?_
        refine va_get (D := D) (ci := 3) (v := .ref gsh) (C := RX3) (T := TX3) (N := 9) hx hb hts hi3 hown hK hP 1 rfl rfl 5 (by decide) hw6 (fun _ h9 => h9) rfl dX0_allSightsHold_35 ?_
        refine lv_iload_n hx hb dX0_allSightsHold_38 rfl (lv_at hl 2 rfl) ?_
        refine iald_n (k := k) hx hb hK hP 9 0 rfl rfl (by omega) (by omega) dX0_allSightsHold_39 ?_
        refine lv_icmp_eq (tgt := 45) hx hb dX0_allSightsHold_40 (by decide) (fun c40 => ?_) (fun c40 => ?_)
        · refine lv_iinc (v := nI (k + 1)) (lv' := [(2, .int (nI (k + 1))), (0, .ref b), (1, .int h)]) hx hb dX0_allSightsHold_45 hl (k := 2) rfl (nI_1 k) (by decide) rfl (fun ls hl => ?_)
          refine lv_goto (tgt := 2) hx hb dX0_allSightsHold_48 (by decide) ?_
          exact ih2 (k + 1) u28.1 u28.2.1 u28.2.2 ((by omega)) ((by show (SHb _ _ _ _ k && decide _) = true; rw [hin2, hwe, nI_clamp (by omega), ← hw, c40]; simp)) (by omega) _ _ hP hD hS _ (lv_sub hl [1, 2, 0] rfl)
        · refine lv_iconst (v := nI 0) hx hb dX0_allSightsHold_43 (by decide) ?_
          exact hret (nI 0) ((u28.1, u28.2.1, u28.2.2)) _ _ _ _ dX0_allSightsHold_44 rfl (bz0 (by rw [show ns = (k + 1) + (ns - (k + 1)) by omega, SHb_mono (ns - (k + 1)) (k + 1) (by show (SHb _ _ _ _ k && decide _) = false; rw [hin2, hwe, nI_clamp (by omega), ← hw]; simp [c40])]; decide)) hP hD hS
  exact L2 _ 0 cm fk hg ((Nat.zero_le _)) rfl (Nat.lt_succ_self _) _ _ hP hD hS _ (lv_sub hl [1, 2, 0] rfl)

abbrev rm_X0_latesThatFit : Room := { frames := 6, cells := 0, slots := 0, locals := 141 }
set_option maxHeartbeats 4000000 in
set_option maxRecDepth 100000 in
theorem c_latesThatFit (l : Launch) (D : va_G) (cI cJ cZ cG cM : ClassId) (b bt bc bs : Nat) (g ge gl gb gw gsw gsh : Nat) (fi : Int32) (n ns : Nat) (sg nl : Nat) (hg : Int32) (cm fk fs fe ft fw fh : Nat → Int32) (hV : VL fs nl) (h1 : 1 ≤ n) (h6 : n ≤ 6) (hns : ns ≤ 6) (hsw : ∀ j, j < ns → ∃ k : Nat, k ≤ 30 ∧ fw j = nI k) (fl : Nat → Int32) (mm : Nat) (hmm : mm < n) (h : Int32) :
    CI l yX0_latesThatFit wsX0_latesThatFit rm_X0_latesThatFit D [(cI, .int), (cJ, .long), (cZ, .boolean), (cG, .object "LatestSets$Guild"), (cM, .array .int)] [(b, .inr (0, [.ref g, .ref bt, .ref bc, .ref bs, .int hg])), (g, .inr (3, [.ref ge, .ref gl, .ref gb, .ref gw, .ref gsw, .ref gsh, .int (nI ns), .int (nI n), .int fi])), (ge, .inl (cI, 6, .inl fe)), (bt, .inl (cI, 6, .inl ft)), (bc, .inl (cI, 6, .inl cm)), (bs, .inl (cI, 20, .inl fk)), (gw, .inr (4, [.ref sg, .int (nI nl)])), (sg, .inl (cI, 20, .inl fs)), (gsw, .inl (cI, 6, .inl fw)), (gsh, .inl (cI, 6, .inl fh)), (gl, .inl (cI, 6, .inl fl))] [.ref b, .int (nI mm), .int h] (S := ((Nat → Int32) × (Nat → Int32) × (Nat → Int32) × Int32)) (fun r u => r = cdB (fun k => SHb (nxF fs nl n fe (upd fl mm (nI k)) (nI 0)) fw fh h ns) 6) (fun u => [(b, .inr (0, [.ref g, .ref bt, .ref bc, .ref bs, .int u.2.2.2])), (g, .inr (3, [.ref ge, .ref gl, .ref gb, .ref gw, .ref gsw, .ref gsh, .int (nI ns), .int (nI n), .int fi])), (ge, .inl (cI, 6, .inl fe)), (bt, .inl (cI, 6, .inl u.1)), (bc, .inl (cI, 6, .inl u.2.1)), (bs, .inl (cI, 20, .inl u.2.2.1)), (gw, .inr (4, [.ref sg, .int (nI nl)])), (sg, .inl (cI, 20, .inl fs)), (gsw, .inl (cI, 6, .inl fw)), (gsh, .inl (cI, 6, .inl fh)), (gl, .inl (cI, 6, .inl fl))]) := by
  refine si_of (cc := cX0_latesThatFit) (maxL := 5) (by decide) rfl (Nat.le_of_ble_eq_true rfl) ?_
  intro p e s m args below meth c A ls Q E hret
  obtain ⟨hx, hb, -, hml, hown, hts, -, hin, hA, hK, hP, hD, hS, hl, hN⟩ := E
  have hown : s.vm.findClass RX0 = some m.cls := hown
  have hl : lv_has ls 5 [(0, .ref b), (1, .int (nI mm)), (2, .int h)] := hl
  have SF : CallFix p m c cX0_latesThatFit 5 s args wsX0_latesThatFit RX0 := ⟨hx, hb, hml, hown, hts⟩
  have hw0 := hts (.fieldLink RX0 9 "LatestSets$Board" "trial" "[I") (by decide +kernel)
  have hi0 : ∀ x ∈ wsX00, x ∈ wsX0_latesThatFit := by decide +kernel
  refine lv_aload_n hx hb dX0_latesThatFit_0 rfl (lv_at hl 0 rfl) ?_
  refine cal_v (run_V (As := []) (rest := []) SF (c_tryAsTold l D cI cJ cZ cG cM b bt bc bs g ge gl gb gw gsw gsh (nI ns) fi n hg ft fl) (cwV 0 hts gX0_latesThatFit_X0_tryAsTold rfl rfl rfl (by decide +kernel) ⟨Nat.le_of_ble_eq_true rfl, Nat.le_of_ble_eq_true rfl⟩) hN hK hP hD [0, 1, 3, 10] rfl (by decide) 0 0 rfl rfl rfl rfl hl.1 rfl (Nat.le_of_ble_eq_true rfl) dX0_latesThatFit_1 ⟨Nat.le_of_ble_eq_true rfl, Nat.le_of_ble_eq_true rfl⟩) ⟨rfl, rfl⟩ hP hD hS hA [0, 1, 3, 10] rfl (fun _ => rfl) (fun _ H locs hw hP hD hS => ?_)
  have hP : va_P D vwCl [(b, .inr (0, [.ref g, .ref bt, .ref bc, .ref bs, .int hg])), (g, .inr (3, [.ref ge, .ref gl, .ref gb, .ref gw, .ref gsw, .ref gsh, .int (nI ns), .int (nI n), .int fi])), (ge, .inl (cI, 6, .inl fe)), (bt, .inl (cI, 6, .inl (va_cpy fl ft 0 0 6))), (bc, .inl (cI, 6, .inl cm)), (bs, .inl (cI, 20, .inl fk)), (gw, .inr (4, [.ref sg, .int (nI nl)])), (sg, .inl (cI, 20, .inl fs)), (gsw, .inl (cI, 6, .inl fw)), (gsh, .inl (cI, 6, .inl fh)), (gl, .inl (cI, 6, .inl fl))] H := hP
  have hD : va_D A [(b, .inr (0, [.ref g, .ref bt, .ref bc, .ref bs, .int hg])), (g, .inr (3, [.ref ge, .ref gl, .ref gb, .ref gw, .ref gsw, .ref gsh, .int (nI ns), .int (nI n), .int fi])), (ge, .inl (cI, 6, .inl fe)), (bt, .inl (cI, 6, .inl (va_cpy fl ft 0 0 6))), (bc, .inl (cI, 6, .inl cm)), (bs, .inl (cI, 20, .inl fk)), (gw, .inr (4, [.ref sg, .int (nI nl)])), (sg, .inl (cI, 20, .inl fs)), (gsw, .inl (cI, 6, .inl fw)), (gsh, .inl (cI, 6, .inl fh)), (gl, .inl (cI, 6, .inl fl))] := hD
  refine lv_iconst (v := nI 0) hx hb dX0_latesThatFit_4 (by decide) ?_
  refine lv_istore_n (lv' := [(3, .int (nI 0)), (0, .ref b), (1, .int (nI mm)), (2, .int h)]) hx hb dX0_latesThatFit_5 rfl hl (by decide) rfl (fun ls hl => ?_)
  refine lv_iconst (v := nI 0) hx hb dX0_latesThatFit_6 (by decide) ?_
  refine lv_istore (lv' := [(4, .int (nI 0)), (3, .int (nI 0)), (0, .ref b), (1, .int (nI mm)), (2, .int h)]) hx hb dX0_latesThatFit_7 hl (by decide) rfl (fun ls hl => ?_)
  have L9 : ∀ (n9 : Nat) (k : Nat) (ft cm fk : Nat → Int32) (hg : Int32) (hk : k ≤ 6) (hT : ∀ j, j < 6 → j ≠ mm → ft j = fl j), 6 - k < n9 → ∀ (H : Heap) (locs : List Loc), va_P D vwCl [(b, .inr (0, [.ref g, .ref bt, .ref bc, .ref bs, .int hg])), (g, .inr (3, [.ref ge, .ref gl, .ref gb, .ref gw, .ref gsw, .ref gsh, .int (nI ns), .int (nI n), .int fi])), (ge, .inl (cI, 6, .inl fe)), (bt, .inl (cI, 6, .inl ft)), (bc, .inl (cI, 6, .inl cm)), (bs, .inl (cI, 20, .inl fk)), (gw, .inr (4, [.ref sg, .int (nI nl)])), (sg, .inl (cI, 20, .inl fs)), (gsw, .inl (cI, 6, .inl fw)), (gsh, .inl (cI, 6, .inl fh)), (gl, .inl (cI, 6, .inl fl))] H → va_D A [(b, .inr (0, [.ref g, .ref bt, .ref bc, .ref bs, .int hg])), (g, .inr (3, [.ref ge, .ref gl, .ref gb, .ref gw, .ref gsw, .ref gsh, .int (nI ns), .int (nI n), .int fi])), (ge, .inl (cI, 6, .inl fe)), (bt, .inl (cI, 6, .inl ft)), (bc, .inl (cI, 6, .inl cm)), (bs, .inl (cI, 20, .inl fk)), (gw, .inr (4, [.ref sg, .int (nI nl)])), (sg, .inl (cI, 20, .inl fs)), (gsw, .inl (cI, 6, .inl fw)), (gsh, .inl (cI, 6, .inl fh)), (gl, .inl (cI, 6, .inl fl))] → va_S A s.heap H locs → ∀ (ls : Array Slot), lv_has ls 5 [(0, .ref b), (1, .int (nI mm)), (2, .int h), (3, .int (cdB (fun k => SHb (nxF fs nl n fe (upd fl mm (nI k)) (nI 0)) fw fh h ns) k)), (4, .int (nI k))] → W p l e rm_X0_latesThatFit s m args below meth c H locs 0 0 Q (F0 m 9 ls []) := by
    intro n9
    induction n9 with
    | zero => intro k ft cm fk hg hk hT hm; exact absurd hm (Nat.not_lt_zero _)
    | succ n9 ih9 =>
      intro k ft cm fk hg hk hT hm9 H locs hP hD hS ls hl
      refine lv_iload hx hb dX0_latesThatFit_9 (lv_at hl 4 rfl) ?_
      refine lv_iconst (v := nI 5) hx hb dX0_latesThatFit_11 (by decide) ?_
      refine icmp_gt_n (a := k) (b := 5) (tgt := 44) hx hb dX0_latesThatFit_12 (by decide) (by omega) (by omega) (fun c12 => ?_) (fun c12 => ?_)
      · refine lv_iload_n hx hb dX0_latesThatFit_44 rfl (lv_at hl 3 rfl) ?_
        exact hret (cdB (fun k => SHb (nxF fs nl n fe (upd fl mm (nI k)) (nI 0)) fw fh h ns) k) ((ft, cm, fk, hg)) _ _ _ _ dX0_latesThatFit_45 (by rw [show k = 6 by omega]) hP hD hS
      · refine lv_aload_n hx hb dX0_latesThatFit_15 rfl (lv_at hl 0 rfl) ?_
        refine va_get (D := D) (ci := 0) (v := .ref bt) (C := RX0) (T := TX0) (N := 5) hx hb hts hi0 hown hK hP 0 rfl rfl 1 (by decide) hw0 (fun _ h9 => h9) rfl dX0_latesThatFit_16 ?_
        refine lv_iload_n hx hb dX0_latesThatFit_19 rfl (lv_at hl 1 rfl) ?_
        refine lv_iload hx hb dX0_latesThatFit_20 (lv_at hl 4 rfl) ?_
        refine iast_n (k := mm) hx hb hK hP hD hS 3 0 rfl rfl (by omega) (by omega) dX0_latesThatFit_22 (fun H locs hP hD hS => ?_)
        have hP : va_P D vwCl [(b, .inr (0, [.ref g, .ref bt, .ref bc, .ref bs, .int hg])), (g, .inr (3, [.ref ge, .ref gl, .ref gb, .ref gw, .ref gsw, .ref gsh, .int (nI ns), .int (nI n), .int fi])), (ge, .inl (cI, 6, .inl fe)), (bt, .inl (cI, 6, .inl (upd ft mm (nI k)))), (bc, .inl (cI, 6, .inl cm)), (bs, .inl (cI, 20, .inl fk)), (gw, .inr (4, [.ref sg, .int (nI nl)])), (sg, .inl (cI, 20, .inl fs)), (gsw, .inl (cI, 6, .inl fw)), (gsh, .inl (cI, 6, .inl fh)), (gl, .inl (cI, 6, .inl fl))] H := hP
        have hD : va_D A [(b, .inr (0, [.ref g, .ref bt, .ref bc, .ref bs, .int hg])), (g, .inr (3, [.ref ge, .ref gl, .ref gb, .ref gw, .ref gsw, .ref gsh, .int (nI ns), .int (nI n), .int fi])), (ge, .inl (cI, 6, .inl fe)), (bt, .inl (cI, 6, .inl (upd ft mm (nI k)))), (bc, .inl (cI, 6, .inl cm)), (bs, .inl (cI, 20, .inl fk)), (gw, .inr (4, [.ref sg, .int (nI nl)])), (sg, .inl (cI, 20, .inl fs)), (gsw, .inl (cI, 6, .inl fw)), (gsh, .inl (cI, 6, .inl fh)), (gl, .inl (cI, 6, .inl fl))] := hD
        refine lv_aload_n hx hb dX0_latesThatFit_23 rfl (lv_at hl 0 rfl) ?_
        refine lv_iload_n hx hb dX0_latesThatFit_24 rfl (lv_at hl 2 rfl) ?_
        refine cal_i (run_V (As := [.int h]) (rest := []) SF (c_allSights l D cI cJ cZ cG cM b bt bc bs g ge gl gb gw gsw gsh fi n ns sg nl hg cm fk fs fe (upd ft mm (nI k)) fw fh hV h1 h6 hns hsw h) (cwV 1 hts gX0_latesThatFit_X0_allSightsHold rfl rfl rfl (by decide +kernel) ⟨Nat.le_of_ble_eq_true rfl, Nat.le_of_ble_eq_true rfl⟩) hN hK hP hD [0, 1, 2, 3, 4, 5, 6, 7, 8, 9] rfl (by decide) 0 0 rfl rfl rfl rfl hl.1 rfl (Nat.le_of_ble_eq_true rfl) dX0_latesThatFit_25 ⟨Nat.le_of_ble_eq_true rfl, Nat.le_of_ble_eq_true rfl⟩) ⟨rfl, rfl⟩ hP hD hS hA [0, 1, 2, 3, 4, 5, 6, 7, 8, 9] rfl (fun _ => rfl) (fun r9 u25 H locs hw hP hD hS => ?_)
        have hP : va_P D vwCl [(b, .inr (0, [.ref g, .ref bt, .ref bc, .ref bs, .int u25.2.2])), (g, .inr (3, [.ref ge, .ref gl, .ref gb, .ref gw, .ref gsw, .ref gsh, .int (nI ns), .int (nI n), .int fi])), (ge, .inl (cI, 6, .inl fe)), (bt, .inl (cI, 6, .inl (upd ft mm (nI k)))), (bc, .inl (cI, 6, .inl u25.1)), (bs, .inl (cI, 20, .inl u25.2.1)), (gw, .inr (4, [.ref sg, .int (nI nl)])), (sg, .inl (cI, 20, .inl fs)), (gsw, .inl (cI, 6, .inl fw)), (gsh, .inl (cI, 6, .inl fh)), (gl, .inl (cI, 6, .inl fl))] H := hP
        have hD : va_D A [(b, .inr (0, [.ref g, .ref bt, .ref bc, .ref bs, .int u25.2.2])), (g, .inr (3, [.ref ge, .ref gl, .ref gb, .ref gw, .ref gsw, .ref gsh, .int (nI ns), .int (nI n), .int fi])), (ge, .inl (cI, 6, .inl fe)), (bt, .inl (cI, 6, .inl (upd ft mm (nI k)))), (bc, .inl (cI, 6, .inl u25.1)), (bs, .inl (cI, 20, .inl u25.2.1)), (gw, .inr (4, [.ref sg, .int (nI nl)])), (sg, .inl (cI, 20, .inl fs)), (gsw, .inl (cI, 6, .inl fw)), (gsh, .inl (cI, 6, .inl fh)), (gl, .inl (cI, 6, .inl fl))] := hD
        rw [nxF_cong (f1 := upd ft mm (nI k)) (f2 := upd fl mm (nI k)) h1 (fun j hj => upd_cong hT j (by omega))] at hw
        rcases hw with ⟨b25, rfl⟩ | ⟨b25, rfl⟩
        · refine lv_if_eq (tgt := 38) hx hb dX0_latesThatFit_28 (by decide) (fun c9 => absurd c9 (by decide)) (fun _ => ?_)
          refine lv_iload_n hx hb dX0_latesThatFit_31 rfl (lv_at hl 3 rfl) ?_
          refine lv_iconst (v := nI 1) hx hb dX0_latesThatFit_32 (by decide) ?_
          refine lv_iload hx hb dX0_latesThatFit_33 (lv_at hl 4 rfl) ?_
          refine lv_ishl hx hb dX0_latesThatFit_35 ?_
          refine lv_ior hx hb dX0_latesThatFit_36 ?_
          refine lv_istore_n (lv' := [(3, .int ((cdB (fun k => SHb (nxF fs nl n fe (upd fl mm (nI k)) (nI 0)) fw fh h ns) k) ||| ((nI 1) <<< ((nI k) &&& 31)))), (0, .ref b), (1, .int (nI mm)), (2, .int h), (4, .int (nI k))]) hx hb dX0_latesThatFit_37 rfl hl (by decide) rfl (fun ls hl => ?_)
          refine lv_iinc (v := nI (k + 1)) (lv' := [(4, .int (nI (k + 1))), (3, .int ((cdB (fun k => SHb (nxF fs nl n fe (upd fl mm (nI k)) (nI 0)) fw fh h ns) k) ||| ((nI 1) <<< ((nI k) &&& 31)))), (0, .ref b), (1, .int (nI mm)), (2, .int h)]) hx hb dX0_latesThatFit_38 hl (k := 4) rfl (nI_1 k) (by decide) rfl (fun ls hl => ?_)
          refine lv_goto (tgt := 9) hx hb dX0_latesThatFit_41 (by decide) ?_
          have e8 := congrArg (fun z => z) (show cdB (fun k => SHb (nxF fs nl n fe (upd fl mm (nI k)) (nI 0)) fw fh h ns) (k + 1) = _ from if_pos b25)
          rw [← e8] at hl
          exact ih9 (k + 1) (upd ft mm (nI k)) u25.1 u25.2.1 u25.2.2 ((by omega)) ((fun j hj e9 => by rw [pk_un e9]; exact hT j hj e9)) (by omega) _ _ hP hD hS _ (lv_sub hl [2, 3, 4, 1, 0] rfl)
        · refine lv_if_eq (tgt := 38) hx hb dX0_latesThatFit_28 (by decide) (fun _ => ?_) (fun c9 => absurd (by decide) c9)
          refine lv_iinc (v := nI (k + 1)) (lv' := [(4, .int (nI (k + 1))), (0, .ref b), (1, .int (nI mm)), (2, .int h), (3, .int (cdB (fun k => SHb (nxF fs nl n fe (upd fl mm (nI k)) (nI 0)) fw fh h ns) k))]) hx hb dX0_latesThatFit_38 hl (k := 4) rfl (nI_1 k) (by decide) rfl (fun ls hl => ?_)
          refine lv_goto (tgt := 9) hx hb dX0_latesThatFit_41 (by decide) ?_
          have e8 := congrArg (fun z => z) (show cdB (fun k => SHb (nxF fs nl n fe (upd fl mm (nI k)) (nI 0)) fw fh h ns) (k + 1) = _ from if_neg b25)
          rw [← e8] at hl
          exact ih9 (k + 1) (upd ft mm (nI k)) u25.1 u25.2.1 u25.2.2 ((by omega)) ((fun j hj e9 => by rw [pk_un e9]; exact hT j hj e9)) (by omega) _ _ hP hD hS _ (lv_sub hl [1, 2, 3, 4, 0] rfl)
  exact L9 _ 0 (va_cpy fl ft 0 0 6) cm fk hg ((by omega)) ((fun j hj _ => by rw [pk_cpy_in (by omega) (by omega), Nat.zero_add, Nat.sub_zero])) (Nat.lt_succ_self _) _ _ hP hD hS _ (lv_sub hl [2, 3, 4, 1, 0] rfl)

abbrev rm_X2_restWays : Room := { frames := 1, cells := 0, slots := 0, locals := 21 }
set_option maxHeartbeats 1000000 in
set_option maxRecDepth 100000 in
theorem c_restWays (l : Launch) (D : va_G) (cI cJ cZ cG cM : ClassId) (ch cc pp nb : Nat) (b bt bc bs : Nat) (g ge gl gb gw gsw gsh : Nat) (ff n ns : Nat) (hg : Int32) (h6 : n ≤ 6) :
    CI l yX2_restWays wsX2_restWays rm_X2_restWays D [(cI, .int), (cJ, .long), (cZ, .boolean), (cG, .object "LatestSets$Guild"), (cM, .array .int)] [(ch, .inr (2, [.ref b, .ref cc, .ref pp, .ref nb])), (b, .inr (0, [.ref g, .ref bt, .ref bc, .ref bs, .int hg])), (g, .inr (3, [.ref ge, .ref gl, .ref gb, .ref gw, .ref gsw, .ref gsh, .int (nI ns), .int (nI n), .int (nI ff)]))] [.ref ch] (S := Unit) (fun r u => r = nI (4 ^ n)) (fun u => [(ch, .inr (2, [.ref b, .ref cc, .ref pp, .ref nb])), (b, .inr (0, [.ref g, .ref bt, .ref bc, .ref bs, .int hg])), (g, .inr (3, [.ref ge, .ref gl, .ref gb, .ref gw, .ref gsw, .ref gsh, .int (nI ns), .int (nI n), .int (nI ff)]))]) := by
  refine si_of (cc := cX2_restWays) (maxL := 1) (by decide) rfl (Nat.le_of_ble_eq_true rfl) ?_
  intro p e s m args below meth c A ls Q E hret
  obtain ⟨hx, hb, -, hml, hown, hts, -, hin, hA, hK, hP, hD, hS, hl, hN⟩ := E
  have hown : s.vm.findClass RX2 = some m.cls := hown
  have hl : lv_has ls 1 [(0, .ref ch)] := hl
  have SF : CallFix p m c cX2_restWays 1 s args wsX2_restWays RX2 := ⟨hx, hb, hml, hown, hts⟩
  have hw0 := hts (.fieldLink RX2 23 "LatestSets$Choices" "board" "LLatestSets$Board;") (by decide +kernel)
  have hi2 : ∀ x ∈ wsX20, x ∈ wsX2_restWays := by decide +kernel
  have hw2 := hts (.fieldLink RX2 53 "LatestSets$Board" "guild" "LLatestSets$Guild;") (by decide +kernel)
  have hi0 : ∀ x ∈ wsX00, x ∈ wsX2_restWays := by decide +kernel
  have hw4 := hts (.fieldLink RX2 84 "LatestSets$Guild" "count" "I") (by decide +kernel)
  have hi3 : ∀ x ∈ wsX30, x ∈ wsX2_restWays := by decide +kernel
  have hw6 := hts (.methodLink RX2 98 Lib.Math.min.name) (by decide +kernel)
  have hw7 := hts (.static Lib.Math.min.name) (by decide +kernel)
  have hw8 := hts (.initialized "java/lang/Math") (by decide +kernel)
  have hw9 := hts (.code Lib.Math.min.name Lib.Math.min.code 2 (some .int)) (by decide +kernel)
  have hp4 := p4_le h6
  refine lv_sipush (v := nI 4096) hx hb dX2_restWays_0 (by decide) ?_
  refine lv_iconst (v := nI 1) hx hb dX2_restWays_3 (by decide) ?_
  refine lv_iconst (v := nI 2) hx hb dX2_restWays_4 (by decide) ?_
  refine lv_aload_n hx hb dX2_restWays_5 rfl (lv_at hl 0 rfl) ?_
  refine va_get (D := D) (ci := 2) (v := .ref b) (C := RX2) (T := TX2) (N := 4) hx hb hts hi2 hown hK hP 0 rfl rfl 0 (by decide) hw0 (fun _ h9 => h9) rfl dX2_restWays_6 ?_
  refine va_get (D := D) (ci := 0) (v := .ref g) (C := RX0) (T := TX0) (N := 5) hx hb hts hi0 hown hK hP 1 rfl rfl 0 (by decide) hw2 (fun _ h9 => h9) rfl dX2_restWays_9 ?_
  refine va_get (D := D) (ci := 3) (v := .int (nI n)) (C := RX3) (T := TX3) (N := 9) hx hb hts hi3 hown hK hP 2 rfl rfl 7 (by decide) hw4 (fun _ h9 => h9) rfl dX2_restWays_12 ?_
  refine imul_n (a := 2) (b := n) hx hb dX2_restWays_15 ?_
  refine lv_ishl hx hb dX2_restWays_16 ?_
  refine lv_topi (fun y9 e9 => ?_)
  have e9 : nI (4 ^ n) = y9 := (e9.trans ((shl_n (by omega) (by rw [p24, Nat.one_mul]; omega)).trans (by rw [p24, Nat.one_mul]))).symm
  subst e9
  refine va_mmin hx hb (by rw [hml]; exact hl.1.symm) hown hw6 hw7 hw8 hw9 (Nat.le_of_ble_eq_true rfl) (Nat.le_of_ble_eq_true rfl) (Nat.zero_le _) (Nat.zero_le _) dX2_restWays_17 ?_
  refine lv_topi (fun y9 e9 => ?_)
  have e9 : nI (4 ^ n) = y9 := (e9.trans (mnI_r (by omega) (by omega))).symm
  subst e9
  exact hret (nI (4 ^ n)) (()) _ _ _ _ dX2_restWays_20 rfl hP hD hS

abbrev rm_X2_shiftOf : Room := { frames := 0, cells := 0, slots := 0, locals := 0 }
set_option maxHeartbeats 1000000 in
set_option maxRecDepth 100000 in
theorem c_shiftOf (l : Launch) (D : va_G) (cI cJ cZ cG cM : ClassId) (ch cc pp nb : Nat) (b bt bc bs : Nat) (g ge gl gb gw gsw gsh : Nat) (ff n ns : Nat) (hg : Int32) (m9 : Nat) (h6 : n ≤ 6) (hm9 : m9 < n) :
    CI l yX2_shiftOf wsX2_shiftOf rm_X2_shiftOf D [(cI, .int), (cJ, .long), (cZ, .boolean), (cG, .object "LatestSets$Guild"), (cM, .array .int)] [(ch, .inr (2, [.ref b, .ref cc, .ref pp, .ref nb])), (b, .inr (0, [.ref g, .ref bt, .ref bc, .ref bs, .int hg])), (g, .inr (3, [.ref ge, .ref gl, .ref gb, .ref gw, .ref gsw, .ref gsh, .int (nI ns), .int (nI n), .int (nI ff)]))] [.ref ch, .int (nI m9)] (S := Unit) (fun r u => r = nI (2 * (n - 1 - m9))) (fun u => [(ch, .inr (2, [.ref b, .ref cc, .ref pp, .ref nb])), (b, .inr (0, [.ref g, .ref bt, .ref bc, .ref bs, .int hg])), (g, .inr (3, [.ref ge, .ref gl, .ref gb, .ref gw, .ref gsw, .ref gsh, .int (nI ns), .int (nI n), .int (nI ff)]))]) := by
  refine si_of (cc := cX2_shiftOf) (maxL := 2) (by decide) rfl (Nat.le_of_ble_eq_true rfl) ?_
  intro p e s m args below meth c A ls Q E hret
  obtain ⟨hx, hb, -, hml, hown, hts, -, hin, hA, hK, hP, hD, hS, hl, hN⟩ := E
  have hown : s.vm.findClass RX2 = some m.cls := hown
  have hl : lv_has ls 2 [(0, .ref ch), (1, .int (nI m9))] := hl
  have SF : CallFix p m c cX2_shiftOf 2 s args wsX2_shiftOf RX2 := ⟨hx, hb, hml, hown, hts⟩
  have hw0 := hts (.fieldLink RX2 23 "LatestSets$Choices" "board" "LLatestSets$Board;") (by decide +kernel)
  have hi2 : ∀ x ∈ wsX20, x ∈ wsX2_shiftOf := by decide +kernel
  have hw2 := hts (.fieldLink RX2 53 "LatestSets$Board" "guild" "LLatestSets$Guild;") (by decide +kernel)
  have hi0 : ∀ x ∈ wsX00, x ∈ wsX2_shiftOf := by decide +kernel
  have hw4 := hts (.fieldLink RX2 84 "LatestSets$Guild" "count" "I") (by decide +kernel)
  have hi3 : ∀ x ∈ wsX30, x ∈ wsX2_shiftOf := by decide +kernel
  refine lv_iconst (v := nI 2) hx hb dX2_shiftOf_0 (by decide) ?_
  refine lv_aload_n hx hb dX2_shiftOf_1 rfl (lv_at hl 0 rfl) ?_
  refine va_get (D := D) (ci := 2) (v := .ref b) (C := RX2) (T := TX2) (N := 4) hx hb hts hi2 hown hK hP 0 rfl rfl 0 (by decide) hw0 (fun _ h9 => h9) rfl dX2_shiftOf_2 ?_
  refine va_get (D := D) (ci := 0) (v := .ref g) (C := RX0) (T := TX0) (N := 5) hx hb hts hi0 hown hK hP 1 rfl rfl 0 (by decide) hw2 (fun _ h9 => h9) rfl dX2_shiftOf_5 ?_
  refine va_get (D := D) (ci := 3) (v := .int (nI n)) (C := RX3) (T := TX3) (N := 9) hx hb hts hi3 hown hK hP 2 rfl rfl 7 (by decide) hw4 (fun _ h9 => h9) rfl dX2_shiftOf_8 ?_
  refine lv_iconst (v := nI 1) hx hb dX2_shiftOf_11 (by decide) ?_
  refine isub_n (a := n) (b := 1) hx hb dX2_shiftOf_12 (by omega) ?_
  refine lv_iload_n hx hb dX2_shiftOf_13 rfl (lv_at hl 1 rfl) ?_
  refine isub_n (a := n - 1) (b := m9) hx hb dX2_shiftOf_14 (by omega) ?_
  refine imul_n (a := 2) (b := (n - 1) - m9) hx hb dX2_shiftOf_15 ?_
  exact hret (nI (2 * ((n - 1) - m9))) (()) _ _ _ _ dX2_shiftOf_16 rfl hP hD hS

abbrev rm_X2_lateIn : Room := { frames := 1, cells := 0, slots := 0, locals := 21 }
set_option maxHeartbeats 1000000 in
set_option maxRecDepth 100000 in
theorem c_lateIn (l : Launch) (D : va_G) (cI cJ cZ cG cM : ClassId) (ch cc pp nb : Nat) (b bt bc bs : Nat) (g ge gl gb gw gsw gsh : Nat) (ff n ns : Nat) (hg : Int32) (wy m9 : Nat) (h6 : n ≤ 6) (hm9 : m9 < n) (hwy : wy < 4096) :
    CI l yX2_lateIn wsX2_lateIn rm_X2_lateIn D [(cI, .int), (cJ, .long), (cZ, .boolean), (cG, .object "LatestSets$Guild"), (cM, .array .int)] [(ch, .inr (2, [.ref b, .ref cc, .ref pp, .ref nb])), (b, .inr (0, [.ref g, .ref bt, .ref bc, .ref bs, .int hg])), (g, .inr (3, [.ref ge, .ref gl, .ref gb, .ref gw, .ref gsw, .ref gsh, .int (nI ns), .int (nI n), .int (nI ff)]))] [.ref ch, .int (nI wy), .int (nI m9)] (S := Unit) (fun r u => r = nI (d4 n wy m9)) (fun u => [(ch, .inr (2, [.ref b, .ref cc, .ref pp, .ref nb])), (b, .inr (0, [.ref g, .ref bt, .ref bc, .ref bs, .int hg])), (g, .inr (3, [.ref ge, .ref gl, .ref gb, .ref gw, .ref gsw, .ref gsh, .int (nI ns), .int (nI n), .int (nI ff)]))]) := by
  refine si_of (cc := cX2_lateIn) (maxL := 3) (by decide) rfl (Nat.le_of_ble_eq_true rfl) ?_
  intro p e s m args below meth c A ls Q E hret
  obtain ⟨hx, hb, -, hml, hown, hts, -, hin, hA, hK, hP, hD, hS, hl, hN⟩ := E
  have hown : s.vm.findClass RX2 = some m.cls := hown
  have hl : lv_has ls 3 [(0, .ref ch), (1, .int (nI wy)), (2, .int (nI m9))] := hl
  have SF : CallFix p m c cX2_lateIn 3 s args wsX2_lateIn RX2 := ⟨hx, hb, hml, hown, hts⟩
  refine lv_iload_n hx hb dX2_lateIn_0 rfl (lv_at hl 1 rfl) ?_
  refine lv_aload_n hx hb dX2_lateIn_1 rfl (lv_at hl 0 rfl) ?_
  refine lv_iload_n hx hb dX2_lateIn_2 rfl (lv_at hl 2 rfl) ?_
  refine cal_i (run_V (As := [.int (nI m9)]) (rest := [.int (nI wy)]) SF (c_shiftOf l D cI cJ cZ cG cM ch cc pp nb b bt bc bs g ge gl gb gw gsw gsh ff n ns hg m9 h6 hm9) (cwV 1 hts gX2_lateIn_X2_shiftOf rfl rfl rfl (by decide +kernel) ⟨Nat.le_of_ble_eq_true rfl, Nat.le_of_ble_eq_true rfl⟩) hN hK hP hD [0, 1, 2] rfl (by decide) 2 0 rfl rfl rfl rfl hl.1 rfl (Nat.le_of_ble_eq_true rfl) dX2_lateIn_3 ⟨Nat.le_of_ble_eq_true rfl, Nat.le_of_ble_eq_true rfl⟩) ⟨rfl, rfl⟩ hP hD hS hA [0, 1, 2] rfl (fun _ => rfl) (fun r3 _ H locs hw hP hD hS => ?_)
  have hP : va_P D vwCl [(ch, .inr (2, [.ref b, .ref cc, .ref pp, .ref nb])), (b, .inr (0, [.ref g, .ref bt, .ref bc, .ref bs, .int hg])), (g, .inr (3, [.ref ge, .ref gl, .ref gb, .ref gw, .ref gsw, .ref gsh, .int (nI ns), .int (nI n), .int (nI ff)]))] H := hP
  have hD : va_D A [(ch, .inr (2, [.ref b, .ref cc, .ref pp, .ref nb])), (b, .inr (0, [.ref g, .ref bt, .ref bc, .ref bs, .int hg])), (g, .inr (3, [.ref ge, .ref gl, .ref gb, .ref gw, .ref gsw, .ref gsh, .int (nI ns), .int (nI n), .int (nI ff)]))] := hD
  subst hw
  have hdl := Nat.div_le_self wy (4 ^ (n - 1 - m9))
  refine lv_ishr hx hb dX2_lateIn_6 ?_
  refine lv_topi (fun y9 e9 => ?_)
  have e9 : nI (wy / 4 ^ (n - 1 - m9)) = y9 := (e9.trans ((shr_n (by omega) (by omega)).trans (by rw [p24]))).symm
  subst e9
  refine lv_iconst (v := nI 3) hx hb dX2_lateIn_7 (by decide) ?_
  refine lv_iand hx hb dX2_lateIn_8 ?_
  refine lv_topi (fun y9 e9 => ?_)
  have e9 : nI (d4 n wy m9) = y9 := (e9.trans (and3_n (by omega))).symm
  subst e9
  exact hret (nI (d4 n wy m9)) (()) _ _ _ _ dX2_lateIn_9 rfl hP hD hS

abbrev rm_X2_tabulate : Room := { frames := 4, cells := 0, slots := 0, locals := 93 }
set_option maxHeartbeats 1000000 in
set_option maxRecDepth 100000 in
theorem c_tabulate (l : Launch) (D : va_G) (cI cJ cZ cG cM : ClassId) (ch cc pp nb : Nat) (b bt bc bs : Nat) (g ge gl gb gw gsw gsh : Nat) (ff n ns : Nat) (sg nl : Nat) (hg : Int32) (cm fk fs fe ft nf : Nat → Int32) (hV : VL fs nl) (h1 : 1 ≤ n) (h6 : n ≤ 6) (x : Nat) (hx9 : x ≤ 23) :
    CV l yX2_tabulate wsX2_tabulate rm_X2_tabulate D [(cI, .int), (cJ, .long), (cZ, .boolean), (cG, .object "LatestSets$Guild"), (cM, .array .int)] [(ch, .inr (2, [.ref b, .ref cc, .ref pp, .ref nb])), (b, .inr (0, [.ref g, .ref bt, .ref bc, .ref bs, .int hg])), (g, .inr (3, [.ref ge, .ref gl, .ref gb, .ref gw, .ref gsw, .ref gsh, .int (nI ns), .int (nI n), .int (nI ff)])), (ge, .inl (cI, 6, .inl fe)), (bt, .inl (cI, 6, .inl ft)), (bc, .inl (cI, 6, .inl cm)), (bs, .inl (cI, 20, .inl fk)), (gw, .inr (4, [.ref sg, .int (nI nl)])), (sg, .inl (cI, 20, .inl fs)), (nb, .inl (cI, 4096, .inl nf))] [.ref ch, .int (nI x)] (S := ((Nat → Int32) × (Nat → Int32) × (Nat → Int32) × Int32 × (Nat → Int32))) (fun u => ∀ j, j < 4 ^ n → u.2.2.2.2 j = nI (nbN (fun z9 => nxF fs nl n fe z9 (nI 0)) n x j)) (fun u => [(ch, .inr (2, [.ref b, .ref cc, .ref pp, .ref nb])), (b, .inr (0, [.ref g, .ref bt, .ref bc, .ref bs, .int u.2.2.2.1])), (g, .inr (3, [.ref ge, .ref gl, .ref gb, .ref gw, .ref gsw, .ref gsh, .int (nI ns), .int (nI n), .int (nI ff)])), (ge, .inl (cI, 6, .inl fe)), (bt, .inl (cI, 6, .inl u.1)), (bc, .inl (cI, 6, .inl u.2.1)), (bs, .inl (cI, 20, .inl u.2.2.1)), (gw, .inr (4, [.ref sg, .int (nI nl)])), (sg, .inl (cI, 20, .inl fs)), (nb, .inl (cI, 4096, .inl u.2.2.2.2))]) := by
  refine sv_of (cc := cX2_tabulate) (maxL := 5) (by decide) rfl (Nat.le_of_ble_eq_true rfl) ?_
  intro p e s m args below meth c A ls Q E hret
  obtain ⟨hx, hb, -, hml, hown, hts, -, hin, hA, hK, hP, hD, hS, hl, hN⟩ := E
  have hown : s.vm.findClass RX2 = some m.cls := hown
  have hl : lv_has ls 5 [(0, .ref ch), (1, .int (nI x))] := hl
  have SF : CallFix p m c cX2_tabulate 5 s args wsX2_tabulate RX2 := ⟨hx, hb, hml, hown, hts⟩
  have hw0 := hts (.fieldLink RX2 23 "LatestSets$Choices" "board" "LLatestSets$Board;") (by decide +kernel)
  have hi2 : ∀ x ∈ wsX20, x ∈ wsX2_tabulate := by decide +kernel
  have hw2 := hts (.fieldLink RX2 53 "LatestSets$Board" "guild" "LLatestSets$Guild;") (by decide +kernel)
  have hi0 : ∀ x ∈ wsX00, x ∈ wsX2_tabulate := by decide +kernel
  have hw4 := hts (.fieldLink RX2 84 "LatestSets$Guild" "count" "I") (by decide +kernel)
  have hi3 : ∀ x ∈ wsX30, x ∈ wsX2_tabulate := by decide +kernel
  have hw6 := hts (.fieldLink RX2 19 "LatestSets$Choices" "nextBy" "[I") (by decide +kernel)
  have hw7 := hts (.fieldLink RX2 57 "LatestSets$Guild" "law" "LLatestSets$Law;") (by decide +kernel)
  have hw8 := hts (.fieldLink RX2 50 "LatestSets$Board" "trial" "[I") (by decide +kernel)
  have hp4 := p4_le h6
  refine lv_aload_n hx hb dX2_tabulate_0 rfl (lv_at hl 0 rfl) ?_
  refine cal_i (run_V (As := []) (rest := []) SF (c_restWays l D cI cJ cZ cG cM ch cc pp nb b bt bc bs g ge gl gb gw gsw gsh ff n ns hg h6) (cwV 0 hts gX2_tabulate_X2_restWays rfl rfl rfl (by decide +kernel) ⟨Nat.le_of_ble_eq_true rfl, Nat.le_of_ble_eq_true rfl⟩) hN hK hP hD [0, 1, 2] rfl (by decide) 2 0 rfl rfl rfl rfl hl.1 rfl (Nat.le_of_ble_eq_true rfl) dX2_tabulate_1 ⟨Nat.le_of_ble_eq_true rfl, Nat.le_of_ble_eq_true rfl⟩) ⟨rfl, rfl⟩ hP hD hS hA [0, 1, 2] rfl (fun _ => rfl) (fun r1 _ H locs hw hP hD hS => ?_)
  have hP : va_P D vwCl [(ch, .inr (2, [.ref b, .ref cc, .ref pp, .ref nb])), (b, .inr (0, [.ref g, .ref bt, .ref bc, .ref bs, .int hg])), (g, .inr (3, [.ref ge, .ref gl, .ref gb, .ref gw, .ref gsw, .ref gsh, .int (nI ns), .int (nI n), .int (nI ff)])), (ge, .inl (cI, 6, .inl fe)), (bt, .inl (cI, 6, .inl ft)), (bc, .inl (cI, 6, .inl cm)), (bs, .inl (cI, 20, .inl fk)), (gw, .inr (4, [.ref sg, .int (nI nl)])), (sg, .inl (cI, 20, .inl fs)), (nb, .inl (cI, 4096, .inl nf))] H := hP
  have hD : va_D A [(ch, .inr (2, [.ref b, .ref cc, .ref pp, .ref nb])), (b, .inr (0, [.ref g, .ref bt, .ref bc, .ref bs, .int hg])), (g, .inr (3, [.ref ge, .ref gl, .ref gb, .ref gw, .ref gsw, .ref gsh, .int (nI ns), .int (nI n), .int (nI ff)])), (ge, .inl (cI, 6, .inl fe)), (bt, .inl (cI, 6, .inl ft)), (bc, .inl (cI, 6, .inl cm)), (bs, .inl (cI, 20, .inl fk)), (gw, .inr (4, [.ref sg, .int (nI nl)])), (sg, .inl (cI, 20, .inl fs)), (nb, .inl (cI, 4096, .inl nf))] := hD
  subst hw
  refine lv_istore_n (lv' := [(2, .int (nI (4 ^ n))), (0, .ref ch), (1, .int (nI x))]) hx hb dX2_tabulate_4 rfl hl (by decide) rfl (fun ls hl => ?_)
  refine lv_iconst (v := nI 0) hx hb dX2_tabulate_5 (by decide) ?_
  refine lv_istore_n (lv' := [(3, .int (nI 0)), (2, .int (nI (4 ^ n))), (0, .ref ch), (1, .int (nI x))]) hx hb dX2_tabulate_6 rfl hl (by decide) rfl (fun ls hl => ?_)
  have L7 : ∀ (n9 : Nat) (k : Nat) (ft cm fk : Nat → Int32) (hg : Int32) (nf : Nat → Int32) (hk : k ≤ 4 ^ n) (hf : ∀ j, j < k → nf j = nI (nbN (fun z9 => nxF fs nl n fe z9 (nI 0)) n x j)), 4 ^ n - k < n9 → ∀ (H : Heap) (locs : List Loc), va_P D vwCl [(ch, .inr (2, [.ref b, .ref cc, .ref pp, .ref nb])), (b, .inr (0, [.ref g, .ref bt, .ref bc, .ref bs, .int hg])), (g, .inr (3, [.ref ge, .ref gl, .ref gb, .ref gw, .ref gsw, .ref gsh, .int (nI ns), .int (nI n), .int (nI ff)])), (ge, .inl (cI, 6, .inl fe)), (bt, .inl (cI, 6, .inl ft)), (bc, .inl (cI, 6, .inl cm)), (bs, .inl (cI, 20, .inl fk)), (gw, .inr (4, [.ref sg, .int (nI nl)])), (sg, .inl (cI, 20, .inl fs)), (nb, .inl (cI, 4096, .inl nf))] H → va_D A [(ch, .inr (2, [.ref b, .ref cc, .ref pp, .ref nb])), (b, .inr (0, [.ref g, .ref bt, .ref bc, .ref bs, .int hg])), (g, .inr (3, [.ref ge, .ref gl, .ref gb, .ref gw, .ref gsw, .ref gsh, .int (nI ns), .int (nI n), .int (nI ff)])), (ge, .inl (cI, 6, .inl fe)), (bt, .inl (cI, 6, .inl ft)), (bc, .inl (cI, 6, .inl cm)), (bs, .inl (cI, 20, .inl fk)), (gw, .inr (4, [.ref sg, .int (nI nl)])), (sg, .inl (cI, 20, .inl fs)), (nb, .inl (cI, 4096, .inl nf))] → va_S A s.heap H locs → ∀ (ls : Array Slot), lv_has ls 5 [(0, .ref ch), (1, .int (nI x)), (2, .int (nI (4 ^ n))), (3, .int (nI k))] → W p l e rm_X2_tabulate s m args below meth c H locs 0 0 Q (F0 m 7 ls []) := by
    intro n9
    induction n9 with
    | zero => intro k ft cm fk hg nf hk hf hm; exact absurd hm (Nat.not_lt_zero _)
    | succ n9 ih7 =>
      intro k ft cm fk hg nf hk hf hm7 H locs hP hD hS ls hl
      refine lv_iload_n hx hb dX2_tabulate_7 rfl (lv_at hl 3 rfl) ?_
      refine lv_iload_n hx hb dX2_tabulate_8 rfl (lv_at hl 2 rfl) ?_
      refine icmp_ge_n (a := k) (b := 4 ^ n) (tgt := 91) hx hb dX2_tabulate_9 (by decide) (by omega) (by omega) (fun c9 => ?_) (fun c9 => ?_)
      · exact hret ((ft, cm, fk, hg, nf)) _ _ _ _ dX2_tabulate_91 (fun j hj => hf j (by omega)) hP hD hS
      · refine lv_iconst (v := nI 0) hx hb dX2_tabulate_12 (by decide) ?_
        refine lv_istore (lv' := [(4, .int (nI 0)), (0, .ref ch), (1, .int (nI x)), (2, .int (nI (4 ^ n))), (3, .int (nI k))]) hx hb dX2_tabulate_13 hl (by decide) rfl (fun ls hl => ?_)
        have L15 : ∀ (n9 : Nat) (m9 : Nat) (ft : Nat → Int32) (hm9 : m9 ≤ n) (hT : ∀ j, j < m9 → ft j = nI (d4 n k j)), n - m9 < n9 → ∀ (H : Heap) (locs : List Loc), va_P D vwCl [(ch, .inr (2, [.ref b, .ref cc, .ref pp, .ref nb])), (b, .inr (0, [.ref g, .ref bt, .ref bc, .ref bs, .int hg])), (g, .inr (3, [.ref ge, .ref gl, .ref gb, .ref gw, .ref gsw, .ref gsh, .int (nI ns), .int (nI n), .int (nI ff)])), (ge, .inl (cI, 6, .inl fe)), (bt, .inl (cI, 6, .inl ft)), (bc, .inl (cI, 6, .inl cm)), (bs, .inl (cI, 20, .inl fk)), (gw, .inr (4, [.ref sg, .int (nI nl)])), (sg, .inl (cI, 20, .inl fs)), (nb, .inl (cI, 4096, .inl nf))] H → va_D A [(ch, .inr (2, [.ref b, .ref cc, .ref pp, .ref nb])), (b, .inr (0, [.ref g, .ref bt, .ref bc, .ref bs, .int hg])), (g, .inr (3, [.ref ge, .ref gl, .ref gb, .ref gw, .ref gsw, .ref gsh, .int (nI ns), .int (nI n), .int (nI ff)])), (ge, .inl (cI, 6, .inl fe)), (bt, .inl (cI, 6, .inl ft)), (bc, .inl (cI, 6, .inl cm)), (bs, .inl (cI, 20, .inl fk)), (gw, .inr (4, [.ref sg, .int (nI nl)])), (sg, .inl (cI, 20, .inl fs)), (nb, .inl (cI, 4096, .inl nf))] → va_S A s.heap H locs → ∀ (ls : Array Slot), lv_has ls 5 [(0, .ref ch), (1, .int (nI x)), (2, .int (nI (4 ^ n))), (3, .int (nI k)), (4, .int (nI m9))] → W p l e rm_X2_tabulate s m args below meth c H locs 0 0 Q (F0 m 15 ls []) := by
          intro n9
          induction n9 with
          | zero => intro m9 ft hm9 hT hm; exact absurd hm (Nat.not_lt_zero _)
          | succ n9 ih15 =>
            intro m9 ft hm9 hT hm15 H locs hP hD hS ls hl
            refine lv_iload hx hb dX2_tabulate_15 (lv_at hl 4 rfl) ?_
            refine lv_aload_n hx hb dX2_tabulate_17 rfl (lv_at hl 0 rfl) ?_
            refine va_get (D := D) (ci := 2) (v := .ref b) (C := RX2) (T := TX2) (N := 4) hx hb hts hi2 hown hK hP 0 rfl rfl 0 (by decide) hw0 (fun _ h9 => h9) rfl dX2_tabulate_18 ?_
            refine va_get (D := D) (ci := 0) (v := .ref g) (C := RX0) (T := TX0) (N := 5) hx hb hts hi0 hown hK hP 1 rfl rfl 0 (by decide) hw2 (fun _ h9 => h9) rfl dX2_tabulate_21 ?_
            refine va_get (D := D) (ci := 3) (v := .int (nI n)) (C := RX3) (T := TX3) (N := 9) hx hb hts hi3 hown hK hP 2 rfl rfl 7 (by decide) hw4 (fun _ h9 => h9) rfl dX2_tabulate_24 ?_
            refine icmp_ge_n (a := m9) (b := n) (tgt := 53) hx hb dX2_tabulate_27 (by decide) (by omega) (by omega) (fun c27 => ?_) (fun c27 => ?_)
            · refine lv_aload_n hx hb dX2_tabulate_53 rfl (lv_at hl 0 rfl) ?_
              refine va_get (D := D) (ci := 2) (v := .ref nb) (C := RX2) (T := TX2) (N := 4) hx hb hts hi2 hown hK hP 0 rfl rfl 3 (by decide) hw6 (fun _ h9 => h9) rfl dX2_tabulate_54 ?_
              refine lv_iload_n hx hb dX2_tabulate_57 rfl (lv_at hl 3 rfl) ?_
              refine lv_aload_n hx hb dX2_tabulate_58 rfl (lv_at hl 0 rfl) ?_
              refine va_get (D := D) (ci := 2) (v := .ref b) (C := RX2) (T := TX2) (N := 4) hx hb hts hi2 hown hK hP 0 rfl rfl 0 (by decide) hw0 (fun _ h9 => h9) rfl dX2_tabulate_59 ?_
              refine lv_aload_n hx hb dX2_tabulate_62 rfl (lv_at hl 0 rfl) ?_
              refine va_get (D := D) (ci := 2) (v := .ref b) (C := RX2) (T := TX2) (N := 4) hx hb hts hi2 hown hK hP 0 rfl rfl 0 (by decide) hw0 (fun _ h9 => h9) rfl dX2_tabulate_63 ?_
              refine va_get (D := D) (ci := 0) (v := .ref g) (C := RX0) (T := TX0) (N := 5) hx hb hts hi0 hown hK hP 1 rfl rfl 0 (by decide) hw2 (fun _ h9 => h9) rfl dX2_tabulate_66 ?_
              refine va_get (D := D) (ci := 3) (v := .ref gw) (C := RX3) (T := TX3) (N := 9) hx hb hts hi3 hown hK hP 2 rfl rfl 3 (by decide) hw7 (fun _ h9 => h9) rfl dX2_tabulate_69 ?_
              refine lv_iload_n hx hb dX2_tabulate_72 rfl (lv_at hl 1 rfl) ?_
              refine lv_aload_n hx hb dX2_tabulate_73 rfl (lv_at hl 0 rfl) ?_
              refine va_get (D := D) (ci := 2) (v := .ref b) (C := RX2) (T := TX2) (N := 4) hx hb hts hi2 hown hK hP 0 rfl rfl 0 (by decide) hw0 (fun _ h9 => h9) rfl dX2_tabulate_74 ?_
              refine va_get (D := D) (ci := 0) (v := .ref bt) (C := RX0) (T := TX0) (N := 5) hx hb hts hi0 hown hK hP 1 rfl rfl 1 (by decide) hw8 (fun _ h9 => h9) rfl dX2_tabulate_77 ?_
              refine lv_iconst (v := nI 0) hx hb dX2_tabulate_80 (by decide) ?_
              refine cal_i (run_V (As := [.ref gw, .int (nI x), .ref bt, .int (nI 0)]) (rest := [.int (nI k), .ref nb]) SF (c_nextHour l D cI cJ cZ cG cM b bt bc bs g ge gl gb gw gsw gsh (nI ns) (nI ff) n gw sg nl bt hg (nI x) (nI 0) cm fk fs fe ft hV h1 h6) (cwV 4 hts gX2_tabulate_X0_nextHour rfl rfl rfl (by decide +kernel) ⟨Nat.le_of_ble_eq_true rfl, Nat.le_of_ble_eq_true rfl⟩) hN hK hP hD [1, 2, 3, 4, 5, 6, 7, 8] rfl (by decide) 0 1 rfl rfl rfl rfl hl.1 rfl (Nat.le_of_ble_eq_true rfl) dX2_tabulate_81 ⟨Nat.le_of_ble_eq_true rfl, Nat.le_of_ble_eq_true rfl⟩) ⟨rfl, rfl⟩ hP hD hS hA [1, 2, 3, 4, 5, 6, 7, 8] rfl (fun _ => rfl) (fun r81 u81 H locs hw hP hD hS => ?_)
              have hP : va_P D vwCl [(ch, .inr (2, [.ref b, .ref cc, .ref pp, .ref nb])), (b, .inr (0, [.ref g, .ref bt, .ref bc, .ref bs, .int u81.2.2])), (g, .inr (3, [.ref ge, .ref gl, .ref gb, .ref gw, .ref gsw, .ref gsh, .int (nI ns), .int (nI n), .int (nI ff)])), (ge, .inl (cI, 6, .inl fe)), (bt, .inl (cI, 6, .inl ft)), (bc, .inl (cI, 6, .inl u81.1)), (bs, .inl (cI, 20, .inl u81.2.1)), (gw, .inr (4, [.ref sg, .int (nI nl)])), (sg, .inl (cI, 20, .inl fs)), (nb, .inl (cI, 4096, .inl nf))] H := hP
              have hD : va_D A [(ch, .inr (2, [.ref b, .ref cc, .ref pp, .ref nb])), (b, .inr (0, [.ref g, .ref bt, .ref bc, .ref bs, .int u81.2.2])), (g, .inr (3, [.ref ge, .ref gl, .ref gb, .ref gw, .ref gsw, .ref gsh, .int (nI ns), .int (nI n), .int (nI ff)])), (ge, .inl (cI, 6, .inl fe)), (bt, .inl (cI, 6, .inl ft)), (bc, .inl (cI, 6, .inl u81.1)), (bs, .inl (cI, 20, .inl u81.2.1)), (gw, .inr (4, [.ref sg, .int (nI nl)])), (sg, .inl (cI, 20, .inl fs)), (nb, .inl (cI, 4096, .inl nf))] := hD
              have h81 : r81 = nI (nbN (fun z9 => nxF fs nl n fe z9 (nI 0)) n x k) := (hw.trans (congrFun (nxF_cong (f2 := fun m => nI (d4 n k m)) h1 (fun j hj => hT j (by omega))) _)).trans (nbN_eq (G := (fun z9 => nxF fs nl n fe z9 (nI 0))) (fun _ => FR_F _ _ _ _ _ _) n x k)
              refine iast_n (k := k) hx hb hK hP hD hS 9 0 rfl rfl (by omega) (by omega) dX2_tabulate_84 (fun H locs hP hD hS => ?_)
              have hP : va_P D vwCl [(ch, .inr (2, [.ref b, .ref cc, .ref pp, .ref nb])), (b, .inr (0, [.ref g, .ref bt, .ref bc, .ref bs, .int u81.2.2])), (g, .inr (3, [.ref ge, .ref gl, .ref gb, .ref gw, .ref gsw, .ref gsh, .int (nI ns), .int (nI n), .int (nI ff)])), (ge, .inl (cI, 6, .inl fe)), (bt, .inl (cI, 6, .inl ft)), (bc, .inl (cI, 6, .inl u81.1)), (bs, .inl (cI, 20, .inl u81.2.1)), (gw, .inr (4, [.ref sg, .int (nI nl)])), (sg, .inl (cI, 20, .inl fs)), (nb, .inl (cI, 4096, .inl (upd nf k r81)))] H := hP
              have hD : va_D A [(ch, .inr (2, [.ref b, .ref cc, .ref pp, .ref nb])), (b, .inr (0, [.ref g, .ref bt, .ref bc, .ref bs, .int u81.2.2])), (g, .inr (3, [.ref ge, .ref gl, .ref gb, .ref gw, .ref gsw, .ref gsh, .int (nI ns), .int (nI n), .int (nI ff)])), (ge, .inl (cI, 6, .inl fe)), (bt, .inl (cI, 6, .inl ft)), (bc, .inl (cI, 6, .inl u81.1)), (bs, .inl (cI, 20, .inl u81.2.1)), (gw, .inr (4, [.ref sg, .int (nI nl)])), (sg, .inl (cI, 20, .inl fs)), (nb, .inl (cI, 4096, .inl (upd nf k r81)))] := hD
              refine lv_iinc (v := nI (k + 1)) (lv' := [(3, .int (nI (k + 1))), (0, .ref ch), (1, .int (nI x)), (2, .int (nI (4 ^ n))), (4, .int (nI m9))]) hx hb dX2_tabulate_85 hl (k := 3) rfl (nI_1 k) (by decide) rfl (fun ls hl => ?_)
              refine lv_goto (tgt := 7) hx hb dX2_tabulate_88 (by decide) ?_
              exact ih7 (k + 1) ft u81.1 u81.2.1 u81.2.2 (upd nf k r81) ((by omega)) ((fun j hj => by rcases Nat.lt_or_ge j k with z | z; (exact (pk_un (by omega)).trans (hf j z)); (rw [show j = k by omega, pk_us]; exact h81))) (by omega) _ _ hP hD hS _ (lv_sub hl [1, 2, 3, 0] rfl)
            · refine lv_aload_n hx hb dX2_tabulate_30 rfl (lv_at hl 0 rfl) ?_
              refine va_get (D := D) (ci := 2) (v := .ref b) (C := RX2) (T := TX2) (N := 4) hx hb hts hi2 hown hK hP 0 rfl rfl 0 (by decide) hw0 (fun _ h9 => h9) rfl dX2_tabulate_31 ?_
              refine va_get (D := D) (ci := 0) (v := .ref bt) (C := RX0) (T := TX0) (N := 5) hx hb hts hi0 hown hK hP 1 rfl rfl 1 (by decide) hw8 (fun _ h9 => h9) rfl dX2_tabulate_34 ?_
              refine lv_iload hx hb dX2_tabulate_37 (lv_at hl 4 rfl) ?_
              refine lv_aload_n hx hb dX2_tabulate_39 rfl (lv_at hl 0 rfl) ?_
              refine lv_iload_n hx hb dX2_tabulate_40 rfl (lv_at hl 3 rfl) ?_
              refine lv_iload hx hb dX2_tabulate_41 (lv_at hl 4 rfl) ?_
              refine cal_i (run_V (As := [.int (nI k), .int (nI m9)]) (rest := [.int (nI m9), .ref bt]) SF (c_lateIn l D cI cJ cZ cG cM ch cc pp nb b bt bc bs g ge gl gb gw gsw gsh ff n ns hg k m9 h6 (by omega) (by omega)) (cwV 2 hts gX2_tabulate_X2_lateIn rfl rfl rfl (by decide +kernel) ⟨Nat.le_of_ble_eq_true rfl, Nat.le_of_ble_eq_true rfl⟩) hN hK hP hD [0, 1, 2] rfl (by decide) 2 0 rfl rfl rfl rfl hl.1 rfl (Nat.le_of_ble_eq_true rfl) dX2_tabulate_43 ⟨Nat.le_of_ble_eq_true rfl, Nat.le_of_ble_eq_true rfl⟩) ⟨rfl, rfl⟩ hP hD hS hA [0, 1, 2] rfl (fun _ => rfl) (fun r43 _ H locs hw hP hD hS => ?_)
              have hP : va_P D vwCl [(ch, .inr (2, [.ref b, .ref cc, .ref pp, .ref nb])), (b, .inr (0, [.ref g, .ref bt, .ref bc, .ref bs, .int hg])), (g, .inr (3, [.ref ge, .ref gl, .ref gb, .ref gw, .ref gsw, .ref gsh, .int (nI ns), .int (nI n), .int (nI ff)])), (ge, .inl (cI, 6, .inl fe)), (bt, .inl (cI, 6, .inl ft)), (bc, .inl (cI, 6, .inl cm)), (bs, .inl (cI, 20, .inl fk)), (gw, .inr (4, [.ref sg, .int (nI nl)])), (sg, .inl (cI, 20, .inl fs)), (nb, .inl (cI, 4096, .inl nf))] H := hP
              have hD : va_D A [(ch, .inr (2, [.ref b, .ref cc, .ref pp, .ref nb])), (b, .inr (0, [.ref g, .ref bt, .ref bc, .ref bs, .int hg])), (g, .inr (3, [.ref ge, .ref gl, .ref gb, .ref gw, .ref gsw, .ref gsh, .int (nI ns), .int (nI n), .int (nI ff)])), (ge, .inl (cI, 6, .inl fe)), (bt, .inl (cI, 6, .inl ft)), (bc, .inl (cI, 6, .inl cm)), (bs, .inl (cI, 20, .inl fk)), (gw, .inr (4, [.ref sg, .int (nI nl)])), (sg, .inl (cI, 20, .inl fs)), (nb, .inl (cI, 4096, .inl nf))] := hD
              subst hw
              refine iast_n (k := m9) hx hb hK hP hD hS 4 0 rfl rfl (by omega) (by omega) dX2_tabulate_46 (fun H locs hP hD hS => ?_)
              have hP : va_P D vwCl [(ch, .inr (2, [.ref b, .ref cc, .ref pp, .ref nb])), (b, .inr (0, [.ref g, .ref bt, .ref bc, .ref bs, .int hg])), (g, .inr (3, [.ref ge, .ref gl, .ref gb, .ref gw, .ref gsw, .ref gsh, .int (nI ns), .int (nI n), .int (nI ff)])), (ge, .inl (cI, 6, .inl fe)), (bt, .inl (cI, 6, .inl (upd ft m9 (nI (d4 n k m9))))), (bc, .inl (cI, 6, .inl cm)), (bs, .inl (cI, 20, .inl fk)), (gw, .inr (4, [.ref sg, .int (nI nl)])), (sg, .inl (cI, 20, .inl fs)), (nb, .inl (cI, 4096, .inl nf))] H := hP
              have hD : va_D A [(ch, .inr (2, [.ref b, .ref cc, .ref pp, .ref nb])), (b, .inr (0, [.ref g, .ref bt, .ref bc, .ref bs, .int hg])), (g, .inr (3, [.ref ge, .ref gl, .ref gb, .ref gw, .ref gsw, .ref gsh, .int (nI ns), .int (nI n), .int (nI ff)])), (ge, .inl (cI, 6, .inl fe)), (bt, .inl (cI, 6, .inl (upd ft m9 (nI (d4 n k m9))))), (bc, .inl (cI, 6, .inl cm)), (bs, .inl (cI, 20, .inl fk)), (gw, .inr (4, [.ref sg, .int (nI nl)])), (sg, .inl (cI, 20, .inl fs)), (nb, .inl (cI, 4096, .inl nf))] := hD
              refine lv_iinc (v := nI (m9 + 1)) (lv' := [(4, .int (nI (m9 + 1))), (0, .ref ch), (1, .int (nI x)), (2, .int (nI (4 ^ n))), (3, .int (nI k))]) hx hb dX2_tabulate_47 hl (k := 4) rfl (nI_1 m9) (by decide) rfl (fun ls hl => ?_)
              refine lv_goto (tgt := 15) hx hb dX2_tabulate_50 (by decide) ?_
              exact ih15 (m9 + 1) (upd ft m9 (nI (d4 n k m9))) ((by omega)) ((fun j hj => by rcases Nat.lt_or_ge j m9 with z | z; (exact (pk_un (by omega)).trans (hT j z)); (rw [show j = m9 by omega, pk_us]))) (by omega) _ _ hP hD hS _ (lv_sub hl [1, 2, 3, 4, 0] rfl)
        exact L15 _ 0 ft ((Nat.zero_le _)) ((fun j hj => absurd hj (Nat.not_lt_zero j))) (Nat.lt_succ_self _) _ _ hP hD hS _ (lv_sub hl [1, 2, 3, 4, 0] rfl)
  exact L7 _ 0 ft cm fk hg nf ((Nat.zero_le _)) ((fun j hj => absurd hj (Nat.not_lt_zero j))) (Nat.lt_succ_self _) _ _ hP hD hS _ (lv_sub hl [2, 3, 1, 0] rfl)

abbrev rm_X2_isRest : Room := { frames := 2, cells := 0, slots := 0, locals := 44 }
set_option maxHeartbeats 1000000 in
set_option maxRecDepth 100000 in
theorem c_isRest (l : Launch) (D : va_G) (cI cJ cZ cG cM : ClassId) (ch cc pp nb : Nat) (b bt bc bs : Nat) (g ge gl gb gw gsw gsh : Nat) (ff n ns : Nat) (sg nl : Nat) (hg : Int32) (fs fe fb nf : Nat → Int32) (h1 : 1 ≤ n) (h6 : n ≤ 6) (hff : ff ≤ 9) (hfb : ∀ j, j < n → ∃ b : Nat, b ≤ 23 ∧ fb j = nI b) (x wy : Nat) (hwy : wy < 4 ^ n) (hnf : ∀ j, j < 4 ^ n → nf j = nI (nbN (fun z9 => nxF fs nl n fe z9 (nI 0)) n x j)) :
    CI l yX2_isRest wsX2_isRest rm_X2_isRest D [(cI, .int), (cJ, .long), (cZ, .boolean), (cG, .object "LatestSets$Guild"), (cM, .array .int)] [(ch, .inr (2, [.ref b, .ref cc, .ref pp, .ref nb])), (b, .inr (0, [.ref g, .ref bt, .ref bc, .ref bs, .int hg])), (g, .inr (3, [.ref ge, .ref gl, .ref gb, .ref gw, .ref gsw, .ref gsh, .int (nI ns), .int (nI n), .int (nI ff)])), (gb, .inl (cI, 6, .inl fb)), (nb, .inl (cI, 4096, .inl nf))] [.ref ch, .int (nI wy)] (S := Unit) (fun r u => bz ((RSb (fun j => nbN (fun z9 => nxF fs nl n fe z9 (nI 0)) n x j) ff n (fun j => (fb j).toNatClampNeg)) wy = true) r) (fun u => [(ch, .inr (2, [.ref b, .ref cc, .ref pp, .ref nb])), (b, .inr (0, [.ref g, .ref bt, .ref bc, .ref bs, .int hg])), (g, .inr (3, [.ref ge, .ref gl, .ref gb, .ref gw, .ref gsw, .ref gsh, .int (nI ns), .int (nI n), .int (nI ff)])), (gb, .inl (cI, 6, .inl fb)), (nb, .inl (cI, 4096, .inl nf))]) := by
  refine sz_of (cc := cX2_isRest) (maxL := 8) (by decide) rfl (Nat.le_of_ble_eq_true rfl) ?_
  intro p e s m args below meth c A ls Q E hret
  obtain ⟨hx, hb, -, hml, hown, hts, -, hin, hA, hK, hP, hD, hS, hl, hN⟩ := E
  have hown : s.vm.findClass RX2 = some m.cls := hown
  have hl : lv_has ls 8 [(0, .ref ch), (1, .int (nI wy))] := hl
  have SF : CallFix p m c cX2_isRest 8 s args wsX2_isRest RX2 := ⟨hx, hb, hml, hown, hts⟩
  have hw0 := hts (.fieldLink RX2 23 "LatestSets$Choices" "board" "LLatestSets$Board;") (by decide +kernel)
  have hi2 : ∀ x ∈ wsX20, x ∈ wsX2_isRest := by decide +kernel
  have hw2 := hts (.fieldLink RX2 53 "LatestSets$Board" "guild" "LLatestSets$Guild;") (by decide +kernel)
  have hi0 : ∀ x ∈ wsX00, x ∈ wsX2_isRest := by decide +kernel
  have hw4 := hts (.fieldLink RX2 84 "LatestSets$Guild" "count" "I") (by decide +kernel)
  have hi3 : ∀ x ∈ wsX30, x ∈ wsX2_isRest := by decide +kernel
  have hw6 := hts (.fieldLink RX2 19 "LatestSets$Choices" "nextBy" "[I") (by decide +kernel)
  have hp4 := p4_le h6
  refine lv_iconst (v := nI 0) hx hb dX2_isRest_0 (by decide) ?_
  refine lv_istore_n (lv' := [(2, .int (nI 0)), (0, .ref ch), (1, .int (nI wy))]) hx hb dX2_isRest_1 rfl hl (by decide) rfl (fun ls hl => ?_)
  have L2 : ∀ (n9 : Nat) (m9 : Nat) (hm9 : m9 ≤ n) (hal : alB m9 (RSm (fun j => nbN (fun z9 => nxF fs nl n fe z9 (nI 0)) n x j) ff n (fun j => (fb j).toNatClampNeg) wy) = true), n - m9 < n9 → ∀ (H : Heap) (locs : List Loc), va_P D vwCl [(ch, .inr (2, [.ref b, .ref cc, .ref pp, .ref nb])), (b, .inr (0, [.ref g, .ref bt, .ref bc, .ref bs, .int hg])), (g, .inr (3, [.ref ge, .ref gl, .ref gb, .ref gw, .ref gsw, .ref gsh, .int (nI ns), .int (nI n), .int (nI ff)])), (gb, .inl (cI, 6, .inl fb)), (nb, .inl (cI, 4096, .inl nf))] H → va_D A [(ch, .inr (2, [.ref b, .ref cc, .ref pp, .ref nb])), (b, .inr (0, [.ref g, .ref bt, .ref bc, .ref bs, .int hg])), (g, .inr (3, [.ref ge, .ref gl, .ref gb, .ref gw, .ref gsw, .ref gsh, .int (nI ns), .int (nI n), .int (nI ff)])), (gb, .inl (cI, 6, .inl fb)), (nb, .inl (cI, 4096, .inl nf))] → va_S A s.heap H locs → ∀ (ls : Array Slot), lv_has ls 8 [(0, .ref ch), (1, .int (nI wy)), (2, .int (nI m9))] → W p l e rm_X2_isRest s m args below meth c H locs 0 0 Q (F0 m 2 ls []) := by
    intro n9
    induction n9 with
    | zero => intro m9 hm9 hal hm; exact absurd hm (Nat.not_lt_zero _)
    | succ n9 ih2 =>
      intro m9 hm9 hal hm2 H locs hP hD hS ls hl
      refine lv_iload_n hx hb dX2_isRest_2 rfl (lv_at hl 2 rfl) ?_
      refine lv_aload_n hx hb dX2_isRest_3 rfl (lv_at hl 0 rfl) ?_
      refine va_get (D := D) (ci := 2) (v := .ref b) (C := RX2) (T := TX2) (N := 4) hx hb hts hi2 hown hK hP 0 rfl rfl 0 (by decide) hw0 (fun _ h9 => h9) rfl dX2_isRest_4 ?_
      refine va_get (D := D) (ci := 0) (v := .ref g) (C := RX0) (T := TX0) (N := 5) hx hb hts hi0 hown hK hP 1 rfl rfl 0 (by decide) hw2 (fun _ h9 => h9) rfl dX2_isRest_7 ?_
      refine va_get (D := D) (ci := 3) (v := .int (nI n)) (C := RX3) (T := TX3) (N := 9) hx hb hts hi3 hown hK hP 2 rfl rfl 7 (by decide) hw4 (fun _ h9 => h9) rfl dX2_isRest_10 ?_
      refine icmp_ge_n (a := m9) (b := n) (tgt := 103) hx hb dX2_isRest_13 (by decide) (by omega) (by omega) (fun c13 => ?_) (fun c13 => ?_)
      · refine lv_iconst (v := nI 1) hx hb dX2_isRest_103 (by decide) ?_
        have e9 : m9 = n := by omega
        rw [e9] at hal
        exact hret (nI 1) (()) _ _ _ _ dX2_isRest_104 rfl (bz1 hal) hP hD hS
      · have hm9l : m9 < n := by omega
        obtain ⟨hbe, hb23⟩ := fb_n hfb m9 hm9l
        have hd4 := d4_le n wy m9
        have hdm := d4_mul n wy m9
        have hn9 := nbN_le (G := (fun z9 => nxF fs nl n fe z9 (nI 0))) (fun _ => FR_F _ _ _ _ _ _) n x wy
        have hff9 : ff * d4 n wy m9 ≤ 9 * 3 := Nat.mul_le_mul hff hd4
        have hds := dsN_le hn9 hb23
        refine lv_aload_n hx hb dX2_isRest_16 rfl (lv_at hl 0 rfl) ?_
        refine lv_iload_n hx hb dX2_isRest_17 rfl (lv_at hl 1 rfl) ?_
        refine lv_iload_n hx hb dX2_isRest_18 rfl (lv_at hl 2 rfl) ?_
        refine cal_i (run_V (As := [.int (nI wy), .int (nI m9)]) (rest := []) SF (c_lateIn l D cI cJ cZ cG cM ch cc pp nb b bt bc bs g ge gl gb gw gsw gsh ff n ns hg wy m9 h6 (by omega) (by omega)) (cwV 2 hts gX2_isRest_X2_lateIn rfl rfl rfl (by decide +kernel) ⟨Nat.le_of_ble_eq_true rfl, Nat.le_of_ble_eq_true rfl⟩) hN hK hP hD [0, 1, 2] rfl (by decide) 2 0 rfl rfl rfl rfl hl.1 rfl (Nat.le_of_ble_eq_true rfl) dX2_isRest_19 ⟨Nat.le_of_ble_eq_true rfl, Nat.le_of_ble_eq_true rfl⟩) ⟨rfl, rfl⟩ hP hD hS hA [0, 1, 2] rfl (fun _ => rfl) (fun r19 _ H locs hw hP hD hS => ?_)
        have hP : va_P D vwCl [(ch, .inr (2, [.ref b, .ref cc, .ref pp, .ref nb])), (b, .inr (0, [.ref g, .ref bt, .ref bc, .ref bs, .int hg])), (g, .inr (3, [.ref ge, .ref gl, .ref gb, .ref gw, .ref gsw, .ref gsh, .int (nI ns), .int (nI n), .int (nI ff)])), (gb, .inl (cI, 6, .inl fb)), (nb, .inl (cI, 4096, .inl nf))] H := hP
        have hD : va_D A [(ch, .inr (2, [.ref b, .ref cc, .ref pp, .ref nb])), (b, .inr (0, [.ref g, .ref bt, .ref bc, .ref bs, .int hg])), (g, .inr (3, [.ref ge, .ref gl, .ref gb, .ref gw, .ref gsw, .ref gsh, .int (nI ns), .int (nI n), .int (nI ff)])), (gb, .inl (cI, 6, .inl fb)), (nb, .inl (cI, 4096, .inl nf))] := hD
        subst hw
        refine lv_istore_n (lv' := [(3, .int (nI (d4 n wy m9))), (0, .ref ch), (1, .int (nI wy)), (2, .int (nI m9))]) hx hb dX2_isRest_22 rfl hl (by decide) rfl (fun ls hl => ?_)
        refine lv_iload_n hx hb dX2_isRest_23 rfl (lv_at hl 2 rfl) ?_
        refine lv_iload_n hx hb dX2_isRest_24 rfl (lv_at hl 0 rfl) ?_
        refine lv_aload_n hx hb dX2_isRest_25 rfl (lv_at hl 1 rfl) ?_
        refine lv_iload_n hx hb dX2_isRest_26 rfl (lv_at hl 3 rfl) ?_
        refine cal_i (run_V (As := [.int (nI m9)]) (rest := [.int (nI (d4 n wy m9)), .int (nI wy)]) SF (c_shiftOf l D cI cJ cZ cG cM ch cc pp nb b bt bc bs g ge gl gb gw gsw gsh ff n ns hg m9 h6 (by omega)) (cwV 1 hts gX2_isRest_X2_shiftOf rfl rfl rfl (by decide +kernel) ⟨Nat.le_of_ble_eq_true rfl, Nat.le_of_ble_eq_true rfl⟩) hN hK hP hD [0, 1, 2] rfl (by decide) 2 0 rfl rfl rfl rfl hl.1 rfl (Nat.le_of_ble_eq_true rfl) dX2_isRest_27 ⟨Nat.le_of_ble_eq_true rfl, Nat.le_of_ble_eq_true rfl⟩) ⟨rfl, rfl⟩ hP hD hS hA [0, 1, 2] rfl (fun _ => rfl) (fun r27 _ H locs hw hP hD hS => ?_)
        have hP : va_P D vwCl [(ch, .inr (2, [.ref b, .ref cc, .ref pp, .ref nb])), (b, .inr (0, [.ref g, .ref bt, .ref bc, .ref bs, .int hg])), (g, .inr (3, [.ref ge, .ref gl, .ref gb, .ref gw, .ref gsw, .ref gsh, .int (nI ns), .int (nI n), .int (nI ff)])), (gb, .inl (cI, 6, .inl fb)), (nb, .inl (cI, 4096, .inl nf))] H := hP
        have hD : va_D A [(ch, .inr (2, [.ref b, .ref cc, .ref pp, .ref nb])), (b, .inr (0, [.ref g, .ref bt, .ref bc, .ref bs, .int hg])), (g, .inr (3, [.ref ge, .ref gl, .ref gb, .ref gw, .ref gsw, .ref gsh, .int (nI ns), .int (nI n), .int (nI ff)])), (gb, .inl (cI, 6, .inl fb)), (nb, .inl (cI, 4096, .inl nf))] := hD
        subst hw
        refine lv_ishl hx hb dX2_isRest_30 ?_
        refine lv_topi (fun y9 e9 => ?_)
        have e9 : nI (d4 n wy m9 * 4 ^ (n - 1 - m9)) = y9 := (e9.trans ((shl_n (by omega) (by rw [p24]; omega)).trans (by rw [p24]))).symm
        subst e9
        refine isub_n (a := wy) (b := d4 n wy m9 * 4 ^ (n - 1 - m9)) hx hb dX2_isRest_31 (by omega) ?_
        refine lv_istore (lv' := [(4, .int (nI (wy - (d4 n wy m9 * 4 ^ (n - 1 - m9))))), (3, .int (nI (d4 n wy m9))), (0, .ref ch), (1, .int (nI wy)), (2, .int (nI m9))]) hx hb dX2_isRest_32 hl (by decide) rfl (fun ls hl => ?_)
        refine lv_aload_n hx hb dX2_isRest_34 rfl (lv_at hl 2 rfl) ?_
        refine lv_iload_n hx hb dX2_isRest_35 rfl (lv_at hl 4 rfl) ?_
        refine lv_aload_n hx hb dX2_isRest_36 rfl (lv_at hl 2 rfl) ?_
        refine va_get (D := D) (ci := 2) (v := .ref nb) (C := RX2) (T := TX2) (N := 4) hx hb hts hi2 hown hK hP 0 rfl rfl 3 (by decide) hw6 (fun _ h9 => h9) rfl dX2_isRest_37 ?_
        refine lv_iload_n hx hb dX2_isRest_40 rfl (lv_at hl 3 rfl) ?_
        refine iald_n (k := wy) hx hb hK hP 4 0 rfl rfl (by omega) (by omega) dX2_isRest_41 ?_
        refine lv_topi (fun y9 e9 => ?_)
        have e9 : nI (nbN (fun z9 => nxF fs nl n fe z9 (nI 0)) n x wy) = y9 := (e9.trans (hnf wy hwy)).symm
        subst e9
        refine lv_iload_n hx hb dX2_isRest_42 rfl (lv_at hl 1 rfl) ?_
        refine cal_i (run_V (As := [.int (nI m9), .int (nI (nbN (fun z9 => nxF fs nl n fe z9 (nI 0)) n x wy)), .int (nI (d4 n wy m9))]) (rest := []) SF (c_costOf l D cI cJ cZ cG cM ch cc pp nb b bt bc bs g ge gl gb gw gsw gsh ff n ns 0 0 hg fb m9 (nbN (fun z9 => nxF fs nl n fe z9 (nI 0)) n x wy) (d4 n wy m9) ((fb m9).toNatClampNeg) (by omega) hbe (by omega) (by omega)) (cwV 3 hts gX2_isRest_X2_costOf rfl rfl rfl (by decide +kernel) ⟨Nat.le_of_ble_eq_true rfl, Nat.le_of_ble_eq_true rfl⟩) hN hK hP hD [0, 1, 2, 3] rfl (by decide) 2 0 rfl rfl rfl rfl hl.1 rfl (Nat.le_of_ble_eq_true rfl) dX2_isRest_43 ⟨Nat.le_of_ble_eq_true rfl, Nat.le_of_ble_eq_true rfl⟩) ⟨rfl, rfl⟩ hP hD hS hA [0, 1, 2, 3] rfl (fun _ => rfl) (fun r43 _ H locs hw hP hD hS => ?_)
        have hP : va_P D vwCl [(ch, .inr (2, [.ref b, .ref cc, .ref pp, .ref nb])), (b, .inr (0, [.ref g, .ref bt, .ref bc, .ref bs, .int hg])), (g, .inr (3, [.ref ge, .ref gl, .ref gb, .ref gw, .ref gsw, .ref gsh, .int (nI ns), .int (nI n), .int (nI ff)])), (gb, .inl (cI, 6, .inl fb)), (nb, .inl (cI, 4096, .inl nf))] H := hP
        have hD : va_D A [(ch, .inr (2, [.ref b, .ref cc, .ref pp, .ref nb])), (b, .inr (0, [.ref g, .ref bt, .ref bc, .ref bs, .int hg])), (g, .inr (3, [.ref ge, .ref gl, .ref gb, .ref gw, .ref gsw, .ref gsh, .int (nI ns), .int (nI n), .int (nI ff)])), (gb, .inl (cI, 6, .inl fb)), (nb, .inl (cI, 4096, .inl nf))] := hD
        subst hw
        refine lv_istore (lv' := [(5, .int (nI (dsN (nbN (fun z9 => nxF fs nl n fe z9 (nI 0)) n x wy) ((fb m9).toNatClampNeg) + ff * d4 n wy m9))), (4, .int (nI (wy - (d4 n wy m9 * 4 ^ (n - 1 - m9))))), (3, .int (nI (d4 n wy m9))), (0, .ref ch), (1, .int (nI wy)), (2, .int (nI m9))]) hx hb dX2_isRest_46 hl (by decide) rfl (fun ls hl => ?_)
        refine lv_iconst (v := nI 0) hx hb dX2_isRest_48 (by decide) ?_
        refine lv_istore (lv' := [(6, .int (nI 0)), (5, .int (nI (dsN (nbN (fun z9 => nxF fs nl n fe z9 (nI 0)) n x wy) ((fb m9).toNatClampNeg) + ff * d4 n wy m9))), (4, .int (nI (wy - (d4 n wy m9 * 4 ^ (n - 1 - m9))))), (3, .int (nI (d4 n wy m9))), (0, .ref ch), (1, .int (nI wy)), (2, .int (nI m9))]) hx hb dX2_isRest_49 hl (by decide) rfl (fun ls hl => ?_)
        have L51 : ∀ (n9 : Nat) (q : Nat) (hq : q ≤ 4) (hbl : alB q (RSq (fun j => nbN (fun z9 => nxF fs nl n fe z9 (nI 0)) n x j) ff n (fun j => (fb j).toNatClampNeg) wy m9) = true), 4 - q < n9 → ∀ (H : Heap) (locs : List Loc), va_P D vwCl [(ch, .inr (2, [.ref b, .ref cc, .ref pp, .ref nb])), (b, .inr (0, [.ref g, .ref bt, .ref bc, .ref bs, .int hg])), (g, .inr (3, [.ref ge, .ref gl, .ref gb, .ref gw, .ref gsw, .ref gsh, .int (nI ns), .int (nI n), .int (nI ff)])), (gb, .inl (cI, 6, .inl fb)), (nb, .inl (cI, 4096, .inl nf))] H → va_D A [(ch, .inr (2, [.ref b, .ref cc, .ref pp, .ref nb])), (b, .inr (0, [.ref g, .ref bt, .ref bc, .ref bs, .int hg])), (g, .inr (3, [.ref ge, .ref gl, .ref gb, .ref gw, .ref gsw, .ref gsh, .int (nI ns), .int (nI n), .int (nI ff)])), (gb, .inl (cI, 6, .inl fb)), (nb, .inl (cI, 4096, .inl nf))] → va_S A s.heap H locs → ∀ (ls : Array Slot), lv_has ls 8 [(0, .ref ch), (1, .int (nI wy)), (2, .int (nI m9)), (4, .int (nI (wy - d4 n wy m9 * 4 ^ (n - 1 - m9)))), (5, .int (nI (dsN (nbN (fun z9 => nxF fs nl n fe z9 (nI 0)) n x wy) ((fb m9).toNatClampNeg) + ff * d4 n wy m9))), (6, .int (nI q))] → W p l e rm_X2_isRest s m args below meth c H locs 0 0 Q (F0 m 51 ls []) := by
          intro n9
          induction n9 with
          | zero => intro q hq hbl hm; exact absurd hm (Nat.not_lt_zero _)
          | succ n9 ih51 =>
            intro q hq hbl hm51 H locs hP hD hS ls hl
            refine lv_iload hx hb dX2_isRest_51 (lv_at hl 5 rfl) ?_
            refine lv_iconst (v := nI 4) hx hb dX2_isRest_53 (by decide) ?_
            refine icmp_ge_n (a := q) (b := 4) (tgt := 97) hx hb dX2_isRest_54 (by decide) (by omega) (by omega) (fun c54 => ?_) (fun c54 => ?_)
            · refine lv_iinc (v := nI (m9 + 1)) (lv' := [(2, .int (nI (m9 + 1))), (0, .ref ch), (1, .int (nI wy)), (4, .int (nI (wy - d4 n wy m9 * 4 ^ (n - 1 - m9)))), (5, .int (nI (dsN (nbN (fun z9 => nxF fs nl n fe z9 (nI 0)) n x wy) ((fb m9).toNatClampNeg) + ff * d4 n wy m9))), (6, .int (nI q))]) hx hb dX2_isRest_97 hl (k := 2) rfl (nI_1 m9) (by decide) rfl (fun ls hl => ?_)
              refine lv_goto (tgt := 2) hx hb dX2_isRest_100 (by decide) ?_
              have eq9 : q = 4 := by omega
              rw [eq9] at hbl
              exact ih2 (m9 + 1) ((by omega)) ((alB_s hal hbl)) (by omega) _ _ hP hD hS _ (lv_sub hl [1, 2, 0] rfl)
            · have hin := d4_in hm9l hwy (show q < 4 by omega)
              have hn8 := nbN_le (G := (fun z9 => nxF fs nl n fe z9 (nI 0))) (fun _ => FR_F _ _ _ _ _ _) n x (wy - d4 n wy m9 * 4 ^ (n - 1 - m9) + q * 4 ^ (n - 1 - m9))
              have hds8 := dsN_le hn8 hb23
              have hff8 : ff * q ≤ 9 * 3 := Nat.mul_le_mul hff (by omega)
              have hqm : q * 4 ^ (n - 1 - m9) ≤ 4 ^ n := by omega
              refine lv_aload_n hx hb dX2_isRest_57 rfl (lv_at hl 0 rfl) ?_
              refine va_get (D := D) (ci := 2) (v := .ref nb) (C := RX2) (T := TX2) (N := 4) hx hb hts hi2 hown hK hP 0 rfl rfl 3 (by decide) hw6 (fun _ h9 => h9) rfl dX2_isRest_58 ?_
              refine lv_iload hx hb dX2_isRest_61 (lv_at hl 3 rfl) ?_
              refine lv_iload hx hb dX2_isRest_63 (lv_at hl 5 rfl) ?_
              refine lv_aload_n hx hb dX2_isRest_65 rfl (lv_at hl 0 rfl) ?_
              refine lv_iload_n hx hb dX2_isRest_66 rfl (lv_at hl 2 rfl) ?_
              refine cal_i (run_V (As := [.int (nI m9)]) (rest := [.int (nI q), .int (nI (wy - d4 n wy m9 * 4 ^ (n - 1 - m9))), .ref nb]) SF (c_shiftOf l D cI cJ cZ cG cM ch cc pp nb b bt bc bs g ge gl gb gw gsw gsh ff n ns hg m9 h6 (by omega)) (cwV 1 hts gX2_isRest_X2_shiftOf rfl rfl rfl (by decide +kernel) ⟨Nat.le_of_ble_eq_true rfl, Nat.le_of_ble_eq_true rfl⟩) hN hK hP hD [0, 1, 2] rfl (by decide) 2 0 rfl rfl rfl rfl hl.1 rfl (Nat.le_of_ble_eq_true rfl) dX2_isRest_67 ⟨Nat.le_of_ble_eq_true rfl, Nat.le_of_ble_eq_true rfl⟩) ⟨rfl, rfl⟩ hP hD hS hA [0, 1, 2] rfl (fun _ => rfl) (fun r67 _ H locs hw hP hD hS => ?_)
              have hP : va_P D vwCl [(ch, .inr (2, [.ref b, .ref cc, .ref pp, .ref nb])), (b, .inr (0, [.ref g, .ref bt, .ref bc, .ref bs, .int hg])), (g, .inr (3, [.ref ge, .ref gl, .ref gb, .ref gw, .ref gsw, .ref gsh, .int (nI ns), .int (nI n), .int (nI ff)])), (gb, .inl (cI, 6, .inl fb)), (nb, .inl (cI, 4096, .inl nf))] H := hP
              have hD : va_D A [(ch, .inr (2, [.ref b, .ref cc, .ref pp, .ref nb])), (b, .inr (0, [.ref g, .ref bt, .ref bc, .ref bs, .int hg])), (g, .inr (3, [.ref ge, .ref gl, .ref gb, .ref gw, .ref gsw, .ref gsh, .int (nI ns), .int (nI n), .int (nI ff)])), (gb, .inl (cI, 6, .inl fb)), (nb, .inl (cI, 4096, .inl nf))] := hD
              subst hw
              refine lv_ishl hx hb dX2_isRest_70 ?_
              refine lv_topi (fun y9 e9 => ?_)
              have e9 : nI (q * 4 ^ (n - 1 - m9)) = y9 := (e9.trans ((shl_n (by omega) (by rw [p24]; omega)).trans (by rw [p24]))).symm
              subst e9
              refine iadd_n (a := wy - d4 n wy m9 * 4 ^ (n - 1 - m9)) (b := q * 4 ^ (n - 1 - m9)) hx hb dX2_isRest_71 ?_
              refine iald_n (k := (wy - d4 n wy m9 * 4 ^ (n - 1 - m9)) + (q * 4 ^ (n - 1 - m9))) hx hb hK hP 4 0 rfl rfl (by omega) (by omega) dX2_isRest_72 ?_
              refine lv_topi (fun y9 e9 => ?_)
              have e9 : nI (nbN (fun z9 => nxF fs nl n fe z9 (nI 0)) n x (wy - d4 n wy m9 * 4 ^ (n - 1 - m9) + q * 4 ^ (n - 1 - m9))) = y9 := (e9.trans (hnf _ hin)).symm
              subst e9
              refine lv_istore (lv' := [(7, .int (nI (nbN (fun z9 => nxF fs nl n fe z9 (nI 0)) n x (wy - d4 n wy m9 * 4 ^ (n - 1 - m9) + q * 4 ^ (n - 1 - m9))))), (0, .ref ch), (1, .int (nI wy)), (2, .int (nI m9)), (4, .int (nI (wy - d4 n wy m9 * 4 ^ (n - 1 - m9)))), (5, .int (nI (dsN (nbN (fun z9 => nxF fs nl n fe z9 (nI 0)) n x wy) ((fb m9).toNatClampNeg) + ff * d4 n wy m9))), (6, .int (nI q))]) hx hb dX2_isRest_73 hl (by decide) rfl (fun ls hl => ?_)
              refine lv_aload_n hx hb dX2_isRest_75 rfl (lv_at hl 1 rfl) ?_
              refine lv_iload_n hx hb dX2_isRest_76 rfl (lv_at hl 3 rfl) ?_
              refine lv_iload hx hb dX2_isRest_77 (lv_at hl 0 rfl) ?_
              refine lv_iload hx hb dX2_isRest_79 (lv_at hl 6 rfl) ?_
              refine cal_i (run_V (As := [.int (nI m9), .int (nI (nbN (fun z9 => nxF fs nl n fe z9 (nI 0)) n x (wy - d4 n wy m9 * 4 ^ (n - 1 - m9) + q * 4 ^ (n - 1 - m9)))), .int (nI q)]) (rest := []) SF (c_costOf l D cI cJ cZ cG cM ch cc pp nb b bt bc bs g ge gl gb gw gsw gsh ff n ns 0 0 hg fb m9 (nbN (fun z9 => nxF fs nl n fe z9 (nI 0)) n x (wy - d4 n wy m9 * 4 ^ (n - 1 - m9) + q * 4 ^ (n - 1 - m9))) q ((fb m9).toNatClampNeg) (by omega) hbe (by omega) (by omega)) (cwV 3 hts gX2_isRest_X2_costOf rfl rfl rfl (by decide +kernel) ⟨Nat.le_of_ble_eq_true rfl, Nat.le_of_ble_eq_true rfl⟩) hN hK hP hD [0, 1, 2, 3] rfl (by decide) 2 0 rfl rfl rfl rfl hl.1 rfl (Nat.le_of_ble_eq_true rfl) dX2_isRest_81 ⟨Nat.le_of_ble_eq_true rfl, Nat.le_of_ble_eq_true rfl⟩) ⟨rfl, rfl⟩ hP hD hS hA [0, 1, 2, 3] rfl (fun _ => rfl) (fun r81 _ H locs hw hP hD hS => ?_)
              have hP : va_P D vwCl [(ch, .inr (2, [.ref b, .ref cc, .ref pp, .ref nb])), (b, .inr (0, [.ref g, .ref bt, .ref bc, .ref bs, .int hg])), (g, .inr (3, [.ref ge, .ref gl, .ref gb, .ref gw, .ref gsw, .ref gsh, .int (nI ns), .int (nI n), .int (nI ff)])), (gb, .inl (cI, 6, .inl fb)), (nb, .inl (cI, 4096, .inl nf))] H := hP
              have hD : va_D A [(ch, .inr (2, [.ref b, .ref cc, .ref pp, .ref nb])), (b, .inr (0, [.ref g, .ref bt, .ref bc, .ref bs, .int hg])), (g, .inr (3, [.ref ge, .ref gl, .ref gb, .ref gw, .ref gsw, .ref gsh, .int (nI ns), .int (nI n), .int (nI ff)])), (gb, .inl (cI, 6, .inl fb)), (nb, .inl (cI, 4096, .inl nf))] := hD
              subst hw
              refine lv_iload hx hb dX2_isRest_84 (lv_at hl 5 rfl) ?_
              refine icmp_ge_n (a := dsN (nbN (fun z9 => nxF fs nl n fe z9 (nI 0)) n x (wy - d4 n wy m9 * 4 ^ (n - 1 - m9) + q * 4 ^ (n - 1 - m9))) ((fb m9).toNatClampNeg) + ff * q) (b := dsN (nbN (fun z9 => nxF fs nl n fe z9 (nI 0)) n x wy) ((fb m9).toNatClampNeg) + ff * d4 n wy m9) (tgt := 91) hx hb dX2_isRest_86 (by decide) (by omega) (by omega) (fun c86 => ?_) (fun c86 => ?_)
              · refine lv_iinc (v := nI (q + 1)) (lv' := [(6, .int (nI (q + 1))), (7, .int (nI (nbN (fun z9 => nxF fs nl n fe z9 (nI 0)) n x (wy - d4 n wy m9 * 4 ^ (n - 1 - m9) + q * 4 ^ (n - 1 - m9))))), (0, .ref ch), (1, .int (nI wy)), (2, .int (nI m9)), (4, .int (nI (wy - d4 n wy m9 * 4 ^ (n - 1 - m9)))), (5, .int (nI (dsN (nbN (fun z9 => nxF fs nl n fe z9 (nI 0)) n x wy) ((fb m9).toNatClampNeg) + ff * d4 n wy m9)))]) hx hb dX2_isRest_91 hl (k := 6) rfl (nI_1 q) (by decide) rfl (fun ls hl => ?_)
                refine lv_goto (tgt := 51) hx hb dX2_isRest_94 (by decide) ?_
                exact ih51 (q + 1) ((by omega)) ((alB_s hbl (decide_eq_true (by omega)))) (by omega) _ _ hP hD hS _ (lv_sub hl [2, 3, 4, 5, 6, 0] rfl)
              · refine lv_iconst (v := nI 0) hx hb dX2_isRest_89 (by decide) ?_
                exact hret (nI 0) (()) _ _ _ _ dX2_isRest_90 rfl (bz0 (fun z => absurd ((alB_no (P := (RSm (fun j => nbN (fun z9 => nxF fs nl n fe z9 (nI 0)) n x j) ff n (fun j => (fb j).toNatClampNeg) wy)) hm9l (alB_no (k := q) (P := (RSq (fun j => nbN (fun z9 => nxF fs nl n fe z9 (nI 0)) n x j) ff n (fun j => (fb j).toNatClampNeg) wy m9)) (by omega) (decide_eq_false (fun z => by have z2 : dsN (nbN (fun z9 => nxF fs nl n fe z9 (nI 0)) n x wy) ((fb m9).toNatClampNeg) + ff * d4 n wy m9 ≤ dsN (nbN (fun z9 => nxF fs nl n fe z9 (nI 0)) n x (wy - d4 n wy m9 * 4 ^ (n - 1 - m9) + q * 4 ^ (n - 1 - m9))) ((fb m9).toNatClampNeg) + ff * q := z; omega)))).symm.trans z) (by decide))) hP hD hS
        exact L51 _ 0 ((by omega)) rfl (Nat.lt_succ_self _) _ _ hP hD hS _ (lv_sub hl [4, 5, 6, 2, 1, 0] rfl)
  exact L2 _ 0 ((Nat.zero_le _)) rfl (Nat.lt_succ_self _) _ _ hP hD hS _ (lv_sub hl [1, 2, 0] rfl)

abbrev rm_X2_restCount : Room := { frames := 3, cells := 0, slots := 0, locals := 71 }
set_option maxHeartbeats 1000000 in
set_option maxRecDepth 100000 in
theorem c_restCount (l : Launch) (D : va_G) (cI cJ cZ cG cM : ClassId) (ch cc pp nb : Nat) (b bt bc bs : Nat) (g ge gl gb gw gsw gsh : Nat) (ff n ns : Nat) (sg nl : Nat) (hg : Int32) (fs fe fb nf : Nat → Int32) (h1 : 1 ≤ n) (h6 : n ≤ 6) (hff : ff ≤ 9) (hfb : ∀ j, j < n → ∃ b : Nat, b ≤ 23 ∧ fb j = nI b) (x : Nat) (hnf : ∀ j, j < 4 ^ n → nf j = nI (nbN (fun z9 => nxF fs nl n fe z9 (nI 0)) n x j)) :
    CI l yX2_restCount wsX2_restCount rm_X2_restCount D [(cI, .int), (cJ, .long), (cZ, .boolean), (cG, .object "LatestSets$Guild"), (cM, .array .int)] [(ch, .inr (2, [.ref b, .ref cc, .ref pp, .ref nb])), (b, .inr (0, [.ref g, .ref bt, .ref bc, .ref bs, .int hg])), (g, .inr (3, [.ref ge, .ref gl, .ref gb, .ref gw, .ref gsw, .ref gsh, .int (nI ns), .int (nI n), .int (nI ff)])), (gb, .inl (cI, 6, .inl fb)), (nb, .inl (cI, 4096, .inl nf))] [.ref ch] (S := Unit) (fun r u => r = nI (cnt (RSb (fun j => nbN (fun z9 => nxF fs nl n fe z9 (nI 0)) n x j) ff n (fun j => (fb j).toNatClampNeg)) (4 ^ n))) (fun u => [(ch, .inr (2, [.ref b, .ref cc, .ref pp, .ref nb])), (b, .inr (0, [.ref g, .ref bt, .ref bc, .ref bs, .int hg])), (g, .inr (3, [.ref ge, .ref gl, .ref gb, .ref gw, .ref gsw, .ref gsh, .int (nI ns), .int (nI n), .int (nI ff)])), (gb, .inl (cI, 6, .inl fb)), (nb, .inl (cI, 4096, .inl nf))]) := by
  refine si_of (cc := cX2_restCount) (maxL := 4) (by decide) rfl (Nat.le_of_ble_eq_true rfl) ?_
  intro p e s m args below meth c A ls Q E hret
  obtain ⟨hx, hb, -, hml, hown, hts, -, hin, hA, hK, hP, hD, hS, hl, hN⟩ := E
  have hown : s.vm.findClass RX2 = some m.cls := hown
  have hl : lv_has ls 4 [(0, .ref ch)] := hl
  have SF : CallFix p m c cX2_restCount 4 s args wsX2_restCount RX2 := ⟨hx, hb, hml, hown, hts⟩
  have hp4 := p4_le h6
  refine lv_aload_n hx hb dX2_restCount_0 rfl (lv_at hl 0 rfl) ?_
  refine cal_i (run_V (As := []) (rest := []) SF (c_restWays l D cI cJ cZ cG cM ch cc pp nb b bt bc bs g ge gl gb gw gsw gsh ff n ns hg h6) (cwV 0 hts gX2_restCount_X2_restWays rfl rfl rfl (by decide +kernel) ⟨Nat.le_of_ble_eq_true rfl, Nat.le_of_ble_eq_true rfl⟩) hN hK hP hD [0, 1, 2] rfl (by decide) 2 0 rfl rfl rfl rfl hl.1 rfl (Nat.le_of_ble_eq_true rfl) dX2_restCount_1 ⟨Nat.le_of_ble_eq_true rfl, Nat.le_of_ble_eq_true rfl⟩) ⟨rfl, rfl⟩ hP hD hS hA [0, 1, 2] rfl (fun _ => rfl) (fun r1 _ H locs hw hP hD hS => ?_)
  have hP : va_P D vwCl [(ch, .inr (2, [.ref b, .ref cc, .ref pp, .ref nb])), (b, .inr (0, [.ref g, .ref bt, .ref bc, .ref bs, .int hg])), (g, .inr (3, [.ref ge, .ref gl, .ref gb, .ref gw, .ref gsw, .ref gsh, .int (nI ns), .int (nI n), .int (nI ff)])), (gb, .inl (cI, 6, .inl fb)), (nb, .inl (cI, 4096, .inl nf))] H := hP
  have hD : va_D A [(ch, .inr (2, [.ref b, .ref cc, .ref pp, .ref nb])), (b, .inr (0, [.ref g, .ref bt, .ref bc, .ref bs, .int hg])), (g, .inr (3, [.ref ge, .ref gl, .ref gb, .ref gw, .ref gsw, .ref gsh, .int (nI ns), .int (nI n), .int (nI ff)])), (gb, .inl (cI, 6, .inl fb)), (nb, .inl (cI, 4096, .inl nf))] := hD
  subst hw
  refine lv_istore_n (lv' := [(1, .int (nI (4 ^ n))), (0, .ref ch)]) hx hb dX2_restCount_4 rfl hl (by decide) rfl (fun ls hl => ?_)
  refine lv_iconst (v := nI 0) hx hb dX2_restCount_5 (by decide) ?_
  refine lv_istore_n (lv' := [(2, .int (nI 0)), (1, .int (nI (4 ^ n))), (0, .ref ch)]) hx hb dX2_restCount_6 rfl hl (by decide) rfl (fun ls hl => ?_)
  refine lv_iconst (v := nI 0) hx hb dX2_restCount_7 (by decide) ?_
  refine lv_istore_n (lv' := [(3, .int (nI 0)), (2, .int (nI 0)), (1, .int (nI (4 ^ n))), (0, .ref ch)]) hx hb dX2_restCount_8 rfl hl (by decide) rfl (fun ls hl => ?_)
  have L9 : ∀ (n9 : Nat) (k : Nat) (hk : k ≤ 4 ^ n), 4 ^ n - k < n9 → ∀ (H : Heap) (locs : List Loc), va_P D vwCl [(ch, .inr (2, [.ref b, .ref cc, .ref pp, .ref nb])), (b, .inr (0, [.ref g, .ref bt, .ref bc, .ref bs, .int hg])), (g, .inr (3, [.ref ge, .ref gl, .ref gb, .ref gw, .ref gsw, .ref gsh, .int (nI ns), .int (nI n), .int (nI ff)])), (gb, .inl (cI, 6, .inl fb)), (nb, .inl (cI, 4096, .inl nf))] H → va_D A [(ch, .inr (2, [.ref b, .ref cc, .ref pp, .ref nb])), (b, .inr (0, [.ref g, .ref bt, .ref bc, .ref bs, .int hg])), (g, .inr (3, [.ref ge, .ref gl, .ref gb, .ref gw, .ref gsw, .ref gsh, .int (nI ns), .int (nI n), .int (nI ff)])), (gb, .inl (cI, 6, .inl fb)), (nb, .inl (cI, 4096, .inl nf))] → va_S A s.heap H locs → ∀ (ls : Array Slot), lv_has ls 4 [(0, .ref ch), (1, .int (nI (4 ^ n))), (2, .int (nI (cnt (RSb (fun j => nbN (fun z9 => nxF fs nl n fe z9 (nI 0)) n x j) ff n (fun j => (fb j).toNatClampNeg)) k))), (3, .int (nI k))] → W p l e rm_X2_restCount s m args below meth c H locs 0 0 Q (F0 m 9 ls []) := by
    intro n9
    induction n9 with
    | zero => intro k hk hm; exact absurd hm (Nat.not_lt_zero _)
    | succ n9 ih9 =>
      intro k hk hm9 H locs hP hD hS ls hl
      have hcl := cnt_le (RSb (fun j => nbN (fun z9 => nxF fs nl n fe z9 (nI 0)) n x j) ff n (fun j => (fb j).toNatClampNeg)) k
      refine lv_iload_n hx hb dX2_restCount_9 rfl (lv_at hl 3 rfl) ?_
      refine lv_iload_n hx hb dX2_restCount_10 rfl (lv_at hl 1 rfl) ?_
      refine icmp_ge_n (a := k) (b := 4 ^ n) (tgt := 31) hx hb dX2_restCount_11 (by decide) (by omega) (by omega) (fun c11 => ?_) (fun c11 => ?_)
      · refine lv_iload_n hx hb dX2_restCount_31 rfl (lv_at hl 2 rfl) ?_
        exact hret (nI (cnt (RSb (fun j => nbN (fun z9 => nxF fs nl n fe z9 (nI 0)) n x j) ff n (fun j => (fb j).toNatClampNeg)) k)) (()) _ _ _ _ dX2_restCount_32 (by rw [show 4 ^ n = k by omega]) hP hD hS
      · refine lv_aload_n hx hb dX2_restCount_14 rfl (lv_at hl 0 rfl) ?_
        refine lv_iload_n hx hb dX2_restCount_15 rfl (lv_at hl 3 rfl) ?_
        refine cal_i (run_V (As := [.int (nI k)]) (rest := []) SF (c_isRest l D cI cJ cZ cG cM ch cc pp nb b bt bc bs g ge gl gb gw gsw gsh ff n ns 0 nl hg fs fe fb nf h1 h6 hff hfb x k (by omega) hnf) (cwV 1 hts gX2_restCount_X2_isRest rfl rfl rfl (by decide +kernel) ⟨Nat.le_of_ble_eq_true rfl, Nat.le_of_ble_eq_true rfl⟩) hN hK hP hD [0, 1, 2, 3, 4] rfl (by decide) 2 0 rfl rfl rfl rfl hl.1 rfl (Nat.le_of_ble_eq_true rfl) dX2_restCount_16 ⟨Nat.le_of_ble_eq_true rfl, Nat.le_of_ble_eq_true rfl⟩) ⟨rfl, rfl⟩ hP hD hS hA [0, 1, 2, 3, 4] rfl (fun _ => rfl) (fun r16 _ H locs hw hP hD hS => ?_)
        have hP : va_P D vwCl [(ch, .inr (2, [.ref b, .ref cc, .ref pp, .ref nb])), (b, .inr (0, [.ref g, .ref bt, .ref bc, .ref bs, .int hg])), (g, .inr (3, [.ref ge, .ref gl, .ref gb, .ref gw, .ref gsw, .ref gsh, .int (nI ns), .int (nI n), .int (nI ff)])), (gb, .inl (cI, 6, .inl fb)), (nb, .inl (cI, 4096, .inl nf))] H := hP
        have hD : va_D A [(ch, .inr (2, [.ref b, .ref cc, .ref pp, .ref nb])), (b, .inr (0, [.ref g, .ref bt, .ref bc, .ref bs, .int hg])), (g, .inr (3, [.ref ge, .ref gl, .ref gb, .ref gw, .ref gsw, .ref gsh, .int (nI ns), .int (nI n), .int (nI ff)])), (gb, .inl (cI, 6, .inl fb)), (nb, .inl (cI, 4096, .inl nf))] := hD
        rcases hw with ⟨b16, rfl⟩ | ⟨b16, rfl⟩
        · refine lv_if_eq (tgt := 25) hx hb dX2_restCount_19 (by decide) (fun c9 => absurd c9 (by decide)) (fun _ => ?_)
          refine lv_iinc (v := nI ((cnt (RSb (fun j => nbN (fun z9 => nxF fs nl n fe z9 (nI 0)) n x j) ff n (fun j => (fb j).toNatClampNeg)) k) + 1)) (lv' := [(2, .int (nI ((cnt (RSb (fun j => nbN (fun z9 => nxF fs nl n fe z9 (nI 0)) n x j) ff n (fun j => (fb j).toNatClampNeg)) k) + 1))), (0, .ref ch), (1, .int (nI (4 ^ n))), (3, .int (nI k))]) hx hb dX2_restCount_22 hl (k := 2) rfl (nI_1 (cnt (RSb (fun j => nbN (fun z9 => nxF fs nl n fe z9 (nI 0)) n x j) ff n (fun j => (fb j).toNatClampNeg)) k)) (by decide) rfl (fun ls hl => ?_)
          refine lv_iinc (v := nI (k + 1)) (lv' := [(3, .int (nI (k + 1))), (2, .int (nI ((cnt (RSb (fun j => nbN (fun z9 => nxF fs nl n fe z9 (nI 0)) n x j) ff n (fun j => (fb j).toNatClampNeg)) k) + 1))), (0, .ref ch), (1, .int (nI (4 ^ n)))]) hx hb dX2_restCount_25 hl (k := 3) rfl (nI_1 k) (by decide) rfl (fun ls hl => ?_)
          refine lv_goto (tgt := 9) hx hb dX2_restCount_28 (by decide) ?_
          have e8 : nI ((cnt (RSb (fun j => nbN (fun z9 => nxF fs nl n fe z9 (nI 0)) n x j) ff n (fun j => (fb j).toNatClampNeg)) k) + 1) = nI (cnt (RSb (fun j => nbN (fun z9 => nxF fs nl n fe z9 (nI 0)) n x j) ff n (fun j => (fb j).toNatClampNeg)) (k + 1)) := congrArg nI (if_pos b16).symm
          have hl : lv_has ls 4 [(3, .int (nI (k + 1))), (2, .int (nI (cnt (RSb (fun j => nbN (fun z9 => nxF fs nl n fe z9 (nI 0)) n x j) ff n (fun j => (fb j).toNatClampNeg)) (k + 1)))), (0, .ref ch), (1, .int (nI (4 ^ n)))] := by rw [← e8]; exact hl
          exact ih9 (k + 1) ((by omega)) (by omega) _ _ hP hD hS _ (lv_sub hl [2, 3, 1, 0] rfl)
        · refine lv_if_eq (tgt := 25) hx hb dX2_restCount_19 (by decide) (fun _ => ?_) (fun c9 => absurd (by decide) c9)
          refine lv_iinc (v := nI (k + 1)) (lv' := [(3, .int (nI (k + 1))), (0, .ref ch), (1, .int (nI (4 ^ n))), (2, .int (nI (cnt (RSb (fun j => nbN (fun z9 => nxF fs nl n fe z9 (nI 0)) n x j) ff n (fun j => (fb j).toNatClampNeg)) k)))]) hx hb dX2_restCount_25 hl (k := 3) rfl (nI_1 k) (by decide) rfl (fun ls hl => ?_)
          refine lv_goto (tgt := 9) hx hb dX2_restCount_28 (by decide) ?_
          have e8 : nI (cnt (RSb (fun j => nbN (fun z9 => nxF fs nl n fe z9 (nI 0)) n x j) ff n (fun j => (fb j).toNatClampNeg)) k) = nI (cnt (RSb (fun j => nbN (fun z9 => nxF fs nl n fe z9 (nI 0)) n x j) ff n (fun j => (fb j).toNatClampNeg)) (k + 1)) := congrArg nI (if_neg b16).symm
          have hl : lv_has ls 4 [(3, .int (nI (k + 1))), (0, .ref ch), (1, .int (nI (4 ^ n))), (2, .int (nI (cnt (RSb (fun j => nbN (fun z9 => nxF fs nl n fe z9 (nI 0)) n x j) ff n (fun j => (fb j).toNatClampNeg)) (k + 1))))] := by rw [← e8]; exact hl
          exact ih9 (k + 1) ((by omega)) (by omega) _ _ hP hD hS _ (lv_sub hl [1, 2, 3, 0] rfl)
  have e8 : nI 0 = nI (cnt (RSb (fun j => nbN (fun z9 => nxF fs nl n fe z9 (nI 0)) n x j) ff n (fun j => (fb j).toNatClampNeg)) 0) := rfl
  have hl : lv_has ls 4 [(3, .int (nI 0)), (2, .int (nI (cnt (RSb (fun j => nbN (fun z9 => nxF fs nl n fe z9 (nI 0)) n x j) ff n (fun j => (fb j).toNatClampNeg)) 0))), (1, .int (nI (4 ^ n))), (0, .ref ch)] := by rw [← e8]; exact hl
  exact L9 _ 0 ((Nat.zero_le _)) (Nat.lt_succ_self _) _ _ hP hD hS _ (lv_sub hl [3, 2, 1, 0] rfl)

abbrev rm_X2_digitsOf : Room := { frames := 2, cells := 0, slots := 0, locals := 43 }
set_option maxHeartbeats 1000000 in
set_option maxRecDepth 100000 in
theorem c_digitsOf (l : Launch) (D : va_G) (cI cJ cZ cG cM : ClassId) (ch cc pp nb : Nat) (b bt bc bs : Nat) (g ge gl gb gw gsw gsh : Nat) (ff n ns : Nat) (hg : Int32) (wy : Nat) (h6 : n ≤ 6) (hwy : wy < 4096) :
    CI l yX2_digitsOf wsX2_digitsOf rm_X2_digitsOf D [(cI, .int), (cJ, .long), (cZ, .boolean), (cG, .object "LatestSets$Guild"), (cM, .array .int)] [(ch, .inr (2, [.ref b, .ref cc, .ref pp, .ref nb])), (b, .inr (0, [.ref g, .ref bt, .ref bc, .ref bs, .int hg])), (g, .inr (3, [.ref ge, .ref gl, .ref gb, .ref gw, .ref gsw, .ref gsh, .int (nI ns), .int (nI n), .int (nI ff)]))] [.ref ch, .int (nI wy)] (S := Unit) (fun r u => r = nI (dgN n wy n)) (fun u => [(ch, .inr (2, [.ref b, .ref cc, .ref pp, .ref nb])), (b, .inr (0, [.ref g, .ref bt, .ref bc, .ref bs, .int hg])), (g, .inr (3, [.ref ge, .ref gl, .ref gb, .ref gw, .ref gsw, .ref gsh, .int (nI ns), .int (nI n), .int (nI ff)]))]) := by
  refine si_of (cc := cX2_digitsOf) (maxL := 4) (by decide) rfl (Nat.le_of_ble_eq_true rfl) ?_
  intro p e s m args below meth c A ls Q E hret
  obtain ⟨hx, hb, -, hml, hown, hts, -, hin, hA, hK, hP, hD, hS, hl, hN⟩ := E
  have hown : s.vm.findClass RX2 = some m.cls := hown
  have hl : lv_has ls 4 [(0, .ref ch), (1, .int (nI wy))] := hl
  have SF : CallFix p m c cX2_digitsOf 4 s args wsX2_digitsOf RX2 := ⟨hx, hb, hml, hown, hts⟩
  have hw0 := hts (.fieldLink RX2 23 "LatestSets$Choices" "board" "LLatestSets$Board;") (by decide +kernel)
  have hi2 : ∀ x ∈ wsX20, x ∈ wsX2_digitsOf := by decide +kernel
  have hw2 := hts (.fieldLink RX2 53 "LatestSets$Board" "guild" "LLatestSets$Guild;") (by decide +kernel)
  have hi0 : ∀ x ∈ wsX00, x ∈ wsX2_digitsOf := by decide +kernel
  have hw4 := hts (.fieldLink RX2 84 "LatestSets$Guild" "count" "I") (by decide +kernel)
  have hi3 : ∀ x ∈ wsX30, x ∈ wsX2_digitsOf := by decide +kernel
  refine lv_iconst (v := nI 0) hx hb dX2_digitsOf_0 (by decide) ?_
  refine lv_istore_n (lv' := [(2, .int (nI 0)), (0, .ref ch), (1, .int (nI wy))]) hx hb dX2_digitsOf_1 rfl hl (by decide) rfl (fun ls hl => ?_)
  refine lv_iconst (v := nI 0) hx hb dX2_digitsOf_2 (by decide) ?_
  refine lv_istore_n (lv' := [(3, .int (nI 0)), (2, .int (nI 0)), (0, .ref ch), (1, .int (nI wy))]) hx hb dX2_digitsOf_3 rfl hl (by decide) rfl (fun ls hl => ?_)
  have L4 : ∀ (n9 : Nat) (m9 : Nat) (hm9 : m9 ≤ n), n - m9 < n9 → ∀ (H : Heap) (locs : List Loc), va_P D vwCl [(ch, .inr (2, [.ref b, .ref cc, .ref pp, .ref nb])), (b, .inr (0, [.ref g, .ref bt, .ref bc, .ref bs, .int hg])), (g, .inr (3, [.ref ge, .ref gl, .ref gb, .ref gw, .ref gsw, .ref gsh, .int (nI ns), .int (nI n), .int (nI ff)]))] H → va_D A [(ch, .inr (2, [.ref b, .ref cc, .ref pp, .ref nb])), (b, .inr (0, [.ref g, .ref bt, .ref bc, .ref bs, .int hg])), (g, .inr (3, [.ref ge, .ref gl, .ref gb, .ref gw, .ref gsw, .ref gsh, .int (nI ns), .int (nI n), .int (nI ff)]))] → va_S A s.heap H locs → ∀ (ls : Array Slot), lv_has ls 4 [(0, .ref ch), (1, .int (nI wy)), (2, .int (nI (dgN n wy m9))), (3, .int (nI m9))] → W p l e rm_X2_digitsOf s m args below meth c H locs 0 0 Q (F0 m 4 ls []) := by
    intro n9
    induction n9 with
    | zero => intro m9 hm9 hm; exact absurd hm (Nat.not_lt_zero _)
    | succ n9 ih4 =>
      intro m9 hm9 hm4 H locs hP hD hS ls hl
      refine lv_iload_n hx hb dX2_digitsOf_4 rfl (lv_at hl 3 rfl) ?_
      refine lv_aload_n hx hb dX2_digitsOf_5 rfl (lv_at hl 0 rfl) ?_
      refine va_get (D := D) (ci := 2) (v := .ref b) (C := RX2) (T := TX2) (N := 4) hx hb hts hi2 hown hK hP 0 rfl rfl 0 (by decide) hw0 (fun _ h9 => h9) rfl dX2_digitsOf_6 ?_
      refine va_get (D := D) (ci := 0) (v := .ref g) (C := RX0) (T := TX0) (N := 5) hx hb hts hi0 hown hK hP 1 rfl rfl 0 (by decide) hw2 (fun _ h9 => h9) rfl dX2_digitsOf_9 ?_
      refine va_get (D := D) (ci := 3) (v := .int (nI n)) (C := RX3) (T := TX3) (N := 9) hx hb hts hi3 hown hK hP 2 rfl rfl 7 (by decide) hw4 (fun _ h9 => h9) rfl dX2_digitsOf_12 ?_
      refine icmp_ge_n (a := m9) (b := n) (tgt := 36) hx hb dX2_digitsOf_15 (by decide) (by omega) (by omega) (fun c15 => ?_) (fun c15 => ?_)
      · refine lv_iload_n hx hb dX2_digitsOf_36 rfl (lv_at hl 2 rfl) ?_
        have e9 : m9 = n := by omega
        exact hret (nI (dgN n wy m9)) (()) _ _ _ _ dX2_digitsOf_37 (by rw [e9]) hP hD hS
      · refine lv_bipush (v := nI 10) hx hb dX2_digitsOf_18 (by decide) ?_
        refine lv_iload_n hx hb dX2_digitsOf_20 rfl (lv_at hl 2 rfl) ?_
        refine imul_n (a := 10) (b := dgN n wy m9) hx hb dX2_digitsOf_21 ?_
        refine lv_aload_n hx hb dX2_digitsOf_22 rfl (lv_at hl 0 rfl) ?_
        refine lv_iload_n hx hb dX2_digitsOf_23 rfl (lv_at hl 1 rfl) ?_
        refine lv_iload_n hx hb dX2_digitsOf_24 rfl (lv_at hl 3 rfl) ?_
        refine cal_i (run_V (As := [.int (nI wy), .int (nI m9)]) (rest := [.int (nI (10 * (dgN n wy m9)))]) SF (c_lateIn l D cI cJ cZ cG cM ch cc pp nb b bt bc bs g ge gl gb gw gsw gsh ff n ns hg wy m9 h6 (by omega) hwy) (cwV 2 hts gX2_digitsOf_X2_lateIn rfl rfl rfl (by decide +kernel) ⟨Nat.le_of_ble_eq_true rfl, Nat.le_of_ble_eq_true rfl⟩) hN hK hP hD [0, 1, 2] rfl (by decide) 2 0 rfl rfl rfl rfl hl.1 rfl (Nat.le_of_ble_eq_true rfl) dX2_digitsOf_25 ⟨Nat.le_of_ble_eq_true rfl, Nat.le_of_ble_eq_true rfl⟩) ⟨rfl, rfl⟩ hP hD hS hA [0, 1, 2] rfl (fun _ => rfl) (fun r25 _ H locs hw hP hD hS => ?_)
        have hP : va_P D vwCl [(ch, .inr (2, [.ref b, .ref cc, .ref pp, .ref nb])), (b, .inr (0, [.ref g, .ref bt, .ref bc, .ref bs, .int hg])), (g, .inr (3, [.ref ge, .ref gl, .ref gb, .ref gw, .ref gsw, .ref gsh, .int (nI ns), .int (nI n), .int (nI ff)]))] H := hP
        have hD : va_D A [(ch, .inr (2, [.ref b, .ref cc, .ref pp, .ref nb])), (b, .inr (0, [.ref g, .ref bt, .ref bc, .ref bs, .int hg])), (g, .inr (3, [.ref ge, .ref gl, .ref gb, .ref gw, .ref gsw, .ref gsh, .int (nI ns), .int (nI n), .int (nI ff)]))] := hD
        subst hw
        refine iadd_n (a := 10 * (dgN n wy m9)) (b := d4 n wy m9) hx hb dX2_digitsOf_28 ?_
        refine lv_istore_n (lv' := [(2, .int (nI ((10 * (dgN n wy m9)) + (d4 n wy m9)))), (0, .ref ch), (1, .int (nI wy)), (3, .int (nI m9))]) hx hb dX2_digitsOf_29 rfl hl (by decide) rfl (fun ls hl => ?_)
        refine lv_iinc (v := nI (m9 + 1)) (lv' := [(3, .int (nI (m9 + 1))), (2, .int (nI ((10 * (dgN n wy m9)) + (d4 n wy m9)))), (0, .ref ch), (1, .int (nI wy))]) hx hb dX2_digitsOf_30 hl (k := 3) rfl (nI_1 m9) (by decide) rfl (fun ls hl => ?_)
        refine lv_goto (tgt := 4) hx hb dX2_digitsOf_33 (by decide) ?_
        have e8 : nI ((10 * (dgN n wy m9)) + (d4 n wy m9)) = nI (dgN n wy (m9 + 1)) := rfl
        have hl : lv_has ls 4 [(3, .int (nI (m9 + 1))), (2, .int (nI (dgN n wy (m9 + 1)))), (0, .ref ch), (1, .int (nI wy))] := by rw [← e8]; exact hl
        exact ih4 (m9 + 1) ((by omega)) (by omega) _ _ hP hD hS _ (lv_sub hl [2, 3, 1, 0] rfl)
  have e8 : nI 0 = nI (dgN n wy 0) := rfl
  have hl : lv_has ls 4 [(3, .int (nI 0)), (2, .int (nI (dgN n wy 0))), (0, .ref ch), (1, .int (nI wy))] := by rw [← e8]; exact hl
  exact L4 _ 0 ((Nat.zero_le _)) (Nat.lt_succ_self _) _ _ hP hD hS _ (lv_sub hl [2, 3, 1, 0] rfl)

abbrev rm_X2_restAt : Room := { frames := 3, cells := 0, slots := 0, locals := 71 }
set_option maxHeartbeats 1000000 in
set_option maxRecDepth 100000 in
theorem c_restAt (l : Launch) (D : va_G) (cI cJ cZ cG cM : ClassId) (ch cc pp nb : Nat) (b bt bc bs : Nat) (g ge gl gb gw gsw gsh : Nat) (ff n ns : Nat) (sg nl : Nat) (hg : Int32) (fs fe fb nf : Nat → Int32) (h1 : 1 ≤ n) (h6 : n ≤ 6) (hff : ff ≤ 9) (hfb : ∀ j, j < n → ∃ b : Nat, b ≤ 23 ∧ fb j = nI b) (x : Nat) (hnf : ∀ j, j < 4 ^ n → nf j = nI (nbN (fun z9 => nxF fs nl n fe z9 (nI 0)) n x j)) (y : Int32) (hy : ¬ y = (-1)) :
    CI l yX2_restAt wsX2_restAt rm_X2_restAt D [(cI, .int), (cJ, .long), (cZ, .boolean), (cG, .object "LatestSets$Guild"), (cM, .array .int)] [(ch, .inr (2, [.ref b, .ref cc, .ref pp, .ref nb])), (b, .inr (0, [.ref g, .ref bt, .ref bc, .ref bs, .int hg])), (g, .inr (3, [.ref ge, .ref gl, .ref gb, .ref gw, .ref gsw, .ref gsh, .int (nI ns), .int (nI n), .int (nI ff)])), (gb, .inl (cI, 6, .inl fb)), (nb, .inl (cI, 4096, .inl nf))] [.ref ch, .int y] (S := Unit) (fun r u => ATI (RSb (fun j => nbN (fun z9 => nxF fs nl n fe z9 (nI 0)) n x j) ff n (fun j => (fb j).toNatClampNeg)) (fun w9 => nI (dgN n w9 n)) y (4 ^ n) r) (fun u => [(ch, .inr (2, [.ref b, .ref cc, .ref pp, .ref nb])), (b, .inr (0, [.ref g, .ref bt, .ref bc, .ref bs, .int hg])), (g, .inr (3, [.ref ge, .ref gl, .ref gb, .ref gw, .ref gsw, .ref gsh, .int (nI ns), .int (nI n), .int (nI ff)])), (gb, .inl (cI, 6, .inl fb)), (nb, .inl (cI, 4096, .inl nf))]) := by
  refine si_of (cc := cX2_restAt) (maxL := 5) (by decide) rfl (Nat.le_of_ble_eq_true rfl) ?_
  intro p e s m args below meth c A ls Q E hret
  obtain ⟨hx, hb, -, hml, hown, hts, -, hin, hA, hK, hP, hD, hS, hl, hN⟩ := E
  have hown : s.vm.findClass RX2 = some m.cls := hown
  have hl : lv_has ls 5 [(0, .ref ch), (1, .int y)] := hl
  have SF : CallFix p m c cX2_restAt 5 s args wsX2_restAt RX2 := ⟨hx, hb, hml, hown, hts⟩
  have hp4 := p4_le h6
  refine lv_aload_n hx hb dX2_restAt_0 rfl (lv_at hl 0 rfl) ?_
  refine cal_i (run_V (As := []) (rest := []) SF (c_restWays l D cI cJ cZ cG cM ch cc pp nb b bt bc bs g ge gl gb gw gsw gsh ff n ns hg h6) (cwV 0 hts gX2_restAt_X2_restWays rfl rfl rfl (by decide +kernel) ⟨Nat.le_of_ble_eq_true rfl, Nat.le_of_ble_eq_true rfl⟩) hN hK hP hD [0, 1, 2] rfl (by decide) 2 0 rfl rfl rfl rfl hl.1 rfl (Nat.le_of_ble_eq_true rfl) dX2_restAt_1 ⟨Nat.le_of_ble_eq_true rfl, Nat.le_of_ble_eq_true rfl⟩) ⟨rfl, rfl⟩ hP hD hS hA [0, 1, 2] rfl (fun _ => rfl) (fun r1 _ H locs hw hP hD hS => ?_)
  have hP : va_P D vwCl [(ch, .inr (2, [.ref b, .ref cc, .ref pp, .ref nb])), (b, .inr (0, [.ref g, .ref bt, .ref bc, .ref bs, .int hg])), (g, .inr (3, [.ref ge, .ref gl, .ref gb, .ref gw, .ref gsw, .ref gsh, .int (nI ns), .int (nI n), .int (nI ff)])), (gb, .inl (cI, 6, .inl fb)), (nb, .inl (cI, 4096, .inl nf))] H := hP
  have hD : va_D A [(ch, .inr (2, [.ref b, .ref cc, .ref pp, .ref nb])), (b, .inr (0, [.ref g, .ref bt, .ref bc, .ref bs, .int hg])), (g, .inr (3, [.ref ge, .ref gl, .ref gb, .ref gw, .ref gsw, .ref gsh, .int (nI ns), .int (nI n), .int (nI ff)])), (gb, .inl (cI, 6, .inl fb)), (nb, .inl (cI, 4096, .inl nf))] := hD
  subst hw
  refine lv_istore_n (lv' := [(2, .int (nI (4 ^ n))), (0, .ref ch), (1, .int y)]) hx hb dX2_restAt_4 rfl hl (by decide) rfl (fun ls hl => ?_)
  refine lv_iconst (v := nI 0) hx hb dX2_restAt_5 (by decide) ?_
  refine lv_istore_n (lv' := [(3, .int (nI 0)), (2, .int (nI (4 ^ n))), (0, .ref ch), (1, .int y)]) hx hb dX2_restAt_6 rfl hl (by decide) rfl (fun ls hl => ?_)
  refine lv_iconst (v := nI 0) hx hb dX2_restAt_7 (by decide) ?_
  refine lv_istore (lv' := [(4, .int (nI 0)), (3, .int (nI 0)), (2, .int (nI (4 ^ n))), (0, .ref ch), (1, .int y)]) hx hb dX2_restAt_8 hl (by decide) rfl (fun ls hl => ?_)
  have L10 : ∀ (n9 : Nat) (k : Nat) (hk : k ≤ 4 ^ n) (hno : ∀ j, j < k → ¬ ((RSb (fun j => nbN (fun z9 => nxF fs nl n fe z9 (nI 0)) n x j) ff n (fun j => (fb j).toNatClampNeg)) j = true ∧ nI (cnt (RSb (fun j => nbN (fun z9 => nxF fs nl n fe z9 (nI 0)) n x j) ff n (fun j => (fb j).toNatClampNeg)) j) = y)), 4 ^ n - k < n9 → ∀ (H : Heap) (locs : List Loc), va_P D vwCl [(ch, .inr (2, [.ref b, .ref cc, .ref pp, .ref nb])), (b, .inr (0, [.ref g, .ref bt, .ref bc, .ref bs, .int hg])), (g, .inr (3, [.ref ge, .ref gl, .ref gb, .ref gw, .ref gsw, .ref gsh, .int (nI ns), .int (nI n), .int (nI ff)])), (gb, .inl (cI, 6, .inl fb)), (nb, .inl (cI, 4096, .inl nf))] H → va_D A [(ch, .inr (2, [.ref b, .ref cc, .ref pp, .ref nb])), (b, .inr (0, [.ref g, .ref bt, .ref bc, .ref bs, .int hg])), (g, .inr (3, [.ref ge, .ref gl, .ref gb, .ref gw, .ref gsw, .ref gsh, .int (nI ns), .int (nI n), .int (nI ff)])), (gb, .inl (cI, 6, .inl fb)), (nb, .inl (cI, 4096, .inl nf))] → va_S A s.heap H locs → ∀ (ls : Array Slot), lv_has ls 5 [(0, .ref ch), (1, .int y), (2, .int (nI (4 ^ n))), (3, .int (nI (cnt (RSb (fun j => nbN (fun z9 => nxF fs nl n fe z9 (nI 0)) n x j) ff n (fun j => (fb j).toNatClampNeg)) k))), (4, .int (nI k))] → W p l e rm_X2_restAt s m args below meth c H locs 0 0 Q (F0 m 10 ls []) := by
    intro n9
    induction n9 with
    | zero => intro k hk hno hm; exact absurd hm (Nat.not_lt_zero _)
    | succ n9 ih10 =>
      intro k hk hno hm10 H locs hP hD hS ls hl
      have hcl := cnt_le (RSb (fun j => nbN (fun z9 => nxF fs nl n fe z9 (nI 0)) n x j) ff n (fun j => (fb j).toNatClampNeg)) k
      refine lv_iload hx hb dX2_restAt_10 (lv_at hl 4 rfl) ?_
      refine lv_iload_n hx hb dX2_restAt_12 rfl (lv_at hl 2 rfl) ?_
      refine icmp_ge_n (a := k) (b := 4 ^ n) (tgt := 46) hx hb dX2_restAt_13 (by decide) (by omega) (by omega) (fun c13 => ?_) (fun c13 => ?_)
      · refine lv_bipush (v := (-6)) hx hb dX2_restAt_46 (by decide) ?_
        exact hret ((-6)) (()) _ _ _ _ dX2_restAt_48 (Or.inr (Or.inr ⟨hy, fun j hj => hno j (by omega), rfl⟩)) hP hD hS
      · refine lv_aload_n hx hb dX2_restAt_16 rfl (lv_at hl 0 rfl) ?_
        refine lv_iload hx hb dX2_restAt_17 (lv_at hl 4 rfl) ?_
        refine cal_i (run_V (As := [.int (nI k)]) (rest := []) SF (c_isRest l D cI cJ cZ cG cM ch cc pp nb b bt bc bs g ge gl gb gw gsw gsh ff n ns 0 nl hg fs fe fb nf h1 h6 hff hfb x k (by omega) hnf) (cwV 1 hts gX2_restAt_X2_isRest rfl rfl rfl (by decide +kernel) ⟨Nat.le_of_ble_eq_true rfl, Nat.le_of_ble_eq_true rfl⟩) hN hK hP hD [0, 1, 2, 3, 4] rfl (by decide) 2 0 rfl rfl rfl rfl hl.1 rfl (Nat.le_of_ble_eq_true rfl) dX2_restAt_19 ⟨Nat.le_of_ble_eq_true rfl, Nat.le_of_ble_eq_true rfl⟩) ⟨rfl, rfl⟩ hP hD hS hA [0, 1, 2, 3, 4] rfl (fun _ => rfl) (fun r19 _ H locs hw hP hD hS => ?_)
        have hP : va_P D vwCl [(ch, .inr (2, [.ref b, .ref cc, .ref pp, .ref nb])), (b, .inr (0, [.ref g, .ref bt, .ref bc, .ref bs, .int hg])), (g, .inr (3, [.ref ge, .ref gl, .ref gb, .ref gw, .ref gsw, .ref gsh, .int (nI ns), .int (nI n), .int (nI ff)])), (gb, .inl (cI, 6, .inl fb)), (nb, .inl (cI, 4096, .inl nf))] H := hP
        have hD : va_D A [(ch, .inr (2, [.ref b, .ref cc, .ref pp, .ref nb])), (b, .inr (0, [.ref g, .ref bt, .ref bc, .ref bs, .int hg])), (g, .inr (3, [.ref ge, .ref gl, .ref gb, .ref gw, .ref gsw, .ref gsh, .int (nI ns), .int (nI n), .int (nI ff)])), (gb, .inl (cI, 6, .inl fb)), (nb, .inl (cI, 4096, .inl nf))] := hD
        rcases hw with ⟨b19, rfl⟩ | ⟨b19, rfl⟩
        · refine lv_if_eq (tgt := 40) hx hb dX2_restAt_22 (by decide) (fun c9 => absurd c9 (by decide)) (fun _ => ?_)
          refine lv_iload_n hx hb dX2_restAt_25 rfl (lv_at hl 3 rfl) ?_
          refine lv_iload_n hx hb dX2_restAt_26 rfl (lv_at hl 1 rfl) ?_
          refine lv_icmp_ne (tgt := 37) hx hb dX2_restAt_27 (by decide) (fun c27 => ?_) (fun c27 => ?_)
          · refine lv_iinc (v := nI ((cnt (RSb (fun j => nbN (fun z9 => nxF fs nl n fe z9 (nI 0)) n x j) ff n (fun j => (fb j).toNatClampNeg)) k) + 1)) (lv' := [(3, .int (nI ((cnt (RSb (fun j => nbN (fun z9 => nxF fs nl n fe z9 (nI 0)) n x j) ff n (fun j => (fb j).toNatClampNeg)) k) + 1))), (0, .ref ch), (1, .int y), (2, .int (nI (4 ^ n))), (4, .int (nI k))]) hx hb dX2_restAt_37 hl (k := 3) rfl (nI_1 (cnt (RSb (fun j => nbN (fun z9 => nxF fs nl n fe z9 (nI 0)) n x j) ff n (fun j => (fb j).toNatClampNeg)) k)) (by decide) rfl (fun ls hl => ?_)
            refine lv_iinc (v := nI (k + 1)) (lv' := [(4, .int (nI (k + 1))), (3, .int (nI ((cnt (RSb (fun j => nbN (fun z9 => nxF fs nl n fe z9 (nI 0)) n x j) ff n (fun j => (fb j).toNatClampNeg)) k) + 1))), (0, .ref ch), (1, .int y), (2, .int (nI (4 ^ n)))]) hx hb dX2_restAt_40 hl (k := 4) rfl (nI_1 k) (by decide) rfl (fun ls hl => ?_)
            refine lv_goto (tgt := 10) hx hb dX2_restAt_43 (by decide) ?_
            have e8 : nI ((cnt (RSb (fun j => nbN (fun z9 => nxF fs nl n fe z9 (nI 0)) n x j) ff n (fun j => (fb j).toNatClampNeg)) k) + 1) = nI (cnt (RSb (fun j => nbN (fun z9 => nxF fs nl n fe z9 (nI 0)) n x j) ff n (fun j => (fb j).toNatClampNeg)) (k + 1)) := congrArg nI (if_pos b19).symm
            have hl : lv_has ls 5 [(4, .int (nI (k + 1))), (3, .int (nI (cnt (RSb (fun j => nbN (fun z9 => nxF fs nl n fe z9 (nI 0)) n x j) ff n (fun j => (fb j).toNatClampNeg)) (k + 1)))), (0, .ref ch), (1, .int y), (2, .int (nI (4 ^ n)))] := by rw [← e8]; exact hl
            exact ih10 (k + 1) ((by omega)) ((fun j hj => by rcases Nat.lt_or_ge j k with z | z; (exact hno j z); (rw [show j = k by omega]; exact fun z => c27 z.2))) (by omega) _ _ hP hD hS _ (lv_sub hl [2, 3, 4, 1, 0] rfl)
          · refine lv_aload_n hx hb dX2_restAt_30 rfl (lv_at hl 0 rfl) ?_
            refine lv_iload hx hb dX2_restAt_31 (lv_at hl 4 rfl) ?_
            refine cal_i (run_V (As := [.int (nI k)]) (rest := []) SF (c_digitsOf l D cI cJ cZ cG cM ch cc pp nb b bt bc bs g ge gl gb gw gsw gsh ff n ns hg k h6 (by omega)) (cwV 1 hts gX2_restAt_X2_digitsOf rfl rfl rfl (by decide +kernel) ⟨Nat.le_of_ble_eq_true rfl, Nat.le_of_ble_eq_true rfl⟩) hN hK hP hD [0, 1, 2] rfl (by decide) 2 0 rfl rfl rfl rfl hl.1 rfl (Nat.le_of_ble_eq_true rfl) dX2_restAt_33 ⟨Nat.le_of_ble_eq_true rfl, Nat.le_of_ble_eq_true rfl⟩) ⟨rfl, rfl⟩ hP hD hS hA [0, 1, 2] rfl (fun _ => rfl) (fun r33 _ H locs hw hP hD hS => ?_)
            have hP : va_P D vwCl [(ch, .inr (2, [.ref b, .ref cc, .ref pp, .ref nb])), (b, .inr (0, [.ref g, .ref bt, .ref bc, .ref bs, .int hg])), (g, .inr (3, [.ref ge, .ref gl, .ref gb, .ref gw, .ref gsw, .ref gsh, .int (nI ns), .int (nI n), .int (nI ff)])), (gb, .inl (cI, 6, .inl fb)), (nb, .inl (cI, 4096, .inl nf))] H := hP
            have hD : va_D A [(ch, .inr (2, [.ref b, .ref cc, .ref pp, .ref nb])), (b, .inr (0, [.ref g, .ref bt, .ref bc, .ref bs, .int hg])), (g, .inr (3, [.ref ge, .ref gl, .ref gb, .ref gw, .ref gsw, .ref gsh, .int (nI ns), .int (nI n), .int (nI ff)])), (gb, .inl (cI, 6, .inl fb)), (nb, .inl (cI, 4096, .inl nf))] := hD
            subst hw
            exact hret (nI (dgN n k n)) (()) _ _ _ _ dX2_restAt_36 (Or.inr (Or.inl ⟨k, by omega, b19, c27, rfl⟩)) hP hD hS
        · refine lv_if_eq (tgt := 40) hx hb dX2_restAt_22 (by decide) (fun _ => ?_) (fun c9 => absurd (by decide) c9)
          refine lv_iinc (v := nI (k + 1)) (lv' := [(4, .int (nI (k + 1))), (0, .ref ch), (1, .int y), (2, .int (nI (4 ^ n))), (3, .int (nI (cnt (RSb (fun j => nbN (fun z9 => nxF fs nl n fe z9 (nI 0)) n x j) ff n (fun j => (fb j).toNatClampNeg)) k)))]) hx hb dX2_restAt_40 hl (k := 4) rfl (nI_1 k) (by decide) rfl (fun ls hl => ?_)
          refine lv_goto (tgt := 10) hx hb dX2_restAt_43 (by decide) ?_
          have e8 : nI (cnt (RSb (fun j => nbN (fun z9 => nxF fs nl n fe z9 (nI 0)) n x j) ff n (fun j => (fb j).toNatClampNeg)) k) = nI (cnt (RSb (fun j => nbN (fun z9 => nxF fs nl n fe z9 (nI 0)) n x j) ff n (fun j => (fb j).toNatClampNeg)) (k + 1)) := congrArg nI (if_neg b19).symm
          have hl : lv_has ls 5 [(4, .int (nI (k + 1))), (0, .ref ch), (1, .int y), (2, .int (nI (4 ^ n))), (3, .int (nI (cnt (RSb (fun j => nbN (fun z9 => nxF fs nl n fe z9 (nI 0)) n x j) ff n (fun j => (fb j).toNatClampNeg)) (k + 1))))] := by rw [← e8]; exact hl
          exact ih10 (k + 1) ((by omega)) ((fun j hj => by rcases Nat.lt_or_ge j k with z | z; (exact hno j z); (rw [show j = k by omega]; exact fun z => b19 z.1))) (by omega) _ _ hP hD hS _ (lv_sub hl [1, 2, 3, 4, 0] rfl)
  have e8 : nI 0 = nI (cnt (RSb (fun j => nbN (fun z9 => nxF fs nl n fe z9 (nI 0)) n x j) ff n (fun j => (fb j).toNatClampNeg)) 0) := rfl
  have hl : lv_has ls 5 [(4, .int (nI 0)), (3, .int (nI (cnt (RSb (fun j => nbN (fun z9 => nxF fs nl n fe z9 (nI 0)) n x j) ff n (fun j => (fb j).toNatClampNeg)) 0))), (2, .int (nI (4 ^ n))), (0, .ref ch), (1, .int y)] := by rw [← e8]; exact hl
  exact L10 _ 0 ((Nat.zero_le _)) ((fun j hj => absurd hj (Nat.not_lt_zero j))) (Nat.lt_succ_self _) _ _ hP hD hS _ (lv_sub hl [3, 4, 2, 1, 0] rfl)

abbrev rm_X7_rests : Room := { frames := 5, cells := 0, slots := 0, locals := 117 }
set_option maxHeartbeats 1000000 in
set_option maxRecDepth 100000 in
theorem o_rests (l : Launch) (D : va_G) (cI cJ cZ cG cM : ClassId) (xo pd b rg ch cn im : Nat) (cc pp nb : Nat) (bt bc bs : Nat) (g ge gl gb gw gsw gsh : Nat) (ff n ns : Nat) (sg nl : Nat) (hg : Int32) (cm fk fs fe fb ft nf : Nat → Int32) (hV : VL fs nl) (h1 : 1 ≤ n) (h6 : n ≤ 6) (hff : ff ≤ 9) (hfb : ∀ j, j < n → ∃ b : Nat, b ≤ 23 ∧ fb j = nI b) (x y : Int32) :
    CI l yX7_rests wsX7_rests rm_X7_rests D [(cI, .int), (cJ, .long), (cZ, .boolean), (cG, .object "LatestSets$Guild"), (cM, .array .int)] [(xo, .inr (7, [.ref g, .ref pd, .ref b, .ref rg, .ref ch, .ref cn, .ref im])), (ch, .inr (2, [.ref b, .ref cc, .ref pp, .ref nb])), (b, .inr (0, [.ref g, .ref bt, .ref bc, .ref bs, .int hg])), (g, .inr (3, [.ref ge, .ref gl, .ref gb, .ref gw, .ref gsw, .ref gsh, .int (nI ns), .int (nI n), .int (nI ff)])), (ge, .inl (cI, 6, .inl fe)), (bt, .inl (cI, 6, .inl ft)), (bc, .inl (cI, 6, .inl cm)), (bs, .inl (cI, 20, .inl fk)), (gw, .inr (4, [.ref sg, .int (nI nl)])), (sg, .inl (cI, 20, .inl fs)), (nb, .inl (cI, 4096, .inl nf)), (gb, .inl (cI, 6, .inl fb))] [.ref xo, .int x, .int y] (S := ((Nat → Int32) × (Nat → Int32) × (Nat → Int32) × Int32 × (Nat → Int32))) (fun r u => (¬ (nI 0 ≤ x ∧ x ≤ nI 23) ∧ r = (-2)) ∨ ((nI 0 ≤ x ∧ x ≤ nI 23) ∧ ATI (RSb (fun j => nbN (fun z9 => nxF fs nl n fe z9 (nI 0)) n x.toNatClampNeg j) ff n (fun j => (fb j).toNatClampNeg)) (fun w9 => nI (dgN n w9 n)) y (4 ^ n) r)) (fun u => [(xo, .inr (7, [.ref g, .ref pd, .ref b, .ref rg, .ref ch, .ref cn, .ref im])), (ch, .inr (2, [.ref b, .ref cc, .ref pp, .ref nb])), (b, .inr (0, [.ref g, .ref bt, .ref bc, .ref bs, .int u.2.2.2.1])), (g, .inr (3, [.ref ge, .ref gl, .ref gb, .ref gw, .ref gsw, .ref gsh, .int (nI ns), .int (nI n), .int (nI ff)])), (ge, .inl (cI, 6, .inl fe)), (bt, .inl (cI, 6, .inl u.1)), (bc, .inl (cI, 6, .inl u.2.1)), (bs, .inl (cI, 20, .inl u.2.2.1)), (gw, .inr (4, [.ref sg, .int (nI nl)])), (sg, .inl (cI, 20, .inl fs)), (nb, .inl (cI, 4096, .inl u.2.2.2.2)), (gb, .inl (cI, 6, .inl fb))]) := by
  refine si_of (cc := cX7_rests) (maxL := 3) (by decide) rfl (Nat.le_of_ble_eq_true rfl) ?_
  intro p e s m args below meth c A ls Q E hret
  obtain ⟨hx, hb, -, hml, hown, hts, -, hin, hA, hK, hP, hD, hS, hl, hN⟩ := E
  have hown : s.vm.findClass RX7 = some m.cls := hown
  have hl : lv_has ls 3 [(0, .ref xo), (1, .int x), (2, .int y)] := hl
  have SF : CallFix p m c cX7_rests 3 s args wsX7_rests RX7 := ⟨hx, hb, hml, hown, hts⟩
  have hw0 := hts (.fieldLink RX7 44 "LatestSets" "choices" "LLatestSets$Choices;") (by decide +kernel)
  have hi7 : ∀ x ∈ wsX70, x ∈ wsX7_rests := by decide +kernel
  refine lv_iload_n hx hb dX7_rests_0 rfl (lv_at hl 1 rfl) ?_
  refine cal_i (run_S (As := [.int x]) (rest := []) SF (c_isHour l D cI cJ cZ cG cM x) (va_cwS 1 hts gX7_rests_X7_isHour rfl rfl rfl (by decide +kernel) ⟨Nat.le_of_ble_eq_true rfl, Nat.le_of_ble_eq_true rfl⟩) hN hK hP hD [] rfl (by decide) rfl hl.1 rfl (Nat.le_of_ble_eq_true rfl) dX7_rests_1 ⟨Nat.le_of_ble_eq_true rfl, Nat.le_of_ble_eq_true rfl⟩) ⟨rfl, rfl⟩ hP hD hS hA [] rfl (fun _ => rfl) (fun r1 _ H locs hw hP hD hS => ?_)
  have hP : va_P D vwCl [(xo, .inr (7, [.ref g, .ref pd, .ref b, .ref rg, .ref ch, .ref cn, .ref im])), (ch, .inr (2, [.ref b, .ref cc, .ref pp, .ref nb])), (b, .inr (0, [.ref g, .ref bt, .ref bc, .ref bs, .int hg])), (g, .inr (3, [.ref ge, .ref gl, .ref gb, .ref gw, .ref gsw, .ref gsh, .int (nI ns), .int (nI n), .int (nI ff)])), (ge, .inl (cI, 6, .inl fe)), (bt, .inl (cI, 6, .inl ft)), (bc, .inl (cI, 6, .inl cm)), (bs, .inl (cI, 20, .inl fk)), (gw, .inr (4, [.ref sg, .int (nI nl)])), (sg, .inl (cI, 20, .inl fs)), (nb, .inl (cI, 4096, .inl nf)), (gb, .inl (cI, 6, .inl fb))] H := hP
  have hD : va_D A [(xo, .inr (7, [.ref g, .ref pd, .ref b, .ref rg, .ref ch, .ref cn, .ref im])), (ch, .inr (2, [.ref b, .ref cc, .ref pp, .ref nb])), (b, .inr (0, [.ref g, .ref bt, .ref bc, .ref bs, .int hg])), (g, .inr (3, [.ref ge, .ref gl, .ref gb, .ref gw, .ref gsw, .ref gsh, .int (nI ns), .int (nI n), .int (nI ff)])), (ge, .inl (cI, 6, .inl fe)), (bt, .inl (cI, 6, .inl ft)), (bc, .inl (cI, 6, .inl cm)), (bs, .inl (cI, 20, .inl fk)), (gw, .inr (4, [.ref sg, .int (nI nl)])), (sg, .inl (cI, 20, .inl fs)), (nb, .inl (cI, 4096, .inl nf)), (gb, .inl (cI, 6, .inl fb))] := hD
  rcases hw with ⟨b1, rfl⟩ | ⟨b1, rfl⟩
  · obtain ⟨kx, k1kx, k2kx, rfl⟩ := nI_rng (by omega) (by omega) b1.1 b1.2
    refine lv_if_ne (tgt := 10) hx hb dX7_rests_4 (by decide) (fun _ => ?_) (fun c9 => absurd c9 (by decide))
    refine lv_iload_n hx hb dX7_rests_10 rfl (lv_at hl 2 rfl) ?_
    refine lv_iconst (v := (-1)) hx hb dX7_rests_11 (by decide) ?_
    refine lv_icmp_ge (tgt := 18) hx hb dX7_rests_12 (by decide) (fun c12 => ?_) (fun c12 => ?_)
    · refine lv_aload_n hx hb dX7_rests_18 rfl (lv_at hl 0 rfl) ?_
      refine va_get (D := D) (ci := 7) (v := .ref ch) (C := RX7) (T := TX7) (N := 7) hx hb hts hi7 hown hK hP 0 rfl rfl 4 (by decide) hw0 (fun _ h9 => h9) rfl dX7_rests_19 ?_
      refine lv_iload_n hx hb dX7_rests_22 rfl (lv_at hl 1 rfl) ?_
      refine cal_v (run_V (As := [.int (nI kx)]) (rest := []) SF (c_tabulate l D cI cJ cZ cG cM ch cc pp nb b bt bc bs g ge gl gb gw gsw gsh ff n ns sg nl hg cm fk fs fe ft nf hV h1 h6 kx (by omega)) (cwV 1 hts gX7_rests_X2_tabulate rfl rfl rfl (by decide +kernel) ⟨Nat.le_of_ble_eq_true rfl, Nat.le_of_ble_eq_true rfl⟩) hN hK hP hD [1, 2, 3, 4, 5, 6, 7, 8, 9, 10] rfl (by decide) 2 1 rfl rfl rfl rfl hl.1 rfl (Nat.le_of_ble_eq_true rfl) dX7_rests_23 ⟨Nat.le_of_ble_eq_true rfl, Nat.le_of_ble_eq_true rfl⟩) ⟨rfl, rfl⟩ hP hD hS hA [1, 2, 3, 4, 5, 6, 7, 8, 9, 10] rfl (fun _ => rfl) (fun u23 H locs hw hP hD hS => ?_)
      have hP : va_P D vwCl [(xo, .inr (7, [.ref g, .ref pd, .ref b, .ref rg, .ref ch, .ref cn, .ref im])), (ch, .inr (2, [.ref b, .ref cc, .ref pp, .ref nb])), (b, .inr (0, [.ref g, .ref bt, .ref bc, .ref bs, .int u23.2.2.2.1])), (g, .inr (3, [.ref ge, .ref gl, .ref gb, .ref gw, .ref gsw, .ref gsh, .int (nI ns), .int (nI n), .int (nI ff)])), (ge, .inl (cI, 6, .inl fe)), (bt, .inl (cI, 6, .inl u23.1)), (bc, .inl (cI, 6, .inl u23.2.1)), (bs, .inl (cI, 20, .inl u23.2.2.1)), (gw, .inr (4, [.ref sg, .int (nI nl)])), (sg, .inl (cI, 20, .inl fs)), (nb, .inl (cI, 4096, .inl u23.2.2.2.2)), (gb, .inl (cI, 6, .inl fb))] H := hP
      have hD : va_D A [(xo, .inr (7, [.ref g, .ref pd, .ref b, .ref rg, .ref ch, .ref cn, .ref im])), (ch, .inr (2, [.ref b, .ref cc, .ref pp, .ref nb])), (b, .inr (0, [.ref g, .ref bt, .ref bc, .ref bs, .int u23.2.2.2.1])), (g, .inr (3, [.ref ge, .ref gl, .ref gb, .ref gw, .ref gsw, .ref gsh, .int (nI ns), .int (nI n), .int (nI ff)])), (ge, .inl (cI, 6, .inl fe)), (bt, .inl (cI, 6, .inl u23.1)), (bc, .inl (cI, 6, .inl u23.2.1)), (bs, .inl (cI, 20, .inl u23.2.2.1)), (gw, .inr (4, [.ref sg, .int (nI nl)])), (sg, .inl (cI, 20, .inl fs)), (nb, .inl (cI, 4096, .inl u23.2.2.2.2)), (gb, .inl (cI, 6, .inl fb))] := hD
      have hnf := hw
      refine lv_iload_n hx hb dX7_rests_26 rfl (lv_at hl 2 rfl) ?_
      refine lv_if_ge (tgt := 40) hx hb dX7_rests_27 (by decide) (fun c27 => ?_) (fun c27 => ?_)
      · refine lv_aload_n hx hb dX7_rests_40 rfl (lv_at hl 0 rfl) ?_
        refine va_get (D := D) (ci := 7) (v := .ref ch) (C := RX7) (T := TX7) (N := 7) hx hb hts hi7 hown hK hP 0 rfl rfl 4 (by decide) hw0 (fun _ h9 => h9) rfl dX7_rests_41 ?_
        refine lv_iload_n hx hb dX7_rests_44 rfl (lv_at hl 2 rfl) ?_
        refine cal_i (run_V (As := [.int y]) (rest := []) SF (c_restAt l D cI cJ cZ cG cM ch cc pp nb b bt bc bs g ge gl gb gw gsw gsh ff n ns 0 nl u23.2.2.2.1 fs fe fb u23.2.2.2.2 h1 h6 hff hfb kx hnf y (fun z => absurd c27 (by rw [z]; decide))) (cwV 1 hts gX7_rests_X2_restAt rfl rfl rfl (by decide +kernel) ⟨Nat.le_of_ble_eq_true rfl, Nat.le_of_ble_eq_true rfl⟩) hN hK hP hD [1, 2, 3, 11, 10] rfl (by decide) 2 1 rfl rfl rfl rfl hl.1 rfl (Nat.le_of_ble_eq_true rfl) dX7_rests_45 ⟨Nat.le_of_ble_eq_true rfl, Nat.le_of_ble_eq_true rfl⟩) ⟨rfl, rfl⟩ hP hD hS hA [1, 2, 3, 11, 10] rfl (fun _ => rfl) (fun r45 _ H locs hw hP hD hS => ?_)
        have hP : va_P D vwCl [(xo, .inr (7, [.ref g, .ref pd, .ref b, .ref rg, .ref ch, .ref cn, .ref im])), (ch, .inr (2, [.ref b, .ref cc, .ref pp, .ref nb])), (b, .inr (0, [.ref g, .ref bt, .ref bc, .ref bs, .int u23.2.2.2.1])), (g, .inr (3, [.ref ge, .ref gl, .ref gb, .ref gw, .ref gsw, .ref gsh, .int (nI ns), .int (nI n), .int (nI ff)])), (ge, .inl (cI, 6, .inl fe)), (bt, .inl (cI, 6, .inl u23.1)), (bc, .inl (cI, 6, .inl u23.2.1)), (bs, .inl (cI, 20, .inl u23.2.2.1)), (gw, .inr (4, [.ref sg, .int (nI nl)])), (sg, .inl (cI, 20, .inl fs)), (nb, .inl (cI, 4096, .inl u23.2.2.2.2)), (gb, .inl (cI, 6, .inl fb))] H := hP
        have hD : va_D A [(xo, .inr (7, [.ref g, .ref pd, .ref b, .ref rg, .ref ch, .ref cn, .ref im])), (ch, .inr (2, [.ref b, .ref cc, .ref pp, .ref nb])), (b, .inr (0, [.ref g, .ref bt, .ref bc, .ref bs, .int u23.2.2.2.1])), (g, .inr (3, [.ref ge, .ref gl, .ref gb, .ref gw, .ref gsw, .ref gsh, .int (nI ns), .int (nI n), .int (nI ff)])), (ge, .inl (cI, 6, .inl fe)), (bt, .inl (cI, 6, .inl u23.1)), (bc, .inl (cI, 6, .inl u23.2.1)), (bs, .inl (cI, 20, .inl u23.2.2.1)), (gw, .inr (4, [.ref sg, .int (nI nl)])), (sg, .inl (cI, 20, .inl fs)), (nb, .inl (cI, 4096, .inl u23.2.2.2.2)), (gb, .inl (cI, 6, .inl fb))] := hD
        exact hret r45 ((u23.1, u23.2.1, u23.2.2.1, u23.2.2.2.1, u23.2.2.2.2)) _ _ _ _ dX7_rests_48 (Or.inr ⟨b1, by rw [nI_clamp (by omega)]; exact hw⟩) hP hD hS
      · refine lv_aload_n hx hb dX7_rests_30 rfl (lv_at hl 0 rfl) ?_
        refine va_get (D := D) (ci := 7) (v := .ref ch) (C := RX7) (T := TX7) (N := 7) hx hb hts hi7 hown hK hP 0 rfl rfl 4 (by decide) hw0 (fun _ h9 => h9) rfl dX7_rests_31 ?_
        refine cal_i (run_V (As := []) (rest := []) SF (c_restCount l D cI cJ cZ cG cM ch cc pp nb b bt bc bs g ge gl gb gw gsw gsh ff n ns 0 nl u23.2.2.2.1 fs fe fb u23.2.2.2.2 h1 h6 hff hfb kx hnf) (cwV 0 hts gX7_rests_X2_restCount rfl rfl rfl (by decide +kernel) ⟨Nat.le_of_ble_eq_true rfl, Nat.le_of_ble_eq_true rfl⟩) hN hK hP hD [1, 2, 3, 11, 10] rfl (by decide) 2 1 rfl rfl rfl rfl hl.1 rfl (Nat.le_of_ble_eq_true rfl) dX7_rests_34 ⟨Nat.le_of_ble_eq_true rfl, Nat.le_of_ble_eq_true rfl⟩) ⟨rfl, rfl⟩ hP hD hS hA [1, 2, 3, 11, 10] rfl (fun _ => rfl) (fun r34 _ H locs hw hP hD hS => ?_)
        have hP : va_P D vwCl [(xo, .inr (7, [.ref g, .ref pd, .ref b, .ref rg, .ref ch, .ref cn, .ref im])), (ch, .inr (2, [.ref b, .ref cc, .ref pp, .ref nb])), (b, .inr (0, [.ref g, .ref bt, .ref bc, .ref bs, .int u23.2.2.2.1])), (g, .inr (3, [.ref ge, .ref gl, .ref gb, .ref gw, .ref gsw, .ref gsh, .int (nI ns), .int (nI n), .int (nI ff)])), (ge, .inl (cI, 6, .inl fe)), (bt, .inl (cI, 6, .inl u23.1)), (bc, .inl (cI, 6, .inl u23.2.1)), (bs, .inl (cI, 20, .inl u23.2.2.1)), (gw, .inr (4, [.ref sg, .int (nI nl)])), (sg, .inl (cI, 20, .inl fs)), (nb, .inl (cI, 4096, .inl u23.2.2.2.2)), (gb, .inl (cI, 6, .inl fb))] H := hP
        have hD : va_D A [(xo, .inr (7, [.ref g, .ref pd, .ref b, .ref rg, .ref ch, .ref cn, .ref im])), (ch, .inr (2, [.ref b, .ref cc, .ref pp, .ref nb])), (b, .inr (0, [.ref g, .ref bt, .ref bc, .ref bs, .int u23.2.2.2.1])), (g, .inr (3, [.ref ge, .ref gl, .ref gb, .ref gw, .ref gsw, .ref gsh, .int (nI ns), .int (nI n), .int (nI ff)])), (ge, .inl (cI, 6, .inl fe)), (bt, .inl (cI, 6, .inl u23.1)), (bc, .inl (cI, 6, .inl u23.2.1)), (bs, .inl (cI, 20, .inl u23.2.2.1)), (gw, .inr (4, [.ref sg, .int (nI nl)])), (sg, .inl (cI, 20, .inl fs)), (nb, .inl (cI, 4096, .inl u23.2.2.2.2)), (gb, .inl (cI, 6, .inl fb))] := hD
        refine lv_goto (tgt := 48) hx hb dX7_rests_37 (by decide) ?_
        exact hret r34 ((u23.1, u23.2.1, u23.2.2.1, u23.2.2.2.1, u23.2.2.2.2)) _ _ _ _ dX7_rests_48 (Or.inr ⟨b1, Or.inl ⟨m1_eq c12 c27, by rw [nI_clamp (by omega)]; exact hw⟩⟩) hP hD hS
    · refine lv_bipush (v := (-6)) hx hb dX7_rests_15 (by decide) ?_
      exact hret ((-6)) ((ft, cm, fk, hg, nf)) _ _ _ _ dX7_rests_17 (Or.inr ⟨b1, Or.inr (Or.inr ⟨fun z => c12 (by rw [z]; decide), fun k hk z => c12 (by rw [← z.2]; exact nm1_le (by have := cnt_le (RSb (fun j => nbN (fun z9 => nxF fs nl n fe z9 (nI 0)) n (nI kx).toNatClampNeg j) ff n (fun j => (fb j).toNatClampNeg)) k; have := p4_le h6; omega)), rfl⟩)⟩) hP hD hS
  · refine lv_if_ne (tgt := 10) hx hb dX7_rests_4 (by decide) (fun c9 => absurd c9 (by decide)) (fun _ => ?_)
    refine lv_bipush (v := (-2)) hx hb dX7_rests_7 (by decide) ?_
    exact hret ((-2)) ((ft, cm, fk, hg, nf)) _ _ _ _ dX7_rests_9 (Or.inl ⟨b1, rfl⟩) hP hD hS

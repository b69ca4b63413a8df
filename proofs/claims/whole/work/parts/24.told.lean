abbrev rm_X3_toldOfMember : Room := { frames := 1, cells := 0, slots := 0, locals := 21 }
set_option maxHeartbeats 1000000 in
set_option maxRecDepth 100000 in
theorem c_toldOfMember (l : Launch) (D : va_G) (cI cJ cZ cG cM : ClassId) (g ge gl gb gw gsw gsh : Nat) (fi : Int32) (n ns : Nat) (fe fl fb : Nat → Int32) (kw km : Nat) (hkw : kw ≤ 2) (hkm : km < 1000) (h6 : n ≤ 6) :
    CI l yX3_toldOfMember wsX3_toldOfMember rm_X3_toldOfMember D [(cI, .int), (cJ, .long), (cZ, .boolean), (cG, .object "LatestSets$Guild"), (cM, .array .int)] [(g, .inr (3, [.ref ge, .ref gl, .ref gb, .ref gw, .ref gsw, .ref gsh, .int (nI ns), .int (nI n), .int fi])), (ge, .inl (cI, 6, .inl fe)), (gl, .inl (cI, 6, .inl fl)), (gb, .inl (cI, 6, .inl fb))] [.ref g, .int (nI kw), .int (nI km)] (S := Unit) (fun r u => r = (if km < n then (if kw = 0 then fe km else if kw = 1 then fl km else fb km) else (-2))) (fun u => [(g, .inr (3, [.ref ge, .ref gl, .ref gb, .ref gw, .ref gsw, .ref gsh, .int (nI ns), .int (nI n), .int fi])), (ge, .inl (cI, 6, .inl fe)), (gl, .inl (cI, 6, .inl fl)), (gb, .inl (cI, 6, .inl fb))]) := by
  refine si_of (cc := cX3_toldOfMember) (maxL := 3) (by decide) rfl (Nat.le_of_ble_eq_true rfl) ?_
  intro p e s m args below meth c A ls Q E hret
  obtain ⟨hx, hb, -, hml, hown, hts, -, hin, hA, hK, hP, hD, hS, hl, hN⟩ := E
  have hown : s.vm.findClass RX3 = some m.cls := hown
  have hl : lv_has ls 3 [(0, .ref g), (1, .int (nI kw)), (2, .int (nI km))] := hl
  have SF : CallFix p m c cX3_toldOfMember 3 s args wsX3_toldOfMember RX3 := ⟨hx, hb, hml, hown, hts⟩
  refine lv_aload_n hx hb dX3_toldOfMember_0 rfl (lv_at hl 0 rfl) ?_
  refine lv_iload_n hx hb dX3_toldOfMember_1 rfl (lv_at hl 2 rfl) ?_
  refine cal_i (run_V (As := [.int (nI km)]) (rest := []) SF (c_has l D cI cJ cZ cG cM g ge gl gb gw gsw gsh (nI ns) fi n (nI km)) (cwV 1 hts gX3_toldOfMember_X3_has rfl rfl rfl (by decide +kernel) ⟨Nat.le_of_ble_eq_true rfl, Nat.le_of_ble_eq_true rfl⟩) hN hK hP hD [0] rfl (by decide) 3 0 rfl rfl rfl rfl hl.1 rfl (Nat.le_of_ble_eq_true rfl) dX3_toldOfMember_2 ⟨Nat.le_of_ble_eq_true rfl, Nat.le_of_ble_eq_true rfl⟩) ⟨rfl, rfl⟩ hP hD hS hA [0] rfl (fun _ => rfl) (fun r2 _ H locs hw hP hD hS => ?_)
  have hP : va_P D vwCl [(g, .inr (3, [.ref ge, .ref gl, .ref gb, .ref gw, .ref gsw, .ref gsh, .int (nI ns), .int (nI n), .int fi])), (ge, .inl (cI, 6, .inl fe)), (gl, .inl (cI, 6, .inl fl)), (gb, .inl (cI, 6, .inl fb))] H := hP
  have hD : va_D A [(g, .inr (3, [.ref ge, .ref gl, .ref gb, .ref gw, .ref gsw, .ref gsh, .int (nI ns), .int (nI n), .int fi])), (ge, .inl (cI, 6, .inl fe)), (gl, .inl (cI, 6, .inl fl)), (gb, .inl (cI, 6, .inl fb))] := hD
  rcases hw with ⟨b2, rfl⟩ | ⟨b2, rfl⟩
  · have hkn : km < n := (nI_ltI (by omega) (by omega)).mp b2.2
    refine lv_if_eq (tgt := 18) hx hb dX3_toldOfMember_5 (by decide) (fun c9 => absurd c9 (by decide)) (fun _ => ?_)
    rcases (show kw = 0 ∨ kw = 1 ∨ kw = 2 by omega) with rfl | rfl | rfl
    · refine lv_aload_n hx hb dX3_toldOfMember_8 rfl (lv_at hl 0 rfl) ?_
      refine lv_iload_n hx hb dX3_toldOfMember_9 rfl (lv_at hl 1 rfl) ?_
      refine cal_r (run_V (As := [.int (nI 0)]) (rest := []) SF (c_rowOf l D cI cJ cZ cG cM g ge gl gb gw gsw gsh (nI ns) fi n (nI 0)) (cwV 1 hts gX3_toldOfMember_X3_rowOf rfl rfl rfl (by decide +kernel) ⟨Nat.le_of_ble_eq_true rfl, Nat.le_of_ble_eq_true rfl⟩) hN hK hP hD [0] rfl (by decide) 3 0 rfl rfl rfl rfl hl.1 rfl (Nat.le_of_ble_eq_true rfl) dX3_toldOfMember_10 ⟨Nat.le_of_ble_eq_true rfl, Nat.le_of_ble_eq_true rfl⟩) ⟨rfl, rfl⟩ hP hD hS hA [0] rfl (fun _ => rfl) (fun u10 H locs hw hP hD hS => ?_)
      have hP : va_P D vwCl [(g, .inr (3, [.ref ge, .ref gl, .ref gb, .ref gw, .ref gsw, .ref gsh, .int (nI ns), .int (nI n), .int fi])), (ge, .inl (cI, 6, .inl fe)), (gl, .inl (cI, 6, .inl fl)), (gb, .inl (cI, 6, .inl fb))] H := hP
      have hD : va_D A [(g, .inr (3, [.ref ge, .ref gl, .ref gb, .ref gw, .ref gsw, .ref gsh, .int (nI ns), .int (nI n), .int fi])), (ge, .inl (cI, 6, .inl fe)), (gl, .inl (cI, 6, .inl fl)), (gb, .inl (cI, 6, .inl fb))] := hD
      have hw : ge = u10 := hw.symm
      subst hw
      refine lv_iload_n hx hb dX3_toldOfMember_13 rfl (lv_at hl 2 rfl) ?_
      refine iald_n (k := km) hx hb hK hP 1 0 rfl rfl (by omega) (by omega) dX3_toldOfMember_14 ?_
      refine lv_goto (tgt := 20) hx hb dX3_toldOfMember_15 (by decide) ?_
      exact hret (fe km) (()) _ _ _ _ dX3_toldOfMember_20 (by rw [if_pos hkn]; rfl) hP hD hS
    · refine lv_aload_n hx hb dX3_toldOfMember_8 rfl (lv_at hl 0 rfl) ?_
      refine lv_iload_n hx hb dX3_toldOfMember_9 rfl (lv_at hl 1 rfl) ?_
      refine cal_r (run_V (As := [.int (nI 1)]) (rest := []) SF (c_rowOf l D cI cJ cZ cG cM g ge gl gb gw gsw gsh (nI ns) fi n (nI 1)) (cwV 1 hts gX3_toldOfMember_X3_rowOf rfl rfl rfl (by decide +kernel) ⟨Nat.le_of_ble_eq_true rfl, Nat.le_of_ble_eq_true rfl⟩) hN hK hP hD [0] rfl (by decide) 3 0 rfl rfl rfl rfl hl.1 rfl (Nat.le_of_ble_eq_true rfl) dX3_toldOfMember_10 ⟨Nat.le_of_ble_eq_true rfl, Nat.le_of_ble_eq_true rfl⟩) ⟨rfl, rfl⟩ hP hD hS hA [0] rfl (fun _ => rfl) (fun u10 H locs hw hP hD hS => ?_)
      have hP : va_P D vwCl [(g, .inr (3, [.ref ge, .ref gl, .ref gb, .ref gw, .ref gsw, .ref gsh, .int (nI ns), .int (nI n), .int fi])), (ge, .inl (cI, 6, .inl fe)), (gl, .inl (cI, 6, .inl fl)), (gb, .inl (cI, 6, .inl fb))] H := hP
      have hD : va_D A [(g, .inr (3, [.ref ge, .ref gl, .ref gb, .ref gw, .ref gsw, .ref gsh, .int (nI ns), .int (nI n), .int fi])), (ge, .inl (cI, 6, .inl fe)), (gl, .inl (cI, 6, .inl fl)), (gb, .inl (cI, 6, .inl fb))] := hD
      have hw : gl = u10 := hw.symm
      subst hw
      refine lv_iload_n hx hb dX3_toldOfMember_13 rfl (lv_at hl 2 rfl) ?_
      refine iald_n (k := km) hx hb hK hP 2 0 rfl rfl (by omega) (by omega) dX3_toldOfMember_14 ?_
      refine lv_goto (tgt := 20) hx hb dX3_toldOfMember_15 (by decide) ?_
      exact hret (fl km) (()) _ _ _ _ dX3_toldOfMember_20 (by rw [if_pos hkn]; rfl) hP hD hS
    · refine lv_aload_n hx hb dX3_toldOfMember_8 rfl (lv_at hl 0 rfl) ?_
      refine lv_iload_n hx hb dX3_toldOfMember_9 rfl (lv_at hl 1 rfl) ?_
      refine cal_r (run_V (As := [.int (nI 2)]) (rest := []) SF (c_rowOf l D cI cJ cZ cG cM g ge gl gb gw gsw gsh (nI ns) fi n (nI 2)) (cwV 1 hts gX3_toldOfMember_X3_rowOf rfl rfl rfl (by decide +kernel) ⟨Nat.le_of_ble_eq_true rfl, Nat.le_of_ble_eq_true rfl⟩) hN hK hP hD [0] rfl (by decide) 3 0 rfl rfl rfl rfl hl.1 rfl (Nat.le_of_ble_eq_true rfl) dX3_toldOfMember_10 ⟨Nat.le_of_ble_eq_true rfl, Nat.le_of_ble_eq_true rfl⟩) ⟨rfl, rfl⟩ hP hD hS hA [0] rfl (fun _ => rfl) (fun u10 H locs hw hP hD hS => ?_)
      have hP : va_P D vwCl [(g, .inr (3, [.ref ge, .ref gl, .ref gb, .ref gw, .ref gsw, .ref gsh, .int (nI ns), .int (nI n), .int fi])), (ge, .inl (cI, 6, .inl fe)), (gl, .inl (cI, 6, .inl fl)), (gb, .inl (cI, 6, .inl fb))] H := hP
      have hD : va_D A [(g, .inr (3, [.ref ge, .ref gl, .ref gb, .ref gw, .ref gsw, .ref gsh, .int (nI ns), .int (nI n), .int fi])), (ge, .inl (cI, 6, .inl fe)), (gl, .inl (cI, 6, .inl fl)), (gb, .inl (cI, 6, .inl fb))] := hD
      have hw : gb = u10 := hw.symm
      subst hw
      refine lv_iload_n hx hb dX3_toldOfMember_13 rfl (lv_at hl 2 rfl) ?_
      refine iald_n (k := km) hx hb hK hP 3 0 rfl rfl (by omega) (by omega) dX3_toldOfMember_14 ?_
      refine lv_goto (tgt := 20) hx hb dX3_toldOfMember_15 (by decide) ?_
      exact hret (fb km) (()) _ _ _ _ dX3_toldOfMember_20 (by rw [if_pos hkn]; rfl) hP hD hS
  · refine lv_if_eq (tgt := 18) hx hb dX3_toldOfMember_5 (by decide) (fun _ => ?_) (fun c9 => absurd (by decide) c9)
    refine lv_bipush (v := (-2)) hx hb dX3_toldOfMember_18 (by decide) ?_
    exact hret ((-2)) (()) _ _ _ _ dX3_toldOfMember_20 (by rw [if_neg (fun z => b2 ⟨nI_pos' (by omega), (nI_ltI (by omega) (by omega)).mpr z⟩)]) hP hD hS

abbrev rm_X7_toldOfRows : Room := { frames := 2, cells := 0, slots := 0, locals := 43 }
set_option maxHeartbeats 1000000 in
set_option maxRecDepth 100000 in
theorem c_toldOfRows (l : Launch) (D : va_G) (cI cJ cZ cG cM : ClassId) (xo pd b rg ch cn im : Nat) (g ge gl gb gw gsw gsh : Nat) (fi : Int32) (n ns : Nat) (sg nl : Nat) (fe fl fb fs : Nat → Int32) (x : Int32) (hn20 : nl ≤ 20) (h6 : n ≤ 6) :
    CI l yX7_toldOfRows wsX7_toldOfRows rm_X7_toldOfRows D [(cI, .int), (cJ, .long), (cZ, .boolean), (cG, .object "LatestSets$Guild"), (cM, .array .int)] [(xo, .inr (7, [.ref g, .ref pd, .ref b, .ref rg, .ref ch, .ref cn, .ref im])), (g, .inr (3, [.ref ge, .ref gl, .ref gb, .ref gw, .ref gsw, .ref gsh, .int (nI ns), .int (nI n), .int fi])), (ge, .inl (cI, 6, .inl fe)), (gl, .inl (cI, 6, .inl fl)), (gb, .inl (cI, 6, .inl fb)), (gw, .inr (4, [.ref sg, .int (nI nl)])), (sg, .inl (cI, 20, .inl fs))] [.ref xo, .int x] (S := Unit) (fun r u => r = tlR n nl fe fl fb fs x) (fun u => [(xo, .inr (7, [.ref g, .ref pd, .ref b, .ref rg, .ref ch, .ref cn, .ref im])), (g, .inr (3, [.ref ge, .ref gl, .ref gb, .ref gw, .ref gsw, .ref gsh, .int (nI ns), .int (nI n), .int fi])), (ge, .inl (cI, 6, .inl fe)), (gl, .inl (cI, 6, .inl fl)), (gb, .inl (cI, 6, .inl fb)), (gw, .inr (4, [.ref sg, .int (nI nl)])), (sg, .inl (cI, 20, .inl fs))]) := by
  refine si_of (cc := cX7_toldOfRows) (maxL := 2) (by decide) rfl (Nat.le_of_ble_eq_true rfl) ?_
  intro p e s m args below meth c A ls Q E hret
  obtain ⟨hx, hb, -, hml, hown, hts, -, hin, hA, hK, hP, hD, hS, hl, hN⟩ := E
  have hown : s.vm.findClass RX7 = some m.cls := hown
  have hl : lv_has ls 2 [(0, .ref xo), (1, .int x)] := hl
  have SF : CallFix p m c cX7_toldOfRows 2 s args wsX7_toldOfRows RX7 := ⟨hx, hb, hml, hown, hts⟩
  have hw0 := hts (.fieldLink RX7 15 "LatestSets" "guild" "LLatestSets$Guild;") (by decide +kernel)
  have hi7 : ∀ x ∈ wsX70, x ∈ wsX7_toldOfRows := by decide +kernel
  have hw2 := hts (.fieldLink RX7 91 "LatestSets$Guild" "law" "LLatestSets$Law;") (by decide +kernel)
  have hi3 : ∀ x ∈ wsX30, x ∈ wsX7_toldOfRows := by decide +kernel
  have hw4 := hts (.fieldLink RX7 105 "LatestSets$Law" "length" "I") (by decide +kernel)
  have hi4 : ∀ x ∈ wsX40, x ∈ wsX7_toldOfRows := by decide +kernel
  have hw6 := hts (.fieldLink RX7 212 "LatestSets$Law" "signs" "[I") (by decide +kernel)
  refine lv_iload_n hx hb dX7_toldOfRows_0 rfl (lv_at hl 1 rfl) ?_
  refine lv_bipush (v := nI 10) hx hb dX7_toldOfRows_1 (by decide) ?_
  refine lv_bipush (v := nI 39) hx hb dX7_toldOfRows_3 (by decide) ?_
  refine cal_i (run_S (As := [.int x, .int (nI 10), .int (nI 39)]) (rest := []) SF (c_within l D cI cJ cZ cG cM x (nI 10) (nI 39)) (va_cwS 3 hts gX7_toldOfRows_X7_within rfl rfl rfl (by decide +kernel) ⟨Nat.le_of_ble_eq_true rfl, Nat.le_of_ble_eq_true rfl⟩) hN hK hP hD [] rfl (by decide) rfl hl.1 rfl (Nat.le_of_ble_eq_true rfl) dX7_toldOfRows_5 ⟨Nat.le_of_ble_eq_true rfl, Nat.le_of_ble_eq_true rfl⟩) ⟨rfl, rfl⟩ hP hD hS hA [] rfl (fun _ => rfl) (fun r5 _ H locs hw hP hD hS => ?_)
  have hP : va_P D vwCl [(xo, .inr (7, [.ref g, .ref pd, .ref b, .ref rg, .ref ch, .ref cn, .ref im])), (g, .inr (3, [.ref ge, .ref gl, .ref gb, .ref gw, .ref gsw, .ref gsh, .int (nI ns), .int (nI n), .int fi])), (ge, .inl (cI, 6, .inl fe)), (gl, .inl (cI, 6, .inl fl)), (gb, .inl (cI, 6, .inl fb)), (gw, .inr (4, [.ref sg, .int (nI nl)])), (sg, .inl (cI, 20, .inl fs))] H := hP
  have hD : va_D A [(xo, .inr (7, [.ref g, .ref pd, .ref b, .ref rg, .ref ch, .ref cn, .ref im])), (g, .inr (3, [.ref ge, .ref gl, .ref gb, .ref gw, .ref gsw, .ref gsh, .int (nI ns), .int (nI n), .int fi])), (ge, .inl (cI, 6, .inl fe)), (gl, .inl (cI, 6, .inl fl)), (gb, .inl (cI, 6, .inl fb)), (gw, .inr (4, [.ref sg, .int (nI nl)])), (sg, .inl (cI, 20, .inl fs))] := hD
  rcases hw with ⟨b5, rfl⟩ | ⟨b5, rfl⟩
  · obtain ⟨k, k1k, k2k, rfl⟩ := nI_rng (by omega) (by omega) b5.1 b5.2
    refine lv_if_eq (tgt := 29) hx hb dX7_toldOfRows_8 (by decide) (fun c9 => absurd c9 (by decide)) (fun _ => ?_)
    refine lv_aload_n hx hb dX7_toldOfRows_11 rfl (lv_at hl 0 rfl) ?_
    refine va_get (D := D) (ci := 7) (v := .ref g) (C := RX7) (T := TX7) (N := 7) hx hb hts hi7 hown hK hP 0 rfl rfl 0 (by decide) hw0 (fun _ h9 => h9) rfl dX7_toldOfRows_12 ?_
    refine lv_iload_n hx hb dX7_toldOfRows_15 rfl (lv_at hl 1 rfl) ?_
    refine lv_bipush (v := nI 10) hx hb dX7_toldOfRows_16 (by decide) ?_
    refine idiv_n (a := k) (b := 10) hx hb dX7_toldOfRows_18 (by omega) (by omega) (by omega) ?_
    refine lv_iconst (v := nI 1) hx hb dX7_toldOfRows_19 (by decide) ?_
    refine isub_n (a := k / 10) (b := 1) hx hb dX7_toldOfRows_20 (by omega) ?_
    refine lv_iload_n hx hb dX7_toldOfRows_21 rfl (lv_at hl 1 rfl) ?_
    refine lv_bipush (v := nI 10) hx hb dX7_toldOfRows_22 (by decide) ?_
    refine irem_n (a := k) (b := 10) hx hb dX7_toldOfRows_24 (by omega) (by omega) (by omega) ?_
    refine cal_i (run_V (As := [.int (nI ((k / 10) - 1)), .int (nI (k % 10))]) (rest := []) SF (c_toldOfMember l D cI cJ cZ cG cM g ge gl gb gw gsw gsh fi n ns fe fl fb ((k / 10) - 1) (k % 10) (by omega) (by omega) h6) (cwV 2 hts gX7_toldOfRows_X3_toldOfMember rfl rfl rfl (by decide +kernel) ⟨Nat.le_of_ble_eq_true rfl, Nat.le_of_ble_eq_true rfl⟩) hN hK hP hD [1, 2, 3, 4] rfl (by decide) 3 1 rfl rfl rfl rfl hl.1 rfl (Nat.le_of_ble_eq_true rfl) dX7_toldOfRows_25 ⟨Nat.le_of_ble_eq_true rfl, Nat.le_of_ble_eq_true rfl⟩) ⟨rfl, rfl⟩ hP hD hS hA [1, 2, 3, 4] rfl (fun _ => rfl) (fun r25 _ H locs hw hP hD hS => ?_)
    have hP : va_P D vwCl [(xo, .inr (7, [.ref g, .ref pd, .ref b, .ref rg, .ref ch, .ref cn, .ref im])), (g, .inr (3, [.ref ge, .ref gl, .ref gb, .ref gw, .ref gsw, .ref gsh, .int (nI ns), .int (nI n), .int fi])), (ge, .inl (cI, 6, .inl fe)), (gl, .inl (cI, 6, .inl fl)), (gb, .inl (cI, 6, .inl fb)), (gw, .inr (4, [.ref sg, .int (nI nl)])), (sg, .inl (cI, 20, .inl fs))] H := hP
    have hD : va_D A [(xo, .inr (7, [.ref g, .ref pd, .ref b, .ref rg, .ref ch, .ref cn, .ref im])), (g, .inr (3, [.ref ge, .ref gl, .ref gb, .ref gw, .ref gsw, .ref gsh, .int (nI ns), .int (nI n), .int fi])), (ge, .inl (cI, 6, .inl fe)), (gl, .inl (cI, 6, .inl fl)), (gb, .inl (cI, 6, .inl fb)), (gw, .inr (4, [.ref sg, .int (nI nl)])), (sg, .inl (cI, 20, .inl fs))] := hD
    exact hret r25 (()) _ _ _ _ dX7_toldOfRows_28 (by unfold tlR; rw [if_pos b5, nI_clamp (by omega)]; exact hw.trans (tl_row (by omega) (by omega))) hP hD hS
  · refine lv_if_eq (tgt := 29) hx hb dX7_toldOfRows_8 (by decide) (fun _ => ?_) (fun c9 => absurd (by decide) c9)
    refine lv_iload_n hx hb dX7_toldOfRows_29 rfl (lv_at hl 1 rfl) ?_
    refine lv_bipush (v := nI 40) hx hb dX7_toldOfRows_30 (by decide) ?_
    refine lv_icmp_lt (tgt := 68) hx hb dX7_toldOfRows_32 (by decide) (fun c32 => ?_) (fun c32 => ?_)
    · refine lv_bipush (v := (-2)) hx hb dX7_toldOfRows_68 (by decide) ?_
      exact hret ((-2)) (()) _ _ _ _ dX7_toldOfRows_70 (by unfold tlR; rw [if_neg b5, if_neg (fun z => i_ltnle c32 z.1)]) hP hD hS
    · obtain ⟨k, hk2, rfl⟩ := nI_of (x := x) (fun z => c32 (i_lt2 z))
      have hk40 : 40 ≤ k := (nI_leI (by omega) hk2).mp (i_nlt c32)
      refine lv_iload_n hx hb dX7_toldOfRows_35 rfl (lv_at hl 1 rfl) ?_
      refine lv_bipush (v := nI 40) hx hb dX7_toldOfRows_36 (by decide) ?_
      refine isub_n (a := k) (b := 40) hx hb dX7_toldOfRows_38 (by omega) ?_
      refine lv_aload_n hx hb dX7_toldOfRows_39 rfl (lv_at hl 0 rfl) ?_
      refine va_get (D := D) (ci := 7) (v := .ref g) (C := RX7) (T := TX7) (N := 7) hx hb hts hi7 hown hK hP 0 rfl rfl 0 (by decide) hw0 (fun _ h9 => h9) rfl dX7_toldOfRows_40 ?_
      refine va_get (D := D) (ci := 3) (v := .ref gw) (C := RX3) (T := TX3) (N := 9) hx hb hts hi3 hown hK hP 1 rfl rfl 3 (by decide) hw2 (fun _ h9 => h9) rfl dX7_toldOfRows_43 ?_
      refine va_get (D := D) (ci := 4) (v := .int (nI nl)) (C := RX4) (T := TX4) (N := 2) hx hb hts hi4 hown hK hP 5 rfl rfl 1 (by decide) hw4 (fun _ h9 => h9) rfl dX7_toldOfRows_46 ?_
      refine icmp_ge_n (a := k - 40) (b := nl) (tgt := 68) hx hb dX7_toldOfRows_49 (by decide) (by omega) (by omega) (fun c49 => ?_) (fun c49 => ?_)
      · refine lv_bipush (v := (-2)) hx hb dX7_toldOfRows_68 (by decide) ?_
        exact hret ((-2)) (()) _ _ _ _ dX7_toldOfRows_70 (by unfold tlR; rw [if_neg b5, nI_clamp hk2, if_neg (fun z => by have := z.2; omega)]) hP hD hS
      · refine lv_aload_n hx hb dX7_toldOfRows_52 rfl (lv_at hl 0 rfl) ?_
        refine va_get (D := D) (ci := 7) (v := .ref g) (C := RX7) (T := TX7) (N := 7) hx hb hts hi7 hown hK hP 0 rfl rfl 0 (by decide) hw0 (fun _ h9 => h9) rfl dX7_toldOfRows_53 ?_
        refine va_get (D := D) (ci := 3) (v := .ref gw) (C := RX3) (T := TX3) (N := 9) hx hb hts hi3 hown hK hP 1 rfl rfl 3 (by decide) hw2 (fun _ h9 => h9) rfl dX7_toldOfRows_56 ?_
        refine va_get (D := D) (ci := 4) (v := .ref sg) (C := RX4) (T := TX4) (N := 2) hx hb hts hi4 hown hK hP 5 rfl rfl 0 (by decide) hw6 (fun _ h9 => h9) rfl dX7_toldOfRows_59 ?_
        refine lv_iload_n hx hb dX7_toldOfRows_62 rfl (lv_at hl 1 rfl) ?_
        refine lv_bipush (v := nI 40) hx hb dX7_toldOfRows_63 (by decide) ?_
        refine isub_n (a := k) (b := 40) hx hb dX7_toldOfRows_65 (by omega) ?_
        refine iald_n (k := k - 40) hx hb hK hP 6 0 rfl rfl (by omega) (by omega) dX7_toldOfRows_66 ?_
        exact hret (fs (k - 40)) (()) _ _ _ _ dX7_toldOfRows_67 (by unfold tlR; rw [if_neg b5, nI_clamp hk2, if_pos ⟨i_nlt c32, by omega⟩]) hP hD hS

abbrev rm_X7_told : Room := { frames := 3, cells := 0, slots := 0, locals := 64 }
set_option maxHeartbeats 1000000 in
set_option maxRecDepth 100000 in
theorem o_told (l : Launch) (D : va_G) (cI cJ cZ cG cM : ClassId) (xo pd b rg ch cn im : Nat) (g ge gl gb gw gsw gsh : Nat) (fi : Int32) (n ns : Nat) (pds sc sg nl : Nat) (fe fl fb fs : Nat → Int32) (x : Int32) (hn20 : nl ≤ 20) (h6 : n ≤ 6) :
    CI l yX7_told wsX7_told rm_X7_told D [(cI, .int), (cJ, .long), (cZ, .boolean), (cG, .object "LatestSets$Guild"), (cM, .array .int)] [(xo, .inr (7, [.ref g, .ref pd, .ref b, .ref rg, .ref ch, .ref cn, .ref im])), (g, .inr (3, [.ref ge, .ref gl, .ref gb, .ref gw, .ref gsw, .ref gsh, .int (nI ns), .int (nI n), .int fi])), (ge, .inl (cI, 6, .inl fe)), (gl, .inl (cI, 6, .inl fl)), (gb, .inl (cI, 6, .inl fb)), (gw, .inr (4, [.ref sg, .int (nI nl)])), (sg, .inl (cI, 20, .inl fs)), (pd, .inr (5, [.ref pds, .int (nI sc)]))] [.ref xo, .int x] (S := Unit) (fun r u => r = tlF sc n fi nl ns fe fl fb fs x) (fun u => [(xo, .inr (7, [.ref g, .ref pd, .ref b, .ref rg, .ref ch, .ref cn, .ref im])), (g, .inr (3, [.ref ge, .ref gl, .ref gb, .ref gw, .ref gsw, .ref gsh, .int (nI ns), .int (nI n), .int fi])), (ge, .inl (cI, 6, .inl fe)), (gl, .inl (cI, 6, .inl fl)), (gb, .inl (cI, 6, .inl fb)), (gw, .inr (4, [.ref sg, .int (nI nl)])), (sg, .inl (cI, 20, .inl fs)), (pd, .inr (5, [.ref pds, .int (nI sc)]))]) := by
  refine si_of (cc := cX7_told) (maxL := 2) (by decide) rfl (Nat.le_of_ble_eq_true rfl) ?_
  intro p e s m args below meth c A ls Q E hret
  obtain ⟨hx, hb, -, hml, hown, hts, -, hin, hA, hK, hP, hD, hS, hl, hN⟩ := E
  have hown : s.vm.findClass RX7 = some m.cls := hown
  have hl : lv_has ls 2 [(0, .ref xo), (1, .int x)] := hl
  have SF : CallFix p m c cX7_told 2 s args wsX7_told RX7 := ⟨hx, hb, hml, hown, hts⟩
  have hw0 := hts (.fieldLink RX7 28 "LatestSets" "pad" "LLatestSets$Pad;") (by decide +kernel)
  have hi7 : ∀ x ∈ wsX70, x ∈ wsX7_told := by decide +kernel
  have hw2 := hts (.fieldLink RX7 82 "LatestSets$Pad" "count" "I") (by decide +kernel)
  have hi5 : ∀ x ∈ wsX50, x ∈ wsX7_told := by decide +kernel
  have hw4 := hts (.fieldLink RX7 15 "LatestSets" "guild" "LLatestSets$Guild;") (by decide +kernel)
  have hw5 := hts (.fieldLink RX7 63 "LatestSets$Guild" "count" "I") (by decide +kernel)
  have hi3 : ∀ x ∈ wsX30, x ∈ wsX7_told := by decide +kernel
  have hw7 := hts (.fieldLink RX7 79 "LatestSets$Guild" "fineEach" "I") (by decide +kernel)
  have hw8 := hts (.fieldLink RX7 91 "LatestSets$Guild" "law" "LLatestSets$Law;") (by decide +kernel)
  have hw9 := hts (.fieldLink RX7 105 "LatestSets$Law" "length" "I") (by decide +kernel)
  have hi4 : ∀ x ∈ wsX40, x ∈ wsX7_told := by decide +kernel
  have hw11 := hts (.fieldLink RX7 168 "LatestSets$Guild" "sights" "I") (by decide +kernel)
  refine lv_iload_n hx hb dX7_told_0 rfl (lv_at hl 1 rfl) ?_
  by_cases e0 : x = nI 0
  · refine lv_tableIn (off := 35) (tgt := 36) hx hb dX7_told_1 (by rw [e0]; decide) (by rw [e0]; decide) (by rw [e0]; decide +kernel) (by decide) ?_
    refine lv_aload_n hx hb dX7_told_36 rfl (lv_at hl 0 rfl) ?_
    refine va_get (D := D) (ci := 7) (v := .ref pd) (C := RX7) (T := TX7) (N := 7) hx hb hts hi7 hown hK hP 0 rfl rfl 1 (by decide) hw0 (fun _ h9 => h9) rfl dX7_told_37 ?_
    refine va_get (D := D) (ci := 5) (v := .int (nI sc)) (C := RX5) (T := TX5) (N := 2) hx hb hts hi5 hown hK hP 7 rfl rfl 1 (by decide) hw2 (fun _ h9 => h9) rfl dX7_told_40 ?_
    exact hret (nI sc) (()) _ _ _ _ dX7_told_43 (by unfold tlF; rw [if_pos e0]) hP hD hS
  · skip
    by_cases e1 : x = nI 1
    · refine lv_tableIn (off := 43) (tgt := 44) hx hb dX7_told_1 (by rw [e1]; decide) (by rw [e1]; decide) (by rw [e1]; decide +kernel) (by decide) ?_
      refine lv_aload_n hx hb dX7_told_44 rfl (lv_at hl 0 rfl) ?_
      refine va_get (D := D) (ci := 7) (v := .ref g) (C := RX7) (T := TX7) (N := 7) hx hb hts hi7 hown hK hP 0 rfl rfl 0 (by decide) hw4 (fun _ h9 => h9) rfl dX7_told_45 ?_
      refine va_get (D := D) (ci := 3) (v := .int (nI n)) (C := RX3) (T := TX3) (N := 9) hx hb hts hi3 hown hK hP 1 rfl rfl 7 (by decide) hw5 (fun _ h9 => h9) rfl dX7_told_48 ?_
      exact hret (nI n) (()) _ _ _ _ dX7_told_51 (by unfold tlF; rw [if_neg e0, if_pos e1]) hP hD hS
    · skip
      by_cases e2 : x = nI 2
      · refine lv_tableIn (off := 51) (tgt := 52) hx hb dX7_told_1 (by rw [e2]; decide) (by rw [e2]; decide) (by rw [e2]; decide +kernel) (by decide) ?_
        refine lv_aload_n hx hb dX7_told_52 rfl (lv_at hl 0 rfl) ?_
        refine va_get (D := D) (ci := 7) (v := .ref g) (C := RX7) (T := TX7) (N := 7) hx hb hts hi7 hown hK hP 0 rfl rfl 0 (by decide) hw4 (fun _ h9 => h9) rfl dX7_told_53 ?_
        refine va_get (D := D) (ci := 3) (v := .int fi) (C := RX3) (T := TX3) (N := 9) hx hb hts hi3 hown hK hP 1 rfl rfl 8 (by decide) hw7 (fun _ h9 => h9) rfl dX7_told_56 ?_
        exact hret fi (()) _ _ _ _ dX7_told_59 (by unfold tlF; rw [if_neg e0, if_neg e1, if_pos e2]) hP hD hS
      · skip
        by_cases e3 : x = nI 3
        · refine lv_tableIn (off := 59) (tgt := 60) hx hb dX7_told_1 (by rw [e3]; decide) (by rw [e3]; decide) (by rw [e3]; decide +kernel) (by decide) ?_
          refine lv_aload_n hx hb dX7_told_60 rfl (lv_at hl 0 rfl) ?_
          refine va_get (D := D) (ci := 7) (v := .ref g) (C := RX7) (T := TX7) (N := 7) hx hb hts hi7 hown hK hP 0 rfl rfl 0 (by decide) hw4 (fun _ h9 => h9) rfl dX7_told_61 ?_
          refine va_get (D := D) (ci := 3) (v := .ref gw) (C := RX3) (T := TX3) (N := 9) hx hb hts hi3 hown hK hP 1 rfl rfl 3 (by decide) hw8 (fun _ h9 => h9) rfl dX7_told_64 ?_
          refine va_get (D := D) (ci := 4) (v := .int (nI nl)) (C := RX4) (T := TX4) (N := 2) hx hb hts hi4 hown hK hP 5 rfl rfl 1 (by decide) hw9 (fun _ h9 => h9) rfl dX7_told_67 ?_
          exact hret (nI nl) (()) _ _ _ _ dX7_told_70 (by unfold tlF; rw [if_neg e0, if_neg e1, if_neg e2, if_pos e3]) hP hD hS
        · skip
          by_cases e4 : x = nI 4
          · refine lv_tableIn (off := 70) (tgt := 71) hx hb dX7_told_1 (by rw [e4]; decide) (by rw [e4]; decide) (by rw [e4]; decide +kernel) (by decide) ?_
            refine lv_aload_n hx hb dX7_told_71 rfl (lv_at hl 0 rfl) ?_
            refine va_get (D := D) (ci := 7) (v := .ref g) (C := RX7) (T := TX7) (N := 7) hx hb hts hi7 hown hK hP 0 rfl rfl 0 (by decide) hw4 (fun _ h9 => h9) rfl dX7_told_72 ?_
            refine va_get (D := D) (ci := 3) (v := .int (nI ns)) (C := RX3) (T := TX3) (N := 9) hx hb hts hi3 hown hK hP 1 rfl rfl 6 (by decide) hw11 (fun _ h9 => h9) rfl dX7_told_75 ?_
            exact hret (nI ns) (()) _ _ _ _ dX7_told_78 (by unfold tlF; rw [if_neg e0, if_neg e1, if_neg e2, if_neg e3, if_pos e4]) hP hD hS
          · skip
            refine lv_tableOut (tgt := 79) hx hb dX7_told_1 (by have z0 := ne_toI (c := 0) (by decide) e0; have z1 := ne_toI (c := 1) (by decide) e1; have z2 := ne_toI (c := 2) (by decide) e2; have z3 := ne_toI (c := 3) (by decide) e3; have z4 := ne_toI (c := 4) (by decide) e4; omega) (by decide) ?_
            refine lv_aload_n hx hb dX7_told_79 rfl (lv_at hl 0 rfl) ?_
            refine lv_iload_n hx hb dX7_told_80 rfl (lv_at hl 1 rfl) ?_
            refine cal_i (run_V (As := [.int x]) (rest := []) SF (c_toldOfRows l D cI cJ cZ cG cM xo pd b rg ch cn im g ge gl gb gw gsw gsh fi n ns sg nl fe fl fb fs x hn20 h6) (cwV 1 hts gX7_told_X7_toldOfRows rfl rfl rfl (by decide +kernel) ⟨Nat.le_of_ble_eq_true rfl, Nat.le_of_ble_eq_true rfl⟩) hN hK hP hD [0, 1, 2, 3, 4, 5, 6] rfl (by decide) 7 0 rfl rfl rfl rfl hl.1 rfl (Nat.le_of_ble_eq_true rfl) dX7_told_81 ⟨Nat.le_of_ble_eq_true rfl, Nat.le_of_ble_eq_true rfl⟩) ⟨rfl, rfl⟩ hP hD hS hA [0, 1, 2, 3, 4, 5, 6] rfl (fun _ => rfl) (fun r81 _ H locs hw hP hD hS => ?_)
            have hP : va_P D vwCl [(xo, .inr (7, [.ref g, .ref pd, .ref b, .ref rg, .ref ch, .ref cn, .ref im])), (g, .inr (3, [.ref ge, .ref gl, .ref gb, .ref gw, .ref gsw, .ref gsh, .int (nI ns), .int (nI n), .int fi])), (ge, .inl (cI, 6, .inl fe)), (gl, .inl (cI, 6, .inl fl)), (gb, .inl (cI, 6, .inl fb)), (gw, .inr (4, [.ref sg, .int (nI nl)])), (sg, .inl (cI, 20, .inl fs)), (pd, .inr (5, [.ref pds, .int (nI sc)]))] H := hP
            have hD : va_D A [(xo, .inr (7, [.ref g, .ref pd, .ref b, .ref rg, .ref ch, .ref cn, .ref im])), (g, .inr (3, [.ref ge, .ref gl, .ref gb, .ref gw, .ref gsw, .ref gsh, .int (nI ns), .int (nI n), .int fi])), (ge, .inl (cI, 6, .inl fe)), (gl, .inl (cI, 6, .inl fl)), (gb, .inl (cI, 6, .inl fb)), (gw, .inr (4, [.ref sg, .int (nI nl)])), (sg, .inl (cI, 20, .inl fs)), (pd, .inr (5, [.ref pds, .int (nI sc)]))] := hD
            exact hret r81 (()) _ _ _ _ dX7_told_84 (by unfold tlF; rw [if_neg e0, if_neg e1, if_neg e2, if_neg e3, if_neg e4]; exact hw) hP hD hS

abbrev rm_X8_told : Room := { frames := 2, cells := 0, slots := 0, locals := 43 }
set_option maxHeartbeats 1000000 in
set_option maxRecDepth 100000 in
theorem m_told (l : Launch) (D : va_G) (cI cJ cZ cG cM : ClassId) (o me ml mb mt ms mp my mc mk mw mo mq mi mz : Nat) (fi si sn la ah ri lh : Int32) (n nl : Nat) (fe fl fbs fs : Nat → Int32) (ns sc : Nat) (x : Int32) (hn1 : 1 ≤ nl) (hn20 : nl ≤ 20) (h1 : 1 ≤ n) (h6 : n ≤ 6) :
    CI l yX8_told wsX8_told rm_X8_told D [(cI, .int), (cJ, .long), (cZ, .boolean), (cG, .object "LatestSets$Guild"), (cM, .array .int)] [(o, .inr (8, [.int (nI n), .ref me, .ref ml, .ref mb, .int fi, .int (nI nl), .ref mt, .int (nI ns), .ref ms, .int (nI sc), .ref mp, .ref my, .ref mc, .int la, .ref mk, .ref mw, .int ah, .int ri, .int lh, .ref mo, .ref mq, .ref mi, .ref mz])), (me, .inl (cI, 6, .inl fe)), (ml, .inl (cI, 6, .inl fl)), (mb, .inl (cI, 6, .inl fbs)), (mt, .inl (cI, 20, .inl fs))] [.ref o, .int x] (S := Unit) (fun r u => r = tlF sc n fi nl ns fe fl fbs fs x) (fun u => [(o, .inr (8, [.int (nI n), .ref me, .ref ml, .ref mb, .int fi, .int (nI nl), .ref mt, .int (nI ns), .ref ms, .int (nI sc), .ref mp, .ref my, .ref mc, .int la, .ref mk, .ref mw, .int ah, .int ri, .int lh, .ref mo, .ref mq, .ref mi, .ref mz])), (me, .inl (cI, 6, .inl fe)), (ml, .inl (cI, 6, .inl fl)), (mb, .inl (cI, 6, .inl fbs)), (mt, .inl (cI, 20, .inl fs))]) := by
  refine si_of (cc := cX8_told) (maxL := 3) (by decide) rfl (Nat.le_of_ble_eq_true rfl) ?_
  intro p e s m args below meth c A ls Q E hret
  obtain ⟨hx, hb, -, hml, hown, hts, -, hin, hA, hK, hP, hD, hS, hl, hN⟩ := E
  have hown : s.vm.findClass RX8 = some m.cls := hown
  have hl : lv_has ls 3 [(0, .ref o), (1, .int x)] := hl
  have SF : CallFix p m c cX8_told 3 s args wsX8_told RX8 := ⟨hx, hb, hml, hown, hts⟩
  have hw0 := hts (.fieldLink RX8 20 "LatestSetsModel" "best" "[I") (by decide +kernel)
  have hi8 : ∀ x ∈ wsX80, x ∈ wsX8_told := by decide +kernel
  have hw2 := hts (.fieldLink RX8 17 "LatestSetsModel" "late" "[I") (by decide +kernel)
  have hw3 := hts (.fieldLink RX8 13 "LatestSetsModel" "early" "[I") (by decide +kernel)
  have hw4 := hts (.fieldLink RX8 77 "LatestSetsModel" "signs" "I") (by decide +kernel)
  have hw5 := hts (.fieldLink RX8 7 "LatestSetsModel" "members" "I") (by decide +kernel)
  have hw6 := hts (.fieldLink RX8 23 "LatestSetsModel" "fine" "I") (by decide +kernel)
  have hw7 := hts (.fieldLink RX8 26 "LatestSetsModel" "size" "I") (by decide +kernel)
  have hw8 := hts (.fieldLink RX8 66 "LatestSetsModel" "sights" "I") (by decide +kernel)
  have hw9 := hts (.fieldLink RX8 29 "LatestSetsModel" "text" "[I") (by decide +kernel)
  refine lv_iload_n hx hb dX8_told_0 rfl (lv_at hl 1 rfl) ?_
  refine lv_bipush (v := nI 10) hx hb dX8_told_1 (by decide) ?_
  refine lv_irem hx hb dX8_told_3 (by decide) ?_
  refine lv_istore_n (lv' := [(2, .int (x - x / (nI 10) * (nI 10))), (0, .ref o), (1, .int x)]) hx hb dX8_told_4 rfl hl (by decide) rfl (fun ls hl => ?_)
  refine lv_iload_n hx hb dX8_told_5 rfl (lv_at hl 2 rfl) ?_
  refine lv_bipush (v := nI 10) hx hb dX8_told_6 (by decide) ?_
  refine lv_bipush (v := nI 39) hx hb dX8_told_8 (by decide) ?_
  refine cal_i (run_S (As := [.int x, .int (nI 10), .int (nI 39)]) (rest := []) SF (c_in8 l D cI cJ cZ cG cM x (nI 10) (nI 39)) (va_cwS 3 hts gX8_told_X8_in rfl rfl rfl (by decide +kernel) ⟨Nat.le_of_ble_eq_true rfl, Nat.le_of_ble_eq_true rfl⟩) hN hK hP hD [] rfl (by decide) rfl hl.1 rfl (Nat.le_of_ble_eq_true rfl) dX8_told_10 ⟨Nat.le_of_ble_eq_true rfl, Nat.le_of_ble_eq_true rfl⟩) ⟨rfl, rfl⟩ hP hD hS hA [] rfl (fun _ => rfl) (fun r10 _ H locs hw hP hD hS => ?_)
  have hP : va_P D vwCl [(o, .inr (8, [.int (nI n), .ref me, .ref ml, .ref mb, .int fi, .int (nI nl), .ref mt, .int (nI ns), .ref ms, .int (nI sc), .ref mp, .ref my, .ref mc, .int la, .ref mk, .ref mw, .int ah, .int ri, .int lh, .ref mo, .ref mq, .ref mi, .ref mz])), (me, .inl (cI, 6, .inl fe)), (ml, .inl (cI, 6, .inl fl)), (mb, .inl (cI, 6, .inl fbs)), (mt, .inl (cI, 20, .inl fs))] H := hP
  have hD : va_D A [(o, .inr (8, [.int (nI n), .ref me, .ref ml, .ref mb, .int fi, .int (nI nl), .ref mt, .int (nI ns), .ref ms, .int (nI sc), .ref mp, .ref my, .ref mc, .int la, .ref mk, .ref mw, .int ah, .int ri, .int lh, .ref mo, .ref mq, .ref mi, .ref mz])), (me, .inl (cI, 6, .inl fe)), (ml, .inl (cI, 6, .inl fl)), (mb, .inl (cI, 6, .inl fbs)), (mt, .inl (cI, 20, .inl fs))] := hD
  rcases hw with ⟨b10, rfl⟩ | ⟨b10, rfl⟩
  · obtain ⟨k, k1k, k2k, rfl⟩ := nI_rng (by omega) (by omega) b10.1 b10.2
    have e8 : (nI k) - (nI k) / (nI 10) * (nI 10) = nI (k % 10) := pk_rem (by omega) (by omega) (by omega)
    have hl : lv_has ls 3 [(2, .int (nI (k % 10))), (0, .ref o), (1, .int (nI k))] := by rw [← e8]; exact hl
    refine lv_if_eq (tgt := 66) hx hb dX8_told_13 (by decide) (fun c9 => absurd c9 (by decide)) (fun _ => ?_)
    refine lv_aload_n hx hb dX8_told_16 rfl (lv_at hl 1 rfl) ?_
    refine lv_iload_n hx hb dX8_told_17 rfl (lv_at hl 0 rfl) ?_
    refine cal_i (run_V (As := [.int (nI (k % 10))]) (rest := []) SF (c_isMember8 l D cI cJ cZ cG cM o me ml mb mt ms mp my mc mk mw mo mq mi mz fi (nI ns) (nI sc) la ah ri lh n nl (nI (k % 10)) h1 h6) (cwV 1 hts gX8_told_X8_isMember rfl rfl rfl (by decide +kernel) ⟨Nat.le_of_ble_eq_true rfl, Nat.le_of_ble_eq_true rfl⟩) hN hK hP hD [0] rfl (by decide) 8 0 rfl rfl rfl rfl hl.1 rfl (Nat.le_of_ble_eq_true rfl) dX8_told_18 ⟨Nat.le_of_ble_eq_true rfl, Nat.le_of_ble_eq_true rfl⟩) ⟨rfl, rfl⟩ hP hD hS hA [0] rfl (fun _ => rfl) (fun r18 _ H locs hw hP hD hS => ?_)
    have hP : va_P D vwCl [(o, .inr (8, [.int (nI n), .ref me, .ref ml, .ref mb, .int fi, .int (nI nl), .ref mt, .int (nI ns), .ref ms, .int (nI sc), .ref mp, .ref my, .ref mc, .int la, .ref mk, .ref mw, .int ah, .int ri, .int lh, .ref mo, .ref mq, .ref mi, .ref mz])), (me, .inl (cI, 6, .inl fe)), (ml, .inl (cI, 6, .inl fl)), (mb, .inl (cI, 6, .inl fbs)), (mt, .inl (cI, 20, .inl fs))] H := hP
    have hD : va_D A [(o, .inr (8, [.int (nI n), .ref me, .ref ml, .ref mb, .int fi, .int (nI nl), .ref mt, .int (nI ns), .ref ms, .int (nI sc), .ref mp, .ref my, .ref mc, .int la, .ref mk, .ref mw, .int ah, .int ri, .int lh, .ref mo, .ref mq, .ref mi, .ref mz])), (me, .inl (cI, 6, .inl fe)), (ml, .inl (cI, 6, .inl fl)), (mb, .inl (cI, 6, .inl fbs)), (mt, .inl (cI, 20, .inl fs))] := hD
    rcases hw with ⟨b18, rfl⟩ | ⟨b18, rfl⟩
    · have hkn : k % 10 < n := (nI_ltI (by omega) (by omega)).mp b18.2
      refine lv_if_ne (tgt := 29) hx hb dX8_told_21 (by decide) (fun _ => ?_) (fun c9 => absurd c9 (by decide))
      refine lv_iload_n hx hb dX8_told_29 rfl (lv_at hl 2 rfl) ?_
      refine lv_bipush (v := nI 20) hx hb dX8_told_30 (by decide) ?_
      refine icmp_ge_n (a := k) (b := 20) (tgt := 44) hx hb dX8_told_32 (by decide) (by omega) (by omega) (fun c32 => ?_) (fun c32 => ?_)
      · refine lv_iload_n hx hb dX8_told_44 rfl (lv_at hl 2 rfl) ?_
        refine lv_bipush (v := nI 30) hx hb dX8_told_45 (by decide) ?_
        refine icmp_ge_n (a := k) (b := 30) (tgt := 59) hx hb dX8_told_47 (by decide) (by omega) (by omega) (fun c47 => ?_) (fun c47 => ?_)
        · refine lv_aload_n hx hb dX8_told_59 rfl (lv_at hl 1 rfl) ?_
          refine va_get (D := D) (ci := 8) (v := .ref mb) (C := RX8) (T := TX8) (N := 23) hx hb hts hi8 hown hK hP 0 rfl rfl 3 (by decide) hw0 (fun _ h9 => h9) rfl dX8_told_60 ?_
          refine lv_iload_n hx hb dX8_told_63 rfl (lv_at hl 0 rfl) ?_
          refine iald_n (k := k % 10) hx hb hK hP 3 0 rfl rfl (by omega) (by omega) dX8_told_64 ?_
          have i9 : ∀ j : Nat, j < 10 → ¬ nI k = nI j := fun j hj z => by have := (nI_eq (by omega) (by omega)).mp z; omega
          exact hret (fbs (k % 10)) (()) _ _ _ _ dX8_told_65 (by unfold tlF; rw [if_neg (fun z => i9 0 (by omega) z), if_neg (fun z => i9 1 (by omega) z), if_neg (fun z => i9 2 (by omega) z), if_neg (fun z => i9 3 (by omega) z), if_neg (fun z => i9 4 (by omega) z)]; unfold tlR; rw [if_pos b10, nI_clamp (by omega)]; rw [if_pos ((nI_ltI (by omega) (by omega)).mp b18.2)]; rw [if_neg (show ¬ k < 20 by omega), if_neg (show ¬ k < 30 by omega)]) hP hD hS
        · refine lv_aload_n hx hb dX8_told_50 rfl (lv_at hl 1 rfl) ?_
          refine va_get (D := D) (ci := 8) (v := .ref ml) (C := RX8) (T := TX8) (N := 23) hx hb hts hi8 hown hK hP 0 rfl rfl 2 (by decide) hw2 (fun _ h9 => h9) rfl dX8_told_51 ?_
          refine lv_iload_n hx hb dX8_told_54 rfl (lv_at hl 0 rfl) ?_
          refine iald_n (k := k % 10) hx hb hK hP 2 0 rfl rfl (by omega) (by omega) dX8_told_55 ?_
          refine lv_goto (tgt := 65) hx hb dX8_told_56 (by decide) ?_
          have i9 : ∀ j : Nat, j < 10 → ¬ nI k = nI j := fun j hj z => by have := (nI_eq (by omega) (by omega)).mp z; omega
          exact hret (fl (k % 10)) (()) _ _ _ _ dX8_told_65 (by unfold tlF; rw [if_neg (fun z => i9 0 (by omega) z), if_neg (fun z => i9 1 (by omega) z), if_neg (fun z => i9 2 (by omega) z), if_neg (fun z => i9 3 (by omega) z), if_neg (fun z => i9 4 (by omega) z)]; unfold tlR; rw [if_pos b10, nI_clamp (by omega)]; rw [if_pos ((nI_ltI (by omega) (by omega)).mp b18.2)]; rw [if_neg (show ¬ k < 20 by omega), if_pos c47]) hP hD hS
      · refine lv_aload_n hx hb dX8_told_35 rfl (lv_at hl 1 rfl) ?_
        refine va_get (D := D) (ci := 8) (v := .ref me) (C := RX8) (T := TX8) (N := 23) hx hb hts hi8 hown hK hP 0 rfl rfl 1 (by decide) hw3 (fun _ h9 => h9) rfl dX8_told_36 ?_
        refine lv_iload_n hx hb dX8_told_39 rfl (lv_at hl 0 rfl) ?_
        refine iald_n (k := k % 10) hx hb hK hP 1 0 rfl rfl (by omega) (by omega) dX8_told_40 ?_
        refine lv_goto (tgt := 65) hx hb dX8_told_41 (by decide) ?_
        have i9 : ∀ j : Nat, j < 10 → ¬ nI k = nI j := fun j hj z => by have := (nI_eq (by omega) (by omega)).mp z; omega
        exact hret (fe (k % 10)) (()) _ _ _ _ dX8_told_65 (by unfold tlF; rw [if_neg (fun z => i9 0 (by omega) z), if_neg (fun z => i9 1 (by omega) z), if_neg (fun z => i9 2 (by omega) z), if_neg (fun z => i9 3 (by omega) z), if_neg (fun z => i9 4 (by omega) z)]; unfold tlR; rw [if_pos b10, nI_clamp (by omega)]; rw [if_pos ((nI_ltI (by omega) (by omega)).mp b18.2)]; rw [if_pos c32]) hP hD hS
    · refine lv_if_ne (tgt := 29) hx hb dX8_told_21 (by decide) (fun c9 => absurd c9 (by decide)) (fun _ => ?_)
      refine lv_bipush (v := (-2)) hx hb dX8_told_24 (by decide) ?_
      refine lv_goto (tgt := 65) hx hb dX8_told_26 (by decide) ?_
      have i9 : ∀ j : Nat, j < 10 → ¬ nI k = nI j := fun j hj z => by have := (nI_eq (by omega) (by omega)).mp z; omega
      exact hret ((-2)) (()) _ _ _ _ dX8_told_65 (by unfold tlF; rw [if_neg (fun z => i9 0 (by omega) z), if_neg (fun z => i9 1 (by omega) z), if_neg (fun z => i9 2 (by omega) z), if_neg (fun z => i9 3 (by omega) z), if_neg (fun z => i9 4 (by omega) z)]; unfold tlR; rw [if_pos b10, nI_clamp (by omega)]; rw [if_neg (fun z => b18 ⟨nI_pos' (by omega), (nI_ltI (by omega) (by omega)).mpr z⟩)]) hP hD hS
  · refine lv_if_eq (tgt := 66) hx hb dX8_told_13 (by decide) (fun _ => ?_) (fun c9 => absurd (by decide) c9)
    refine lv_iload_n hx hb dX8_told_66 rfl (lv_at hl 2 rfl) ?_
    refine lv_bipush (v := nI 40) hx hb dX8_told_67 (by decide) ?_
    refine lv_icmp_lt (tgt := 104) hx hb dX8_told_69 (by decide) (fun c69 => ?_) (fun c69 => ?_)
    · refine lv_iload_n hx hb dX8_told_104 rfl (lv_at hl 2 rfl) ?_
      by_cases e0 : x = nI 0
      · refine lv_tableIn (off := 31) (tgt := 136) hx hb dX8_told_105 (by rw [e0]; decide) (by rw [e0]; decide) (by rw [e0]; decide +kernel) (by decide) ?_
        refine lv_aload_n hx hb dX8_told_136 rfl (lv_at hl 1 rfl) ?_
        refine va_get (D := D) (ci := 8) (v := .int (nI sc)) (C := RX8) (T := TX8) (N := 23) hx hb hts hi8 hown hK hP 0 rfl rfl 9 (by decide) hw4 (fun _ h9 => h9) rfl dX8_told_137 ?_
        exact hret (nI sc) (()) _ _ _ _ dX8_told_140 (by unfold tlF; rw [if_pos e0]) hP hD hS
      · skip
        by_cases e1 : x = nI 1
        · refine lv_tableIn (off := 36) (tgt := 141) hx hb dX8_told_105 (by rw [e1]; decide) (by rw [e1]; decide) (by rw [e1]; decide +kernel) (by decide) ?_
          refine lv_aload_n hx hb dX8_told_141 rfl (lv_at hl 1 rfl) ?_
          refine va_get (D := D) (ci := 8) (v := .int (nI n)) (C := RX8) (T := TX8) (N := 23) hx hb hts hi8 hown hK hP 0 rfl rfl 0 (by decide) hw5 (fun _ h9 => h9) rfl dX8_told_142 ?_
          exact hret (nI n) (()) _ _ _ _ dX8_told_145 (by unfold tlF; rw [if_neg e0, if_pos e1]) hP hD hS
        · skip
          by_cases e2 : x = nI 2
          · refine lv_tableIn (off := 41) (tgt := 146) hx hb dX8_told_105 (by rw [e2]; decide) (by rw [e2]; decide) (by rw [e2]; decide +kernel) (by decide) ?_
            refine lv_aload_n hx hb dX8_told_146 rfl (lv_at hl 1 rfl) ?_
            refine va_get (D := D) (ci := 8) (v := .int fi) (C := RX8) (T := TX8) (N := 23) hx hb hts hi8 hown hK hP 0 rfl rfl 4 (by decide) hw6 (fun _ h9 => h9) rfl dX8_told_147 ?_
            exact hret fi (()) _ _ _ _ dX8_told_150 (by unfold tlF; rw [if_neg e0, if_neg e1, if_pos e2]) hP hD hS
          · skip
            by_cases e3 : x = nI 3
            · refine lv_tableIn (off := 46) (tgt := 151) hx hb dX8_told_105 (by rw [e3]; decide) (by rw [e3]; decide) (by rw [e3]; decide +kernel) (by decide) ?_
              refine lv_aload_n hx hb dX8_told_151 rfl (lv_at hl 1 rfl) ?_
              refine va_get (D := D) (ci := 8) (v := .int (nI nl)) (C := RX8) (T := TX8) (N := 23) hx hb hts hi8 hown hK hP 0 rfl rfl 5 (by decide) hw7 (fun _ h9 => h9) rfl dX8_told_152 ?_
              exact hret (nI nl) (()) _ _ _ _ dX8_told_155 (by unfold tlF; rw [if_neg e0, if_neg e1, if_neg e2, if_pos e3]) hP hD hS
            · skip
              refine lv_tableOut (tgt := 156) hx hb dX8_told_105 (by have z0 := ne_toI (c := 0) (by decide) e0; have z1 := ne_toI (c := 1) (by decide) e1; have z2 := ne_toI (c := 2) (by decide) e2; have z3 := ne_toI (c := 3) (by decide) e3; omega) (by decide) ?_
              refine lv_iload_n hx hb dX8_told_156 rfl (lv_at hl 2 rfl) ?_
              refine lv_iconst (v := nI 4) hx hb dX8_told_157 (by decide) ?_
              refine lv_icmp_ne (tgt := 168) hx hb dX8_told_158 (by decide) (fun c158 => ?_) (fun c158 => ?_)
              · refine lv_bipush (v := (-2)) hx hb dX8_told_168 (by decide) ?_
                exact hret ((-2)) (()) _ _ _ _ dX8_told_170 (by unfold tlF; rw [if_neg e0, if_neg e1, if_neg e2, if_neg e3, if_neg c158]; unfold tlR; rw [if_neg b10, if_neg (fun z => i_ltnle c69 z.1)]) hP hD hS
              · refine lv_aload_n hx hb dX8_told_161 rfl (lv_at hl 1 rfl) ?_
                refine va_get (D := D) (ci := 8) (v := .int (nI ns)) (C := RX8) (T := TX8) (N := 23) hx hb hts hi8 hown hK hP 0 rfl rfl 7 (by decide) hw8 (fun _ h9 => h9) rfl dX8_told_162 ?_
                refine lv_goto (tgt := 170) hx hb dX8_told_165 (by decide) ?_
                exact hret (nI ns) (()) _ _ _ _ dX8_told_170 (by unfold tlF; rw [if_neg e0, if_neg e1, if_neg e2, if_neg e3, if_pos c158]) hP hD hS
    · obtain ⟨k, hk2, rfl⟩ := nI_of (x := x) (fun z => c69 (i_lt2 z))
      have hk40 : 40 ≤ k := (nI_leI (by omega) hk2).mp (i_nlt c69)
      refine lv_iload_n hx hb dX8_told_72 rfl (lv_at hl 2 rfl) ?_
      refine lv_bipush (v := nI 40) hx hb dX8_told_73 (by decide) ?_
      refine isub_n (a := k) (b := 40) hx hb dX8_told_75 (by omega) ?_
      refine lv_iconst (v := nI 0) hx hb dX8_told_76 (by decide) ?_
      refine lv_aload_n hx hb dX8_told_77 rfl (lv_at hl 1 rfl) ?_
      refine va_get (D := D) (ci := 8) (v := .int (nI nl)) (C := RX8) (T := TX8) (N := 23) hx hb hts hi8 hown hK hP 0 rfl rfl 5 (by decide) hw7 (fun _ h9 => h9) rfl dX8_told_78 ?_
      refine lv_iconst (v := nI 1) hx hb dX8_told_81 (by decide) ?_
      refine isub_n (a := nl) (b := 1) hx hb dX8_told_82 (by omega) ?_
      refine cal_i (run_S (As := [.int (nI (k - 40)), .int (nI 0), .int (nI (nl - 1))]) (rest := []) SF (c_in8 l D cI cJ cZ cG cM (nI (k - 40)) (nI 0) (nI (nl - 1))) (va_cwS 3 hts gX8_told_X8_in rfl rfl rfl (by decide +kernel) ⟨Nat.le_of_ble_eq_true rfl, Nat.le_of_ble_eq_true rfl⟩) hN hK hP hD [] rfl (by decide) rfl hl.1 rfl (Nat.le_of_ble_eq_true rfl) dX8_told_83 ⟨Nat.le_of_ble_eq_true rfl, Nat.le_of_ble_eq_true rfl⟩) ⟨rfl, rfl⟩ hP hD hS hA [] rfl (fun _ => rfl) (fun r83 _ H locs hw hP hD hS => ?_)
      have hP : va_P D vwCl [(o, .inr (8, [.int (nI n), .ref me, .ref ml, .ref mb, .int fi, .int (nI nl), .ref mt, .int (nI ns), .ref ms, .int (nI sc), .ref mp, .ref my, .ref mc, .int la, .ref mk, .ref mw, .int ah, .int ri, .int lh, .ref mo, .ref mq, .ref mi, .ref mz])), (me, .inl (cI, 6, .inl fe)), (ml, .inl (cI, 6, .inl fl)), (mb, .inl (cI, 6, .inl fbs)), (mt, .inl (cI, 20, .inl fs))] H := hP
      have hD : va_D A [(o, .inr (8, [.int (nI n), .ref me, .ref ml, .ref mb, .int fi, .int (nI nl), .ref mt, .int (nI ns), .ref ms, .int (nI sc), .ref mp, .ref my, .ref mc, .int la, .ref mk, .ref mw, .int ah, .int ri, .int lh, .ref mo, .ref mq, .ref mi, .ref mz])), (me, .inl (cI, 6, .inl fe)), (ml, .inl (cI, 6, .inl fl)), (mb, .inl (cI, 6, .inl fbs)), (mt, .inl (cI, 20, .inl fs))] := hD
      rcases hw with ⟨b83, rfl⟩ | ⟨b83, rfl⟩
      · have hkn : k - 40 ≤ nl - 1 := (nI_leI (by omega) (by omega)).mp b83.2
        refine lv_if_eq (tgt := 101) hx hb dX8_told_86 (by decide) (fun c9 => absurd c9 (by decide)) (fun _ => ?_)
        refine lv_aload_n hx hb dX8_told_89 rfl (lv_at hl 1 rfl) ?_
        refine va_get (D := D) (ci := 8) (v := .ref mt) (C := RX8) (T := TX8) (N := 23) hx hb hts hi8 hown hK hP 0 rfl rfl 6 (by decide) hw9 (fun _ h9 => h9) rfl dX8_told_90 ?_
        refine lv_iload_n hx hb dX8_told_93 rfl (lv_at hl 2 rfl) ?_
        refine lv_bipush (v := nI 40) hx hb dX8_told_94 (by decide) ?_
        refine isub_n (a := k) (b := 40) hx hb dX8_told_96 (by omega) ?_
        refine iald_n (k := k - 40) hx hb hK hP 4 0 rfl rfl (by omega) (by omega) dX8_told_97 ?_
        refine lv_goto (tgt := 103) hx hb dX8_told_98 (by decide) ?_
        have i9 : ∀ j : Nat, j < 10 → ¬ nI k = nI j := fun j hj z => by have := (nI_eq hk2 (by omega)).mp z; omega
        exact hret (fs (k - 40)) (()) _ _ _ _ dX8_told_103 (by unfold tlF; rw [if_neg (fun z => i9 0 (by omega) z), if_neg (fun z => i9 1 (by omega) z), if_neg (fun z => i9 2 (by omega) z), if_neg (fun z => i9 3 (by omega) z), if_neg (fun z => i9 4 (by omega) z)]; unfold tlR; rw [if_neg b10, nI_clamp hk2]; rw [if_pos ⟨i_nlt c69, by have := (nI_leI (by omega) (by omega)).mp b83.2; omega⟩]) hP hD hS
      · refine lv_if_eq (tgt := 101) hx hb dX8_told_86 (by decide) (fun _ => ?_) (fun c9 => absurd (by decide) c9)
        refine lv_bipush (v := (-2)) hx hb dX8_told_101 (by decide) ?_
        have i9 : ∀ j : Nat, j < 10 → ¬ nI k = nI j := fun j hj z => by have := (nI_eq hk2 (by omega)).mp z; omega
        exact hret ((-2)) (()) _ _ _ _ dX8_told_103 (by unfold tlF; rw [if_neg (fun z => i9 0 (by omega) z), if_neg (fun z => i9 1 (by omega) z), if_neg (fun z => i9 2 (by omega) z), if_neg (fun z => i9 3 (by omega) z), if_neg (fun z => i9 4 (by omega) z)]; unfold tlR; rw [if_neg b10, nI_clamp hk2]; rw [if_neg (fun z => b83 ⟨nI_pos' (by omega), (nI_leI (by omega) (by omega)).mpr (by have := z.2; omega)⟩)]) hP hD hS

abbrev rm_X3_become : Room := { frames := 2, cells := 0, slots := 0, locals := 48 }
set_option maxHeartbeats 1000000 in
set_option maxRecDepth 100000 in
theorem c_become (l : Launch) (D : va_G) (cI cJ cZ cG cM : ClassId) (g ge gl gb gw sg gsw gsh y0 ye yl yb yw ys yv yz : Nat) (n ns nl n2 ns2 nl2 : Nat) (fi fi2 : Int32) (fe fl fb fs fw fh fe2 fl2 fb2 fs2 fw2 fh2 : Nat → Int32) (hnl2 : nl2 ≤ 20) :
    CV l yX3_become wsX3_become rm_X3_become D [(cI, .int), (cJ, .long), (cZ, .boolean), (cG, .object "LatestSets$Guild"), (cM, .array .int)] [(g, .inr (3, [.ref ge, .ref gl, .ref gb, .ref gw, .ref gsw, .ref gsh, .int (nI ns), .int (nI n), .int fi])), (ge, .inl (cI, 6, .inl fe)), (gl, .inl (cI, 6, .inl fl)), (gb, .inl (cI, 6, .inl fb)), (gw, .inr (4, [.ref sg, .int (nI nl)])), (sg, .inl (cI, 20, .inl fs)), (gsw, .inl (cI, 6, .inl fw)), (gsh, .inl (cI, 6, .inl fh)), (y0, .inr (3, [.ref ye, .ref yl, .ref yb, .ref yw, .ref yv, .ref yz, .int (nI ns2), .int (nI n2), .int fi2])), (ye, .inl (cI, 6, .inl fe2)), (yl, .inl (cI, 6, .inl fl2)), (yb, .inl (cI, 6, .inl fb2)), (yw, .inr (4, [.ref ys, .int (nI nl2)])), (ys, .inl (cI, 20, .inl fs2)), (yv, .inl (cI, 6, .inl fw2)), (yz, .inl (cI, 6, .inl fh2))] [.ref g, .ref y0] (S := Unit) (fun u => True) (fun u => [(g, .inr (3, [.ref ge, .ref gl, .ref gb, .ref gw, .ref gsw, .ref gsh, .int (nI ns2), .int (nI n2), .int fi2])), (ge, .inl (cI, 6, .inl (va_cpy fe2 fe 0 0 6))), (gl, .inl (cI, 6, .inl (va_cpy fl2 fl 0 0 6))), (gb, .inl (cI, 6, .inl (va_cpy fb2 fb 0 0 6))), (gw, .inr (4, [.ref sg, .int (nI nl2)])), (sg, .inl (cI, 20, .inl (va_cpy fs2 fs 0 0 nl2))), (gsw, .inl (cI, 6, .inl (va_cpy fw2 fw 0 0 6))), (gsh, .inl (cI, 6, .inl (va_cpy fh2 fh 0 0 6))), (y0, .inr (3, [.ref ye, .ref yl, .ref yb, .ref yw, .ref yv, .ref yz, .int (nI ns2), .int (nI n2), .int fi2])), (ye, .inl (cI, 6, .inl fe2)), (yl, .inl (cI, 6, .inl fl2)), (yb, .inl (cI, 6, .inl fb2)), (yw, .inr (4, [.ref ys, .int (nI nl2)])), (ys, .inl (cI, 20, .inl fs2)), (yv, .inl (cI, 6, .inl fw2)), (yz, .inl (cI, 6, .inl fh2))]) := by
  refine sv_of (cc := cX3_become) (maxL := 2) (by decide) rfl (Nat.le_of_ble_eq_true rfl) ?_
  intro p e s m args below meth c A ls Q E hret
  obtain ⟨hx, hb, -, hml, hown, hts, -, hin, hA, hK, hP, hD, hS, hl, hN⟩ := E
  have hown : s.vm.findClass RX3 = some m.cls := hown
  have hl : lv_has ls 2 [(0, .ref g), (1, .ref y0)] := hl
  have SF : CallFix p m c cX3_become 2 s args wsX3_become RX3 := ⟨hx, hb, hml, hown, hts⟩
  have hw0 := hts (.fieldLink RX3 38 "LatestSets$Guild" "count" "I") (by decide +kernel)
  have hi3 : ∀ x ∈ wsX30, x ∈ wsX3_become := by decide +kernel
  have hw2 := hts (.fieldLink RX3 34 "LatestSets$Guild" "fineEach" "I") (by decide +kernel)
  have hw3 := hts (.fieldLink RX3 47 "LatestSets$Guild" "sights" "I") (by decide +kernel)
  have hw4 := hts (.fieldLink RX3 24 "LatestSets$Guild" "law" "LLatestSets$Law;") (by decide +kernel)
  have hw5 := hts (.fieldLink RX3 50 "LatestSets$Law" "signs" "[I") (by decide +kernel)
  have hi4 : ∀ x ∈ wsX40, x ∈ wsX3_become := by decide +kernel
  have hw7 := hts (.fieldLink RX3 53 "LatestSets$Law" "length" "I") (by decide +kernel)
  have hw8 := hts (.fieldLink RX3 9 "LatestSets$Guild" "early" "[I") (by decide +kernel)
  have hw9 := hts (.methodLink RX3 59 arraycopyName) (by decide +kernel)
  have hw10 := hts (.native arraycopyName) (by decide +kernel)
  have hw11 := hts (.static arraycopyName) (by decide +kernel)
  have hw12 := hts (.initialized "java/lang/System") (by decide +kernel)
  have hw13 := hts (.fieldLink RX3 15 "LatestSets$Guild" "late" "[I") (by decide +kernel)
  have hw14 := hts (.fieldLink RX3 18 "LatestSets$Guild" "best" "[I") (by decide +kernel)
  have hw15 := hts (.fieldLink RX3 28 "LatestSets$Guild" "sightWeek" "[I") (by decide +kernel)
  have hw16 := hts (.fieldLink RX3 31 "LatestSets$Guild" "sightHour" "[I") (by decide +kernel)
  refine lv_aload_n hx hb dX3_become_0 rfl (lv_at hl 0 rfl) ?_
  refine lv_aload_n hx hb dX3_become_1 rfl (lv_at hl 1 rfl) ?_
  refine va_get (D := D) (ci := 3) (v := .int (nI n2)) (C := RX3) (T := TX3) (N := 9) hx hb hts hi3 hown hK hP 8 rfl rfl 7 (by decide) hw0 (fun _ h9 => h9) rfl dX3_become_2 ?_
  refine va_put (D := D) (ci := 3) (v := .int (nI n2)) (ty := .int) (C := RX3) (T := TX3) (N := 9) hx hb hts hi3 tyX3 tyX3_ok nmX3 hown hK hP hD hS 0 rfl rfl 7 (by decide) hw0 (fun _ h9 => h9) rfl (by decide +kernel) rfl rfl (Nat.le_of_ble_eq_true rfl) dX3_become_5 (fun H locs hP hD hS => ?_)
  have hP : va_P D vwCl [(g, .inr (3, [.ref ge, .ref gl, .ref gb, .ref gw, .ref gsw, .ref gsh, .int (nI ns), .int (nI n2), .int fi])), (ge, .inl (cI, 6, .inl fe)), (gl, .inl (cI, 6, .inl fl)), (gb, .inl (cI, 6, .inl fb)), (gw, .inr (4, [.ref sg, .int (nI nl)])), (sg, .inl (cI, 20, .inl fs)), (gsw, .inl (cI, 6, .inl fw)), (gsh, .inl (cI, 6, .inl fh)), (y0, .inr (3, [.ref ye, .ref yl, .ref yb, .ref yw, .ref yv, .ref yz, .int (nI ns2), .int (nI n2), .int fi2])), (ye, .inl (cI, 6, .inl fe2)), (yl, .inl (cI, 6, .inl fl2)), (yb, .inl (cI, 6, .inl fb2)), (yw, .inr (4, [.ref ys, .int (nI nl2)])), (ys, .inl (cI, 20, .inl fs2)), (yv, .inl (cI, 6, .inl fw2)), (yz, .inl (cI, 6, .inl fh2))] H := hP
  have hD : va_D A [(g, .inr (3, [.ref ge, .ref gl, .ref gb, .ref gw, .ref gsw, .ref gsh, .int (nI ns), .int (nI n2), .int fi])), (ge, .inl (cI, 6, .inl fe)), (gl, .inl (cI, 6, .inl fl)), (gb, .inl (cI, 6, .inl fb)), (gw, .inr (4, [.ref sg, .int (nI nl)])), (sg, .inl (cI, 20, .inl fs)), (gsw, .inl (cI, 6, .inl fw)), (gsh, .inl (cI, 6, .inl fh)), (y0, .inr (3, [.ref ye, .ref yl, .ref yb, .ref yw, .ref yv, .ref yz, .int (nI ns2), .int (nI n2), .int fi2])), (ye, .inl (cI, 6, .inl fe2)), (yl, .inl (cI, 6, .inl fl2)), (yb, .inl (cI, 6, .inl fb2)), (yw, .inr (4, [.ref ys, .int (nI nl2)])), (ys, .inl (cI, 20, .inl fs2)), (yv, .inl (cI, 6, .inl fw2)), (yz, .inl (cI, 6, .inl fh2))] := hD
  refine lv_aload_n hx hb dX3_become_8 rfl (lv_at hl 0 rfl) ?_
  refine lv_aload_n hx hb dX3_become_9 rfl (lv_at hl 1 rfl) ?_
  refine va_get (D := D) (ci := 3) (v := .int fi2) (C := RX3) (T := TX3) (N := 9) hx hb hts hi3 hown hK hP 8 rfl rfl 8 (by decide) hw2 (fun _ h9 => h9) rfl dX3_become_10 ?_
  refine va_put (D := D) (ci := 3) (v := .int fi2) (ty := .int) (C := RX3) (T := TX3) (N := 9) hx hb hts hi3 tyX3 tyX3_ok nmX3 hown hK hP hD hS 0 rfl rfl 8 (by decide) hw2 (fun _ h9 => h9) rfl (by decide +kernel) rfl rfl (Nat.le_of_ble_eq_true rfl) dX3_become_13 (fun H locs hP hD hS => ?_)
  have hP : va_P D vwCl [(g, .inr (3, [.ref ge, .ref gl, .ref gb, .ref gw, .ref gsw, .ref gsh, .int (nI ns), .int (nI n2), .int fi2])), (ge, .inl (cI, 6, .inl fe)), (gl, .inl (cI, 6, .inl fl)), (gb, .inl (cI, 6, .inl fb)), (gw, .inr (4, [.ref sg, .int (nI nl)])), (sg, .inl (cI, 20, .inl fs)), (gsw, .inl (cI, 6, .inl fw)), (gsh, .inl (cI, 6, .inl fh)), (y0, .inr (3, [.ref ye, .ref yl, .ref yb, .ref yw, .ref yv, .ref yz, .int (nI ns2), .int (nI n2), .int fi2])), (ye, .inl (cI, 6, .inl fe2)), (yl, .inl (cI, 6, .inl fl2)), (yb, .inl (cI, 6, .inl fb2)), (yw, .inr (4, [.ref ys, .int (nI nl2)])), (ys, .inl (cI, 20, .inl fs2)), (yv, .inl (cI, 6, .inl fw2)), (yz, .inl (cI, 6, .inl fh2))] H := hP
  have hD : va_D A [(g, .inr (3, [.ref ge, .ref gl, .ref gb, .ref gw, .ref gsw, .ref gsh, .int (nI ns), .int (nI n2), .int fi2])), (ge, .inl (cI, 6, .inl fe)), (gl, .inl (cI, 6, .inl fl)), (gb, .inl (cI, 6, .inl fb)), (gw, .inr (4, [.ref sg, .int (nI nl)])), (sg, .inl (cI, 20, .inl fs)), (gsw, .inl (cI, 6, .inl fw)), (gsh, .inl (cI, 6, .inl fh)), (y0, .inr (3, [.ref ye, .ref yl, .ref yb, .ref yw, .ref yv, .ref yz, .int (nI ns2), .int (nI n2), .int fi2])), (ye, .inl (cI, 6, .inl fe2)), (yl, .inl (cI, 6, .inl fl2)), (yb, .inl (cI, 6, .inl fb2)), (yw, .inr (4, [.ref ys, .int (nI nl2)])), (ys, .inl (cI, 20, .inl fs2)), (yv, .inl (cI, 6, .inl fw2)), (yz, .inl (cI, 6, .inl fh2))] := hD
  refine lv_aload_n hx hb dX3_become_16 rfl (lv_at hl 0 rfl) ?_
  refine lv_aload_n hx hb dX3_become_17 rfl (lv_at hl 1 rfl) ?_
  refine va_get (D := D) (ci := 3) (v := .int (nI ns2)) (C := RX3) (T := TX3) (N := 9) hx hb hts hi3 hown hK hP 8 rfl rfl 6 (by decide) hw3 (fun _ h9 => h9) rfl dX3_become_18 ?_
  refine va_put (D := D) (ci := 3) (v := .int (nI ns2)) (ty := .int) (C := RX3) (T := TX3) (N := 9) hx hb hts hi3 tyX3 tyX3_ok nmX3 hown hK hP hD hS 0 rfl rfl 6 (by decide) hw3 (fun _ h9 => h9) rfl (by decide +kernel) rfl rfl (Nat.le_of_ble_eq_true rfl) dX3_become_21 (fun H locs hP hD hS => ?_)
  have hP : va_P D vwCl [(g, .inr (3, [.ref ge, .ref gl, .ref gb, .ref gw, .ref gsw, .ref gsh, .int (nI ns2), .int (nI n2), .int fi2])), (ge, .inl (cI, 6, .inl fe)), (gl, .inl (cI, 6, .inl fl)), (gb, .inl (cI, 6, .inl fb)), (gw, .inr (4, [.ref sg, .int (nI nl)])), (sg, .inl (cI, 20, .inl fs)), (gsw, .inl (cI, 6, .inl fw)), (gsh, .inl (cI, 6, .inl fh)), (y0, .inr (3, [.ref ye, .ref yl, .ref yb, .ref yw, .ref yv, .ref yz, .int (nI ns2), .int (nI n2), .int fi2])), (ye, .inl (cI, 6, .inl fe2)), (yl, .inl (cI, 6, .inl fl2)), (yb, .inl (cI, 6, .inl fb2)), (yw, .inr (4, [.ref ys, .int (nI nl2)])), (ys, .inl (cI, 20, .inl fs2)), (yv, .inl (cI, 6, .inl fw2)), (yz, .inl (cI, 6, .inl fh2))] H := hP
  have hD : va_D A [(g, .inr (3, [.ref ge, .ref gl, .ref gb, .ref gw, .ref gsw, .ref gsh, .int (nI ns2), .int (nI n2), .int fi2])), (ge, .inl (cI, 6, .inl fe)), (gl, .inl (cI, 6, .inl fl)), (gb, .inl (cI, 6, .inl fb)), (gw, .inr (4, [.ref sg, .int (nI nl)])), (sg, .inl (cI, 20, .inl fs)), (gsw, .inl (cI, 6, .inl fw)), (gsh, .inl (cI, 6, .inl fh)), (y0, .inr (3, [.ref ye, .ref yl, .ref yb, .ref yw, .ref yv, .ref yz, .int (nI ns2), .int (nI n2), .int fi2])), (ye, .inl (cI, 6, .inl fe2)), (yl, .inl (cI, 6, .inl fl2)), (yb, .inl (cI, 6, .inl fb2)), (yw, .inr (4, [.ref ys, .int (nI nl2)])), (ys, .inl (cI, 20, .inl fs2)), (yv, .inl (cI, 6, .inl fw2)), (yz, .inl (cI, 6, .inl fh2))] := hD
  refine lv_aload_n hx hb dX3_become_24 rfl (lv_at hl 0 rfl) ?_
  refine va_get (D := D) (ci := 3) (v := .ref gw) (C := RX3) (T := TX3) (N := 9) hx hb hts hi3 hown hK hP 0 rfl rfl 3 (by decide) hw4 (fun _ h9 => h9) rfl dX3_become_25 ?_
  refine lv_aload_n hx hb dX3_become_28 rfl (lv_at hl 1 rfl) ?_
  refine va_get (D := D) (ci := 3) (v := .ref yw) (C := RX3) (T := TX3) (N := 9) hx hb hts hi3 hown hK hP 8 rfl rfl 3 (by decide) hw4 (fun _ h9 => h9) rfl dX3_become_29 ?_
  refine va_get (D := D) (ci := 4) (v := .ref ys) (C := RX4) (T := TX4) (N := 2) hx hb hts hi4 hown hK hP 12 rfl rfl 0 (by decide) hw5 (fun _ h9 => h9) rfl dX3_become_32 ?_
  refine lv_aload_n hx hb dX3_become_35 rfl (lv_at hl 1 rfl) ?_
  refine va_get (D := D) (ci := 3) (v := .ref yw) (C := RX3) (T := TX3) (N := 9) hx hb hts hi3 hown hK hP 8 rfl rfl 3 (by decide) hw4 (fun _ h9 => h9) rfl dX3_become_36 ?_
  refine va_get (D := D) (ci := 4) (v := .int (nI nl2)) (C := RX4) (T := TX4) (N := 2) hx hb hts hi4 hown hK hP 12 rfl rfl 1 (by decide) hw7 (fun _ h9 => h9) rfl dX3_become_39 ?_
  refine cal_v (run_V (As := [.ref ys, .int (nI nl2)]) (rest := []) SF (c_take l D cI cJ cZ cG cM gw sg ys fs fs2 20 nl2 (nI nl) (by omega) (by omega) (by omega)) (cwV 2 hts gX3_become_X4_take rfl rfl rfl (by decide +kernel) ⟨Nat.le_of_ble_eq_true rfl, Nat.le_of_ble_eq_true rfl⟩) hN hK hP hD [4, 5, 13] rfl (by decide) 4 4 rfl rfl rfl rfl hl.1 rfl (Nat.le_of_ble_eq_true rfl) dX3_become_42 ⟨Nat.le_of_ble_eq_true rfl, Nat.le_of_ble_eq_true rfl⟩) ⟨rfl, rfl⟩ hP hD hS hA [4, 5, 13] rfl (fun _ => rfl) (fun _ H locs hw hP hD hS => ?_)
  have hP : va_P D vwCl [(g, .inr (3, [.ref ge, .ref gl, .ref gb, .ref gw, .ref gsw, .ref gsh, .int (nI ns2), .int (nI n2), .int fi2])), (ge, .inl (cI, 6, .inl fe)), (gl, .inl (cI, 6, .inl fl)), (gb, .inl (cI, 6, .inl fb)), (gw, .inr (4, [.ref sg, .int (nI nl2)])), (sg, .inl (cI, 20, .inl (va_cpy fs2 fs 0 0 nl2))), (gsw, .inl (cI, 6, .inl fw)), (gsh, .inl (cI, 6, .inl fh)), (y0, .inr (3, [.ref ye, .ref yl, .ref yb, .ref yw, .ref yv, .ref yz, .int (nI ns2), .int (nI n2), .int fi2])), (ye, .inl (cI, 6, .inl fe2)), (yl, .inl (cI, 6, .inl fl2)), (yb, .inl (cI, 6, .inl fb2)), (yw, .inr (4, [.ref ys, .int (nI nl2)])), (ys, .inl (cI, 20, .inl fs2)), (yv, .inl (cI, 6, .inl fw2)), (yz, .inl (cI, 6, .inl fh2))] H := hP
  have hD : va_D A [(g, .inr (3, [.ref ge, .ref gl, .ref gb, .ref gw, .ref gsw, .ref gsh, .int (nI ns2), .int (nI n2), .int fi2])), (ge, .inl (cI, 6, .inl fe)), (gl, .inl (cI, 6, .inl fl)), (gb, .inl (cI, 6, .inl fb)), (gw, .inr (4, [.ref sg, .int (nI nl2)])), (sg, .inl (cI, 20, .inl (va_cpy fs2 fs 0 0 nl2))), (gsw, .inl (cI, 6, .inl fw)), (gsh, .inl (cI, 6, .inl fh)), (y0, .inr (3, [.ref ye, .ref yl, .ref yb, .ref yw, .ref yv, .ref yz, .int (nI ns2), .int (nI n2), .int fi2])), (ye, .inl (cI, 6, .inl fe2)), (yl, .inl (cI, 6, .inl fl2)), (yb, .inl (cI, 6, .inl fb2)), (yw, .inr (4, [.ref ys, .int (nI nl2)])), (ys, .inl (cI, 20, .inl fs2)), (yv, .inl (cI, 6, .inl fw2)), (yz, .inl (cI, 6, .inl fh2))] := hD
  refine lv_aload_n hx hb dX3_become_45 rfl (lv_at hl 1 rfl) ?_
  refine va_get (D := D) (ci := 3) (v := .ref ye) (C := RX3) (T := TX3) (N := 9) hx hb hts hi3 hown hK hP 8 rfl rfl 0 (by decide) hw8 (fun _ h9 => h9) rfl dX3_become_46 ?_
  refine lv_iconst (v := nI 0) hx hb dX3_become_49 (by decide) ?_
  refine lv_aload_n hx hb dX3_become_50 rfl (lv_at hl 0 rfl) ?_
  refine va_get (D := D) (ci := 3) (v := .ref ge) (C := RX3) (T := TX3) (N := 9) hx hb hts hi3 hown hK hP 0 rfl rfl 0 (by decide) hw8 (fun _ h9 => h9) rfl dX3_become_51 ?_
  refine lv_iconst (v := nI 0) hx hb dX3_become_54 (by decide) ?_
  refine lv_bipush (v := nI 6) hx hb dX3_become_55 (by decide) ?_
  refine copy_n (sp := 0) (dp := 0) (n := 6) hx hb (by rw [hml]; exact hl.1.symm) hown hw9 hw10 hw11 hw12 hK hP hD hS 9 1 0 rfl rfl rfl (by omega) (by omega) (by omega) (by omega) (by omega) (Nat.le_of_ble_eq_true rfl) (Nat.le_of_ble_eq_true rfl) dX3_become_57 (fun H locs hP hD hS => ?_)
  have hP : va_P D vwCl [(g, .inr (3, [.ref ge, .ref gl, .ref gb, .ref gw, .ref gsw, .ref gsh, .int (nI ns2), .int (nI n2), .int fi2])), (ge, .inl (cI, 6, .inl (va_cpy fe2 fe 0 0 6))), (gl, .inl (cI, 6, .inl fl)), (gb, .inl (cI, 6, .inl fb)), (gw, .inr (4, [.ref sg, .int (nI nl2)])), (sg, .inl (cI, 20, .inl (va_cpy fs2 fs 0 0 nl2))), (gsw, .inl (cI, 6, .inl fw)), (gsh, .inl (cI, 6, .inl fh)), (y0, .inr (3, [.ref ye, .ref yl, .ref yb, .ref yw, .ref yv, .ref yz, .int (nI ns2), .int (nI n2), .int fi2])), (ye, .inl (cI, 6, .inl fe2)), (yl, .inl (cI, 6, .inl fl2)), (yb, .inl (cI, 6, .inl fb2)), (yw, .inr (4, [.ref ys, .int (nI nl2)])), (ys, .inl (cI, 20, .inl fs2)), (yv, .inl (cI, 6, .inl fw2)), (yz, .inl (cI, 6, .inl fh2))] H := hP
  have hD : va_D A [(g, .inr (3, [.ref ge, .ref gl, .ref gb, .ref gw, .ref gsw, .ref gsh, .int (nI ns2), .int (nI n2), .int fi2])), (ge, .inl (cI, 6, .inl (va_cpy fe2 fe 0 0 6))), (gl, .inl (cI, 6, .inl fl)), (gb, .inl (cI, 6, .inl fb)), (gw, .inr (4, [.ref sg, .int (nI nl2)])), (sg, .inl (cI, 20, .inl (va_cpy fs2 fs 0 0 nl2))), (gsw, .inl (cI, 6, .inl fw)), (gsh, .inl (cI, 6, .inl fh)), (y0, .inr (3, [.ref ye, .ref yl, .ref yb, .ref yw, .ref yv, .ref yz, .int (nI ns2), .int (nI n2), .int fi2])), (ye, .inl (cI, 6, .inl fe2)), (yl, .inl (cI, 6, .inl fl2)), (yb, .inl (cI, 6, .inl fb2)), (yw, .inr (4, [.ref ys, .int (nI nl2)])), (ys, .inl (cI, 20, .inl fs2)), (yv, .inl (cI, 6, .inl fw2)), (yz, .inl (cI, 6, .inl fh2))] := hD
  refine lv_aload_n hx hb dX3_become_60 rfl (lv_at hl 1 rfl) ?_
  refine va_get (D := D) (ci := 3) (v := .ref yl) (C := RX3) (T := TX3) (N := 9) hx hb hts hi3 hown hK hP 8 rfl rfl 1 (by decide) hw13 (fun _ h9 => h9) rfl dX3_become_61 ?_
  refine lv_iconst (v := nI 0) hx hb dX3_become_64 (by decide) ?_
  refine lv_aload_n hx hb dX3_become_65 rfl (lv_at hl 0 rfl) ?_
  refine va_get (D := D) (ci := 3) (v := .ref gl) (C := RX3) (T := TX3) (N := 9) hx hb hts hi3 hown hK hP 0 rfl rfl 1 (by decide) hw13 (fun _ h9 => h9) rfl dX3_become_66 ?_
  refine lv_iconst (v := nI 0) hx hb dX3_become_69 (by decide) ?_
  refine lv_bipush (v := nI 6) hx hb dX3_become_70 (by decide) ?_
  refine copy_n (sp := 0) (dp := 0) (n := 6) hx hb (by rw [hml]; exact hl.1.symm) hown hw9 hw10 hw11 hw12 hK hP hD hS 10 2 0 rfl rfl rfl (by omega) (by omega) (by omega) (by omega) (by omega) (Nat.le_of_ble_eq_true rfl) (Nat.le_of_ble_eq_true rfl) dX3_become_72 (fun H locs hP hD hS => ?_)
  have hP : va_P D vwCl [(g, .inr (3, [.ref ge, .ref gl, .ref gb, .ref gw, .ref gsw, .ref gsh, .int (nI ns2), .int (nI n2), .int fi2])), (ge, .inl (cI, 6, .inl (va_cpy fe2 fe 0 0 6))), (gl, .inl (cI, 6, .inl (va_cpy fl2 fl 0 0 6))), (gb, .inl (cI, 6, .inl fb)), (gw, .inr (4, [.ref sg, .int (nI nl2)])), (sg, .inl (cI, 20, .inl (va_cpy fs2 fs 0 0 nl2))), (gsw, .inl (cI, 6, .inl fw)), (gsh, .inl (cI, 6, .inl fh)), (y0, .inr (3, [.ref ye, .ref yl, .ref yb, .ref yw, .ref yv, .ref yz, .int (nI ns2), .int (nI n2), .int fi2])), (ye, .inl (cI, 6, .inl fe2)), (yl, .inl (cI, 6, .inl fl2)), (yb, .inl (cI, 6, .inl fb2)), (yw, .inr (4, [.ref ys, .int (nI nl2)])), (ys, .inl (cI, 20, .inl fs2)), (yv, .inl (cI, 6, .inl fw2)), (yz, .inl (cI, 6, .inl fh2))] H := hP
  have hD : va_D A [(g, .inr (3, [.ref ge, .ref gl, .ref gb, .ref gw, .ref gsw, .ref gsh, .int (nI ns2), .int (nI n2), .int fi2])), (ge, .inl (cI, 6, .inl (va_cpy fe2 fe 0 0 6))), (gl, .inl (cI, 6, .inl (va_cpy fl2 fl 0 0 6))), (gb, .inl (cI, 6, .inl fb)), (gw, .inr (4, [.ref sg, .int (nI nl2)])), (sg, .inl (cI, 20, .inl (va_cpy fs2 fs 0 0 nl2))), (gsw, .inl (cI, 6, .inl fw)), (gsh, .inl (cI, 6, .inl fh)), (y0, .inr (3, [.ref ye, .ref yl, .ref yb, .ref yw, .ref yv, .ref yz, .int (nI ns2), .int (nI n2), .int fi2])), (ye, .inl (cI, 6, .inl fe2)), (yl, .inl (cI, 6, .inl fl2)), (yb, .inl (cI, 6, .inl fb2)), (yw, .inr (4, [.ref ys, .int (nI nl2)])), (ys, .inl (cI, 20, .inl fs2)), (yv, .inl (cI, 6, .inl fw2)), (yz, .inl (cI, 6, .inl fh2))] := hD
  refine lv_aload_n hx hb dX3_become_75 rfl (lv_at hl 1 rfl) ?_
  refine va_get (D := D) (ci := 3) (v := .ref yb) (C := RX3) (T := TX3) (N := 9) hx hb hts hi3 hown hK hP 8 rfl rfl 2 (by decide) hw14 (fun _ h9 => h9) rfl dX3_become_76 ?_
  refine lv_iconst (v := nI 0) hx hb dX3_become_79 (by decide) ?_
  refine lv_aload_n hx hb dX3_become_80 rfl (lv_at hl 0 rfl) ?_
  refine va_get (D := D) (ci := 3) (v := .ref gb) (C := RX3) (T := TX3) (N := 9) hx hb hts hi3 hown hK hP 0 rfl rfl 2 (by decide) hw14 (fun _ h9 => h9) rfl dX3_become_81 ?_
  refine lv_iconst (v := nI 0) hx hb dX3_become_84 (by decide) ?_
  refine lv_bipush (v := nI 6) hx hb dX3_become_85 (by decide) ?_
  refine copy_n (sp := 0) (dp := 0) (n := 6) hx hb (by rw [hml]; exact hl.1.symm) hown hw9 hw10 hw11 hw12 hK hP hD hS 11 3 0 rfl rfl rfl (by omega) (by omega) (by omega) (by omega) (by omega) (Nat.le_of_ble_eq_true rfl) (Nat.le_of_ble_eq_true rfl) dX3_become_87 (fun H locs hP hD hS => ?_)
  have hP : va_P D vwCl [(g, .inr (3, [.ref ge, .ref gl, .ref gb, .ref gw, .ref gsw, .ref gsh, .int (nI ns2), .int (nI n2), .int fi2])), (ge, .inl (cI, 6, .inl (va_cpy fe2 fe 0 0 6))), (gl, .inl (cI, 6, .inl (va_cpy fl2 fl 0 0 6))), (gb, .inl (cI, 6, .inl (va_cpy fb2 fb 0 0 6))), (gw, .inr (4, [.ref sg, .int (nI nl2)])), (sg, .inl (cI, 20, .inl (va_cpy fs2 fs 0 0 nl2))), (gsw, .inl (cI, 6, .inl fw)), (gsh, .inl (cI, 6, .inl fh)), (y0, .inr (3, [.ref ye, .ref yl, .ref yb, .ref yw, .ref yv, .ref yz, .int (nI ns2), .int (nI n2), .int fi2])), (ye, .inl (cI, 6, .inl fe2)), (yl, .inl (cI, 6, .inl fl2)), (yb, .inl (cI, 6, .inl fb2)), (yw, .inr (4, [.ref ys, .int (nI nl2)])), (ys, .inl (cI, 20, .inl fs2)), (yv, .inl (cI, 6, .inl fw2)), (yz, .inl (cI, 6, .inl fh2))] H := hP
  have hD : va_D A [(g, .inr (3, [.ref ge, .ref gl, .ref gb, .ref gw, .ref gsw, .ref gsh, .int (nI ns2), .int (nI n2), .int fi2])), (ge, .inl (cI, 6, .inl (va_cpy fe2 fe 0 0 6))), (gl, .inl (cI, 6, .inl (va_cpy fl2 fl 0 0 6))), (gb, .inl (cI, 6, .inl (va_cpy fb2 fb 0 0 6))), (gw, .inr (4, [.ref sg, .int (nI nl2)])), (sg, .inl (cI, 20, .inl (va_cpy fs2 fs 0 0 nl2))), (gsw, .inl (cI, 6, .inl fw)), (gsh, .inl (cI, 6, .inl fh)), (y0, .inr (3, [.ref ye, .ref yl, .ref yb, .ref yw, .ref yv, .ref yz, .int (nI ns2), .int (nI n2), .int fi2])), (ye, .inl (cI, 6, .inl fe2)), (yl, .inl (cI, 6, .inl fl2)), (yb, .inl (cI, 6, .inl fb2)), (yw, .inr (4, [.ref ys, .int (nI nl2)])), (ys, .inl (cI, 20, .inl fs2)), (yv, .inl (cI, 6, .inl fw2)), (yz, .inl (cI, 6, .inl fh2))] := hD
  refine lv_aload_n hx hb dX3_become_90 rfl (lv_at hl 1 rfl) ?_
  refine va_get (D := D) (ci := 3) (v := .ref yv) (C := RX3) (T := TX3) (N := 9) hx hb hts hi3 hown hK hP 8 rfl rfl 4 (by decide) hw15 (fun _ h9 => h9) rfl dX3_become_91 ?_
  refine lv_iconst (v := nI 0) hx hb dX3_become_94 (by decide) ?_
  refine lv_aload_n hx hb dX3_become_95 rfl (lv_at hl 0 rfl) ?_
  refine va_get (D := D) (ci := 3) (v := .ref gsw) (C := RX3) (T := TX3) (N := 9) hx hb hts hi3 hown hK hP 0 rfl rfl 4 (by decide) hw15 (fun _ h9 => h9) rfl dX3_become_96 ?_
  refine lv_iconst (v := nI 0) hx hb dX3_become_99 (by decide) ?_
  refine lv_bipush (v := nI 6) hx hb dX3_become_100 (by decide) ?_
  refine copy_n (sp := 0) (dp := 0) (n := 6) hx hb (by rw [hml]; exact hl.1.symm) hown hw9 hw10 hw11 hw12 hK hP hD hS 14 6 0 rfl rfl rfl (by omega) (by omega) (by omega) (by omega) (by omega) (Nat.le_of_ble_eq_true rfl) (Nat.le_of_ble_eq_true rfl) dX3_become_102 (fun H locs hP hD hS => ?_)
  have hP : va_P D vwCl [(g, .inr (3, [.ref ge, .ref gl, .ref gb, .ref gw, .ref gsw, .ref gsh, .int (nI ns2), .int (nI n2), .int fi2])), (ge, .inl (cI, 6, .inl (va_cpy fe2 fe 0 0 6))), (gl, .inl (cI, 6, .inl (va_cpy fl2 fl 0 0 6))), (gb, .inl (cI, 6, .inl (va_cpy fb2 fb 0 0 6))), (gw, .inr (4, [.ref sg, .int (nI nl2)])), (sg, .inl (cI, 20, .inl (va_cpy fs2 fs 0 0 nl2))), (gsw, .inl (cI, 6, .inl (va_cpy fw2 fw 0 0 6))), (gsh, .inl (cI, 6, .inl fh)), (y0, .inr (3, [.ref ye, .ref yl, .ref yb, .ref yw, .ref yv, .ref yz, .int (nI ns2), .int (nI n2), .int fi2])), (ye, .inl (cI, 6, .inl fe2)), (yl, .inl (cI, 6, .inl fl2)), (yb, .inl (cI, 6, .inl fb2)), (yw, .inr (4, [.ref ys, .int (nI nl2)])), (ys, .inl (cI, 20, .inl fs2)), (yv, .inl (cI, 6, .inl fw2)), (yz, .inl (cI, 6, .inl fh2))] H := hP
  have hD : va_D A [(g, .inr (3, [.ref ge, .ref gl, .ref gb, .ref gw, .ref gsw, .ref gsh, .int (nI ns2), .int (nI n2), .int fi2])), (ge, .inl (cI, 6, .inl (va_cpy fe2 fe 0 0 6))), (gl, .inl (cI, 6, .inl (va_cpy fl2 fl 0 0 6))), (gb, .inl (cI, 6, .inl (va_cpy fb2 fb 0 0 6))), (gw, .inr (4, [.ref sg, .int (nI nl2)])), (sg, .inl (cI, 20, .inl (va_cpy fs2 fs 0 0 nl2))), (gsw, .inl (cI, 6, .inl (va_cpy fw2 fw 0 0 6))), (gsh, .inl (cI, 6, .inl fh)), (y0, .inr (3, [.ref ye, .ref yl, .ref yb, .ref yw, .ref yv, .ref yz, .int (nI ns2), .int (nI n2), .int fi2])), (ye, .inl (cI, 6, .inl fe2)), (yl, .inl (cI, 6, .inl fl2)), (yb, .inl (cI, 6, .inl fb2)), (yw, .inr (4, [.ref ys, .int (nI nl2)])), (ys, .inl (cI, 20, .inl fs2)), (yv, .inl (cI, 6, .inl fw2)), (yz, .inl (cI, 6, .inl fh2))] := hD
  refine lv_aload_n hx hb dX3_become_105 rfl (lv_at hl 1 rfl) ?_
  refine va_get (D := D) (ci := 3) (v := .ref yz) (C := RX3) (T := TX3) (N := 9) hx hb hts hi3 hown hK hP 8 rfl rfl 5 (by decide) hw16 (fun _ h9 => h9) rfl dX3_become_106 ?_
  refine lv_iconst (v := nI 0) hx hb dX3_become_109 (by decide) ?_
  refine lv_aload_n hx hb dX3_become_110 rfl (lv_at hl 0 rfl) ?_
  refine va_get (D := D) (ci := 3) (v := .ref gsh) (C := RX3) (T := TX3) (N := 9) hx hb hts hi3 hown hK hP 0 rfl rfl 5 (by decide) hw16 (fun _ h9 => h9) rfl dX3_become_111 ?_
  refine lv_iconst (v := nI 0) hx hb dX3_become_114 (by decide) ?_
  refine lv_bipush (v := nI 6) hx hb dX3_become_115 (by decide) ?_
  refine copy_n (sp := 0) (dp := 0) (n := 6) hx hb (by rw [hml]; exact hl.1.symm) hown hw9 hw10 hw11 hw12 hK hP hD hS 15 7 0 rfl rfl rfl (by omega) (by omega) (by omega) (by omega) (by omega) (Nat.le_of_ble_eq_true rfl) (Nat.le_of_ble_eq_true rfl) dX3_become_117 (fun H locs hP hD hS => ?_)
  have hP : va_P D vwCl [(g, .inr (3, [.ref ge, .ref gl, .ref gb, .ref gw, .ref gsw, .ref gsh, .int (nI ns2), .int (nI n2), .int fi2])), (ge, .inl (cI, 6, .inl (va_cpy fe2 fe 0 0 6))), (gl, .inl (cI, 6, .inl (va_cpy fl2 fl 0 0 6))), (gb, .inl (cI, 6, .inl (va_cpy fb2 fb 0 0 6))), (gw, .inr (4, [.ref sg, .int (nI nl2)])), (sg, .inl (cI, 20, .inl (va_cpy fs2 fs 0 0 nl2))), (gsw, .inl (cI, 6, .inl (va_cpy fw2 fw 0 0 6))), (gsh, .inl (cI, 6, .inl (va_cpy fh2 fh 0 0 6))), (y0, .inr (3, [.ref ye, .ref yl, .ref yb, .ref yw, .ref yv, .ref yz, .int (nI ns2), .int (nI n2), .int fi2])), (ye, .inl (cI, 6, .inl fe2)), (yl, .inl (cI, 6, .inl fl2)), (yb, .inl (cI, 6, .inl fb2)), (yw, .inr (4, [.ref ys, .int (nI nl2)])), (ys, .inl (cI, 20, .inl fs2)), (yv, .inl (cI, 6, .inl fw2)), (yz, .inl (cI, 6, .inl fh2))] H := hP
  have hD : va_D A [(g, .inr (3, [.ref ge, .ref gl, .ref gb, .ref gw, .ref gsw, .ref gsh, .int (nI ns2), .int (nI n2), .int fi2])), (ge, .inl (cI, 6, .inl (va_cpy fe2 fe 0 0 6))), (gl, .inl (cI, 6, .inl (va_cpy fl2 fl 0 0 6))), (gb, .inl (cI, 6, .inl (va_cpy fb2 fb 0 0 6))), (gw, .inr (4, [.ref sg, .int (nI nl2)])), (sg, .inl (cI, 20, .inl (va_cpy fs2 fs 0 0 nl2))), (gsw, .inl (cI, 6, .inl (va_cpy fw2 fw 0 0 6))), (gsh, .inl (cI, 6, .inl (va_cpy fh2 fh 0 0 6))), (y0, .inr (3, [.ref ye, .ref yl, .ref yb, .ref yw, .ref yv, .ref yz, .int (nI ns2), .int (nI n2), .int fi2])), (ye, .inl (cI, 6, .inl fe2)), (yl, .inl (cI, 6, .inl fl2)), (yb, .inl (cI, 6, .inl fb2)), (yw, .inr (4, [.ref ys, .int (nI nl2)])), (ys, .inl (cI, 20, .inl fs2)), (yv, .inl (cI, 6, .inl fw2)), (yz, .inl (cI, 6, .inl fh2))] := hD
  exact hret (()) _ _ _ _ dX3_become_120 trivial hP hD hS

abbrev rm_X7_restore : Room := { frames := 3, cells := 0, slots := 0, locals := 69 }
set_option maxHeartbeats 1000000 in
set_option maxRecDepth 100000 in
theorem o_restoreS (l : Launch) (D : va_G) (cI cJ cZ cG cM : ClassId) (xo pd b rg ch cn im : Nat) (g ge gl gb gw sg gsw gsh y0 ye yl yb yw ys yv yz : Nat) (n ns nl n2 ns2 nl2 : Nat) (fi fi2 : Int32) (fe fl fb fs fw fh fe2 fl2 fb2 fs2 fw2 fh2 : Nat → Int32) (hnl2 : nl2 ≤ 20) (kx : Nat) (imf : Nat → Option Nat) (hkx : kx ≤ 1) (him : imf kx = some y0) :
    CI l yX7_restore wsX7_restore rm_X7_restore D [(cI, .int), (cJ, .long), (cZ, .boolean), (cG, .object "LatestSets$Guild"), (cM, .array .int)] [(xo, .inr (7, [.ref g, .ref pd, .ref b, .ref rg, .ref ch, .ref cn, .ref im])), (im, .inl (cG, 2, .inr (.inr (.inr (.inr imf))))), (g, .inr (3, [.ref ge, .ref gl, .ref gb, .ref gw, .ref gsw, .ref gsh, .int (nI ns), .int (nI n), .int fi])), (ge, .inl (cI, 6, .inl fe)), (gl, .inl (cI, 6, .inl fl)), (gb, .inl (cI, 6, .inl fb)), (gw, .inr (4, [.ref sg, .int (nI nl)])), (sg, .inl (cI, 20, .inl fs)), (gsw, .inl (cI, 6, .inl fw)), (gsh, .inl (cI, 6, .inl fh)), (y0, .inr (3, [.ref ye, .ref yl, .ref yb, .ref yw, .ref yv, .ref yz, .int (nI ns2), .int (nI n2), .int fi2])), (ye, .inl (cI, 6, .inl fe2)), (yl, .inl (cI, 6, .inl fl2)), (yb, .inl (cI, 6, .inl fb2)), (yw, .inr (4, [.ref ys, .int (nI nl2)])), (ys, .inl (cI, 20, .inl fs2)), (yv, .inl (cI, 6, .inl fw2)), (yz, .inl (cI, 6, .inl fh2))] [.ref xo, .int (nI kx)] (S := Unit) (fun r u => r = nI 1) (fun u => [(xo, .inr (7, [.ref g, .ref pd, .ref b, .ref rg, .ref ch, .ref cn, .ref im])), (im, .inl (cG, 2, .inr (.inr (.inr (.inr imf))))), (g, .inr (3, [.ref ge, .ref gl, .ref gb, .ref gw, .ref gsw, .ref gsh, .int (nI ns2), .int (nI n2), .int fi2])), (ge, .inl (cI, 6, .inl (va_cpy fe2 fe 0 0 6))), (gl, .inl (cI, 6, .inl (va_cpy fl2 fl 0 0 6))), (gb, .inl (cI, 6, .inl (va_cpy fb2 fb 0 0 6))), (gw, .inr (4, [.ref sg, .int (nI nl2)])), (sg, .inl (cI, 20, .inl (va_cpy fs2 fs 0 0 nl2))), (gsw, .inl (cI, 6, .inl (va_cpy fw2 fw 0 0 6))), (gsh, .inl (cI, 6, .inl (va_cpy fh2 fh 0 0 6))), (y0, .inr (3, [.ref ye, .ref yl, .ref yb, .ref yw, .ref yv, .ref yz, .int (nI ns2), .int (nI n2), .int fi2])), (ye, .inl (cI, 6, .inl fe2)), (yl, .inl (cI, 6, .inl fl2)), (yb, .inl (cI, 6, .inl fb2)), (yw, .inr (4, [.ref ys, .int (nI nl2)])), (ys, .inl (cI, 20, .inl fs2)), (yv, .inl (cI, 6, .inl fw2)), (yz, .inl (cI, 6, .inl fh2))]) := by
  refine si_of (cc := cX7_restore) (maxL := 3) (by decide) rfl (Nat.le_of_ble_eq_true rfl) ?_
  intro p e s m args below meth c A ls Q E hret
  obtain ⟨hx, hb, -, hml, hown, hts, -, hin, hA, hK, hP, hD, hS, hl, hN⟩ := E
  have hown : s.vm.findClass RX7 = some m.cls := hown
  have hl : lv_has ls 3 [(0, .ref xo), (1, .int (nI kx))] := hl
  have SF : CallFix p m c cX7_restore 3 s args wsX7_restore RX7 := ⟨hx, hb, hml, hown, hts⟩
  have hw0 := hts (.fieldLink RX7 55 "LatestSets" "images" "[LLatestSets$Guild;") (by decide +kernel)
  have hi7 : ∀ x ∈ wsX70, x ∈ wsX7_restore := by decide +kernel
  have hw2 := hts (.fieldLink RX7 15 "LatestSets" "guild" "LLatestSets$Guild;") (by decide +kernel)
  have hC : nI 0 ≤ nI kx ∧ nI kx ≤ nI 1 := ⟨nI_le (Nat.zero_le _) (by omega), nI_le hkx (by omega)⟩
  refine lv_iload_n hx hb dX7_restore_0 rfl (lv_at hl 1 rfl) ?_
  refine lv_iconst (v := nI 0) hx hb dX7_restore_1 (by decide) ?_
  refine lv_iconst (v := nI 1) hx hb dX7_restore_2 (by decide) ?_
  refine cal_i (run_S (As := [.int (nI kx), .int (nI 0), .int (nI 1)]) (rest := []) SF (c_within l D cI cJ cZ cG cM (nI kx) (nI 0) (nI 1)) (va_cwS 3 hts gX7_restore_X7_within rfl rfl rfl (by decide +kernel) ⟨Nat.le_of_ble_eq_true rfl, Nat.le_of_ble_eq_true rfl⟩) hN hK hP hD [] rfl (by decide) rfl hl.1 rfl (Nat.le_of_ble_eq_true rfl) dX7_restore_3 ⟨Nat.le_of_ble_eq_true rfl, Nat.le_of_ble_eq_true rfl⟩) ⟨rfl, rfl⟩ hP hD hS hA [] rfl (fun _ => rfl) (fun r3 _ H locs hw hP hD hS => ?_)
  have hP : va_P D vwCl [(xo, .inr (7, [.ref g, .ref pd, .ref b, .ref rg, .ref ch, .ref cn, .ref im])), (im, .inl (cG, 2, .inr (.inr (.inr (.inr imf))))), (g, .inr (3, [.ref ge, .ref gl, .ref gb, .ref gw, .ref gsw, .ref gsh, .int (nI ns), .int (nI n), .int fi])), (ge, .inl (cI, 6, .inl fe)), (gl, .inl (cI, 6, .inl fl)), (gb, .inl (cI, 6, .inl fb)), (gw, .inr (4, [.ref sg, .int (nI nl)])), (sg, .inl (cI, 20, .inl fs)), (gsw, .inl (cI, 6, .inl fw)), (gsh, .inl (cI, 6, .inl fh)), (y0, .inr (3, [.ref ye, .ref yl, .ref yb, .ref yw, .ref yv, .ref yz, .int (nI ns2), .int (nI n2), .int fi2])), (ye, .inl (cI, 6, .inl fe2)), (yl, .inl (cI, 6, .inl fl2)), (yb, .inl (cI, 6, .inl fb2)), (yw, .inr (4, [.ref ys, .int (nI nl2)])), (ys, .inl (cI, 20, .inl fs2)), (yv, .inl (cI, 6, .inl fw2)), (yz, .inl (cI, 6, .inl fh2))] H := hP
  have hD : va_D A [(xo, .inr (7, [.ref g, .ref pd, .ref b, .ref rg, .ref ch, .ref cn, .ref im])), (im, .inl (cG, 2, .inr (.inr (.inr (.inr imf))))), (g, .inr (3, [.ref ge, .ref gl, .ref gb, .ref gw, .ref gsw, .ref gsh, .int (nI ns), .int (nI n), .int fi])), (ge, .inl (cI, 6, .inl fe)), (gl, .inl (cI, 6, .inl fl)), (gb, .inl (cI, 6, .inl fb)), (gw, .inr (4, [.ref sg, .int (nI nl)])), (sg, .inl (cI, 20, .inl fs)), (gsw, .inl (cI, 6, .inl fw)), (gsh, .inl (cI, 6, .inl fh)), (y0, .inr (3, [.ref ye, .ref yl, .ref yb, .ref yw, .ref yv, .ref yz, .int (nI ns2), .int (nI n2), .int fi2])), (ye, .inl (cI, 6, .inl fe2)), (yl, .inl (cI, 6, .inl fl2)), (yb, .inl (cI, 6, .inl fb2)), (yw, .inr (4, [.ref ys, .int (nI nl2)])), (ys, .inl (cI, 20, .inl fs2)), (yv, .inl (cI, 6, .inl fw2)), (yz, .inl (cI, 6, .inl fh2))] := hD
  rcases hw with ⟨b3, rfl⟩ | ⟨b3, rfl⟩
  · refine lv_if_ne (tgt := 12) hx hb dX7_restore_6 (by decide) (fun _ => ?_) (fun c9 => absurd c9 (by decide))
    refine lv_aload_n hx hb dX7_restore_12 rfl (lv_at hl 0 rfl) ?_
    refine va_get (D := D) (ci := 7) (v := .ref im) (C := RX7) (T := TX7) (N := 7) hx hb hts hi7 hown hK hP 0 rfl rfl 6 (by decide) hw0 (fun _ h9 => h9) rfl dX7_restore_13 ?_
    refine lv_iload_n hx hb dX7_restore_16 rfl (lv_at hl 1 rfl) ?_
    refine aald_n (k := kx) hx hb hK hP 1 3 rfl rfl (by omega) (by omega) dX7_restore_17 ?_
    rw [him]
    refine lv_astore_n (lv' := [(2, .ref y0), (0, .ref xo), (1, .int (nI kx))]) hx hb dX7_restore_18 rfl hl (by decide) rfl (fun ls hl => ?_)
    refine lv_aload_n hx hb dX7_restore_19 rfl (lv_at hl 0 rfl) ?_
    refine lv_ifnonnull (tgt := 26) hx hb dX7_restore_20 (by decide) ?_
    refine lv_aload_n hx hb dX7_restore_26 rfl (lv_at hl 1 rfl) ?_
    refine va_get (D := D) (ci := 7) (v := .ref g) (C := RX7) (T := TX7) (N := 7) hx hb hts hi7 hown hK hP 0 rfl rfl 0 (by decide) hw2 (fun _ h9 => h9) rfl dX7_restore_27 ?_
    refine lv_aload_n hx hb dX7_restore_30 rfl (lv_at hl 0 rfl) ?_
    refine cal_v (run_V (As := [.ref y0]) (rest := []) SF (c_become l D cI cJ cZ cG cM g ge gl gb gw sg gsw gsh y0 ye yl yb yw ys yv yz n ns nl n2 ns2 nl2 fi fi2 fe fl fb fs fw fh fe2 fl2 fb2 fs2 fw2 fh2 hnl2) (cwV 1 hts gX7_restore_X3_become rfl rfl rfl (by decide +kernel) ⟨Nat.le_of_ble_eq_true rfl, Nat.le_of_ble_eq_true rfl⟩) hN hK hP hD [2, 3, 4, 5, 6, 7, 8, 9, 10, 11, 12, 13, 14, 15, 16, 17] rfl (by decide) 3 2 rfl rfl rfl rfl hl.1 rfl (Nat.le_of_ble_eq_true rfl) dX7_restore_31 ⟨Nat.le_of_ble_eq_true rfl, Nat.le_of_ble_eq_true rfl⟩) ⟨rfl, rfl⟩ hP hD hS hA [2, 3, 4, 5, 6, 7, 8, 9, 10, 11, 12, 13, 14, 15, 16, 17] rfl (fun _ => rfl) (fun _ H locs hw hP hD hS => ?_)
    have hP := pa_q hP
    have hD := da_q hD
    have hP : va_P D vwCl [(xo, .inr (7, [.ref g, .ref pd, .ref b, .ref rg, .ref ch, .ref cn, .ref im])), (im, .inl (cG, 2, .inr (.inr (.inr (.inr imf))))), (g, .inr (3, [.ref ge, .ref gl, .ref gb, .ref gw, .ref gsw, .ref gsh, .int (nI ns2), .int (nI n2), .int fi2])), (ge, .inl (cI, 6, .inl (va_cpy fe2 fe 0 0 6))), (gl, .inl (cI, 6, .inl (va_cpy fl2 fl 0 0 6))), (gb, .inl (cI, 6, .inl (va_cpy fb2 fb 0 0 6))), (gw, .inr (4, [.ref sg, .int (nI nl2)])), (sg, .inl (cI, 20, .inl (va_cpy fs2 fs 0 0 nl2))), (gsw, .inl (cI, 6, .inl (va_cpy fw2 fw 0 0 6))), (gsh, .inl (cI, 6, .inl (va_cpy fh2 fh 0 0 6))), (y0, .inr (3, [.ref ye, .ref yl, .ref yb, .ref yw, .ref yv, .ref yz, .int (nI ns2), .int (nI n2), .int fi2])), (ye, .inl (cI, 6, .inl fe2)), (yl, .inl (cI, 6, .inl fl2)), (yb, .inl (cI, 6, .inl fb2)), (yw, .inr (4, [.ref ys, .int (nI nl2)])), (ys, .inl (cI, 20, .inl fs2)), (yv, .inl (cI, 6, .inl fw2)), (yz, .inl (cI, 6, .inl fh2))] H := hP
    have hD : va_D A [(xo, .inr (7, [.ref g, .ref pd, .ref b, .ref rg, .ref ch, .ref cn, .ref im])), (im, .inl (cG, 2, .inr (.inr (.inr (.inr imf))))), (g, .inr (3, [.ref ge, .ref gl, .ref gb, .ref gw, .ref gsw, .ref gsh, .int (nI ns2), .int (nI n2), .int fi2])), (ge, .inl (cI, 6, .inl (va_cpy fe2 fe 0 0 6))), (gl, .inl (cI, 6, .inl (va_cpy fl2 fl 0 0 6))), (gb, .inl (cI, 6, .inl (va_cpy fb2 fb 0 0 6))), (gw, .inr (4, [.ref sg, .int (nI nl2)])), (sg, .inl (cI, 20, .inl (va_cpy fs2 fs 0 0 nl2))), (gsw, .inl (cI, 6, .inl (va_cpy fw2 fw 0 0 6))), (gsh, .inl (cI, 6, .inl (va_cpy fh2 fh 0 0 6))), (y0, .inr (3, [.ref ye, .ref yl, .ref yb, .ref yw, .ref yv, .ref yz, .int (nI ns2), .int (nI n2), .int fi2])), (ye, .inl (cI, 6, .inl fe2)), (yl, .inl (cI, 6, .inl fl2)), (yb, .inl (cI, 6, .inl fb2)), (yw, .inr (4, [.ref ys, .int (nI nl2)])), (ys, .inl (cI, 20, .inl fs2)), (yv, .inl (cI, 6, .inl fw2)), (yz, .inl (cI, 6, .inl fh2))] := hD
    refine lv_iconst (v := nI 1) hx hb dX7_restore_34 (by decide) ?_
    exact hret (nI 1) (()) _ _ _ _ dX7_restore_35 rfl hP hD hS
  · exact absurd hC b3

set_option maxHeartbeats 1000000 in
set_option maxRecDepth 100000 in
theorem o_restoreN (l : Launch) (D : va_G) (cI cJ cZ cG cM : ClassId) (xo pd b rg ch cn im : Nat) (g : Nat) (x : Int32) (hC : ¬ (nI 0 ≤ x ∧ x ≤ nI 1)) :
    CI l yX7_restore wsX7_restore rm_X7_restore D [(cI, .int), (cJ, .long), (cZ, .boolean), (cG, .object "LatestSets$Guild"), (cM, .array .int)] [(xo, .inr (7, [.ref g, .ref pd, .ref b, .ref rg, .ref ch, .ref cn, .ref im]))] [.ref xo, .int x] (S := Unit) (fun r u => r = (-2)) (fun u => [(xo, .inr (7, [.ref g, .ref pd, .ref b, .ref rg, .ref ch, .ref cn, .ref im]))]) := by
  refine si_of (cc := cX7_restore) (maxL := 3) (by decide) rfl (Nat.le_of_ble_eq_true rfl) ?_
  intro p e s m args below meth c A ls Q E hret
  obtain ⟨hx, hb, -, hml, hown, hts, -, hin, hA, hK, hP, hD, hS, hl, hN⟩ := E
  have hown : s.vm.findClass RX7 = some m.cls := hown
  have hl : lv_has ls 3 [(0, .ref xo), (1, .int x)] := hl
  have SF : CallFix p m c cX7_restore 3 s args wsX7_restore RX7 := ⟨hx, hb, hml, hown, hts⟩
  refine lv_iload_n hx hb dX7_restore_0 rfl (lv_at hl 1 rfl) ?_
  refine lv_iconst (v := nI 0) hx hb dX7_restore_1 (by decide) ?_
  refine lv_iconst (v := nI 1) hx hb dX7_restore_2 (by decide) ?_
  refine cal_i (run_S (As := [.int x, .int (nI 0), .int (nI 1)]) (rest := []) SF (c_within l D cI cJ cZ cG cM x (nI 0) (nI 1)) (va_cwS 3 hts gX7_restore_X7_within rfl rfl rfl (by decide +kernel) ⟨Nat.le_of_ble_eq_true rfl, Nat.le_of_ble_eq_true rfl⟩) hN hK hP hD [] rfl (by decide) rfl hl.1 rfl (Nat.le_of_ble_eq_true rfl) dX7_restore_3 ⟨Nat.le_of_ble_eq_true rfl, Nat.le_of_ble_eq_true rfl⟩) ⟨rfl, rfl⟩ hP hD hS hA [] rfl (fun _ => rfl) (fun r3 _ H locs hw hP hD hS => ?_)
  have hP : va_P D vwCl [(xo, .inr (7, [.ref g, .ref pd, .ref b, .ref rg, .ref ch, .ref cn, .ref im]))] H := hP
  have hD : va_D A [(xo, .inr (7, [.ref g, .ref pd, .ref b, .ref rg, .ref ch, .ref cn, .ref im]))] := hD
  rcases hw with ⟨b3, rfl⟩ | ⟨b3, rfl⟩
  · exact absurd b3 hC
  · refine lv_if_ne (tgt := 12) hx hb dX7_restore_6 (by decide) (fun c9 => absurd c9 (by decide)) (fun _ => ?_)
    refine lv_bipush (v := (-2)) hx hb dX7_restore_9 (by decide) ?_
    exact hret ((-2)) (()) _ _ _ _ dX7_restore_11 rfl hP hD hS

set_option maxHeartbeats 1000000 in
set_option maxRecDepth 100000 in
theorem o_restoreZ (l : Launch) (D : va_G) (cI cJ cZ cG cM : ClassId) (xo pd b rg ch cn im : Nat) (g kx : Nat) (imf : Nat → Option Nat) (hkx : kx ≤ 1) (him : imf kx = none) :
    CI l yX7_restore wsX7_restore rm_X7_restore D [(cI, .int), (cJ, .long), (cZ, .boolean), (cG, .object "LatestSets$Guild"), (cM, .array .int)] [(xo, .inr (7, [.ref g, .ref pd, .ref b, .ref rg, .ref ch, .ref cn, .ref im])), (im, .inl (cG, 2, .inr (.inr (.inr (.inr imf)))))] [.ref xo, .int (nI kx)] (S := Unit) (fun r u => r = (-3)) (fun u => [(xo, .inr (7, [.ref g, .ref pd, .ref b, .ref rg, .ref ch, .ref cn, .ref im])), (im, .inl (cG, 2, .inr (.inr (.inr (.inr imf)))))]) := by
  refine si_of (cc := cX7_restore) (maxL := 3) (by decide) rfl (Nat.le_of_ble_eq_true rfl) ?_
  intro p e s m args below meth c A ls Q E hret
  obtain ⟨hx, hb, -, hml, hown, hts, -, hin, hA, hK, hP, hD, hS, hl, hN⟩ := E
  have hown : s.vm.findClass RX7 = some m.cls := hown
  have hl : lv_has ls 3 [(0, .ref xo), (1, .int (nI kx))] := hl
  have SF : CallFix p m c cX7_restore 3 s args wsX7_restore RX7 := ⟨hx, hb, hml, hown, hts⟩
  have hw0 := hts (.fieldLink RX7 55 "LatestSets" "images" "[LLatestSets$Guild;") (by decide +kernel)
  have hi7 : ∀ x ∈ wsX70, x ∈ wsX7_restore := by decide +kernel
  have hC : nI 0 ≤ nI kx ∧ nI kx ≤ nI 1 := ⟨nI_le (Nat.zero_le _) (by omega), nI_le hkx (by omega)⟩
  refine lv_iload_n hx hb dX7_restore_0 rfl (lv_at hl 1 rfl) ?_
  refine lv_iconst (v := nI 0) hx hb dX7_restore_1 (by decide) ?_
  refine lv_iconst (v := nI 1) hx hb dX7_restore_2 (by decide) ?_
  refine cal_i (run_S (As := [.int (nI kx), .int (nI 0), .int (nI 1)]) (rest := []) SF (c_within l D cI cJ cZ cG cM (nI kx) (nI 0) (nI 1)) (va_cwS 3 hts gX7_restore_X7_within rfl rfl rfl (by decide +kernel) ⟨Nat.le_of_ble_eq_true rfl, Nat.le_of_ble_eq_true rfl⟩) hN hK hP hD [] rfl (by decide) rfl hl.1 rfl (Nat.le_of_ble_eq_true rfl) dX7_restore_3 ⟨Nat.le_of_ble_eq_true rfl, Nat.le_of_ble_eq_true rfl⟩) ⟨rfl, rfl⟩ hP hD hS hA [] rfl (fun _ => rfl) (fun r3 _ H locs hw hP hD hS => ?_)
  have hP : va_P D vwCl [(xo, .inr (7, [.ref g, .ref pd, .ref b, .ref rg, .ref ch, .ref cn, .ref im])), (im, .inl (cG, 2, .inr (.inr (.inr (.inr imf)))))] H := hP
  have hD : va_D A [(xo, .inr (7, [.ref g, .ref pd, .ref b, .ref rg, .ref ch, .ref cn, .ref im])), (im, .inl (cG, 2, .inr (.inr (.inr (.inr imf)))))] := hD
  rcases hw with ⟨b3, rfl⟩ | ⟨b3, rfl⟩
  · refine lv_if_ne (tgt := 12) hx hb dX7_restore_6 (by decide) (fun _ => ?_) (fun c9 => absurd c9 (by decide))
    refine lv_aload_n hx hb dX7_restore_12 rfl (lv_at hl 0 rfl) ?_
    refine va_get (D := D) (ci := 7) (v := .ref im) (C := RX7) (T := TX7) (N := 7) hx hb hts hi7 hown hK hP 0 rfl rfl 6 (by decide) hw0 (fun _ h9 => h9) rfl dX7_restore_13 ?_
    refine lv_iload_n hx hb dX7_restore_16 rfl (lv_at hl 1 rfl) ?_
    refine aald_n (k := kx) hx hb hK hP 1 3 rfl rfl (by omega) (by omega) dX7_restore_17 ?_
    rw [him]
    refine lv_astore_nN (lv' := [(2, .null), (0, .ref xo), (1, .int (nI kx))]) hx hb dX7_restore_18 rfl hl (by decide) rfl (fun ls hl => ?_)
    refine lv_aload_nN hx hb dX7_restore_19 rfl (lv_at hl 0 rfl) ?_
    refine lv_ifnonnullN hx hb dX7_restore_20 ?_
    refine lv_bipush (v := (-3)) hx hb dX7_restore_23 (by decide) ?_
    exact hret ((-3)) (()) _ _ _ _ dX7_restore_25 rfl hP hD hS
  · exact absurd hC b3

abbrev rm_X8_image : Room := { frames := 1, cells := 0, slots := 0, locals := 22 }
set_option maxHeartbeats 1000000 in
set_option maxRecDepth 100000 in
theorem m_imageN (l : Launch) (D : va_G) (cI cJ cZ cG cM : ClassId) (o me ml mb mt ms mp my mc mk mw mo mq mi mz : Nat) (fi si sn la ah ri lh : Int32) (n nl : Nat) (x : Int32) (hC : ¬ (nI 0 ≤ x ∧ x ≤ nI 1)) :
    CI l yX8_image wsX8_image rm_X8_image D [(cI, .int), (cJ, .long), (cZ, .boolean), (cG, .object "LatestSets$Guild"), (cM, .array .int)] [(o, .inr (8, [.int (nI n), .ref me, .ref ml, .ref mb, .int fi, .int (nI nl), .ref mt, .int si, .ref ms, .int sn, .ref mp, .ref my, .ref mc, .int la, .ref mk, .ref mw, .int ah, .int ri, .int lh, .ref mo, .ref mq, .ref mi, .ref mz]))] [.ref o, .int x] (S := Unit) (fun r u => r = (-2)) (fun u => [(o, .inr (8, [.int (nI n), .ref me, .ref ml, .ref mb, .int fi, .int (nI nl), .ref mt, .int si, .ref ms, .int sn, .ref mp, .ref my, .ref mc, .int la, .ref mk, .ref mw, .int ah, .int ri, .int lh, .ref mo, .ref mq, .ref mi, .ref mz]))]) := by
  refine si_of (cc := cX8_image) (maxL := 4) (by decide) rfl (Nat.le_of_ble_eq_true rfl) ?_
  intro p e s m args below meth c A ls Q E hret
  obtain ⟨hx, hb, -, hml, hown, hts, -, hin, hA, hK, hP, hD, hS, hl, hN⟩ := E
  have hown : s.vm.findClass RX8 = some m.cls := hown
  have hl : lv_has ls 4 [(0, .ref o), (1, .int x)] := hl
  have SF : CallFix p m c cX8_image 4 s args wsX8_image RX8 := ⟨hx, hb, hml, hown, hts⟩
  refine lv_iload_n hx hb dX8_image_0 rfl (lv_at hl 1 rfl) ?_
  refine lv_iconst (v := nI 0) hx hb dX8_image_1 (by decide) ?_
  refine lv_iconst (v := nI 1) hx hb dX8_image_2 (by decide) ?_
  refine cal_i (run_S (As := [.int x, .int (nI 0), .int (nI 1)]) (rest := []) SF (c_in8 l D cI cJ cZ cG cM x (nI 0) (nI 1)) (va_cwS 3 hts gX8_image_X8_in rfl rfl rfl (by decide +kernel) ⟨Nat.le_of_ble_eq_true rfl, Nat.le_of_ble_eq_true rfl⟩) hN hK hP hD [] rfl (by decide) rfl hl.1 rfl (Nat.le_of_ble_eq_true rfl) dX8_image_3 ⟨Nat.le_of_ble_eq_true rfl, Nat.le_of_ble_eq_true rfl⟩) ⟨rfl, rfl⟩ hP hD hS hA [] rfl (fun _ => rfl) (fun r3 _ H locs hw hP hD hS => ?_)
  have hP : va_P D vwCl [(o, .inr (8, [.int (nI n), .ref me, .ref ml, .ref mb, .int fi, .int (nI nl), .ref mt, .int si, .ref ms, .int sn, .ref mp, .ref my, .ref mc, .int la, .ref mk, .ref mw, .int ah, .int ri, .int lh, .ref mo, .ref mq, .ref mi, .ref mz]))] H := hP
  have hD : va_D A [(o, .inr (8, [.int (nI n), .ref me, .ref ml, .ref mb, .int fi, .int (nI nl), .ref mt, .int si, .ref ms, .int sn, .ref mp, .ref my, .ref mc, .int la, .ref mk, .ref mw, .int ah, .int ri, .int lh, .ref mo, .ref mq, .ref mi, .ref mz]))] := hD
  rcases hw with ⟨b3, rfl⟩ | ⟨b3, rfl⟩
  · exact absurd b3 hC
  · refine lv_if_ne (tgt := 12) hx hb dX8_image_6 (by decide) (fun c9 => absurd c9 (by decide)) (fun _ => ?_)
    refine lv_bipush (v := (-2)) hx hb dX8_image_9 (by decide) ?_
    exact hret ((-2)) (()) _ _ _ _ dX8_image_11 rfl hP hD hS

abbrev rm_X8_restore : Room := { frames := 1, cells := 0, slots := 0, locals := 22 }
set_option maxHeartbeats 1000000 in
set_option maxRecDepth 100000 in
theorem m_restoreN (l : Launch) (D : va_G) (cI cJ cZ cG cM : ClassId) (o me ml mb mt ms mp my mc mk mw mo mq mi mz : Nat) (fi si sn la ah ri lh : Int32) (n nl : Nat) (x : Int32) (hC : ¬ (nI 0 ≤ x ∧ x ≤ nI 1)) :
    CI l yX8_restore wsX8_restore rm_X8_restore D [(cI, .int), (cJ, .long), (cZ, .boolean), (cG, .object "LatestSets$Guild"), (cM, .array .int)] [(o, .inr (8, [.int (nI n), .ref me, .ref ml, .ref mb, .int fi, .int (nI nl), .ref mt, .int si, .ref ms, .int sn, .ref mp, .ref my, .ref mc, .int la, .ref mk, .ref mw, .int ah, .int ri, .int lh, .ref mo, .ref mq, .ref mi, .ref mz]))] [.ref o, .int x] (S := Unit) (fun r u => r = (-2)) (fun u => [(o, .inr (8, [.int (nI n), .ref me, .ref ml, .ref mb, .int fi, .int (nI nl), .ref mt, .int si, .ref ms, .int sn, .ref mp, .ref my, .ref mc, .int la, .ref mk, .ref mw, .int ah, .int ri, .int lh, .ref mo, .ref mq, .ref mi, .ref mz]))]) := by
  refine si_of (cc := cX8_restore) (maxL := 4) (by decide) rfl (Nat.le_of_ble_eq_true rfl) ?_
  intro p e s m args below meth c A ls Q E hret
  obtain ⟨hx, hb, -, hml, hown, hts, -, hin, hA, hK, hP, hD, hS, hl, hN⟩ := E
  have hown : s.vm.findClass RX8 = some m.cls := hown
  have hl : lv_has ls 4 [(0, .ref o), (1, .int x)] := hl
  have SF : CallFix p m c cX8_restore 4 s args wsX8_restore RX8 := ⟨hx, hb, hml, hown, hts⟩
  refine lv_iload_n hx hb dX8_restore_0 rfl (lv_at hl 1 rfl) ?_
  refine lv_iconst (v := nI 0) hx hb dX8_restore_1 (by decide) ?_
  refine lv_iconst (v := nI 1) hx hb dX8_restore_2 (by decide) ?_
  refine cal_i (run_S (As := [.int x, .int (nI 0), .int (nI 1)]) (rest := []) SF (c_in8 l D cI cJ cZ cG cM x (nI 0) (nI 1)) (va_cwS 3 hts gX8_restore_X8_in rfl rfl rfl (by decide +kernel) ⟨Nat.le_of_ble_eq_true rfl, Nat.le_of_ble_eq_true rfl⟩) hN hK hP hD [] rfl (by decide) rfl hl.1 rfl (Nat.le_of_ble_eq_true rfl) dX8_restore_3 ⟨Nat.le_of_ble_eq_true rfl, Nat.le_of_ble_eq_true rfl⟩) ⟨rfl, rfl⟩ hP hD hS hA [] rfl (fun _ => rfl) (fun r3 _ H locs hw hP hD hS => ?_)
  have hP : va_P D vwCl [(o, .inr (8, [.int (nI n), .ref me, .ref ml, .ref mb, .int fi, .int (nI nl), .ref mt, .int si, .ref ms, .int sn, .ref mp, .ref my, .ref mc, .int la, .ref mk, .ref mw, .int ah, .int ri, .int lh, .ref mo, .ref mq, .ref mi, .ref mz]))] H := hP
  have hD : va_D A [(o, .inr (8, [.int (nI n), .ref me, .ref ml, .ref mb, .int fi, .int (nI nl), .ref mt, .int si, .ref ms, .int sn, .ref mp, .ref my, .ref mc, .int la, .ref mk, .ref mw, .int ah, .int ri, .int lh, .ref mo, .ref mq, .ref mi, .ref mz]))] := hD
  rcases hw with ⟨b3, rfl⟩ | ⟨b3, rfl⟩
  · exact absurd b3 hC
  · refine lv_if_ne (tgt := 12) hx hb dX8_restore_6 (by decide) (fun c9 => absurd c9 (by decide)) (fun _ => ?_)
    refine lv_bipush (v := (-2)) hx hb dX8_restore_9 (by decide) ?_
    exact hret ((-2)) (()) _ _ _ _ dX8_restore_11 rfl hP hD hS

set_option maxHeartbeats 1000000 in
set_option maxRecDepth 100000 in
theorem m_imageS (l : Launch) (D : va_G) (cI cJ cZ cG cM : ClassId) (o me ml mb mt ms mp my mc mk mw mo mq mi mz : Nat) (fi si sn la ah ri lh : Int32) (n nl : Nat) (kx : Nat) (fe fl fb fs fw mf zf : Nat → Int32) (hkx : kx ≤ 1) :
    CI l yX8_image wsX8_image rm_X8_image D [(cI, .int), (cJ, .long), (cZ, .boolean), (cG, .object "LatestSets$Guild"), (cM, .array .int)] [(o, .inr (8, [.int (nI n), .ref me, .ref ml, .ref mb, .int fi, .int (nI nl), .ref mt, .int si, .ref ms, .int sn, .ref mp, .ref my, .ref mc, .int la, .ref mk, .ref mw, .int ah, .int ri, .int lh, .ref mo, .ref mq, .ref mi, .ref mz])), (me, .inl (cI, 6, .inl fe)), (ml, .inl (cI, 6, .inl fl)), (mb, .inl (cI, 6, .inl fb)), (mt, .inl (cI, 20, .inl fs)), (ms, .inl (cI, 12, .inl fw)), (mi, .inl (cI, 112, .inl mf)), (mz, .inl (cZ, 2, .inl zf))] [.ref o, .int (nI kx)] (S := ((Nat → Int32) × (Nat → Int32))) (fun r u => BLK u.1 (56 * kx) fe fl fb fs fw (nI n) fi (nI nl) si ∧ (∀ p, p < 56 * kx ∨ 56 * kx + 56 ≤ p → u.1 p = mf p) ∧ u.2 = upd zf kx (nI 1) ∧ r = nI 1) (fun u => [(o, .inr (8, [.int (nI n), .ref me, .ref ml, .ref mb, .int fi, .int (nI nl), .ref mt, .int si, .ref ms, .int sn, .ref mp, .ref my, .ref mc, .int la, .ref mk, .ref mw, .int ah, .int ri, .int lh, .ref mo, .ref mq, .ref mi, .ref mz])), (me, .inl (cI, 6, .inl fe)), (ml, .inl (cI, 6, .inl fl)), (mb, .inl (cI, 6, .inl fb)), (mt, .inl (cI, 20, .inl fs)), (ms, .inl (cI, 12, .inl fw)), (mi, .inl (cI, 112, .inl u.1)), (mz, .inl (cZ, 2, .inl u.2))]) := by
  refine si_of (cc := cX8_image) (maxL := 4) (by decide) rfl (Nat.le_of_ble_eq_true rfl) ?_
  intro p e s m args below meth c A ls Q E hret
  obtain ⟨hx, hb, -, hml, hown, hts, -, hin, hA, hK, hP, hD, hS, hl, hN⟩ := E
  have hown : s.vm.findClass RX8 = some m.cls := hown
  have hl : lv_has ls 4 [(0, .ref o), (1, .int (nI kx))] := hl
  have SF : CallFix p m c cX8_image 4 s args wsX8_image RX8 := ⟨hx, hb, hml, hown, hts⟩
  have hw0 := hts (.fieldLink RX8 56 "LatestSetsModel" "image" "[I") (by decide +kernel)
  have hi8 : ∀ x ∈ wsX80, x ∈ wsX8_image := by decide +kernel
  have hw2 := hts (.fieldLink RX8 7 "LatestSetsModel" "members" "I") (by decide +kernel)
  have hw3 := hts (.fieldLink RX8 23 "LatestSetsModel" "fine" "I") (by decide +kernel)
  have hw4 := hts (.fieldLink RX8 26 "LatestSetsModel" "size" "I") (by decide +kernel)
  have hw5 := hts (.fieldLink RX8 66 "LatestSetsModel" "sights" "I") (by decide +kernel)
  have hw6 := hts (.fieldLink RX8 59 "LatestSetsModel" "isKept" "[Z") (by decide +kernel)
  have hw7 := hts (.fieldLink RX8 32 "LatestSetsModel" "sight" "[I") (by decide +kernel)
  have hw8 := hts (.fieldLink RX8 29 "LatestSetsModel" "text" "[I") (by decide +kernel)
  have hw9 := hts (.fieldLink RX8 13 "LatestSetsModel" "early" "[I") (by decide +kernel)
  have hw10 := hts (.fieldLink RX8 17 "LatestSetsModel" "late" "[I") (by decide +kernel)
  have hw11 := hts (.fieldLink RX8 20 "LatestSetsModel" "best" "[I") (by decide +kernel)
  have hC : nI 0 ≤ nI kx ∧ nI kx ≤ nI 1 := ⟨nI_le (Nat.zero_le _) (by omega), nI_le hkx (by omega)⟩
  refine lv_iload_n hx hb dX8_image_0 rfl (lv_at hl 1 rfl) ?_
  refine lv_iconst (v := nI 0) hx hb dX8_image_1 (by decide) ?_
  refine lv_iconst (v := nI 1) hx hb dX8_image_2 (by decide) ?_
  refine cal_i (run_S (As := [.int (nI kx), .int (nI 0), .int (nI 1)]) (rest := []) SF (c_in8 l D cI cJ cZ cG cM (nI kx) (nI 0) (nI 1)) (va_cwS 3 hts gX8_image_X8_in rfl rfl rfl (by decide +kernel) ⟨Nat.le_of_ble_eq_true rfl, Nat.le_of_ble_eq_true rfl⟩) hN hK hP hD [] rfl (by decide) rfl hl.1 rfl (Nat.le_of_ble_eq_true rfl) dX8_image_3 ⟨Nat.le_of_ble_eq_true rfl, Nat.le_of_ble_eq_true rfl⟩) ⟨rfl, rfl⟩ hP hD hS hA [] rfl (fun _ => rfl) (fun r3 _ H locs hw hP hD hS => ?_)
  have hP : va_P D vwCl [(o, .inr (8, [.int (nI n), .ref me, .ref ml, .ref mb, .int fi, .int (nI nl), .ref mt, .int si, .ref ms, .int sn, .ref mp, .ref my, .ref mc, .int la, .ref mk, .ref mw, .int ah, .int ri, .int lh, .ref mo, .ref mq, .ref mi, .ref mz])), (me, .inl (cI, 6, .inl fe)), (ml, .inl (cI, 6, .inl fl)), (mb, .inl (cI, 6, .inl fb)), (mt, .inl (cI, 20, .inl fs)), (ms, .inl (cI, 12, .inl fw)), (mi, .inl (cI, 112, .inl mf)), (mz, .inl (cZ, 2, .inl zf))] H := hP
  have hD : va_D A [(o, .inr (8, [.int (nI n), .ref me, .ref ml, .ref mb, .int fi, .int (nI nl), .ref mt, .int si, .ref ms, .int sn, .ref mp, .ref my, .ref mc, .int la, .ref mk, .ref mw, .int ah, .int ri, .int lh, .ref mo, .ref mq, .ref mi, .ref mz])), (me, .inl (cI, 6, .inl fe)), (ml, .inl (cI, 6, .inl fl)), (mb, .inl (cI, 6, .inl fb)), (mt, .inl (cI, 20, .inl fs)), (ms, .inl (cI, 12, .inl fw)), (mi, .inl (cI, 112, .inl mf)), (mz, .inl (cZ, 2, .inl zf))] := hD
  rcases hw with ⟨b3, rfl⟩ | ⟨b3, rfl⟩
  · refine lv_if_ne (tgt := 12) hx hb dX8_image_6 (by decide) (fun _ => ?_) (fun c9 => absurd c9 (by decide))
    refine lv_bipush (v := nI 56) hx hb dX8_image_12 (by decide) ?_
    refine lv_iload_n hx hb dX8_image_14 rfl (lv_at hl 1 rfl) ?_
    refine imul_n (a := 56) (b := kx) hx hb dX8_image_15 ?_
    refine lv_istore_n (lv' := [(2, .int (nI (56 * kx))), (0, .ref o), (1, .int (nI kx))]) hx hb dX8_image_16 rfl hl (by decide) rfl (fun ls hl => ?_)
    refine lv_iconst (v := nI 0) hx hb dX8_image_17 (by decide) ?_
    refine lv_istore_n (lv' := [(3, .int (nI 0)), (2, .int (nI (56 * kx))), (0, .ref o), (1, .int (nI kx))]) hx hb dX8_image_18 rfl hl (by decide) rfl (fun ls hl => ?_)
    have L19 : ∀ (n9 : Nat) (k : Nat) (f : Nat → Int32) (hk : k ≤ 6) (hA9 : (∀ j, j < k → f (56 * kx + j) = fe j ∧ f (56 * kx + 6 + j) = fl j ∧ f (56 * kx + 12 + j) = fb j)) (hK9 : (∀ p, p < 56 * kx ∨ 56 * kx + 56 ≤ p → f p = mf p)), 6 - k < n9 → ∀ (H : Heap) (locs : List Loc), va_P D vwCl [(o, .inr (8, [.int (nI n), .ref me, .ref ml, .ref mb, .int fi, .int (nI nl), .ref mt, .int si, .ref ms, .int sn, .ref mp, .ref my, .ref mc, .int la, .ref mk, .ref mw, .int ah, .int ri, .int lh, .ref mo, .ref mq, .ref mi, .ref mz])), (me, .inl (cI, 6, .inl fe)), (ml, .inl (cI, 6, .inl fl)), (mb, .inl (cI, 6, .inl fb)), (mt, .inl (cI, 20, .inl fs)), (ms, .inl (cI, 12, .inl fw)), (mi, .inl (cI, 112, .inl f)), (mz, .inl (cZ, 2, .inl zf))] H → va_D A [(o, .inr (8, [.int (nI n), .ref me, .ref ml, .ref mb, .int fi, .int (nI nl), .ref mt, .int si, .ref ms, .int sn, .ref mp, .ref my, .ref mc, .int la, .ref mk, .ref mw, .int ah, .int ri, .int lh, .ref mo, .ref mq, .ref mi, .ref mz])), (me, .inl (cI, 6, .inl fe)), (ml, .inl (cI, 6, .inl fl)), (mb, .inl (cI, 6, .inl fb)), (mt, .inl (cI, 20, .inl fs)), (ms, .inl (cI, 12, .inl fw)), (mi, .inl (cI, 112, .inl f)), (mz, .inl (cZ, 2, .inl zf))] → va_S A s.heap H locs → ∀ (ls : Array Slot), lv_has ls 4 [(0, .ref o), (1, .int (nI kx)), (2, .int (nI (56 * kx))), (3, .int (nI k))] → W p l e rm_X8_image s m args below meth c H locs 0 0 Q (F0 m 19 ls []) := by
      intro n9
      induction n9 with
      | zero => intro k f hk hA9 hK9 hm; exact absurd hm (Nat.not_lt_zero _)
      | succ n9 ih19 =>
        intro k f hk hA9 hK9 hm19 H locs hP hD hS ls hl
        refine lv_iload_n hx hb dX8_image_19 rfl (lv_at hl 3 rfl) ?_
        refine lv_bipush (v := nI 6) hx hb dX8_image_20 (by decide) ?_
        refine icmp_ge_n (a := k) (b := 6) (tgt := 79) hx hb dX8_image_22 (by decide) (by omega) (by omega) (fun c22 => ?_) (fun c22 => ?_)
        · refine lv_iconst (v := nI 0) hx hb dX8_image_79 (by decide) ?_
          refine lv_istore_n (lv' := [(3, .int (nI 0)), (0, .ref o), (1, .int (nI kx)), (2, .int (nI (56 * kx)))]) hx hb dX8_image_80 rfl hl (by decide) rfl (fun ls hl => ?_)
          have L81 : ∀ (n9 : Nat) (k : Nat) (f : Nat → Int32) (hk : k ≤ 20) (hA9 : (∀ j, j < 6 → f (56 * kx + j) = fe j ∧ f (56 * kx + 6 + j) = fl j ∧ f (56 * kx + 12 + j) = fb j)) (hB9 : (∀ j, j < k → f (56 * kx + 18 + j) = fs j)) (hK9 : (∀ p, p < 56 * kx ∨ 56 * kx + 56 ≤ p → f p = mf p)), 20 - k < n9 → ∀ (H : Heap) (locs : List Loc), va_P D vwCl [(o, .inr (8, [.int (nI n), .ref me, .ref ml, .ref mb, .int fi, .int (nI nl), .ref mt, .int si, .ref ms, .int sn, .ref mp, .ref my, .ref mc, .int la, .ref mk, .ref mw, .int ah, .int ri, .int lh, .ref mo, .ref mq, .ref mi, .ref mz])), (me, .inl (cI, 6, .inl fe)), (ml, .inl (cI, 6, .inl fl)), (mb, .inl (cI, 6, .inl fb)), (mt, .inl (cI, 20, .inl fs)), (ms, .inl (cI, 12, .inl fw)), (mi, .inl (cI, 112, .inl f)), (mz, .inl (cZ, 2, .inl zf))] H → va_D A [(o, .inr (8, [.int (nI n), .ref me, .ref ml, .ref mb, .int fi, .int (nI nl), .ref mt, .int si, .ref ms, .int sn, .ref mp, .ref my, .ref mc, .int la, .ref mk, .ref mw, .int ah, .int ri, .int lh, .ref mo, .ref mq, .ref mi, .ref mz])), (me, .inl (cI, 6, .inl fe)), (ml, .inl (cI, 6, .inl fl)), (mb, .inl (cI, 6, .inl fb)), (mt, .inl (cI, 20, .inl fs)), (ms, .inl (cI, 12, .inl fw)), (mi, .inl (cI, 112, .inl f)), (mz, .inl (cZ, 2, .inl zf))] → va_S A s.heap H locs → ∀ (ls : Array Slot), lv_has ls 4 [(0, .ref o), (1, .int (nI kx)), (2, .int (nI (56 * kx))), (3, .int (nI k))] → W p l e rm_X8_image s m args below meth c H locs 0 0 Q (F0 m 81 ls []) := by
            intro n9
            induction n9 with
            | zero => intro k f hk hA9 hB9 hK9 hm; exact absurd hm (Nat.not_lt_zero _)
            | succ n9 ih81 =>
              intro k f hk hA9 hB9 hK9 hm81 H locs hP hD hS ls hl
              refine lv_iload_n hx hb dX8_image_81 rfl (lv_at hl 3 rfl) ?_
              refine lv_bipush (v := nI 20) hx hb dX8_image_82 (by decide) ?_
              refine icmp_ge_n (a := k) (b := 20) (tgt := 110) hx hb dX8_image_84 (by decide) (by omega) (by omega) (fun c84 => ?_) (fun c84 => ?_)
              · refine lv_iconst (v := nI 0) hx hb dX8_image_110 (by decide) ?_
                refine lv_istore_n (lv' := [(3, .int (nI 0)), (0, .ref o), (1, .int (nI kx)), (2, .int (nI (56 * kx)))]) hx hb dX8_image_111 rfl hl (by decide) rfl (fun ls hl => ?_)
                have L112 : ∀ (n9 : Nat) (k : Nat) (f : Nat → Int32) (hk : k ≤ 12) (hA9 : (∀ j, j < 6 → f (56 * kx + j) = fe j ∧ f (56 * kx + 6 + j) = fl j ∧ f (56 * kx + 12 + j) = fb j)) (hB9 : (∀ j, j < 20 → f (56 * kx + 18 + j) = fs j)) (hC9 : (∀ j, j < k → f (56 * kx + 38 + j) = fw j)) (hK9 : (∀ p, p < 56 * kx ∨ 56 * kx + 56 ≤ p → f p = mf p)), 12 - k < n9 → ∀ (H : Heap) (locs : List Loc), va_P D vwCl [(o, .inr (8, [.int (nI n), .ref me, .ref ml, .ref mb, .int fi, .int (nI nl), .ref mt, .int si, .ref ms, .int sn, .ref mp, .ref my, .ref mc, .int la, .ref mk, .ref mw, .int ah, .int ri, .int lh, .ref mo, .ref mq, .ref mi, .ref mz])), (me, .inl (cI, 6, .inl fe)), (ml, .inl (cI, 6, .inl fl)), (mb, .inl (cI, 6, .inl fb)), (mt, .inl (cI, 20, .inl fs)), (ms, .inl (cI, 12, .inl fw)), (mi, .inl (cI, 112, .inl f)), (mz, .inl (cZ, 2, .inl zf))] H → va_D A [(o, .inr (8, [.int (nI n), .ref me, .ref ml, .ref mb, .int fi, .int (nI nl), .ref mt, .int si, .ref ms, .int sn, .ref mp, .ref my, .ref mc, .int la, .ref mk, .ref mw, .int ah, .int ri, .int lh, .ref mo, .ref mq, .ref mi, .ref mz])), (me, .inl (cI, 6, .inl fe)), (ml, .inl (cI, 6, .inl fl)), (mb, .inl (cI, 6, .inl fb)), (mt, .inl (cI, 20, .inl fs)), (ms, .inl (cI, 12, .inl fw)), (mi, .inl (cI, 112, .inl f)), (mz, .inl (cZ, 2, .inl zf))] → va_S A s.heap H locs → ∀ (ls : Array Slot), lv_has ls 4 [(0, .ref o), (1, .int (nI kx)), (2, .int (nI (56 * kx))), (3, .int (nI k))] → W p l e rm_X8_image s m args below meth c H locs 0 0 Q (F0 m 112 ls []) := by
                  intro n9
                  induction n9 with
                  | zero => intro k f hk hA9 hB9 hC9 hK9 hm; exact absurd hm (Nat.not_lt_zero _)
                  | succ n9 ih112 =>
                    intro k f hk hA9 hB9 hC9 hK9 hm112 H locs hP hD hS ls hl
                    refine lv_iload_n hx hb dX8_image_112 rfl (lv_at hl 3 rfl) ?_
                    refine lv_bipush (v := nI 12) hx hb dX8_image_113 (by decide) ?_
                    refine icmp_ge_n (a := k) (b := 12) (tgt := 141) hx hb dX8_image_115 (by decide) (by omega) (by omega) (fun c115 => ?_) (fun c115 => ?_)
                    · refine lv_aload_n hx hb dX8_image_141 rfl (lv_at hl 0 rfl) ?_
                      refine va_get (D := D) (ci := 8) (v := .ref mi) (C := RX8) (T := TX8) (N := 23) hx hb hts hi8 hown hK hP 0 rfl rfl 21 (by decide) hw0 (fun _ h9 => h9) rfl dX8_image_142 ?_
                      refine lv_iload_n hx hb dX8_image_145 rfl (lv_at hl 2 rfl) ?_
                      refine lv_bipush (v := nI 50) hx hb dX8_image_146 (by decide) ?_
                      refine iadd_n (a := 56 * kx) (b := 50) hx hb dX8_image_148 ?_
                      refine lv_aload_n hx hb dX8_image_149 rfl (lv_at hl 0 rfl) ?_
                      refine va_get (D := D) (ci := 8) (v := .int (nI n)) (C := RX8) (T := TX8) (N := 23) hx hb hts hi8 hown hK hP 0 rfl rfl 0 (by decide) hw2 (fun _ h9 => h9) rfl dX8_image_150 ?_
                      refine iast_n (k := (56 * kx) + 50) hx hb hK hP hD hS 6 0 rfl rfl (by omega) (by omega) dX8_image_153 (fun H locs hP hD hS => ?_)
                      have hP : va_P D vwCl [(o, .inr (8, [.int (nI n), .ref me, .ref ml, .ref mb, .int fi, .int (nI nl), .ref mt, .int si, .ref ms, .int sn, .ref mp, .ref my, .ref mc, .int la, .ref mk, .ref mw, .int ah, .int ri, .int lh, .ref mo, .ref mq, .ref mi, .ref mz])), (me, .inl (cI, 6, .inl fe)), (ml, .inl (cI, 6, .inl fl)), (mb, .inl (cI, 6, .inl fb)), (mt, .inl (cI, 20, .inl fs)), (ms, .inl (cI, 12, .inl fw)), (mi, .inl (cI, 112, .inl (upd f ((56 * kx) + 50) (nI n)))), (mz, .inl (cZ, 2, .inl zf))] H := hP
                      have hD : va_D A [(o, .inr (8, [.int (nI n), .ref me, .ref ml, .ref mb, .int fi, .int (nI nl), .ref mt, .int si, .ref ms, .int sn, .ref mp, .ref my, .ref mc, .int la, .ref mk, .ref mw, .int ah, .int ri, .int lh, .ref mo, .ref mq, .ref mi, .ref mz])), (me, .inl (cI, 6, .inl fe)), (ml, .inl (cI, 6, .inl fl)), (mb, .inl (cI, 6, .inl fb)), (mt, .inl (cI, 20, .inl fs)), (ms, .inl (cI, 12, .inl fw)), (mi, .inl (cI, 112, .inl (upd f ((56 * kx) + 50) (nI n)))), (mz, .inl (cZ, 2, .inl zf))] := hD
                      refine lv_aload_n hx hb dX8_image_154 rfl (lv_at hl 0 rfl) ?_
                      refine va_get (D := D) (ci := 8) (v := .ref mi) (C := RX8) (T := TX8) (N := 23) hx hb hts hi8 hown hK hP 0 rfl rfl 21 (by decide) hw0 (fun _ h9 => h9) rfl dX8_image_155 ?_
                      refine lv_iload_n hx hb dX8_image_158 rfl (lv_at hl 2 rfl) ?_
                      refine lv_bipush (v := nI 51) hx hb dX8_image_159 (by decide) ?_
                      refine iadd_n (a := 56 * kx) (b := 51) hx hb dX8_image_161 ?_
                      refine lv_aload_n hx hb dX8_image_162 rfl (lv_at hl 0 rfl) ?_
                      refine va_get (D := D) (ci := 8) (v := .int fi) (C := RX8) (T := TX8) (N := 23) hx hb hts hi8 hown hK hP 0 rfl rfl 4 (by decide) hw3 (fun _ h9 => h9) rfl dX8_image_163 ?_
                      refine iast_n (k := (56 * kx) + 51) hx hb hK hP hD hS 6 0 rfl rfl (by omega) (by omega) dX8_image_166 (fun H locs hP hD hS => ?_)
                      have hP : va_P D vwCl [(o, .inr (8, [.int (nI n), .ref me, .ref ml, .ref mb, .int fi, .int (nI nl), .ref mt, .int si, .ref ms, .int sn, .ref mp, .ref my, .ref mc, .int la, .ref mk, .ref mw, .int ah, .int ri, .int lh, .ref mo, .ref mq, .ref mi, .ref mz])), (me, .inl (cI, 6, .inl fe)), (ml, .inl (cI, 6, .inl fl)), (mb, .inl (cI, 6, .inl fb)), (mt, .inl (cI, 20, .inl fs)), (ms, .inl (cI, 12, .inl fw)), (mi, .inl (cI, 112, .inl (upd (upd f ((56 * kx) + 50) (nI n)) ((56 * kx) + 51) fi))), (mz, .inl (cZ, 2, .inl zf))] H := hP
                      have hD : va_D A [(o, .inr (8, [.int (nI n), .ref me, .ref ml, .ref mb, .int fi, .int (nI nl), .ref mt, .int si, .ref ms, .int sn, .ref mp, .ref my, .ref mc, .int la, .ref mk, .ref mw, .int ah, .int ri, .int lh, .ref mo, .ref mq, .ref mi, .ref mz])), (me, .inl (cI, 6, .inl fe)), (ml, .inl (cI, 6, .inl fl)), (mb, .inl (cI, 6, .inl fb)), (mt, .inl (cI, 20, .inl fs)), (ms, .inl (cI, 12, .inl fw)), (mi, .inl (cI, 112, .inl (upd (upd f ((56 * kx) + 50) (nI n)) ((56 * kx) + 51) fi))), (mz, .inl (cZ, 2, .inl zf))] := hD
                      refine lv_aload_n hx hb dX8_image_167 rfl (lv_at hl 0 rfl) ?_
                      refine va_get (D := D) (ci := 8) (v := .ref mi) (C := RX8) (T := TX8) (N := 23) hx hb hts hi8 hown hK hP 0 rfl rfl 21 (by decide) hw0 (fun _ h9 => h9) rfl dX8_image_168 ?_
                      refine lv_iload_n hx hb dX8_image_171 rfl (lv_at hl 2 rfl) ?_
                      refine lv_bipush (v := nI 52) hx hb dX8_image_172 (by decide) ?_
                      refine iadd_n (a := 56 * kx) (b := 52) hx hb dX8_image_174 ?_
                      refine lv_aload_n hx hb dX8_image_175 rfl (lv_at hl 0 rfl) ?_
                      refine va_get (D := D) (ci := 8) (v := .int (nI nl)) (C := RX8) (T := TX8) (N := 23) hx hb hts hi8 hown hK hP 0 rfl rfl 5 (by decide) hw4 (fun _ h9 => h9) rfl dX8_image_176 ?_
                      refine iast_n (k := (56 * kx) + 52) hx hb hK hP hD hS 6 0 rfl rfl (by omega) (by omega) dX8_image_179 (fun H locs hP hD hS => ?_)
                      have hP : va_P D vwCl [(o, .inr (8, [.int (nI n), .ref me, .ref ml, .ref mb, .int fi, .int (nI nl), .ref mt, .int si, .ref ms, .int sn, .ref mp, .ref my, .ref mc, .int la, .ref mk, .ref mw, .int ah, .int ri, .int lh, .ref mo, .ref mq, .ref mi, .ref mz])), (me, .inl (cI, 6, .inl fe)), (ml, .inl (cI, 6, .inl fl)), (mb, .inl (cI, 6, .inl fb)), (mt, .inl (cI, 20, .inl fs)), (ms, .inl (cI, 12, .inl fw)), (mi, .inl (cI, 112, .inl (upd (upd (upd f ((56 * kx) + 50) (nI n)) ((56 * kx) + 51) fi) ((56 * kx) + 52) (nI nl)))), (mz, .inl (cZ, 2, .inl zf))] H := hP
                      have hD : va_D A [(o, .inr (8, [.int (nI n), .ref me, .ref ml, .ref mb, .int fi, .int (nI nl), .ref mt, .int si, .ref ms, .int sn, .ref mp, .ref my, .ref mc, .int la, .ref mk, .ref mw, .int ah, .int ri, .int lh, .ref mo, .ref mq, .ref mi, .ref mz])), (me, .inl (cI, 6, .inl fe)), (ml, .inl (cI, 6, .inl fl)), (mb, .inl (cI, 6, .inl fb)), (mt, .inl (cI, 20, .inl fs)), (ms, .inl (cI, 12, .inl fw)), (mi, .inl (cI, 112, .inl (upd (upd (upd f ((56 * kx) + 50) (nI n)) ((56 * kx) + 51) fi) ((56 * kx) + 52) (nI nl)))), (mz, .inl (cZ, 2, .inl zf))] := hD
                      refine lv_aload_n hx hb dX8_image_180 rfl (lv_at hl 0 rfl) ?_
                      refine va_get (D := D) (ci := 8) (v := .ref mi) (C := RX8) (T := TX8) (N := 23) hx hb hts hi8 hown hK hP 0 rfl rfl 21 (by decide) hw0 (fun _ h9 => h9) rfl dX8_image_181 ?_
                      refine lv_iload_n hx hb dX8_image_184 rfl (lv_at hl 2 rfl) ?_
                      refine lv_bipush (v := nI 53) hx hb dX8_image_185 (by decide) ?_
                      refine iadd_n (a := 56 * kx) (b := 53) hx hb dX8_image_187 ?_
                      refine lv_aload_n hx hb dX8_image_188 rfl (lv_at hl 0 rfl) ?_
                      refine va_get (D := D) (ci := 8) (v := .int si) (C := RX8) (T := TX8) (N := 23) hx hb hts hi8 hown hK hP 0 rfl rfl 7 (by decide) hw5 (fun _ h9 => h9) rfl dX8_image_189 ?_
                      refine iast_n (k := (56 * kx) + 53) hx hb hK hP hD hS 6 0 rfl rfl (by omega) (by omega) dX8_image_192 (fun H locs hP hD hS => ?_)
                      have hP : va_P D vwCl [(o, .inr (8, [.int (nI n), .ref me, .ref ml, .ref mb, .int fi, .int (nI nl), .ref mt, .int si, .ref ms, .int sn, .ref mp, .ref my, .ref mc, .int la, .ref mk, .ref mw, .int ah, .int ri, .int lh, .ref mo, .ref mq, .ref mi, .ref mz])), (me, .inl (cI, 6, .inl fe)), (ml, .inl (cI, 6, .inl fl)), (mb, .inl (cI, 6, .inl fb)), (mt, .inl (cI, 20, .inl fs)), (ms, .inl (cI, 12, .inl fw)), (mi, .inl (cI, 112, .inl (upd (upd (upd (upd f ((56 * kx) + 50) (nI n)) ((56 * kx) + 51) fi) ((56 * kx) + 52) (nI nl)) ((56 * kx) + 53) si))), (mz, .inl (cZ, 2, .inl zf))] H := hP
                      have hD : va_D A [(o, .inr (8, [.int (nI n), .ref me, .ref ml, .ref mb, .int fi, .int (nI nl), .ref mt, .int si, .ref ms, .int sn, .ref mp, .ref my, .ref mc, .int la, .ref mk, .ref mw, .int ah, .int ri, .int lh, .ref mo, .ref mq, .ref mi, .ref mz])), (me, .inl (cI, 6, .inl fe)), (ml, .inl (cI, 6, .inl fl)), (mb, .inl (cI, 6, .inl fb)), (mt, .inl (cI, 20, .inl fs)), (ms, .inl (cI, 12, .inl fw)), (mi, .inl (cI, 112, .inl (upd (upd (upd (upd f ((56 * kx) + 50) (nI n)) ((56 * kx) + 51) fi) ((56 * kx) + 52) (nI nl)) ((56 * kx) + 53) si))), (mz, .inl (cZ, 2, .inl zf))] := hD
                      refine lv_aload_n hx hb dX8_image_193 rfl (lv_at hl 0 rfl) ?_
                      refine va_get (D := D) (ci := 8) (v := .ref mz) (C := RX8) (T := TX8) (N := 23) hx hb hts hi8 hown hK hP 0 rfl rfl 22 (by decide) hw6 (fun _ h9 => h9) rfl dX8_image_194 ?_
                      refine lv_iload_n hx hb dX8_image_197 rfl (lv_at hl 1 rfl) ?_
                      refine lv_iconst (v := nI 1) hx hb dX8_image_198 (by decide) ?_
                      refine zast_n (k := kx) hx hb hK hP hD hS 7 2 rfl rfl (by omega) (by omega) rfl dX8_image_199 (fun H locs hP hD hS => ?_)
                      have hP : va_P D vwCl [(o, .inr (8, [.int (nI n), .ref me, .ref ml, .ref mb, .int fi, .int (nI nl), .ref mt, .int si, .ref ms, .int sn, .ref mp, .ref my, .ref mc, .int la, .ref mk, .ref mw, .int ah, .int ri, .int lh, .ref mo, .ref mq, .ref mi, .ref mz])), (me, .inl (cI, 6, .inl fe)), (ml, .inl (cI, 6, .inl fl)), (mb, .inl (cI, 6, .inl fb)), (mt, .inl (cI, 20, .inl fs)), (ms, .inl (cI, 12, .inl fw)), (mi, .inl (cI, 112, .inl (upd (upd (upd (upd f ((56 * kx) + 50) (nI n)) ((56 * kx) + 51) fi) ((56 * kx) + 52) (nI nl)) ((56 * kx) + 53) si))), (mz, .inl (cZ, 2, .inl (upd zf kx (nI 1))))] H := hP
                      have hD : va_D A [(o, .inr (8, [.int (nI n), .ref me, .ref ml, .ref mb, .int fi, .int (nI nl), .ref mt, .int si, .ref ms, .int sn, .ref mp, .ref my, .ref mc, .int la, .ref mk, .ref mw, .int ah, .int ri, .int lh, .ref mo, .ref mq, .ref mi, .ref mz])), (me, .inl (cI, 6, .inl fe)), (ml, .inl (cI, 6, .inl fl)), (mb, .inl (cI, 6, .inl fb)), (mt, .inl (cI, 20, .inl fs)), (ms, .inl (cI, 12, .inl fw)), (mi, .inl (cI, 112, .inl (upd (upd (upd (upd f ((56 * kx) + 50) (nI n)) ((56 * kx) + 51) fi) ((56 * kx) + 52) (nI nl)) ((56 * kx) + 53) si))), (mz, .inl (cZ, 2, .inl (upd zf kx (nI 1))))] := hD
                      refine lv_iconst (v := nI 1) hx hb dX8_image_200 (by decide) ?_
                      exact hret (nI 1) ((upd (upd (upd (upd f ((56 * kx) + 50) (nI n)) ((56 * kx) + 51) fi) ((56 * kx) + 52) (nI nl)) ((56 * kx) + 53) si, upd zf kx (nI 1))) _ _ _ _ dX8_image_201 ⟨⟨fun j hj => ⟨(pk_un (by omega)).trans ((pk_un (by omega)).trans ((pk_un (by omega)).trans ((pk_un (by omega)).trans ((hA9 j hj).1)))), (pk_un (by omega)).trans ((pk_un (by omega)).trans ((pk_un (by omega)).trans ((pk_un (by omega)).trans ((hA9 j hj).2.1)))), (pk_un (by omega)).trans ((pk_un (by omega)).trans ((pk_un (by omega)).trans ((pk_un (by omega)).trans ((hA9 j hj).2.2))))⟩, fun j hj => (pk_un (by omega)).trans ((pk_un (by omega)).trans ((pk_un (by omega)).trans ((pk_un (by omega)).trans (hB9 j hj)))), fun j hj => (pk_un (by omega)).trans ((pk_un (by omega)).trans ((pk_un (by omega)).trans ((pk_un (by omega)).trans (hC9 j (by omega))))), (pk_un (by omega)).trans ((pk_un (by omega)).trans ((pk_un (by omega)).trans (pk_us))), (pk_un (by omega)).trans ((pk_un (by omega)).trans (pk_us)), (pk_un (by omega)).trans (pk_us), pk_us⟩, fun p hp => (pk_un (by omega)).trans ((pk_un (by omega)).trans ((pk_un (by omega)).trans ((pk_un (by omega)).trans (hK9 p hp)))), rfl, rfl⟩ hP hD hS
                    · refine lv_aload_n hx hb dX8_image_118 rfl (lv_at hl 0 rfl) ?_
                      refine va_get (D := D) (ci := 8) (v := .ref mi) (C := RX8) (T := TX8) (N := 23) hx hb hts hi8 hown hK hP 0 rfl rfl 21 (by decide) hw0 (fun _ h9 => h9) rfl dX8_image_119 ?_
                      refine lv_iload_n hx hb dX8_image_122 rfl (lv_at hl 2 rfl) ?_
                      refine lv_bipush (v := nI 38) hx hb dX8_image_123 (by decide) ?_
                      refine iadd_n (a := 56 * kx) (b := 38) hx hb dX8_image_125 ?_
                      refine lv_iload_n hx hb dX8_image_126 rfl (lv_at hl 3 rfl) ?_
                      refine iadd_n (a := (56 * kx) + 38) (b := k) hx hb dX8_image_127 ?_
                      refine lv_aload_n hx hb dX8_image_128 rfl (lv_at hl 0 rfl) ?_
                      refine va_get (D := D) (ci := 8) (v := .ref ms) (C := RX8) (T := TX8) (N := 23) hx hb hts hi8 hown hK hP 0 rfl rfl 8 (by decide) hw7 (fun _ h9 => h9) rfl dX8_image_129 ?_
                      refine lv_iload_n hx hb dX8_image_132 rfl (lv_at hl 3 rfl) ?_
                      refine iald_n (k := k) hx hb hK hP 5 0 rfl rfl (by omega) (by omega) dX8_image_133 ?_
                      refine iast_n (k := ((56 * kx) + 38) + k) hx hb hK hP hD hS 6 0 rfl rfl (by omega) (by omega) dX8_image_134 (fun H locs hP hD hS => ?_)
                      have hP : va_P D vwCl [(o, .inr (8, [.int (nI n), .ref me, .ref ml, .ref mb, .int fi, .int (nI nl), .ref mt, .int si, .ref ms, .int sn, .ref mp, .ref my, .ref mc, .int la, .ref mk, .ref mw, .int ah, .int ri, .int lh, .ref mo, .ref mq, .ref mi, .ref mz])), (me, .inl (cI, 6, .inl fe)), (ml, .inl (cI, 6, .inl fl)), (mb, .inl (cI, 6, .inl fb)), (mt, .inl (cI, 20, .inl fs)), (ms, .inl (cI, 12, .inl fw)), (mi, .inl (cI, 112, .inl (upd f (((56 * kx) + 38) + k) (fw k)))), (mz, .inl (cZ, 2, .inl zf))] H := hP
                      have hD : va_D A [(o, .inr (8, [.int (nI n), .ref me, .ref ml, .ref mb, .int fi, .int (nI nl), .ref mt, .int si, .ref ms, .int sn, .ref mp, .ref my, .ref mc, .int la, .ref mk, .ref mw, .int ah, .int ri, .int lh, .ref mo, .ref mq, .ref mi, .ref mz])), (me, .inl (cI, 6, .inl fe)), (ml, .inl (cI, 6, .inl fl)), (mb, .inl (cI, 6, .inl fb)), (mt, .inl (cI, 20, .inl fs)), (ms, .inl (cI, 12, .inl fw)), (mi, .inl (cI, 112, .inl (upd f (((56 * kx) + 38) + k) (fw k)))), (mz, .inl (cZ, 2, .inl zf))] := hD
                      refine lv_iinc (v := nI (k + 1)) (lv' := [(3, .int (nI (k + 1))), (0, .ref o), (1, .int (nI kx)), (2, .int (nI (56 * kx)))]) hx hb dX8_image_135 hl (k := 3) rfl (nI_1 k) (by decide) rfl (fun ls hl => ?_)
                      refine lv_goto (tgt := 112) hx hb dX8_image_138 (by decide) ?_
                      exact ih112 (k + 1) (upd f (((56 * kx) + 38) + k) (fw k)) ((by omega)) ((fun j hj => ⟨(pk_un (by omega)).trans (hA9 j hj).1, (pk_un (by omega)).trans (hA9 j hj).2.1, (pk_un (by omega)).trans (hA9 j hj).2.2⟩)) ((fun j hj => (pk_un (by omega)).trans (hB9 j hj))) ((fun j hj => by rcases Nat.lt_or_ge j k with z | z; (exact (pk_un (by omega)).trans (hC9 j z)); (rw [show j = k by omega]; exact pk_us))) ((fun p hp => (pk_un (by omega)).trans (hK9 p hp))) (by omega) _ _ hP hD hS _ (lv_sub hl [1, 2, 3, 0] rfl)
                exact L112 _ 0 f ((by omega)) hA9 ((fun j hj => hB9 j (by omega))) ((fun j hj => absurd hj (Nat.not_lt_zero j))) hK9 (Nat.lt_succ_self _) _ _ hP hD hS _ (lv_sub hl [1, 2, 3, 0] rfl)
              · refine lv_aload_n hx hb dX8_image_87 rfl (lv_at hl 0 rfl) ?_
                refine va_get (D := D) (ci := 8) (v := .ref mi) (C := RX8) (T := TX8) (N := 23) hx hb hts hi8 hown hK hP 0 rfl rfl 21 (by decide) hw0 (fun _ h9 => h9) rfl dX8_image_88 ?_
                refine lv_iload_n hx hb dX8_image_91 rfl (lv_at hl 2 rfl) ?_
                refine lv_bipush (v := nI 18) hx hb dX8_image_92 (by decide) ?_
                refine iadd_n (a := 56 * kx) (b := 18) hx hb dX8_image_94 ?_
                refine lv_iload_n hx hb dX8_image_95 rfl (lv_at hl 3 rfl) ?_
                refine iadd_n (a := (56 * kx) + 18) (b := k) hx hb dX8_image_96 ?_
                refine lv_aload_n hx hb dX8_image_97 rfl (lv_at hl 0 rfl) ?_
                refine va_get (D := D) (ci := 8) (v := .ref mt) (C := RX8) (T := TX8) (N := 23) hx hb hts hi8 hown hK hP 0 rfl rfl 6 (by decide) hw8 (fun _ h9 => h9) rfl dX8_image_98 ?_
                refine lv_iload_n hx hb dX8_image_101 rfl (lv_at hl 3 rfl) ?_
                refine iald_n (k := k) hx hb hK hP 4 0 rfl rfl (by omega) (by omega) dX8_image_102 ?_
                refine iast_n (k := ((56 * kx) + 18) + k) hx hb hK hP hD hS 6 0 rfl rfl (by omega) (by omega) dX8_image_103 (fun H locs hP hD hS => ?_)
                have hP : va_P D vwCl [(o, .inr (8, [.int (nI n), .ref me, .ref ml, .ref mb, .int fi, .int (nI nl), .ref mt, .int si, .ref ms, .int sn, .ref mp, .ref my, .ref mc, .int la, .ref mk, .ref mw, .int ah, .int ri, .int lh, .ref mo, .ref mq, .ref mi, .ref mz])), (me, .inl (cI, 6, .inl fe)), (ml, .inl (cI, 6, .inl fl)), (mb, .inl (cI, 6, .inl fb)), (mt, .inl (cI, 20, .inl fs)), (ms, .inl (cI, 12, .inl fw)), (mi, .inl (cI, 112, .inl (upd f (((56 * kx) + 18) + k) (fs k)))), (mz, .inl (cZ, 2, .inl zf))] H := hP
                have hD : va_D A [(o, .inr (8, [.int (nI n), .ref me, .ref ml, .ref mb, .int fi, .int (nI nl), .ref mt, .int si, .ref ms, .int sn, .ref mp, .ref my, .ref mc, .int la, .ref mk, .ref mw, .int ah, .int ri, .int lh, .ref mo, .ref mq, .ref mi, .ref mz])), (me, .inl (cI, 6, .inl fe)), (ml, .inl (cI, 6, .inl fl)), (mb, .inl (cI, 6, .inl fb)), (mt, .inl (cI, 20, .inl fs)), (ms, .inl (cI, 12, .inl fw)), (mi, .inl (cI, 112, .inl (upd f (((56 * kx) + 18) + k) (fs k)))), (mz, .inl (cZ, 2, .inl zf))] := hD
                refine lv_iinc (v := nI (k + 1)) (lv' := [(3, .int (nI (k + 1))), (0, .ref o), (1, .int (nI kx)), (2, .int (nI (56 * kx)))]) hx hb dX8_image_104 hl (k := 3) rfl (nI_1 k) (by decide) rfl (fun ls hl => ?_)
                refine lv_goto (tgt := 81) hx hb dX8_image_107 (by decide) ?_
                exact ih81 (k + 1) (upd f (((56 * kx) + 18) + k) (fs k)) ((by omega)) ((fun j hj => ⟨(pk_un (by omega)).trans (hA9 j hj).1, (pk_un (by omega)).trans (hA9 j hj).2.1, (pk_un (by omega)).trans (hA9 j hj).2.2⟩)) ((fun j hj => by rcases Nat.lt_or_ge j k with z | z; (exact (pk_un (by omega)).trans (hB9 j z)); (rw [show j = k by omega]; exact pk_us))) ((fun p hp => (pk_un (by omega)).trans (hK9 p hp))) (by omega) _ _ hP hD hS _ (lv_sub hl [1, 2, 3, 0] rfl)
          exact L81 _ 0 f ((by omega)) ((fun j hj => hA9 j (by omega))) ((fun j hj => absurd hj (Nat.not_lt_zero j))) hK9 (Nat.lt_succ_self _) _ _ hP hD hS _ (lv_sub hl [1, 2, 3, 0] rfl)
        · refine lv_aload_n hx hb dX8_image_25 rfl (lv_at hl 0 rfl) ?_
          refine va_get (D := D) (ci := 8) (v := .ref mi) (C := RX8) (T := TX8) (N := 23) hx hb hts hi8 hown hK hP 0 rfl rfl 21 (by decide) hw0 (fun _ h9 => h9) rfl dX8_image_26 ?_
          refine lv_iload_n hx hb dX8_image_29 rfl (lv_at hl 2 rfl) ?_
          refine lv_iload_n hx hb dX8_image_30 rfl (lv_at hl 3 rfl) ?_
          refine iadd_n (a := 56 * kx) (b := k) hx hb dX8_image_31 ?_
          refine lv_aload_n hx hb dX8_image_32 rfl (lv_at hl 0 rfl) ?_
          refine va_get (D := D) (ci := 8) (v := .ref me) (C := RX8) (T := TX8) (N := 23) hx hb hts hi8 hown hK hP 0 rfl rfl 1 (by decide) hw9 (fun _ h9 => h9) rfl dX8_image_33 ?_
          refine lv_iload_n hx hb dX8_image_36 rfl (lv_at hl 3 rfl) ?_
          refine iald_n (k := k) hx hb hK hP 1 0 rfl rfl (by omega) (by omega) dX8_image_37 ?_
          refine iast_n (k := (56 * kx) + k) hx hb hK hP hD hS 6 0 rfl rfl (by omega) (by omega) dX8_image_38 (fun H locs hP hD hS => ?_)
          have hP : va_P D vwCl [(o, .inr (8, [.int (nI n), .ref me, .ref ml, .ref mb, .int fi, .int (nI nl), .ref mt, .int si, .ref ms, .int sn, .ref mp, .ref my, .ref mc, .int la, .ref mk, .ref mw, .int ah, .int ri, .int lh, .ref mo, .ref mq, .ref mi, .ref mz])), (me, .inl (cI, 6, .inl fe)), (ml, .inl (cI, 6, .inl fl)), (mb, .inl (cI, 6, .inl fb)), (mt, .inl (cI, 20, .inl fs)), (ms, .inl (cI, 12, .inl fw)), (mi, .inl (cI, 112, .inl (upd f ((56 * kx) + k) (fe k)))), (mz, .inl (cZ, 2, .inl zf))] H := hP
          have hD : va_D A [(o, .inr (8, [.int (nI n), .ref me, .ref ml, .ref mb, .int fi, .int (nI nl), .ref mt, .int si, .ref ms, .int sn, .ref mp, .ref my, .ref mc, .int la, .ref mk, .ref mw, .int ah, .int ri, .int lh, .ref mo, .ref mq, .ref mi, .ref mz])), (me, .inl (cI, 6, .inl fe)), (ml, .inl (cI, 6, .inl fl)), (mb, .inl (cI, 6, .inl fb)), (mt, .inl (cI, 20, .inl fs)), (ms, .inl (cI, 12, .inl fw)), (mi, .inl (cI, 112, .inl (upd f ((56 * kx) + k) (fe k)))), (mz, .inl (cZ, 2, .inl zf))] := hD
          refine lv_aload_n hx hb dX8_image_39 rfl (lv_at hl 0 rfl) ?_
          refine va_get (D := D) (ci := 8) (v := .ref mi) (C := RX8) (T := TX8) (N := 23) hx hb hts hi8 hown hK hP 0 rfl rfl 21 (by decide) hw0 (fun _ h9 => h9) rfl dX8_image_40 ?_
          refine lv_iload_n hx hb dX8_image_43 rfl (lv_at hl 2 rfl) ?_
          refine lv_bipush (v := nI 6) hx hb dX8_image_44 (by decide) ?_
          refine iadd_n (a := 56 * kx) (b := 6) hx hb dX8_image_46 ?_
          refine lv_iload_n hx hb dX8_image_47 rfl (lv_at hl 3 rfl) ?_
          refine iadd_n (a := (56 * kx) + 6) (b := k) hx hb dX8_image_48 ?_
          refine lv_aload_n hx hb dX8_image_49 rfl (lv_at hl 0 rfl) ?_
          refine va_get (D := D) (ci := 8) (v := .ref ml) (C := RX8) (T := TX8) (N := 23) hx hb hts hi8 hown hK hP 0 rfl rfl 2 (by decide) hw10 (fun _ h9 => h9) rfl dX8_image_50 ?_
          refine lv_iload_n hx hb dX8_image_53 rfl (lv_at hl 3 rfl) ?_
          refine iald_n (k := k) hx hb hK hP 2 0 rfl rfl (by omega) (by omega) dX8_image_54 ?_
          refine iast_n (k := ((56 * kx) + 6) + k) hx hb hK hP hD hS 6 0 rfl rfl (by omega) (by omega) dX8_image_55 (fun H locs hP hD hS => ?_)
          have hP : va_P D vwCl [(o, .inr (8, [.int (nI n), .ref me, .ref ml, .ref mb, .int fi, .int (nI nl), .ref mt, .int si, .ref ms, .int sn, .ref mp, .ref my, .ref mc, .int la, .ref mk, .ref mw, .int ah, .int ri, .int lh, .ref mo, .ref mq, .ref mi, .ref mz])), (me, .inl (cI, 6, .inl fe)), (ml, .inl (cI, 6, .inl fl)), (mb, .inl (cI, 6, .inl fb)), (mt, .inl (cI, 20, .inl fs)), (ms, .inl (cI, 12, .inl fw)), (mi, .inl (cI, 112, .inl (upd (upd f ((56 * kx) + k) (fe k)) (((56 * kx) + 6) + k) (fl k)))), (mz, .inl (cZ, 2, .inl zf))] H := hP
          have hD : va_D A [(o, .inr (8, [.int (nI n), .ref me, .ref ml, .ref mb, .int fi, .int (nI nl), .ref mt, .int si, .ref ms, .int sn, .ref mp, .ref my, .ref mc, .int la, .ref mk, .ref mw, .int ah, .int ri, .int lh, .ref mo, .ref mq, .ref mi, .ref mz])), (me, .inl (cI, 6, .inl fe)), (ml, .inl (cI, 6, .inl fl)), (mb, .inl (cI, 6, .inl fb)), (mt, .inl (cI, 20, .inl fs)), (ms, .inl (cI, 12, .inl fw)), (mi, .inl (cI, 112, .inl (upd (upd f ((56 * kx) + k) (fe k)) (((56 * kx) + 6) + k) (fl k)))), (mz, .inl (cZ, 2, .inl zf))] := hD
          refine lv_aload_n hx hb dX8_image_56 rfl (lv_at hl 0 rfl) ?_
          refine va_get (D := D) (ci := 8) (v := .ref mi) (C := RX8) (T := TX8) (N := 23) hx hb hts hi8 hown hK hP 0 rfl rfl 21 (by decide) hw0 (fun _ h9 => h9) rfl dX8_image_57 ?_
          refine lv_iload_n hx hb dX8_image_60 rfl (lv_at hl 2 rfl) ?_
          refine lv_bipush (v := nI 12) hx hb dX8_image_61 (by decide) ?_
          refine iadd_n (a := 56 * kx) (b := 12) hx hb dX8_image_63 ?_
          refine lv_iload_n hx hb dX8_image_64 rfl (lv_at hl 3 rfl) ?_
          refine iadd_n (a := (56 * kx) + 12) (b := k) hx hb dX8_image_65 ?_
          refine lv_aload_n hx hb dX8_image_66 rfl (lv_at hl 0 rfl) ?_
          refine va_get (D := D) (ci := 8) (v := .ref mb) (C := RX8) (T := TX8) (N := 23) hx hb hts hi8 hown hK hP 0 rfl rfl 3 (by decide) hw11 (fun _ h9 => h9) rfl dX8_image_67 ?_
          refine lv_iload_n hx hb dX8_image_70 rfl (lv_at hl 3 rfl) ?_
          refine iald_n (k := k) hx hb hK hP 3 0 rfl rfl (by omega) (by omega) dX8_image_71 ?_
          refine iast_n (k := ((56 * kx) + 12) + k) hx hb hK hP hD hS 6 0 rfl rfl (by omega) (by omega) dX8_image_72 (fun H locs hP hD hS => ?_)
          have hP : va_P D vwCl [(o, .inr (8, [.int (nI n), .ref me, .ref ml, .ref mb, .int fi, .int (nI nl), .ref mt, .int si, .ref ms, .int sn, .ref mp, .ref my, .ref mc, .int la, .ref mk, .ref mw, .int ah, .int ri, .int lh, .ref mo, .ref mq, .ref mi, .ref mz])), (me, .inl (cI, 6, .inl fe)), (ml, .inl (cI, 6, .inl fl)), (mb, .inl (cI, 6, .inl fb)), (mt, .inl (cI, 20, .inl fs)), (ms, .inl (cI, 12, .inl fw)), (mi, .inl (cI, 112, .inl (upd (upd (upd f ((56 * kx) + k) (fe k)) (((56 * kx) + 6) + k) (fl k)) (((56 * kx) + 12) + k) (fb k)))), (mz, .inl (cZ, 2, .inl zf))] H := hP
          have hD : va_D A [(o, .inr (8, [.int (nI n), .ref me, .ref ml, .ref mb, .int fi, .int (nI nl), .ref mt, .int si, .ref ms, .int sn, .ref mp, .ref my, .ref mc, .int la, .ref mk, .ref mw, .int ah, .int ri, .int lh, .ref mo, .ref mq, .ref mi, .ref mz])), (me, .inl (cI, 6, .inl fe)), (ml, .inl (cI, 6, .inl fl)), (mb, .inl (cI, 6, .inl fb)), (mt, .inl (cI, 20, .inl fs)), (ms, .inl (cI, 12, .inl fw)), (mi, .inl (cI, 112, .inl (upd (upd (upd f ((56 * kx) + k) (fe k)) (((56 * kx) + 6) + k) (fl k)) (((56 * kx) + 12) + k) (fb k)))), (mz, .inl (cZ, 2, .inl zf))] := hD
          refine lv_iinc (v := nI (k + 1)) (lv' := [(3, .int (nI (k + 1))), (0, .ref o), (1, .int (nI kx)), (2, .int (nI (56 * kx)))]) hx hb dX8_image_73 hl (k := 3) rfl (nI_1 k) (by decide) rfl (fun ls hl => ?_)
          refine lv_goto (tgt := 19) hx hb dX8_image_76 (by decide) ?_
          exact ih19 (k + 1) (upd (upd (upd f ((56 * kx) + k) (fe k)) (((56 * kx) + 6) + k) (fl k)) (((56 * kx) + 12) + k) (fb k)) ((by omega)) ((fun j hj => ⟨((pk_un (by omega)).trans ((pk_un (by omega)).trans (by rcases Nat.lt_or_ge j k with z | z; (exact (pk_un (by omega)).trans (hA9 j z).1); (rw [show j = k by omega]; exact pk_us)))), ((pk_un (by omega)).trans (by rcases Nat.lt_or_ge j k with z | z; (exact (pk_un (by omega)).trans ((pk_un (by omega)).trans (hA9 j z).2.1)); (rw [show j = k by omega]; exact pk_us))), (by rcases Nat.lt_or_ge j k with z | z; (exact (pk_un (by omega)).trans ((pk_un (by omega)).trans ((pk_un (by omega)).trans (hA9 j z).2.2))); (rw [show j = k by omega]; exact pk_us))⟩)) ((fun p hp => (pk_un (by omega)).trans ((pk_un (by omega)).trans ((pk_un (by omega)).trans (hK9 p hp))))) (by omega) _ _ hP hD hS _ (lv_sub hl [1, 2, 3, 0] rfl)
    exact L19 _ 0 mf ((by omega)) ((fun j hj => absurd hj (Nat.not_lt_zero j))) ((fun p _ => rfl)) (Nat.lt_succ_self _) _ _ hP hD hS _ (lv_sub hl [2, 3, 1, 0] rfl)
  · exact absurd hC b3

set_option maxHeartbeats 1000000 in
set_option maxRecDepth 100000 in
theorem m_restoreZ (l : Launch) (D : va_G) (cI cJ cZ cG cM : ClassId) (o me ml mb mt ms mp my mc mk mw mo mq mi mz : Nat) (fi si sn la ah ri lh : Int32) (n nl : Nat) (kx : Nat) (zf : Nat → Int32) (hkx : kx ≤ 1) (hz : zf kx = nI 0) :
    CI l yX8_restore wsX8_restore rm_X8_restore D [(cI, .int), (cJ, .long), (cZ, .boolean), (cG, .object "LatestSets$Guild"), (cM, .array .int)] [(o, .inr (8, [.int (nI n), .ref me, .ref ml, .ref mb, .int fi, .int (nI nl), .ref mt, .int si, .ref ms, .int sn, .ref mp, .ref my, .ref mc, .int la, .ref mk, .ref mw, .int ah, .int ri, .int lh, .ref mo, .ref mq, .ref mi, .ref mz])), (mz, .inl (cZ, 2, .inl zf))] [.ref o, .int (nI kx)] (S := Unit) (fun r u => r = (-3)) (fun u => [(o, .inr (8, [.int (nI n), .ref me, .ref ml, .ref mb, .int fi, .int (nI nl), .ref mt, .int si, .ref ms, .int sn, .ref mp, .ref my, .ref mc, .int la, .ref mk, .ref mw, .int ah, .int ri, .int lh, .ref mo, .ref mq, .ref mi, .ref mz])), (mz, .inl (cZ, 2, .inl zf))]) := by
  refine si_of (cc := cX8_restore) (maxL := 4) (by decide) rfl (Nat.le_of_ble_eq_true rfl) ?_
  intro p e s m args below meth c A ls Q E hret
  obtain ⟨hx, hb, -, hml, hown, hts, -, hin, hA, hK, hP, hD, hS, hl, hN⟩ := E
  have hown : s.vm.findClass RX8 = some m.cls := hown
  have hl : lv_has ls 4 [(0, .ref o), (1, .int (nI kx))] := hl
  have SF : CallFix p m c cX8_restore 4 s args wsX8_restore RX8 := ⟨hx, hb, hml, hown, hts⟩
  have hw0 := hts (.fieldLink RX8 59 "LatestSetsModel" "isKept" "[Z") (by decide +kernel)
  have hi8 : ∀ x ∈ wsX80, x ∈ wsX8_restore := by decide +kernel
  have hC : nI 0 ≤ nI kx ∧ nI kx ≤ nI 1 := ⟨nI_le (Nat.zero_le _) (by omega), nI_le hkx (by omega)⟩
  refine lv_iload_n hx hb dX8_restore_0 rfl (lv_at hl 1 rfl) ?_
  refine lv_iconst (v := nI 0) hx hb dX8_restore_1 (by decide) ?_
  refine lv_iconst (v := nI 1) hx hb dX8_restore_2 (by decide) ?_
  refine cal_i (run_S (As := [.int (nI kx), .int (nI 0), .int (nI 1)]) (rest := []) SF (c_in8 l D cI cJ cZ cG cM (nI kx) (nI 0) (nI 1)) (va_cwS 3 hts gX8_restore_X8_in rfl rfl rfl (by decide +kernel) ⟨Nat.le_of_ble_eq_true rfl, Nat.le_of_ble_eq_true rfl⟩) hN hK hP hD [] rfl (by decide) rfl hl.1 rfl (Nat.le_of_ble_eq_true rfl) dX8_restore_3 ⟨Nat.le_of_ble_eq_true rfl, Nat.le_of_ble_eq_true rfl⟩) ⟨rfl, rfl⟩ hP hD hS hA [] rfl (fun _ => rfl) (fun r3 _ H locs hw hP hD hS => ?_)
  have hP : va_P D vwCl [(o, .inr (8, [.int (nI n), .ref me, .ref ml, .ref mb, .int fi, .int (nI nl), .ref mt, .int si, .ref ms, .int sn, .ref mp, .ref my, .ref mc, .int la, .ref mk, .ref mw, .int ah, .int ri, .int lh, .ref mo, .ref mq, .ref mi, .ref mz])), (mz, .inl (cZ, 2, .inl zf))] H := hP
  have hD : va_D A [(o, .inr (8, [.int (nI n), .ref me, .ref ml, .ref mb, .int fi, .int (nI nl), .ref mt, .int si, .ref ms, .int sn, .ref mp, .ref my, .ref mc, .int la, .ref mk, .ref mw, .int ah, .int ri, .int lh, .ref mo, .ref mq, .ref mi, .ref mz])), (mz, .inl (cZ, 2, .inl zf))] := hD
  rcases hw with ⟨b3, rfl⟩ | ⟨b3, rfl⟩
  · refine lv_if_ne (tgt := 12) hx hb dX8_restore_6 (by decide) (fun _ => ?_) (fun c9 => absurd c9 (by decide))
    refine lv_aload_n hx hb dX8_restore_12 rfl (lv_at hl 0 rfl) ?_
    refine va_get (D := D) (ci := 8) (v := .ref mz) (C := RX8) (T := TX8) (N := 23) hx hb hts hi8 hown hK hP 0 rfl rfl 22 (by decide) hw0 (fun _ h9 => h9) rfl dX8_restore_13 ?_
    refine lv_iload_n hx hb dX8_restore_16 rfl (lv_at hl 1 rfl) ?_
    refine zald_n (k := kx) hx hb hK hP 1 2 rfl rfl (by omega) (by omega) dX8_restore_17 ?_
    refine lv_topi (fun y9 e9 => ?_)
    have e9 : nI 0 = y9 := (e9.trans (hz)).symm
    subst e9
    refine lv_if_ne (tgt := 24) hx hb dX8_restore_18 (by decide) (fun c9 => absurd c9 (by decide)) (fun _ => ?_)
    refine lv_bipush (v := (-3)) hx hb dX8_restore_21 (by decide) ?_
    exact hret ((-3)) (()) _ _ _ _ dX8_restore_23 rfl hP hD hS
  · exact absurd hC b3

set_option maxHeartbeats 1000000 in
set_option maxRecDepth 100000 in
theorem m_restoreS (l : Launch) (D : va_G) (cI cJ cZ cG cM : ClassId) (o me ml mb mt ms mp my mc mk mw mo mq mi mz : Nat) (fi si sn la ah ri lh : Int32) (n nl : Nat) (kx n2 nl2 ns2 : Nat) (fi2 : Int32) (fe fl fb fs fw mf zf : Nat → Int32) (hkx : kx ≤ 1) (hz : zf kx = nI 1) (h50 : mf (56 * kx + 50) = nI n2) (h51 : mf (56 * kx + 51) = fi2) (h52 : mf (56 * kx + 52) = nI nl2) (h53 : mf (56 * kx + 53) = nI ns2) :
    CI l yX8_restore wsX8_restore rm_X8_restore D [(cI, .int), (cJ, .long), (cZ, .boolean), (cG, .object "LatestSets$Guild"), (cM, .array .int)] [(o, .inr (8, [.int (nI n), .ref me, .ref ml, .ref mb, .int fi, .int (nI nl), .ref mt, .int si, .ref ms, .int sn, .ref mp, .ref my, .ref mc, .int la, .ref mk, .ref mw, .int ah, .int ri, .int lh, .ref mo, .ref mq, .ref mi, .ref mz])), (me, .inl (cI, 6, .inl fe)), (ml, .inl (cI, 6, .inl fl)), (mb, .inl (cI, 6, .inl fb)), (mt, .inl (cI, 20, .inl fs)), (ms, .inl (cI, 12, .inl fw)), (mi, .inl (cI, 112, .inl mf)), (mz, .inl (cZ, 2, .inl zf))] [.ref o, .int (nI kx)] (S := ((Nat → Int32) × (Nat → Int32) × (Nat → Int32) × (Nat → Int32) × (Nat → Int32))) (fun r u => (∀ j, j < 6 → u.1 j = mf (56 * kx + j)) ∧ (∀ j, j < 6 → u.2.1 j = mf (56 * kx + 6 + j)) ∧ (∀ j, j < 6 → u.2.2.1 j = mf (56 * kx + 12 + j)) ∧ (∀ j, j < 20 → u.2.2.2.1 j = mf (56 * kx + 18 + j)) ∧ (∀ j, j < 12 → u.2.2.2.2 j = mf (56 * kx + 38 + j)) ∧ r = nI 1) (fun u => [(o, .inr (8, [.int (nI n2), .ref me, .ref ml, .ref mb, .int fi2, .int (nI nl2), .ref mt, .int (nI ns2), .ref ms, .int sn, .ref mp, .ref my, .ref mc, .int la, .ref mk, .ref mw, .int ah, .int ri, .int lh, .ref mo, .ref mq, .ref mi, .ref mz])), (me, .inl (cI, 6, .inl u.1)), (ml, .inl (cI, 6, .inl u.2.1)), (mb, .inl (cI, 6, .inl u.2.2.1)), (mt, .inl (cI, 20, .inl u.2.2.2.1)), (ms, .inl (cI, 12, .inl u.2.2.2.2)), (mi, .inl (cI, 112, .inl mf)), (mz, .inl (cZ, 2, .inl zf))]) := by
  refine si_of (cc := cX8_restore) (maxL := 4) (by decide) rfl (Nat.le_of_ble_eq_true rfl) ?_
  intro p e s m args below meth c A ls Q E hret
  obtain ⟨hx, hb, -, hml, hown, hts, -, hin, hA, hK, hP, hD, hS, hl, hN⟩ := E
  have hown : s.vm.findClass RX8 = some m.cls := hown
  have hl : lv_has ls 4 [(0, .ref o), (1, .int (nI kx))] := hl
  have SF : CallFix p m c cX8_restore 4 s args wsX8_restore RX8 := ⟨hx, hb, hml, hown, hts⟩
  have hw0 := hts (.fieldLink RX8 59 "LatestSetsModel" "isKept" "[Z") (by decide +kernel)
  have hi8 : ∀ x ∈ wsX80, x ∈ wsX8_restore := by decide +kernel
  have hw2 := hts (.fieldLink RX8 56 "LatestSetsModel" "image" "[I") (by decide +kernel)
  have hw3 := hts (.fieldLink RX8 7 "LatestSetsModel" "members" "I") (by decide +kernel)
  have hw4 := hts (.fieldLink RX8 23 "LatestSetsModel" "fine" "I") (by decide +kernel)
  have hw5 := hts (.fieldLink RX8 26 "LatestSetsModel" "size" "I") (by decide +kernel)
  have hw6 := hts (.fieldLink RX8 66 "LatestSetsModel" "sights" "I") (by decide +kernel)
  have hw7 := hts (.fieldLink RX8 32 "LatestSetsModel" "sight" "[I") (by decide +kernel)
  have hw8 := hts (.fieldLink RX8 29 "LatestSetsModel" "text" "[I") (by decide +kernel)
  have hw9 := hts (.fieldLink RX8 13 "LatestSetsModel" "early" "[I") (by decide +kernel)
  have hw10 := hts (.fieldLink RX8 17 "LatestSetsModel" "late" "[I") (by decide +kernel)
  have hw11 := hts (.fieldLink RX8 20 "LatestSetsModel" "best" "[I") (by decide +kernel)
  have hC : nI 0 ≤ nI kx ∧ nI kx ≤ nI 1 := ⟨nI_le (Nat.zero_le _) (by omega), nI_le hkx (by omega)⟩
  refine lv_iload_n hx hb dX8_restore_0 rfl (lv_at hl 1 rfl) ?_
  refine lv_iconst (v := nI 0) hx hb dX8_restore_1 (by decide) ?_
  refine lv_iconst (v := nI 1) hx hb dX8_restore_2 (by decide) ?_
  refine cal_i (run_S (As := [.int (nI kx), .int (nI 0), .int (nI 1)]) (rest := []) SF (c_in8 l D cI cJ cZ cG cM (nI kx) (nI 0) (nI 1)) (va_cwS 3 hts gX8_restore_X8_in rfl rfl rfl (by decide +kernel) ⟨Nat.le_of_ble_eq_true rfl, Nat.le_of_ble_eq_true rfl⟩) hN hK hP hD [] rfl (by decide) rfl hl.1 rfl (Nat.le_of_ble_eq_true rfl) dX8_restore_3 ⟨Nat.le_of_ble_eq_true rfl, Nat.le_of_ble_eq_true rfl⟩) ⟨rfl, rfl⟩ hP hD hS hA [] rfl (fun _ => rfl) (fun r3 _ H locs hw hP hD hS => ?_)
  have hP : va_P D vwCl [(o, .inr (8, [.int (nI n), .ref me, .ref ml, .ref mb, .int fi, .int (nI nl), .ref mt, .int si, .ref ms, .int sn, .ref mp, .ref my, .ref mc, .int la, .ref mk, .ref mw, .int ah, .int ri, .int lh, .ref mo, .ref mq, .ref mi, .ref mz])), (me, .inl (cI, 6, .inl fe)), (ml, .inl (cI, 6, .inl fl)), (mb, .inl (cI, 6, .inl fb)), (mt, .inl (cI, 20, .inl fs)), (ms, .inl (cI, 12, .inl fw)), (mi, .inl (cI, 112, .inl mf)), (mz, .inl (cZ, 2, .inl zf))] H := hP
  have hD : va_D A [(o, .inr (8, [.int (nI n), .ref me, .ref ml, .ref mb, .int fi, .int (nI nl), .ref mt, .int si, .ref ms, .int sn, .ref mp, .ref my, .ref mc, .int la, .ref mk, .ref mw, .int ah, .int ri, .int lh, .ref mo, .ref mq, .ref mi, .ref mz])), (me, .inl (cI, 6, .inl fe)), (ml, .inl (cI, 6, .inl fl)), (mb, .inl (cI, 6, .inl fb)), (mt, .inl (cI, 20, .inl fs)), (ms, .inl (cI, 12, .inl fw)), (mi, .inl (cI, 112, .inl mf)), (mz, .inl (cZ, 2, .inl zf))] := hD
  rcases hw with ⟨b3, rfl⟩ | ⟨b3, rfl⟩
  · refine lv_if_ne (tgt := 12) hx hb dX8_restore_6 (by decide) (fun _ => ?_) (fun c9 => absurd c9 (by decide))
    refine lv_aload_n hx hb dX8_restore_12 rfl (lv_at hl 0 rfl) ?_
    refine va_get (D := D) (ci := 8) (v := .ref mz) (C := RX8) (T := TX8) (N := 23) hx hb hts hi8 hown hK hP 0 rfl rfl 22 (by decide) hw0 (fun _ h9 => h9) rfl dX8_restore_13 ?_
    refine lv_iload_n hx hb dX8_restore_16 rfl (lv_at hl 1 rfl) ?_
    refine zald_n (k := kx) hx hb hK hP 7 2 rfl rfl (by omega) (by omega) dX8_restore_17 ?_
    refine lv_topi (fun y9 e9 => ?_)
    have e9 : nI 1 = y9 := (e9.trans (hz)).symm
    subst e9
    refine lv_if_ne (tgt := 24) hx hb dX8_restore_18 (by decide) (fun _ => ?_) (fun c9 => absurd c9 (by decide))
    refine lv_bipush (v := nI 56) hx hb dX8_restore_24 (by decide) ?_
    refine lv_iload_n hx hb dX8_restore_26 rfl (lv_at hl 1 rfl) ?_
    refine imul_n (a := 56) (b := kx) hx hb dX8_restore_27 ?_
    refine lv_istore_n (lv' := [(2, .int (nI (56 * kx))), (0, .ref o), (1, .int (nI kx))]) hx hb dX8_restore_28 rfl hl (by decide) rfl (fun ls hl => ?_)
    refine lv_iconst (v := nI 0) hx hb dX8_restore_29 (by decide) ?_
    refine lv_istore_n (lv' := [(3, .int (nI 0)), (2, .int (nI (56 * kx))), (0, .ref o), (1, .int (nI kx))]) hx hb dX8_restore_30 rfl hl (by decide) rfl (fun ls hl => ?_)
    have L31 : ∀ (n9 : Nat) (k : Nat) (fe fl fb : Nat → Int32) (hk : k ≤ 6) (hE9 : ∀ j, j < k → fe j = mf (56 * kx + j)) (hL9 : ∀ j, j < k → fl j = mf (56 * kx + 6 + j)) (hB9 : ∀ j, j < k → fb j = mf (56 * kx + 12 + j)), 6 - k < n9 → ∀ (H : Heap) (locs : List Loc), va_P D vwCl [(o, .inr (8, [.int (nI n), .ref me, .ref ml, .ref mb, .int fi, .int (nI nl), .ref mt, .int si, .ref ms, .int sn, .ref mp, .ref my, .ref mc, .int la, .ref mk, .ref mw, .int ah, .int ri, .int lh, .ref mo, .ref mq, .ref mi, .ref mz])), (me, .inl (cI, 6, .inl fe)), (ml, .inl (cI, 6, .inl fl)), (mb, .inl (cI, 6, .inl fb)), (mt, .inl (cI, 20, .inl fs)), (ms, .inl (cI, 12, .inl fw)), (mi, .inl (cI, 112, .inl mf)), (mz, .inl (cZ, 2, .inl zf))] H → va_D A [(o, .inr (8, [.int (nI n), .ref me, .ref ml, .ref mb, .int fi, .int (nI nl), .ref mt, .int si, .ref ms, .int sn, .ref mp, .ref my, .ref mc, .int la, .ref mk, .ref mw, .int ah, .int ri, .int lh, .ref mo, .ref mq, .ref mi, .ref mz])), (me, .inl (cI, 6, .inl fe)), (ml, .inl (cI, 6, .inl fl)), (mb, .inl (cI, 6, .inl fb)), (mt, .inl (cI, 20, .inl fs)), (ms, .inl (cI, 12, .inl fw)), (mi, .inl (cI, 112, .inl mf)), (mz, .inl (cZ, 2, .inl zf))] → va_S A s.heap H locs → ∀ (ls : Array Slot), lv_has ls 4 [(0, .ref o), (1, .int (nI kx)), (2, .int (nI (56 * kx))), (3, .int (nI k))] → W p l e rm_X8_restore s m args below meth c H locs 0 0 Q (F0 m 31 ls []) := by
      intro n9
      induction n9 with
      | zero => intro k fe fl fb hk hE9 hL9 hB9 hm; exact absurd hm (Nat.not_lt_zero _)
      | succ n9 ih31 =>
        intro k fe fl fb hk hE9 hL9 hB9 hm31 H locs hP hD hS ls hl
        refine lv_iload_n hx hb dX8_restore_31 rfl (lv_at hl 3 rfl) ?_
        refine lv_bipush (v := nI 6) hx hb dX8_restore_32 (by decide) ?_
        refine icmp_ge_n (a := k) (b := 6) (tgt := 91) hx hb dX8_restore_34 (by decide) (by omega) (by omega) (fun c34 => ?_) (fun c34 => ?_)
        · have ek9 : k = 6 := by omega
          rw [ek9] at hE9
          rw [ek9] at hL9
          rw [ek9] at hB9
          refine lv_iconst (v := nI 0) hx hb dX8_restore_91 (by decide) ?_
          refine lv_istore_n (lv' := [(3, .int (nI 0)), (0, .ref o), (1, .int (nI kx)), (2, .int (nI (56 * kx)))]) hx hb dX8_restore_92 rfl hl (by decide) rfl (fun ls hl => ?_)
          have L93 : ∀ (n9 : Nat) (k : Nat) (fs : Nat → Int32) (hk : k ≤ 20) (hT9 : ∀ j, j < k → fs j = mf (56 * kx + 18 + j)), 20 - k < n9 → ∀ (H : Heap) (locs : List Loc), va_P D vwCl [(o, .inr (8, [.int (nI n), .ref me, .ref ml, .ref mb, .int fi, .int (nI nl), .ref mt, .int si, .ref ms, .int sn, .ref mp, .ref my, .ref mc, .int la, .ref mk, .ref mw, .int ah, .int ri, .int lh, .ref mo, .ref mq, .ref mi, .ref mz])), (me, .inl (cI, 6, .inl fe)), (ml, .inl (cI, 6, .inl fl)), (mb, .inl (cI, 6, .inl fb)), (mt, .inl (cI, 20, .inl fs)), (ms, .inl (cI, 12, .inl fw)), (mi, .inl (cI, 112, .inl mf)), (mz, .inl (cZ, 2, .inl zf))] H → va_D A [(o, .inr (8, [.int (nI n), .ref me, .ref ml, .ref mb, .int fi, .int (nI nl), .ref mt, .int si, .ref ms, .int sn, .ref mp, .ref my, .ref mc, .int la, .ref mk, .ref mw, .int ah, .int ri, .int lh, .ref mo, .ref mq, .ref mi, .ref mz])), (me, .inl (cI, 6, .inl fe)), (ml, .inl (cI, 6, .inl fl)), (mb, .inl (cI, 6, .inl fb)), (mt, .inl (cI, 20, .inl fs)), (ms, .inl (cI, 12, .inl fw)), (mi, .inl (cI, 112, .inl mf)), (mz, .inl (cZ, 2, .inl zf))] → va_S A s.heap H locs → ∀ (ls : Array Slot), lv_has ls 4 [(0, .ref o), (1, .int (nI kx)), (2, .int (nI (56 * kx))), (3, .int (nI k))] → W p l e rm_X8_restore s m args below meth c H locs 0 0 Q (F0 m 93 ls []) := by
            intro n9
            induction n9 with
            | zero => intro k fs hk hT9 hm; exact absurd hm (Nat.not_lt_zero _)
            | succ n9 ih93 =>
              intro k fs hk hT9 hm93 H locs hP hD hS ls hl
              refine lv_iload_n hx hb dX8_restore_93 rfl (lv_at hl 3 rfl) ?_
              refine lv_bipush (v := nI 20) hx hb dX8_restore_94 (by decide) ?_
              refine icmp_ge_n (a := k) (b := 20) (tgt := 122) hx hb dX8_restore_96 (by decide) (by omega) (by omega) (fun c96 => ?_) (fun c96 => ?_)
              · have ek9 : k = 20 := by omega
                rw [ek9] at hT9
                refine lv_iconst (v := nI 0) hx hb dX8_restore_122 (by decide) ?_
                refine lv_istore_n (lv' := [(3, .int (nI 0)), (0, .ref o), (1, .int (nI kx)), (2, .int (nI (56 * kx)))]) hx hb dX8_restore_123 rfl hl (by decide) rfl (fun ls hl => ?_)
                have L124 : ∀ (n9 : Nat) (k : Nat) (fw : Nat → Int32) (hk : k ≤ 12) (hW9 : ∀ j, j < k → fw j = mf (56 * kx + 38 + j)), 12 - k < n9 → ∀ (H : Heap) (locs : List Loc), va_P D vwCl [(o, .inr (8, [.int (nI n), .ref me, .ref ml, .ref mb, .int fi, .int (nI nl), .ref mt, .int si, .ref ms, .int sn, .ref mp, .ref my, .ref mc, .int la, .ref mk, .ref mw, .int ah, .int ri, .int lh, .ref mo, .ref mq, .ref mi, .ref mz])), (me, .inl (cI, 6, .inl fe)), (ml, .inl (cI, 6, .inl fl)), (mb, .inl (cI, 6, .inl fb)), (mt, .inl (cI, 20, .inl fs)), (ms, .inl (cI, 12, .inl fw)), (mi, .inl (cI, 112, .inl mf)), (mz, .inl (cZ, 2, .inl zf))] H → va_D A [(o, .inr (8, [.int (nI n), .ref me, .ref ml, .ref mb, .int fi, .int (nI nl), .ref mt, .int si, .ref ms, .int sn, .ref mp, .ref my, .ref mc, .int la, .ref mk, .ref mw, .int ah, .int ri, .int lh, .ref mo, .ref mq, .ref mi, .ref mz])), (me, .inl (cI, 6, .inl fe)), (ml, .inl (cI, 6, .inl fl)), (mb, .inl (cI, 6, .inl fb)), (mt, .inl (cI, 20, .inl fs)), (ms, .inl (cI, 12, .inl fw)), (mi, .inl (cI, 112, .inl mf)), (mz, .inl (cZ, 2, .inl zf))] → va_S A s.heap H locs → ∀ (ls : Array Slot), lv_has ls 4 [(0, .ref o), (1, .int (nI kx)), (2, .int (nI (56 * kx))), (3, .int (nI k))] → W p l e rm_X8_restore s m args below meth c H locs 0 0 Q (F0 m 124 ls []) := by
                  intro n9
                  induction n9 with
                  | zero => intro k fw hk hW9 hm; exact absurd hm (Nat.not_lt_zero _)
                  | succ n9 ih124 =>
                    intro k fw hk hW9 hm124 H locs hP hD hS ls hl
                    refine lv_iload_n hx hb dX8_restore_124 rfl (lv_at hl 3 rfl) ?_
                    refine lv_bipush (v := nI 12) hx hb dX8_restore_125 (by decide) ?_
                    refine icmp_ge_n (a := k) (b := 12) (tgt := 153) hx hb dX8_restore_127 (by decide) (by omega) (by omega) (fun c127 => ?_) (fun c127 => ?_)
                    · refine lv_aload_n hx hb dX8_restore_153 rfl (lv_at hl 0 rfl) ?_
                      refine lv_aload_n hx hb dX8_restore_154 rfl (lv_at hl 0 rfl) ?_
                      refine va_get (D := D) (ci := 8) (v := .ref mi) (C := RX8) (T := TX8) (N := 23) hx hb hts hi8 hown hK hP 0 rfl rfl 21 (by decide) hw2 (fun _ h9 => h9) rfl dX8_restore_155 ?_
                      refine lv_iload_n hx hb dX8_restore_158 rfl (lv_at hl 2 rfl) ?_
                      refine lv_bipush (v := nI 50) hx hb dX8_restore_159 (by decide) ?_
                      refine iadd_n (a := 56 * kx) (b := 50) hx hb dX8_restore_161 ?_
                      refine iald_n (k := (56 * kx) + 50) hx hb hK hP 6 0 rfl rfl (by omega) (by omega) dX8_restore_162 ?_
                      refine lv_topi (fun y9 e9 => ?_)
                      have e9 : nI n2 = y9 := (e9.trans (h50)).symm
                      subst e9
                      refine va_put (D := D) (ci := 8) (v := .int (nI n2)) (ty := .int) (C := RX8) (T := TX8) (N := 23) hx hb hts hi8 tyX8 tyX8_ok nmX8 hown hK hP hD hS 0 rfl rfl 0 (by decide) hw3 (fun _ h9 => h9) rfl (by decide +kernel) rfl rfl (Nat.le_of_ble_eq_true rfl) dX8_restore_163 (fun H locs hP hD hS => ?_)
                      have hP : va_P D vwCl [(o, .inr (8, [.int (nI n2), .ref me, .ref ml, .ref mb, .int fi, .int (nI nl), .ref mt, .int si, .ref ms, .int sn, .ref mp, .ref my, .ref mc, .int la, .ref mk, .ref mw, .int ah, .int ri, .int lh, .ref mo, .ref mq, .ref mi, .ref mz])), (me, .inl (cI, 6, .inl fe)), (ml, .inl (cI, 6, .inl fl)), (mb, .inl (cI, 6, .inl fb)), (mt, .inl (cI, 20, .inl fs)), (ms, .inl (cI, 12, .inl fw)), (mi, .inl (cI, 112, .inl mf)), (mz, .inl (cZ, 2, .inl zf))] H := hP
                      have hD : va_D A [(o, .inr (8, [.int (nI n2), .ref me, .ref ml, .ref mb, .int fi, .int (nI nl), .ref mt, .int si, .ref ms, .int sn, .ref mp, .ref my, .ref mc, .int la, .ref mk, .ref mw, .int ah, .int ri, .int lh, .ref mo, .ref mq, .ref mi, .ref mz])), (me, .inl (cI, 6, .inl fe)), (ml, .inl (cI, 6, .inl fl)), (mb, .inl (cI, 6, .inl fb)), (mt, .inl (cI, 20, .inl fs)), (ms, .inl (cI, 12, .inl fw)), (mi, .inl (cI, 112, .inl mf)), (mz, .inl (cZ, 2, .inl zf))] := hD
                      refine lv_aload_n hx hb dX8_restore_166 rfl (lv_at hl 0 rfl) ?_
                      refine lv_aload_n hx hb dX8_restore_167 rfl (lv_at hl 0 rfl) ?_
                      refine va_get (D := D) (ci := 8) (v := .ref mi) (C := RX8) (T := TX8) (N := 23) hx hb hts hi8 hown hK hP 0 rfl rfl 21 (by decide) hw2 (fun _ h9 => h9) rfl dX8_restore_168 ?_
                      refine lv_iload_n hx hb dX8_restore_171 rfl (lv_at hl 2 rfl) ?_
                      refine lv_bipush (v := nI 51) hx hb dX8_restore_172 (by decide) ?_
                      refine iadd_n (a := 56 * kx) (b := 51) hx hb dX8_restore_174 ?_
                      refine iald_n (k := (56 * kx) + 51) hx hb hK hP 6 0 rfl rfl (by omega) (by omega) dX8_restore_175 ?_
                      refine lv_topi (fun y9 e9 => ?_)
                      have e9 : fi2 = y9 := (e9.trans (h51)).symm
                      subst e9
                      refine va_put (D := D) (ci := 8) (v := .int fi2) (ty := .int) (C := RX8) (T := TX8) (N := 23) hx hb hts hi8 tyX8 tyX8_ok nmX8 hown hK hP hD hS 0 rfl rfl 4 (by decide) hw4 (fun _ h9 => h9) rfl (by decide +kernel) rfl rfl (Nat.le_of_ble_eq_true rfl) dX8_restore_176 (fun H locs hP hD hS => ?_)
                      have hP : va_P D vwCl [(o, .inr (8, [.int (nI n2), .ref me, .ref ml, .ref mb, .int fi2, .int (nI nl), .ref mt, .int si, .ref ms, .int sn, .ref mp, .ref my, .ref mc, .int la, .ref mk, .ref mw, .int ah, .int ri, .int lh, .ref mo, .ref mq, .ref mi, .ref mz])), (me, .inl (cI, 6, .inl fe)), (ml, .inl (cI, 6, .inl fl)), (mb, .inl (cI, 6, .inl fb)), (mt, .inl (cI, 20, .inl fs)), (ms, .inl (cI, 12, .inl fw)), (mi, .inl (cI, 112, .inl mf)), (mz, .inl (cZ, 2, .inl zf))] H := hP
                      have hD : va_D A [(o, .inr (8, [.int (nI n2), .ref me, .ref ml, .ref mb, .int fi2, .int (nI nl), .ref mt, .int si, .ref ms, .int sn, .ref mp, .ref my, .ref mc, .int la, .ref mk, .ref mw, .int ah, .int ri, .int lh, .ref mo, .ref mq, .ref mi, .ref mz])), (me, .inl (cI, 6, .inl fe)), (ml, .inl (cI, 6, .inl fl)), (mb, .inl (cI, 6, .inl fb)), (mt, .inl (cI, 20, .inl fs)), (ms, .inl (cI, 12, .inl fw)), (mi, .inl (cI, 112, .inl mf)), (mz, .inl (cZ, 2, .inl zf))] := hD
                      refine lv_aload_n hx hb dX8_restore_179 rfl (lv_at hl 0 rfl) ?_
                      refine lv_aload_n hx hb dX8_restore_180 rfl (lv_at hl 0 rfl) ?_
                      refine va_get (D := D) (ci := 8) (v := .ref mi) (C := RX8) (T := TX8) (N := 23) hx hb hts hi8 hown hK hP 0 rfl rfl 21 (by decide) hw2 (fun _ h9 => h9) rfl dX8_restore_181 ?_
                      refine lv_iload_n hx hb dX8_restore_184 rfl (lv_at hl 2 rfl) ?_
                      refine lv_bipush (v := nI 52) hx hb dX8_restore_185 (by decide) ?_
                      refine iadd_n (a := 56 * kx) (b := 52) hx hb dX8_restore_187 ?_
                      refine iald_n (k := (56 * kx) + 52) hx hb hK hP 6 0 rfl rfl (by omega) (by omega) dX8_restore_188 ?_
                      refine lv_topi (fun y9 e9 => ?_)
                      have e9 : nI nl2 = y9 := (e9.trans (h52)).symm
                      subst e9
                      refine va_put (D := D) (ci := 8) (v := .int (nI nl2)) (ty := .int) (C := RX8) (T := TX8) (N := 23) hx hb hts hi8 tyX8 tyX8_ok nmX8 hown hK hP hD hS 0 rfl rfl 5 (by decide) hw5 (fun _ h9 => h9) rfl (by decide +kernel) rfl rfl (Nat.le_of_ble_eq_true rfl) dX8_restore_189 (fun H locs hP hD hS => ?_)
                      have hP : va_P D vwCl [(o, .inr (8, [.int (nI n2), .ref me, .ref ml, .ref mb, .int fi2, .int (nI nl2), .ref mt, .int si, .ref ms, .int sn, .ref mp, .ref my, .ref mc, .int la, .ref mk, .ref mw, .int ah, .int ri, .int lh, .ref mo, .ref mq, .ref mi, .ref mz])), (me, .inl (cI, 6, .inl fe)), (ml, .inl (cI, 6, .inl fl)), (mb, .inl (cI, 6, .inl fb)), (mt, .inl (cI, 20, .inl fs)), (ms, .inl (cI, 12, .inl fw)), (mi, .inl (cI, 112, .inl mf)), (mz, .inl (cZ, 2, .inl zf))] H := hP
                      have hD : va_D A [(o, .inr (8, [.int (nI n2), .ref me, .ref ml, .ref mb, .int fi2, .int (nI nl2), .ref mt, .int si, .ref ms, .int sn, .ref mp, .ref my, .ref mc, .int la, .ref mk, .ref mw, .int ah, .int ri, .int lh, .ref mo, .ref mq, .ref mi, .ref mz])), (me, .inl (cI, 6, .inl fe)), (ml, .inl (cI, 6, .inl fl)), (mb, .inl (cI, 6, .inl fb)), (mt, .inl (cI, 20, .inl fs)), (ms, .inl (cI, 12, .inl fw)), (mi, .inl (cI, 112, .inl mf)), (mz, .inl (cZ, 2, .inl zf))] := hD
                      refine lv_aload_n hx hb dX8_restore_192 rfl (lv_at hl 0 rfl) ?_
                      refine lv_aload_n hx hb dX8_restore_193 rfl (lv_at hl 0 rfl) ?_
                      refine va_get (D := D) (ci := 8) (v := .ref mi) (C := RX8) (T := TX8) (N := 23) hx hb hts hi8 hown hK hP 0 rfl rfl 21 (by decide) hw2 (fun _ h9 => h9) rfl dX8_restore_194 ?_
                      refine lv_iload_n hx hb dX8_restore_197 rfl (lv_at hl 2 rfl) ?_
                      refine lv_bipush (v := nI 53) hx hb dX8_restore_198 (by decide) ?_
                      refine iadd_n (a := 56 * kx) (b := 53) hx hb dX8_restore_200 ?_
                      refine iald_n (k := (56 * kx) + 53) hx hb hK hP 6 0 rfl rfl (by omega) (by omega) dX8_restore_201 ?_
                      refine lv_topi (fun y9 e9 => ?_)
                      have e9 : nI ns2 = y9 := (e9.trans (h53)).symm
                      subst e9
                      refine va_put (D := D) (ci := 8) (v := .int (nI ns2)) (ty := .int) (C := RX8) (T := TX8) (N := 23) hx hb hts hi8 tyX8 tyX8_ok nmX8 hown hK hP hD hS 0 rfl rfl 7 (by decide) hw6 (fun _ h9 => h9) rfl (by decide +kernel) rfl rfl (Nat.le_of_ble_eq_true rfl) dX8_restore_202 (fun H locs hP hD hS => ?_)
                      have hP : va_P D vwCl [(o, .inr (8, [.int (nI n2), .ref me, .ref ml, .ref mb, .int fi2, .int (nI nl2), .ref mt, .int (nI ns2), .ref ms, .int sn, .ref mp, .ref my, .ref mc, .int la, .ref mk, .ref mw, .int ah, .int ri, .int lh, .ref mo, .ref mq, .ref mi, .ref mz])), (me, .inl (cI, 6, .inl fe)), (ml, .inl (cI, 6, .inl fl)), (mb, .inl (cI, 6, .inl fb)), (mt, .inl (cI, 20, .inl fs)), (ms, .inl (cI, 12, .inl fw)), (mi, .inl (cI, 112, .inl mf)), (mz, .inl (cZ, 2, .inl zf))] H := hP
                      have hD : va_D A [(o, .inr (8, [.int (nI n2), .ref me, .ref ml, .ref mb, .int fi2, .int (nI nl2), .ref mt, .int (nI ns2), .ref ms, .int sn, .ref mp, .ref my, .ref mc, .int la, .ref mk, .ref mw, .int ah, .int ri, .int lh, .ref mo, .ref mq, .ref mi, .ref mz])), (me, .inl (cI, 6, .inl fe)), (ml, .inl (cI, 6, .inl fl)), (mb, .inl (cI, 6, .inl fb)), (mt, .inl (cI, 20, .inl fs)), (ms, .inl (cI, 12, .inl fw)), (mi, .inl (cI, 112, .inl mf)), (mz, .inl (cZ, 2, .inl zf))] := hD
                      refine lv_iconst (v := nI 1) hx hb dX8_restore_205 (by decide) ?_
                      exact hret (nI 1) ((fe, fl, fb, fs, fw)) _ _ _ _ dX8_restore_206 ⟨fun j hj => hE9 j hj, fun j hj => hL9 j hj, fun j hj => hB9 j hj, fun j hj => hT9 j hj, fun j hj => hW9 j (by omega), rfl⟩ hP hD hS
                    · refine lv_aload_n hx hb dX8_restore_130 rfl (lv_at hl 0 rfl) ?_
                      refine va_get (D := D) (ci := 8) (v := .ref ms) (C := RX8) (T := TX8) (N := 23) hx hb hts hi8 hown hK hP 0 rfl rfl 8 (by decide) hw7 (fun _ h9 => h9) rfl dX8_restore_131 ?_
                      refine lv_iload_n hx hb dX8_restore_134 rfl (lv_at hl 3 rfl) ?_
                      refine lv_aload_n hx hb dX8_restore_135 rfl (lv_at hl 0 rfl) ?_
                      refine va_get (D := D) (ci := 8) (v := .ref mi) (C := RX8) (T := TX8) (N := 23) hx hb hts hi8 hown hK hP 0 rfl rfl 21 (by decide) hw2 (fun _ h9 => h9) rfl dX8_restore_136 ?_
                      refine lv_iload_n hx hb dX8_restore_139 rfl (lv_at hl 2 rfl) ?_
                      refine lv_bipush (v := nI 38) hx hb dX8_restore_140 (by decide) ?_
                      refine iadd_n (a := 56 * kx) (b := 38) hx hb dX8_restore_142 ?_
                      refine lv_iload_n hx hb dX8_restore_143 rfl (lv_at hl 3 rfl) ?_
                      refine iadd_n (a := (56 * kx) + 38) (b := k) hx hb dX8_restore_144 ?_
                      refine iald_n (k := ((56 * kx) + 38) + k) hx hb hK hP 6 0 rfl rfl (by omega) (by omega) dX8_restore_145 ?_
                      refine iast_n (k := k) hx hb hK hP hD hS 5 0 rfl rfl (by omega) (by omega) dX8_restore_146 (fun H locs hP hD hS => ?_)
                      have hP : va_P D vwCl [(o, .inr (8, [.int (nI n), .ref me, .ref ml, .ref mb, .int fi, .int (nI nl), .ref mt, .int si, .ref ms, .int sn, .ref mp, .ref my, .ref mc, .int la, .ref mk, .ref mw, .int ah, .int ri, .int lh, .ref mo, .ref mq, .ref mi, .ref mz])), (me, .inl (cI, 6, .inl fe)), (ml, .inl (cI, 6, .inl fl)), (mb, .inl (cI, 6, .inl fb)), (mt, .inl (cI, 20, .inl fs)), (ms, .inl (cI, 12, .inl (upd fw k (mf (((56 * kx) + 38) + k))))), (mi, .inl (cI, 112, .inl mf)), (mz, .inl (cZ, 2, .inl zf))] H := hP
                      have hD : va_D A [(o, .inr (8, [.int (nI n), .ref me, .ref ml, .ref mb, .int fi, .int (nI nl), .ref mt, .int si, .ref ms, .int sn, .ref mp, .ref my, .ref mc, .int la, .ref mk, .ref mw, .int ah, .int ri, .int lh, .ref mo, .ref mq, .ref mi, .ref mz])), (me, .inl (cI, 6, .inl fe)), (ml, .inl (cI, 6, .inl fl)), (mb, .inl (cI, 6, .inl fb)), (mt, .inl (cI, 20, .inl fs)), (ms, .inl (cI, 12, .inl (upd fw k (mf (((56 * kx) + 38) + k))))), (mi, .inl (cI, 112, .inl mf)), (mz, .inl (cZ, 2, .inl zf))] := hD
                      refine lv_iinc (v := nI (k + 1)) (lv' := [(3, .int (nI (k + 1))), (0, .ref o), (1, .int (nI kx)), (2, .int (nI (56 * kx)))]) hx hb dX8_restore_147 hl (k := 3) rfl (nI_1 k) (by decide) rfl (fun ls hl => ?_)
                      refine lv_goto (tgt := 124) hx hb dX8_restore_150 (by decide) ?_
                      exact ih124 (k + 1) (upd fw k (mf (((56 * kx) + 38) + k))) ((by omega)) ((fun j hj => by rcases Nat.lt_or_ge j k with z | z; (exact (pk_un (by omega)).trans (hW9 j z)); (rw [show j = k by omega]; exact pk_us))) (by omega) _ _ hP hD hS _ (lv_sub hl [1, 2, 3, 0] rfl)
                exact L124 _ 0 fw ((by omega)) ((fun j hj => absurd hj (Nat.not_lt_zero j))) (Nat.lt_succ_self _) _ _ hP hD hS _ (lv_sub hl [1, 2, 3, 0] rfl)
              · refine lv_aload_n hx hb dX8_restore_99 rfl (lv_at hl 0 rfl) ?_
                refine va_get (D := D) (ci := 8) (v := .ref mt) (C := RX8) (T := TX8) (N := 23) hx hb hts hi8 hown hK hP 0 rfl rfl 6 (by decide) hw8 (fun _ h9 => h9) rfl dX8_restore_100 ?_
                refine lv_iload_n hx hb dX8_restore_103 rfl (lv_at hl 3 rfl) ?_
                refine lv_aload_n hx hb dX8_restore_104 rfl (lv_at hl 0 rfl) ?_
                refine va_get (D := D) (ci := 8) (v := .ref mi) (C := RX8) (T := TX8) (N := 23) hx hb hts hi8 hown hK hP 0 rfl rfl 21 (by decide) hw2 (fun _ h9 => h9) rfl dX8_restore_105 ?_
                refine lv_iload_n hx hb dX8_restore_108 rfl (lv_at hl 2 rfl) ?_
                refine lv_bipush (v := nI 18) hx hb dX8_restore_109 (by decide) ?_
                refine iadd_n (a := 56 * kx) (b := 18) hx hb dX8_restore_111 ?_
                refine lv_iload_n hx hb dX8_restore_112 rfl (lv_at hl 3 rfl) ?_
                refine iadd_n (a := (56 * kx) + 18) (b := k) hx hb dX8_restore_113 ?_
                refine iald_n (k := ((56 * kx) + 18) + k) hx hb hK hP 6 0 rfl rfl (by omega) (by omega) dX8_restore_114 ?_
                refine iast_n (k := k) hx hb hK hP hD hS 4 0 rfl rfl (by omega) (by omega) dX8_restore_115 (fun H locs hP hD hS => ?_)
                have hP : va_P D vwCl [(o, .inr (8, [.int (nI n), .ref me, .ref ml, .ref mb, .int fi, .int (nI nl), .ref mt, .int si, .ref ms, .int sn, .ref mp, .ref my, .ref mc, .int la, .ref mk, .ref mw, .int ah, .int ri, .int lh, .ref mo, .ref mq, .ref mi, .ref mz])), (me, .inl (cI, 6, .inl fe)), (ml, .inl (cI, 6, .inl fl)), (mb, .inl (cI, 6, .inl fb)), (mt, .inl (cI, 20, .inl (upd fs k (mf (((56 * kx) + 18) + k))))), (ms, .inl (cI, 12, .inl fw)), (mi, .inl (cI, 112, .inl mf)), (mz, .inl (cZ, 2, .inl zf))] H := hP
                have hD : va_D A [(o, .inr (8, [.int (nI n), .ref me, .ref ml, .ref mb, .int fi, .int (nI nl), .ref mt, .int si, .ref ms, .int sn, .ref mp, .ref my, .ref mc, .int la, .ref mk, .ref mw, .int ah, .int ri, .int lh, .ref mo, .ref mq, .ref mi, .ref mz])), (me, .inl (cI, 6, .inl fe)), (ml, .inl (cI, 6, .inl fl)), (mb, .inl (cI, 6, .inl fb)), (mt, .inl (cI, 20, .inl (upd fs k (mf (((56 * kx) + 18) + k))))), (ms, .inl (cI, 12, .inl fw)), (mi, .inl (cI, 112, .inl mf)), (mz, .inl (cZ, 2, .inl zf))] := hD
                refine lv_iinc (v := nI (k + 1)) (lv' := [(3, .int (nI (k + 1))), (0, .ref o), (1, .int (nI kx)), (2, .int (nI (56 * kx)))]) hx hb dX8_restore_116 hl (k := 3) rfl (nI_1 k) (by decide) rfl (fun ls hl => ?_)
                refine lv_goto (tgt := 93) hx hb dX8_restore_119 (by decide) ?_
                exact ih93 (k + 1) (upd fs k (mf (((56 * kx) + 18) + k))) ((by omega)) ((fun j hj => by rcases Nat.lt_or_ge j k with z | z; (exact (pk_un (by omega)).trans (hT9 j z)); (rw [show j = k by omega]; exact pk_us))) (by omega) _ _ hP hD hS _ (lv_sub hl [1, 2, 3, 0] rfl)
          exact L93 _ 0 fs ((by omega)) ((fun j hj => absurd hj (Nat.not_lt_zero j))) (Nat.lt_succ_self _) _ _ hP hD hS _ (lv_sub hl [1, 2, 3, 0] rfl)
        · refine lv_aload_n hx hb dX8_restore_37 rfl (lv_at hl 0 rfl) ?_
          refine va_get (D := D) (ci := 8) (v := .ref me) (C := RX8) (T := TX8) (N := 23) hx hb hts hi8 hown hK hP 0 rfl rfl 1 (by decide) hw9 (fun _ h9 => h9) rfl dX8_restore_38 ?_
          refine lv_iload_n hx hb dX8_restore_41 rfl (lv_at hl 3 rfl) ?_
          refine lv_aload_n hx hb dX8_restore_42 rfl (lv_at hl 0 rfl) ?_
          refine va_get (D := D) (ci := 8) (v := .ref mi) (C := RX8) (T := TX8) (N := 23) hx hb hts hi8 hown hK hP 0 rfl rfl 21 (by decide) hw2 (fun _ h9 => h9) rfl dX8_restore_43 ?_
          refine lv_iload_n hx hb dX8_restore_46 rfl (lv_at hl 2 rfl) ?_
          refine lv_iload_n hx hb dX8_restore_47 rfl (lv_at hl 3 rfl) ?_
          refine iadd_n (a := 56 * kx) (b := k) hx hb dX8_restore_48 ?_
          refine iald_n (k := (56 * kx) + k) hx hb hK hP 6 0 rfl rfl (by omega) (by omega) dX8_restore_49 ?_
          refine iast_n (k := k) hx hb hK hP hD hS 1 0 rfl rfl (by omega) (by omega) dX8_restore_50 (fun H locs hP hD hS => ?_)
          have hP : va_P D vwCl [(o, .inr (8, [.int (nI n), .ref me, .ref ml, .ref mb, .int fi, .int (nI nl), .ref mt, .int si, .ref ms, .int sn, .ref mp, .ref my, .ref mc, .int la, .ref mk, .ref mw, .int ah, .int ri, .int lh, .ref mo, .ref mq, .ref mi, .ref mz])), (me, .inl (cI, 6, .inl (upd fe k (mf ((56 * kx) + k))))), (ml, .inl (cI, 6, .inl fl)), (mb, .inl (cI, 6, .inl fb)), (mt, .inl (cI, 20, .inl fs)), (ms, .inl (cI, 12, .inl fw)), (mi, .inl (cI, 112, .inl mf)), (mz, .inl (cZ, 2, .inl zf))] H := hP
          have hD : va_D A [(o, .inr (8, [.int (nI n), .ref me, .ref ml, .ref mb, .int fi, .int (nI nl), .ref mt, .int si, .ref ms, .int sn, .ref mp, .ref my, .ref mc, .int la, .ref mk, .ref mw, .int ah, .int ri, .int lh, .ref mo, .ref mq, .ref mi, .ref mz])), (me, .inl (cI, 6, .inl (upd fe k (mf ((56 * kx) + k))))), (ml, .inl (cI, 6, .inl fl)), (mb, .inl (cI, 6, .inl fb)), (mt, .inl (cI, 20, .inl fs)), (ms, .inl (cI, 12, .inl fw)), (mi, .inl (cI, 112, .inl mf)), (mz, .inl (cZ, 2, .inl zf))] := hD
          refine lv_aload_n hx hb dX8_restore_51 rfl (lv_at hl 0 rfl) ?_
          refine va_get (D := D) (ci := 8) (v := .ref ml) (C := RX8) (T := TX8) (N := 23) hx hb hts hi8 hown hK hP 0 rfl rfl 2 (by decide) hw10 (fun _ h9 => h9) rfl dX8_restore_52 ?_
          refine lv_iload_n hx hb dX8_restore_55 rfl (lv_at hl 3 rfl) ?_
          refine lv_aload_n hx hb dX8_restore_56 rfl (lv_at hl 0 rfl) ?_
          refine va_get (D := D) (ci := 8) (v := .ref mi) (C := RX8) (T := TX8) (N := 23) hx hb hts hi8 hown hK hP 0 rfl rfl 21 (by decide) hw2 (fun _ h9 => h9) rfl dX8_restore_57 ?_
          refine lv_iload_n hx hb dX8_restore_60 rfl (lv_at hl 2 rfl) ?_
          refine lv_bipush (v := nI 6) hx hb dX8_restore_61 (by decide) ?_
          refine iadd_n (a := 56 * kx) (b := 6) hx hb dX8_restore_63 ?_
          refine lv_iload_n hx hb dX8_restore_64 rfl (lv_at hl 3 rfl) ?_
          refine iadd_n (a := (56 * kx) + 6) (b := k) hx hb dX8_restore_65 ?_
          refine iald_n (k := ((56 * kx) + 6) + k) hx hb hK hP 6 0 rfl rfl (by omega) (by omega) dX8_restore_66 ?_
          refine iast_n (k := k) hx hb hK hP hD hS 2 0 rfl rfl (by omega) (by omega) dX8_restore_67 (fun H locs hP hD hS => ?_)
          have hP : va_P D vwCl [(o, .inr (8, [.int (nI n), .ref me, .ref ml, .ref mb, .int fi, .int (nI nl), .ref mt, .int si, .ref ms, .int sn, .ref mp, .ref my, .ref mc, .int la, .ref mk, .ref mw, .int ah, .int ri, .int lh, .ref mo, .ref mq, .ref mi, .ref mz])), (me, .inl (cI, 6, .inl (upd fe k (mf ((56 * kx) + k))))), (ml, .inl (cI, 6, .inl (upd fl k (mf (((56 * kx) + 6) + k))))), (mb, .inl (cI, 6, .inl fb)), (mt, .inl (cI, 20, .inl fs)), (ms, .inl (cI, 12, .inl fw)), (mi, .inl (cI, 112, .inl mf)), (mz, .inl (cZ, 2, .inl zf))] H := hP
          have hD : va_D A [(o, .inr (8, [.int (nI n), .ref me, .ref ml, .ref mb, .int fi, .int (nI nl), .ref mt, .int si, .ref ms, .int sn, .ref mp, .ref my, .ref mc, .int la, .ref mk, .ref mw, .int ah, .int ri, .int lh, .ref mo, .ref mq, .ref mi, .ref mz])), (me, .inl (cI, 6, .inl (upd fe k (mf ((56 * kx) + k))))), (ml, .inl (cI, 6, .inl (upd fl k (mf (((56 * kx) + 6) + k))))), (mb, .inl (cI, 6, .inl fb)), (mt, .inl (cI, 20, .inl fs)), (ms, .inl (cI, 12, .inl fw)), (mi, .inl (cI, 112, .inl mf)), (mz, .inl (cZ, 2, .inl zf))] := hD
          refine lv_aload_n hx hb dX8_restore_68 rfl (lv_at hl 0 rfl) ?_
          refine va_get (D := D) (ci := 8) (v := .ref mb) (C := RX8) (T := TX8) (N := 23) hx hb hts hi8 hown hK hP 0 rfl rfl 3 (by decide) hw11 (fun _ h9 => h9) rfl dX8_restore_69 ?_
          refine lv_iload_n hx hb dX8_restore_72 rfl (lv_at hl 3 rfl) ?_
          refine lv_aload_n hx hb dX8_restore_73 rfl (lv_at hl 0 rfl) ?_
          refine va_get (D := D) (ci := 8) (v := .ref mi) (C := RX8) (T := TX8) (N := 23) hx hb hts hi8 hown hK hP 0 rfl rfl 21 (by decide) hw2 (fun _ h9 => h9) rfl dX8_restore_74 ?_
          refine lv_iload_n hx hb dX8_restore_77 rfl (lv_at hl 2 rfl) ?_
          refine lv_bipush (v := nI 12) hx hb dX8_restore_78 (by decide) ?_
          refine iadd_n (a := 56 * kx) (b := 12) hx hb dX8_restore_80 ?_
          refine lv_iload_n hx hb dX8_restore_81 rfl (lv_at hl 3 rfl) ?_
          refine iadd_n (a := (56 * kx) + 12) (b := k) hx hb dX8_restore_82 ?_
          refine iald_n (k := ((56 * kx) + 12) + k) hx hb hK hP 6 0 rfl rfl (by omega) (by omega) dX8_restore_83 ?_
          refine iast_n (k := k) hx hb hK hP hD hS 3 0 rfl rfl (by omega) (by omega) dX8_restore_84 (fun H locs hP hD hS => ?_)
          have hP : va_P D vwCl [(o, .inr (8, [.int (nI n), .ref me, .ref ml, .ref mb, .int fi, .int (nI nl), .ref mt, .int si, .ref ms, .int sn, .ref mp, .ref my, .ref mc, .int la, .ref mk, .ref mw, .int ah, .int ri, .int lh, .ref mo, .ref mq, .ref mi, .ref mz])), (me, .inl (cI, 6, .inl (upd fe k (mf ((56 * kx) + k))))), (ml, .inl (cI, 6, .inl (upd fl k (mf (((56 * kx) + 6) + k))))), (mb, .inl (cI, 6, .inl (upd fb k (mf (((56 * kx) + 12) + k))))), (mt, .inl (cI, 20, .inl fs)), (ms, .inl (cI, 12, .inl fw)), (mi, .inl (cI, 112, .inl mf)), (mz, .inl (cZ, 2, .inl zf))] H := hP
          have hD : va_D A [(o, .inr (8, [.int (nI n), .ref me, .ref ml, .ref mb, .int fi, .int (nI nl), .ref mt, .int si, .ref ms, .int sn, .ref mp, .ref my, .ref mc, .int la, .ref mk, .ref mw, .int ah, .int ri, .int lh, .ref mo, .ref mq, .ref mi, .ref mz])), (me, .inl (cI, 6, .inl (upd fe k (mf ((56 * kx) + k))))), (ml, .inl (cI, 6, .inl (upd fl k (mf (((56 * kx) + 6) + k))))), (mb, .inl (cI, 6, .inl (upd fb k (mf (((56 * kx) + 12) + k))))), (mt, .inl (cI, 20, .inl fs)), (ms, .inl (cI, 12, .inl fw)), (mi, .inl (cI, 112, .inl mf)), (mz, .inl (cZ, 2, .inl zf))] := hD
          refine lv_iinc (v := nI (k + 1)) (lv' := [(3, .int (nI (k + 1))), (0, .ref o), (1, .int (nI kx)), (2, .int (nI (56 * kx)))]) hx hb dX8_restore_85 hl (k := 3) rfl (nI_1 k) (by decide) rfl (fun ls hl => ?_)
          refine lv_goto (tgt := 31) hx hb dX8_restore_88 (by decide) ?_
          exact ih31 (k + 1) (upd fe k (mf ((56 * kx) + k))) (upd fl k (mf (((56 * kx) + 6) + k))) (upd fb k (mf (((56 * kx) + 12) + k))) ((by omega)) ((fun j hj => by rcases Nat.lt_or_ge j k with z | z; (exact (pk_un (by omega)).trans (hE9 j z)); (rw [show j = k by omega]; exact pk_us))) ((fun j hj => by rcases Nat.lt_or_ge j k with z | z; (exact (pk_un (by omega)).trans (hL9 j z)); (rw [show j = k by omega]; exact pk_us))) ((fun j hj => by rcases Nat.lt_or_ge j k with z | z; (exact (pk_un (by omega)).trans (hB9 j z)); (rw [show j = k by omega]; exact pk_us))) (by omega) _ _ hP hD hS _ (lv_sub hl [1, 2, 3, 0] rfl)
    exact L31 _ 0 fe fl fb ((by omega)) ((fun j hj => absurd hj (Nat.not_lt_zero j))) ((fun j hj => absurd hj (Nat.not_lt_zero j))) ((fun j hj => absurd hj (Nat.not_lt_zero j))) (Nat.lt_succ_self _) _ _ hP hD hS _ (lv_sub hl [2, 3, 1, 0] rfl)
  · exact absurd hC b3

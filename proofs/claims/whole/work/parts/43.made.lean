abbrev rm_X4_init : Room := { frames := 1, cells := 1, slots := 20, locals := 20 }
set_option maxHeartbeats 1000000 in
set_option maxRecDepth 100000 in
theorem n_law (l : Launch) (D : va_G) (cI cJ cZ cG cM : ClassId) (w : Nat) :
    CV l yX4_init wsX4_init rm_X4_init D [(cI, .int), (cJ, .long), (cZ, .boolean), (cG, .object "LatestSets$Guild"), (cM, .array .int)] [(w, .inr (4, [.null, .int (nI 0)]))] [.ref w] (S := Nat) (fun u => True) (fun u => [(w, .inr (4, [.ref u, .int (nI 1)])), (u, .inl (cI, 20, .inl (upd (fun _ => 0) 0 (nI 108))))]) := by
  refine sv_of (cc := cX4_init) (maxL := 1) (by decide) rfl (Nat.le_of_ble_eq_true rfl) ?_
  intro p e s m args below meth c A ls Q E hret
  obtain ⟨hx, hb, -, hml, hown, hts, -, hin, hA, hK, hP, hD, hS, hl, hN⟩ := E
  have hown : s.vm.findClass RX4 = some m.cls := hown
  have hl : lv_has ls 1 [(0, .ref w)] := hl
  have SF : CallFix p m c cX4_init 1 s args wsX4_init RX4 := ⟨hx, hb, hml, hown, hts⟩
  have hw0 := hts (.methodLink RX4 3 objectInit) (by decide +kernel)
  have hw1 := hts (.instanceMethod objectInit) (by decide +kernel)
  have hw2 := hts (.code objectInit ⟨#[0xb1]⟩ 1 none) (by decide +kernel)
  have hw3 := hts (.arrayClass .int) (by decide +kernel)
  have hw4 := hts (.fieldLink RX4 9 "LatestSets$Law" "signs" "[I") (by decide +kernel)
  have hi4 : ∀ x ∈ wsX40, x ∈ wsX4_init := by decide +kernel
  have hw6 := hts (.fieldLink RX4 15 "LatestSets$Law" "length" "I") (by decide +kernel)
  refine lv_aload_n hx hb dX4_init_0 rfl (lv_at hl 0 rfl) ?_
  refine W.objInit hx hb hown hw0 hw1 hw2 rfl (by rw [hml]; exact hl.1) rfl dX4_init_1 (Nat.le_of_ble_eq_true rfl) (Nat.le_of_ble_eq_true rfl) ?_
  refine W.eq (g2 := F0 m 4 ls []) rfl ?_
  refine lv_aload_n hx hb dX4_init_4 rfl (lv_at hl 0 rfl) ?_
  refine lv_bipush (v := nI 20) hx hb dX4_init_5 (by decide) ?_
  refine va_newa (atype := .int) (ty := .int) (N' := 20) (a0 := (20, .inl (fun _ => 0))) hx hb hw3 rfl hK hP hD hS hA (fun _ => rfl) (nI_pos (by omega)) (nI_clamp (by omega)) (by decide) (Nat.le_of_ble_eq_true rfl) (Nat.le_of_ble_eq_true rfl) dX4_init_7 (fun a7 cA9 H hK9 hP hD hS => ?_)
  have ecA : cI = cA9 := Option.some.inj ((va_nm_int (hK.2 0 _ rfl).2).symm.trans (va_nm_int (hK9.2 5 _ rfl).2))
  subst ecA
  have hP : va_P D vwCl [(w, .inr (4, [.null, .int (nI 0)])), (a7, .inl (cI, 20, .inl (fun _ => 0)))] H := hP
  have hD : va_D A [(w, .inr (4, [.null, .int (nI 0)])), (a7, .inl (cI, 20, .inl (fun _ => 0)))] := hD
  refine va_putF (D := D) (ci := 4) (v := .ref a7) (ty := .array .int) (C := RX4) (T := TX4) (N := 2) hx hb hts hi4 tyX4 tyX4_ok nmX4 hown hK hP hD hS 0 rfl rfl 0 (by decide) hw4 (fun _ h9 => h9) rfl hin rfl (by decide +kernel) rfl rfl (Nat.le_of_ble_eq_true rfl) dX4_init_9 (fun H locs hP hD hS => ?_)
  have hP : va_P D vwCl [(w, .inr (4, [.ref a7, .int (nI 0)])), (a7, .inl (cI, 20, .inl (fun _ => 0)))] H := hP
  have hD : va_D A [(w, .inr (4, [.ref a7, .int (nI 0)])), (a7, .inl (cI, 20, .inl (fun _ => 0)))] := hD
  refine lv_aload_n hx hb dX4_init_12 rfl (lv_at hl 0 rfl) ?_
  refine va_get (D := D) (ci := 4) (v := .ref a7) (C := RX4) (T := TX4) (N := 2) hx hb hts hi4 hown hK hP 0 rfl rfl 0 (by decide) hw4 (fun _ h9 => h9) rfl dX4_init_13 ?_
  refine lv_iconst (v := nI 0) hx hb dX4_init_16 (by decide) ?_
  refine lv_bipush (v := nI 108) hx hb dX4_init_17 (by decide) ?_
  refine iast_n (k := 0) hx hb hK hP hD hS 1 0 rfl rfl (by omega) (by omega) dX4_init_19 (fun H locs hP hD hS => ?_)
  have hP : va_P D vwCl [(w, .inr (4, [.ref a7, .int (nI 0)])), (a7, .inl (cI, 20, .inl (upd (fun _ => 0) 0 (nI 108))))] H := hP
  have hD : va_D A [(w, .inr (4, [.ref a7, .int (nI 0)])), (a7, .inl (cI, 20, .inl (upd (fun _ => 0) 0 (nI 108))))] := hD
  refine lv_aload_n hx hb dX4_init_20 rfl (lv_at hl 0 rfl) ?_
  refine lv_iconst (v := nI 1) hx hb dX4_init_21 (by decide) ?_
  refine va_put (D := D) (ci := 4) (v := .int (nI 1)) (ty := .int) (C := RX4) (T := TX4) (N := 2) hx hb hts hi4 tyX4 tyX4_ok nmX4 hown hK hP hD hS 0 rfl rfl 1 (by decide) hw6 (fun _ h9 => h9) rfl (by decide +kernel) rfl rfl (Nat.le_of_ble_eq_true rfl) dX4_init_22 (fun H locs hP hD hS => ?_)
  have hP : va_P D vwCl [(w, .inr (4, [.ref a7, .int (nI 1)])), (a7, .inl (cI, 20, .inl (upd (fun _ => 0) 0 (nI 108))))] H := hP
  have hD : va_D A [(w, .inr (4, [.ref a7, .int (nI 1)])), (a7, .inl (cI, 20, .inl (upd (fun _ => 0) 0 (nI 108))))] := hD
  exact hret ((a7)) _ _ _ _ dX4_init_25 trivial hP hD hS

abbrev rm_X5_init : Room := { frames := 1, cells := 1, slots := 48, locals := 20 }
set_option maxHeartbeats 1000000 in
set_option maxRecDepth 100000 in
theorem n_pad (l : Launch) (D : va_G) (cI cJ cZ cG cM : ClassId) (w : Nat) :
    CV l yX5_init wsX5_init rm_X5_init D [(cI, .int), (cJ, .long), (cZ, .boolean), (cG, .object "LatestSets$Guild"), (cM, .array .int)] [(w, .inr (5, [.null, .int (nI 0)]))] [.ref w] (S := Nat) (fun u => True) (fun u => [(w, .inr (5, [.ref u, .int (nI 0)])), (u, .inl (cI, 48, .inl (fun _ => 0)))]) := by
  refine sv_of (cc := cX5_init) (maxL := 1) (by decide) rfl (Nat.le_of_ble_eq_true rfl) ?_
  intro p e s m args below meth c A ls Q E hret
  obtain ⟨hx, hb, -, hml, hown, hts, -, hin, hA, hK, hP, hD, hS, hl, hN⟩ := E
  have hown : s.vm.findClass RX5 = some m.cls := hown
  have hl : lv_has ls 1 [(0, .ref w)] := hl
  have SF : CallFix p m c cX5_init 1 s args wsX5_init RX5 := ⟨hx, hb, hml, hown, hts⟩
  have hw0 := hts (.methodLink RX5 3 objectInit) (by decide +kernel)
  have hw1 := hts (.instanceMethod objectInit) (by decide +kernel)
  have hw2 := hts (.code objectInit ⟨#[0xb1]⟩ 1 none) (by decide +kernel)
  have hw3 := hts (.arrayClass .int) (by decide +kernel)
  have hw4 := hts (.fieldLink RX5 9 "LatestSets$Pad" "signs" "[I") (by decide +kernel)
  have hi5 : ∀ x ∈ wsX50, x ∈ wsX5_init := by decide +kernel
  refine lv_aload_n hx hb dX5_init_0 rfl (lv_at hl 0 rfl) ?_
  refine W.objInit hx hb hown hw0 hw1 hw2 rfl (by rw [hml]; exact hl.1) rfl dX5_init_1 (Nat.le_of_ble_eq_true rfl) (Nat.le_of_ble_eq_true rfl) ?_
  refine W.eq (g2 := F0 m 4 ls []) rfl ?_
  refine lv_aload_n hx hb dX5_init_4 rfl (lv_at hl 0 rfl) ?_
  refine lv_bipush (v := nI 48) hx hb dX5_init_5 (by decide) ?_
  refine va_newa (atype := .int) (ty := .int) (N' := 48) (a0 := (48, .inl (fun _ => 0))) hx hb hw3 rfl hK hP hD hS hA (fun _ => rfl) (nI_pos (by omega)) (nI_clamp (by omega)) (by decide) (Nat.le_of_ble_eq_true rfl) (Nat.le_of_ble_eq_true rfl) dX5_init_7 (fun a7 cA9 H hK9 hP hD hS => ?_)
  have ecA : cI = cA9 := Option.some.inj ((va_nm_int (hK.2 0 _ rfl).2).symm.trans (va_nm_int (hK9.2 5 _ rfl).2))
  subst ecA
  have hP : va_P D vwCl [(w, .inr (5, [.null, .int (nI 0)])), (a7, .inl (cI, 48, .inl (fun _ => 0)))] H := hP
  have hD : va_D A [(w, .inr (5, [.null, .int (nI 0)])), (a7, .inl (cI, 48, .inl (fun _ => 0)))] := hD
  refine va_putF (D := D) (ci := 5) (v := .ref a7) (ty := .array .int) (C := RX5) (T := TX5) (N := 2) hx hb hts hi5 tyX5 tyX5_ok nmX5 hown hK hP hD hS 0 rfl rfl 0 (by decide) hw4 (fun _ h9 => h9) rfl hin rfl (by decide +kernel) rfl rfl (Nat.le_of_ble_eq_true rfl) dX5_init_9 (fun H locs hP hD hS => ?_)
  have hP : va_P D vwCl [(w, .inr (5, [.ref a7, .int (nI 0)])), (a7, .inl (cI, 48, .inl (fun _ => 0)))] H := hP
  have hD : va_D A [(w, .inr (5, [.ref a7, .int (nI 0)])), (a7, .inl (cI, 48, .inl (fun _ => 0)))] := hD
  exact hret ((a7)) _ _ _ _ dX5_init_12 trivial hP hD hS

abbrev rm_X0_init : Room := { frames := 1, cells := 3, slots := 32, locals := 20 }
set_option maxHeartbeats 1000000 in
set_option maxRecDepth 100000 in
theorem n_board (l : Launch) (D : va_G) (cI cJ cZ cG cM : ClassId) (w g : Nat) :
    CV l yX0_init wsX0_init rm_X0_init D [(cI, .int), (cJ, .long), (cZ, .boolean), (cG, .object "LatestSets$Guild"), (cM, .array .int)] [(w, .inr (0, [.null, .null, .null, .null, .int (nI 0)]))] [.ref w, .ref g] (S := (Nat × Nat × Nat)) (fun u => True) (fun u => [(w, .inr (0, [.ref g, .ref u.1, .ref u.2.1, .ref u.2.2, .int (nI 0)])), (u.1, .inl (cI, 6, .inl (fun _ => 0))), (u.2.1, .inl (cI, 6, .inl (fun _ => 0))), (u.2.2, .inl (cI, 20, .inl (fun _ => 0)))]) := by
  refine sv_of (cc := cX0_init) (maxL := 2) (by decide) rfl (Nat.le_of_ble_eq_true rfl) ?_
  intro p e s m args below meth c A ls Q E hret
  obtain ⟨hx, hb, -, hml, hown, hts, -, hin, hA, hK, hP, hD, hS, hl, hN⟩ := E
  have hown : s.vm.findClass RX0 = some m.cls := hown
  have hl : lv_has ls 2 [(0, .ref w), (1, .ref g)] := hl
  have SF : CallFix p m c cX0_init 2 s args wsX0_init RX0 := ⟨hx, hb, hml, hown, hts⟩
  have hw0 := hts (.methodLink RX0 3 objectInit) (by decide +kernel)
  have hw1 := hts (.instanceMethod objectInit) (by decide +kernel)
  have hw2 := hts (.code objectInit ⟨#[0xb1]⟩ 1 none) (by decide +kernel)
  have hw3 := hts (.arrayClass .int) (by decide +kernel)
  have hw4 := hts (.fieldLink RX0 9 "LatestSets$Board" "trial" "[I") (by decide +kernel)
  have hi0 : ∀ x ∈ wsX00, x ∈ wsX0_init := by decide +kernel
  have hw6 := hts (.fieldLink RX0 15 "LatestSets$Board" "came" "[I") (by decide +kernel)
  have hw7 := hts (.fieldLink RX0 18 "LatestSets$Board" "stack" "[I") (by decide +kernel)
  have hw8 := hts (.fieldLink RX0 21 "LatestSets$Board" "guild" "LLatestSets$Guild;") (by decide +kernel)
  refine lv_aload_n hx hb dX0_init_0 rfl (lv_at hl 0 rfl) ?_
  refine W.objInit hx hb hown hw0 hw1 hw2 rfl (by rw [hml]; exact hl.1) rfl dX0_init_1 (Nat.le_of_ble_eq_true rfl) (Nat.le_of_ble_eq_true rfl) ?_
  refine W.eq (g2 := F0 m 4 ls []) rfl ?_
  refine lv_aload_n hx hb dX0_init_4 rfl (lv_at hl 0 rfl) ?_
  refine lv_bipush (v := nI 6) hx hb dX0_init_5 (by decide) ?_
  refine va_newa (atype := .int) (ty := .int) (N' := 6) (a0 := (6, .inl (fun _ => 0))) hx hb hw3 rfl hK hP hD hS hA (fun _ => rfl) (nI_pos (by omega)) (nI_clamp (by omega)) (by decide) (Nat.le_of_ble_eq_true rfl) (Nat.le_of_ble_eq_true rfl) dX0_init_7 (fun a7 cA9 H hK9 hP hD hS => ?_)
  have ecA : cI = cA9 := Option.some.inj ((va_nm_int (hK.2 0 _ rfl).2).symm.trans (va_nm_int (hK9.2 5 _ rfl).2))
  subst ecA
  have hP : va_P D vwCl [(w, .inr (0, [.null, .null, .null, .null, .int (nI 0)])), (a7, .inl (cI, 6, .inl (fun _ => 0)))] H := hP
  have hD : va_D A [(w, .inr (0, [.null, .null, .null, .null, .int (nI 0)])), (a7, .inl (cI, 6, .inl (fun _ => 0)))] := hD
  refine va_putF (D := D) (ci := 0) (v := .ref a7) (ty := .array .int) (C := RX0) (T := TX0) (N := 5) hx hb hts hi0 tyX0 tyX0_ok nmX0 hown hK hP hD hS 0 rfl rfl 1 (by decide) hw4 (fun _ h9 => h9) rfl hin rfl (by decide +kernel) rfl rfl (Nat.le_of_ble_eq_true rfl) dX0_init_9 (fun H locs hP hD hS => ?_)
  have hP : va_P D vwCl [(w, .inr (0, [.null, .ref a7, .null, .null, .int (nI 0)])), (a7, .inl (cI, 6, .inl (fun _ => 0)))] H := hP
  have hD : va_D A [(w, .inr (0, [.null, .ref a7, .null, .null, .int (nI 0)])), (a7, .inl (cI, 6, .inl (fun _ => 0)))] := hD
  refine lv_aload_n hx hb dX0_init_12 rfl (lv_at hl 0 rfl) ?_
  refine lv_bipush (v := nI 6) hx hb dX0_init_13 (by decide) ?_
  refine va_newa (atype := .int) (ty := .int) (N' := 6) (a0 := (6, .inl (fun _ => 0))) hx hb hw3 rfl hK hP hD hS hA (fun _ => rfl) (nI_pos (by omega)) (nI_clamp (by omega)) (by decide) (Nat.le_of_ble_eq_true rfl) (Nat.le_of_ble_eq_true rfl) dX0_init_15 (fun a15 cA9 H hK9 hP hD hS => ?_)
  have ecA : cI = cA9 := Option.some.inj ((va_nm_int (hK.2 0 _ rfl).2).symm.trans (va_nm_int (hK9.2 5 _ rfl).2))
  subst ecA
  have hP : va_P D vwCl [(w, .inr (0, [.null, .ref a7, .null, .null, .int (nI 0)])), (a7, .inl (cI, 6, .inl (fun _ => 0))), (a15, .inl (cI, 6, .inl (fun _ => 0)))] H := hP
  have hD : va_D A [(w, .inr (0, [.null, .ref a7, .null, .null, .int (nI 0)])), (a7, .inl (cI, 6, .inl (fun _ => 0))), (a15, .inl (cI, 6, .inl (fun _ => 0)))] := hD
  refine va_putF (D := D) (ci := 0) (v := .ref a15) (ty := .array .int) (C := RX0) (T := TX0) (N := 5) hx hb hts hi0 tyX0 tyX0_ok nmX0 hown hK hP hD hS 0 rfl rfl 2 (by decide) hw6 (fun _ h9 => h9) rfl hin rfl (by decide +kernel) rfl rfl (Nat.le_of_ble_eq_true rfl) dX0_init_17 (fun H locs hP hD hS => ?_)
  have hP : va_P D vwCl [(w, .inr (0, [.null, .ref a7, .ref a15, .null, .int (nI 0)])), (a7, .inl (cI, 6, .inl (fun _ => 0))), (a15, .inl (cI, 6, .inl (fun _ => 0)))] H := hP
  have hD : va_D A [(w, .inr (0, [.null, .ref a7, .ref a15, .null, .int (nI 0)])), (a7, .inl (cI, 6, .inl (fun _ => 0))), (a15, .inl (cI, 6, .inl (fun _ => 0)))] := hD
  refine lv_aload_n hx hb dX0_init_20 rfl (lv_at hl 0 rfl) ?_
  refine lv_bipush (v := nI 20) hx hb dX0_init_21 (by decide) ?_
  refine va_newa (atype := .int) (ty := .int) (N' := 20) (a0 := (20, .inl (fun _ => 0))) hx hb hw3 rfl hK hP hD hS hA (fun _ => rfl) (nI_pos (by omega)) (nI_clamp (by omega)) (by decide) (Nat.le_of_ble_eq_true rfl) (Nat.le_of_ble_eq_true rfl) dX0_init_23 (fun a23 cA9 H hK9 hP hD hS => ?_)
  have ecA : cI = cA9 := Option.some.inj ((va_nm_int (hK.2 0 _ rfl).2).symm.trans (va_nm_int (hK9.2 5 _ rfl).2))
  subst ecA
  have hP : va_P D vwCl [(w, .inr (0, [.null, .ref a7, .ref a15, .null, .int (nI 0)])), (a7, .inl (cI, 6, .inl (fun _ => 0))), (a15, .inl (cI, 6, .inl (fun _ => 0))), (a23, .inl (cI, 20, .inl (fun _ => 0)))] H := hP
  have hD : va_D A [(w, .inr (0, [.null, .ref a7, .ref a15, .null, .int (nI 0)])), (a7, .inl (cI, 6, .inl (fun _ => 0))), (a15, .inl (cI, 6, .inl (fun _ => 0))), (a23, .inl (cI, 20, .inl (fun _ => 0)))] := hD
  refine va_putF (D := D) (ci := 0) (v := .ref a23) (ty := .array .int) (C := RX0) (T := TX0) (N := 5) hx hb hts hi0 tyX0 tyX0_ok nmX0 hown hK hP hD hS 0 rfl rfl 3 (by decide) hw7 (fun _ h9 => h9) rfl hin rfl (by decide +kernel) rfl rfl (Nat.le_of_ble_eq_true rfl) dX0_init_25 (fun H locs hP hD hS => ?_)
  have hP : va_P D vwCl [(w, .inr (0, [.null, .ref a7, .ref a15, .ref a23, .int (nI 0)])), (a7, .inl (cI, 6, .inl (fun _ => 0))), (a15, .inl (cI, 6, .inl (fun _ => 0))), (a23, .inl (cI, 20, .inl (fun _ => 0)))] H := hP
  have hD : va_D A [(w, .inr (0, [.null, .ref a7, .ref a15, .ref a23, .int (nI 0)])), (a7, .inl (cI, 6, .inl (fun _ => 0))), (a15, .inl (cI, 6, .inl (fun _ => 0))), (a23, .inl (cI, 20, .inl (fun _ => 0)))] := hD
  refine lv_aload_n hx hb dX0_init_28 rfl (lv_at hl 0 rfl) ?_
  refine lv_aload_n hx hb dX0_init_29 rfl (lv_at hl 1 rfl) ?_
  refine va_putF (D := D) (ci := 0) (v := .ref g) (ty := .object "LatestSets$Guild") (C := RX0) (T := TX0) (N := 5) hx hb hts hi0 tyX0 tyX0_ok nmX0 hown hK hP hD hS 0 rfl rfl 0 (by decide) hw8 (fun _ h9 => h9) rfl hin rfl (by decide +kernel) rfl rfl (Nat.le_of_ble_eq_true rfl) dX0_init_30 (fun H locs hP hD hS => ?_)
  have hP : va_P D vwCl [(w, .inr (0, [.ref g, .ref a7, .ref a15, .ref a23, .int (nI 0)])), (a7, .inl (cI, 6, .inl (fun _ => 0))), (a15, .inl (cI, 6, .inl (fun _ => 0))), (a23, .inl (cI, 20, .inl (fun _ => 0)))] H := hP
  have hD : va_D A [(w, .inr (0, [.ref g, .ref a7, .ref a15, .ref a23, .int (nI 0)])), (a7, .inl (cI, 6, .inl (fun _ => 0))), (a15, .inl (cI, 6, .inl (fun _ => 0))), (a23, .inl (cI, 20, .inl (fun _ => 0)))] := hD
  exact hret ((a7, a15, a23)) _ _ _ _ dX0_init_33 trivial hP hD hS

abbrev rm_X6_init : Room := { frames := 2, cells := 3, slots := 46, locals := 40 }
set_option maxHeartbeats 1000000 in
set_option maxRecDepth 100000 in
theorem n_ring (l : Launch) (D : va_G) (cI cJ cZ cG cM : ClassId) (w b : Nat) :
    CV l yX6_init wsX6_init rm_X6_init D [(cI, .int), (cJ, .long), (cZ, .boolean), (cG, .object "LatestSets$Guild"), (cM, .array .int)] [(w, .inr (6, [.null, .null, .null, .int (nI 0), .int (nI 0), .int (nI 0)]))] [.ref w, .ref b] (S := (Nat × Nat × Nat)) (fun u => True) (fun u => [(w, .inr (6, [.ref b, .ref u.1, .ref u.2.2, .int (nI 0), .int (nI 0), .int (nI 0)])), (u.1, .inr (4, [.ref u.2.1, .int (nI 1)])), (u.2.1, .inl (cI, 20, .inl (upd (fun _ => 0) 0 (nI 108)))), (u.2.2, .inl (cI, 24, .inl (fun _ => 0)))]) := by
  refine sv_of (cc := cX6_init) (maxL := 2) (by decide) rfl (Nat.le_of_ble_eq_true rfl) ?_
  intro p e s m args below meth c A ls Q E hret
  obtain ⟨hx, hb, -, hml, hown, hts, -, hin, hA, hK, hP, hD, hS, hl, hN⟩ := E
  have hown : s.vm.findClass RX6 = some m.cls := hown
  have hl : lv_has ls 2 [(0, .ref w), (1, .ref b)] := hl
  have SF : CallFix p m c cX6_init 2 s args wsX6_init RX6 := ⟨hx, hb, hml, hown, hts⟩
  have hw0 := hts (.methodLink RX6 3 objectInit) (by decide +kernel)
  have hw1 := hts (.instanceMethod objectInit) (by decide +kernel)
  have hw2 := hts (.code objectInit ⟨#[0xb1]⟩ 1 none) (by decide +kernel)
  have hi4 : ∀ x ∈ wsX40, x ∈ wsX6_init := by decide +kernel
  have hw4 := hts (.classLink RX6 9 RX4) (by decide +kernel)
  have hw5 := hts (.instantiable RX4 2) (by decide +kernel)
  have hw6 := hts (.initialized RX4) (by decide +kernel)
  have hw7 := hts (.instanceMethod yX4_init) (by decide +kernel)
  have hw8 := hts (.methodLink RX6 11 yX4_init) (by decide +kernel)
  have hw9 := hts (.fieldLink RX6 12 "LatestSets$Ring" "toldLaw" "LLatestSets$Law;") (by decide +kernel)
  have hi6 : ∀ x ∈ wsX60, x ∈ wsX6_init := by decide +kernel
  have hw11 := hts (.arrayClass .int) (by decide +kernel)
  have hw12 := hts (.fieldLink RX6 18 "LatestSets$Ring" "firstWeek" "[I") (by decide +kernel)
  have hw13 := hts (.fieldLink RX6 22 "LatestSets$Ring" "board" "LLatestSets$Board;") (by decide +kernel)
  refine lv_aload_n hx hb dX6_init_0 rfl (lv_at hl 0 rfl) ?_
  refine W.objInit hx hb hown hw0 hw1 hw2 rfl (by rw [hml]; exact hl.1) rfl dX6_init_1 (Nat.le_of_ble_eq_true rfl) (Nat.le_of_ble_eq_true rfl) ?_
  refine W.eq (g2 := F0 m 4 ls []) rfl ?_
  refine lv_aload_n hx hb dX6_init_4 rfl (lv_at hl 0 rfl) ?_
  refine va_new (D := D) (ci := 4) (C := RX4) (T := TX4) (N := 2) (fs := [.null, .int (nI 0)]) hx hb hts hi4 tyX4 tyX4_ok hown hw4 hw5 hw6 hK hP hD hS hA rfl (fun j hj => match j, hj with | 0, _ => rfl | 1, _ => rfl | j + 2, h9 => absurd h9 (by omega)) (Nat.le_of_ble_eq_true rfl) (Nat.le_of_ble_eq_true rfl) dX6_init_5 (fun a5 H hP hD hS => ?_)
  have hP : va_P D vwCl [(w, .inr (6, [.null, .null, .null, .int (nI 0), .int (nI 0), .int (nI 0)])), (a5, .inr (4, [.null, .int (nI 0)]))] H := hP
  have hD : va_D A [(w, .inr (6, [.null, .null, .null, .int (nI 0), .int (nI 0), .int (nI 0)])), (a5, .inr (4, [.null, .int (nI 0)]))] := hD
  refine lv_dup hx hb dX6_init_8 rfl ?_
  refine cal_vX (w1 := fun (u : Nat) => [(a5, .inr (4, [.ref u, .int (nI 1)]))]) (wx := fun (u : Nat) => [(u, .inl (cI, 20, .inl (upd (fun _ => 0) 0 (nI 108))))]) (run_I (As := []) (rest := [.ref a5, .ref w]) SF (n_law l D cI cJ cZ cG cM a5) (cwI 0 hts gX6_init_X4_init rfl rfl rfl hw6 hw8 hw7 rfl (by decide +kernel) ⟨Nat.le_of_ble_eq_true rfl, Nat.le_of_ble_eq_true rfl⟩) hN hK hP hD [1] rfl (by decide) rfl hl.1 rfl (Nat.le_of_ble_eq_true rfl) dX6_init_9 ⟨Nat.le_of_ble_eq_true rfl, Nat.le_of_ble_eq_true rfl⟩) hP hD hS hA [1] rfl (fun _ => rfl) (fun u9 H locs hw hP hD hS => ?_)
  have hP : va_P D vwCl [(w, .inr (6, [.null, .null, .null, .int (nI 0), .int (nI 0), .int (nI 0)])), (a5, .inr (4, [.ref u9, .int (nI 1)])), (u9, .inl (cI, 20, .inl (upd (fun _ => 0) 0 (nI 108))))] H := hP
  have hD : va_D A [(w, .inr (6, [.null, .null, .null, .int (nI 0), .int (nI 0), .int (nI 0)])), (a5, .inr (4, [.ref u9, .int (nI 1)])), (u9, .inl (cI, 20, .inl (upd (fun _ => 0) 0 (nI 108))))] := hD
  refine va_putF (D := D) (ci := 6) (v := .ref a5) (ty := .object "LatestSets$Law") (C := RX6) (T := TX6) (N := 6) hx hb hts hi6 tyX6 tyX6_ok nmX6 hown hK hP hD hS 0 rfl rfl 1 (by decide) hw9 (fun _ h9 => h9) rfl hin rfl (by decide +kernel) rfl rfl (Nat.le_of_ble_eq_true rfl) dX6_init_12 (fun H locs hP hD hS => ?_)
  have hP : va_P D vwCl [(w, .inr (6, [.null, .ref a5, .null, .int (nI 0), .int (nI 0), .int (nI 0)])), (a5, .inr (4, [.ref u9, .int (nI 1)])), (u9, .inl (cI, 20, .inl (upd (fun _ => 0) 0 (nI 108))))] H := hP
  have hD : va_D A [(w, .inr (6, [.null, .ref a5, .null, .int (nI 0), .int (nI 0), .int (nI 0)])), (a5, .inr (4, [.ref u9, .int (nI 1)])), (u9, .inl (cI, 20, .inl (upd (fun _ => 0) 0 (nI 108))))] := hD
  refine lv_aload_n hx hb dX6_init_15 rfl (lv_at hl 0 rfl) ?_
  refine lv_bipush (v := nI 24) hx hb dX6_init_16 (by decide) ?_
  refine va_newa (atype := .int) (ty := .int) (N' := 24) (a0 := (24, .inl (fun _ => 0))) hx hb hw11 rfl hK hP hD hS hA (fun _ => rfl) (nI_pos (by omega)) (nI_clamp (by omega)) (by decide) (Nat.le_of_ble_eq_true rfl) (Nat.le_of_ble_eq_true rfl) dX6_init_18 (fun a18 cA9 H hK9 hP hD hS => ?_)
  have ecA : cI = cA9 := Option.some.inj ((va_nm_int (hK.2 0 _ rfl).2).symm.trans (va_nm_int (hK9.2 5 _ rfl).2))
  subst ecA
  have hP : va_P D vwCl [(w, .inr (6, [.null, .ref a5, .null, .int (nI 0), .int (nI 0), .int (nI 0)])), (a5, .inr (4, [.ref u9, .int (nI 1)])), (u9, .inl (cI, 20, .inl (upd (fun _ => 0) 0 (nI 108)))), (a18, .inl (cI, 24, .inl (fun _ => 0)))] H := hP
  have hD : va_D A [(w, .inr (6, [.null, .ref a5, .null, .int (nI 0), .int (nI 0), .int (nI 0)])), (a5, .inr (4, [.ref u9, .int (nI 1)])), (u9, .inl (cI, 20, .inl (upd (fun _ => 0) 0 (nI 108)))), (a18, .inl (cI, 24, .inl (fun _ => 0)))] := hD
  refine va_putF (D := D) (ci := 6) (v := .ref a18) (ty := .array .int) (C := RX6) (T := TX6) (N := 6) hx hb hts hi6 tyX6 tyX6_ok nmX6 hown hK hP hD hS 0 rfl rfl 2 (by decide) hw12 (fun _ h9 => h9) rfl hin rfl (by decide +kernel) rfl rfl (Nat.le_of_ble_eq_true rfl) dX6_init_20 (fun H locs hP hD hS => ?_)
  have hP : va_P D vwCl [(w, .inr (6, [.null, .ref a5, .ref a18, .int (nI 0), .int (nI 0), .int (nI 0)])), (a5, .inr (4, [.ref u9, .int (nI 1)])), (u9, .inl (cI, 20, .inl (upd (fun _ => 0) 0 (nI 108)))), (a18, .inl (cI, 24, .inl (fun _ => 0)))] H := hP
  have hD : va_D A [(w, .inr (6, [.null, .ref a5, .ref a18, .int (nI 0), .int (nI 0), .int (nI 0)])), (a5, .inr (4, [.ref u9, .int (nI 1)])), (u9, .inl (cI, 20, .inl (upd (fun _ => 0) 0 (nI 108)))), (a18, .inl (cI, 24, .inl (fun _ => 0)))] := hD
  refine lv_aload_n hx hb dX6_init_23 rfl (lv_at hl 0 rfl) ?_
  refine lv_aload_n hx hb dX6_init_24 rfl (lv_at hl 1 rfl) ?_
  refine va_putF (D := D) (ci := 6) (v := .ref b) (ty := .object "LatestSets$Board") (C := RX6) (T := TX6) (N := 6) hx hb hts hi6 tyX6 tyX6_ok nmX6 hown hK hP hD hS 0 rfl rfl 0 (by decide) hw13 (fun _ h9 => h9) rfl hin rfl (by decide +kernel) rfl rfl (Nat.le_of_ble_eq_true rfl) dX6_init_25 (fun H locs hP hD hS => ?_)
  have hP : va_P D vwCl [(w, .inr (6, [.ref b, .ref a5, .ref a18, .int (nI 0), .int (nI 0), .int (nI 0)])), (a5, .inr (4, [.ref u9, .int (nI 1)])), (u9, .inl (cI, 20, .inl (upd (fun _ => 0) 0 (nI 108)))), (a18, .inl (cI, 24, .inl (fun _ => 0)))] H := hP
  have hD : va_D A [(w, .inr (6, [.ref b, .ref a5, .ref a18, .int (nI 0), .int (nI 0), .int (nI 0)])), (a5, .inr (4, [.ref u9, .int (nI 1)])), (u9, .inl (cI, 20, .inl (upd (fun _ => 0) 0 (nI 108)))), (a18, .inl (cI, 24, .inl (fun _ => 0)))] := hD
  exact hret ((a5, u9, a18)) _ _ _ _ dX6_init_28 trivial hP hD hS

abbrev rm_X1_init : Room := { frames := 1, cells := 2, slots := 48, locals := 20 }
set_option maxHeartbeats 1000000 in
set_option maxRecDepth 100000 in
theorem n_chance (l : Launch) (D : va_G) (cI cJ cZ cG cM : ClassId) (w b : Nat) :
    CV l yX1_init wsX1_init rm_X1_init D [(cI, .int), (cJ, .long), (cZ, .boolean), (cG, .object "LatestSets$Guild"), (cM, .array .int)] [(w, .inr (1, [.null, .null, .null, .long 0, .long 0, .int (nI 0), .int (nI 0), .int (nI 0)]))] [.ref w, .ref b] (S := (Nat × Nat)) (fun u => True) (fun u => [(w, .inr (1, [.ref b, .ref u.1, .ref u.2, .long 0, .long 0, .int (nI 0), .int (nI 0), .int (nI 0)])), (u.1, .inl (cJ, 24, .inr (.inl (fun _ => 0)))), (u.2, .inl (cJ, 24, .inr (.inl (fun _ => 0))))]) := by
  refine sv_of (cc := cX1_init) (maxL := 2) (by decide) rfl (Nat.le_of_ble_eq_true rfl) ?_
  intro p e s m args below meth c A ls Q E hret
  obtain ⟨hx, hb, -, hml, hown, hts, -, hin, hA, hK, hP, hD, hS, hl, hN⟩ := E
  have hown : s.vm.findClass RX1 = some m.cls := hown
  have hl : lv_has ls 2 [(0, .ref w), (1, .ref b)] := hl
  have SF : CallFix p m c cX1_init 2 s args wsX1_init RX1 := ⟨hx, hb, hml, hown, hts⟩
  have hw0 := hts (.methodLink RX1 3 objectInit) (by decide +kernel)
  have hw1 := hts (.instanceMethod objectInit) (by decide +kernel)
  have hw2 := hts (.code objectInit ⟨#[0xb1]⟩ 1 none) (by decide +kernel)
  have hw3 := hts (.arrayClass .long) (by decide +kernel)
  have hw4 := hts (.fieldLink RX1 9 "LatestSets$Chance" "weight" "[J") (by decide +kernel)
  have hi1 : ∀ x ∈ wsX10, x ∈ wsX1_init := by decide +kernel
  have hw6 := hts (.fieldLink RX1 15 "LatestSets$Chance" "nextWeight" "[J") (by decide +kernel)
  have hw7 := hts (.fieldLink RX1 18 "LatestSets$Chance" "board" "LLatestSets$Board;") (by decide +kernel)
  refine lv_aload_n hx hb dX1_init_0 rfl (lv_at hl 0 rfl) ?_
  refine W.objInit hx hb hown hw0 hw1 hw2 rfl (by rw [hml]; exact hl.1) rfl dX1_init_1 (Nat.le_of_ble_eq_true rfl) (Nat.le_of_ble_eq_true rfl) ?_
  refine W.eq (g2 := F0 m 4 ls []) rfl ?_
  refine lv_aload_n hx hb dX1_init_4 rfl (lv_at hl 0 rfl) ?_
  refine lv_bipush (v := nI 24) hx hb dX1_init_5 (by decide) ?_
  refine va_newa (atype := .long) (ty := .long) (N' := 24) (a0 := (24, .inr (.inl (fun _ => 0)))) hx hb hw3 rfl hK hP hD hS hA (fun _ => rfl) (nI_pos (by omega)) (nI_clamp (by omega)) (by decide) (Nat.le_of_ble_eq_true rfl) (Nat.le_of_ble_eq_true rfl) dX1_init_7 (fun a7 cA9 H hK9 hP hD hS => ?_)
  have ecA : cJ = cA9 := Option.some.inj ((va_nm_long (hK.2 1 _ rfl).2).symm.trans (va_nm_long (hK9.2 5 _ rfl).2))
  subst ecA
  have hP : va_P D vwCl [(w, .inr (1, [.null, .null, .null, .long 0, .long 0, .int (nI 0), .int (nI 0), .int (nI 0)])), (a7, .inl (cJ, 24, .inr (.inl (fun _ => 0))))] H := hP
  have hD : va_D A [(w, .inr (1, [.null, .null, .null, .long 0, .long 0, .int (nI 0), .int (nI 0), .int (nI 0)])), (a7, .inl (cJ, 24, .inr (.inl (fun _ => 0))))] := hD
  refine va_putF (D := D) (ci := 1) (v := .ref a7) (ty := .array .long) (C := RX1) (T := TX1) (N := 8) hx hb hts hi1 tyX1 tyX1_ok nmX1 hown hK hP hD hS 0 rfl rfl 1 (by decide) hw4 (fun _ h9 => h9) rfl hin rfl (by decide +kernel) rfl rfl (Nat.le_of_ble_eq_true rfl) dX1_init_9 (fun H locs hP hD hS => ?_)
  have hP : va_P D vwCl [(w, .inr (1, [.null, .ref a7, .null, .long 0, .long 0, .int (nI 0), .int (nI 0), .int (nI 0)])), (a7, .inl (cJ, 24, .inr (.inl (fun _ => 0))))] H := hP
  have hD : va_D A [(w, .inr (1, [.null, .ref a7, .null, .long 0, .long 0, .int (nI 0), .int (nI 0), .int (nI 0)])), (a7, .inl (cJ, 24, .inr (.inl (fun _ => 0))))] := hD
  refine lv_aload_n hx hb dX1_init_12 rfl (lv_at hl 0 rfl) ?_
  refine lv_bipush (v := nI 24) hx hb dX1_init_13 (by decide) ?_
  refine va_newa (atype := .long) (ty := .long) (N' := 24) (a0 := (24, .inr (.inl (fun _ => 0)))) hx hb hw3 rfl hK hP hD hS hA (fun _ => rfl) (nI_pos (by omega)) (nI_clamp (by omega)) (by decide) (Nat.le_of_ble_eq_true rfl) (Nat.le_of_ble_eq_true rfl) dX1_init_15 (fun a15 cA9 H hK9 hP hD hS => ?_)
  have ecA : cJ = cA9 := Option.some.inj ((va_nm_long (hK.2 1 _ rfl).2).symm.trans (va_nm_long (hK9.2 5 _ rfl).2))
  subst ecA
  have hP : va_P D vwCl [(w, .inr (1, [.null, .ref a7, .null, .long 0, .long 0, .int (nI 0), .int (nI 0), .int (nI 0)])), (a7, .inl (cJ, 24, .inr (.inl (fun _ => 0)))), (a15, .inl (cJ, 24, .inr (.inl (fun _ => 0))))] H := hP
  have hD : va_D A [(w, .inr (1, [.null, .ref a7, .null, .long 0, .long 0, .int (nI 0), .int (nI 0), .int (nI 0)])), (a7, .inl (cJ, 24, .inr (.inl (fun _ => 0)))), (a15, .inl (cJ, 24, .inr (.inl (fun _ => 0))))] := hD
  refine va_putF (D := D) (ci := 1) (v := .ref a15) (ty := .array .long) (C := RX1) (T := TX1) (N := 8) hx hb hts hi1 tyX1 tyX1_ok nmX1 hown hK hP hD hS 0 rfl rfl 2 (by decide) hw6 (fun _ h9 => h9) rfl hin rfl (by decide +kernel) rfl rfl (Nat.le_of_ble_eq_true rfl) dX1_init_17 (fun H locs hP hD hS => ?_)
  have hP : va_P D vwCl [(w, .inr (1, [.null, .ref a7, .ref a15, .long 0, .long 0, .int (nI 0), .int (nI 0), .int (nI 0)])), (a7, .inl (cJ, 24, .inr (.inl (fun _ => 0)))), (a15, .inl (cJ, 24, .inr (.inl (fun _ => 0))))] H := hP
  have hD : va_D A [(w, .inr (1, [.null, .ref a7, .ref a15, .long 0, .long 0, .int (nI 0), .int (nI 0), .int (nI 0)])), (a7, .inl (cJ, 24, .inr (.inl (fun _ => 0)))), (a15, .inl (cJ, 24, .inr (.inl (fun _ => 0))))] := hD
  refine lv_aload_n hx hb dX1_init_20 rfl (lv_at hl 0 rfl) ?_
  refine lv_aload_n hx hb dX1_init_21 rfl (lv_at hl 1 rfl) ?_
  refine va_putF (D := D) (ci := 1) (v := .ref b) (ty := .object "LatestSets$Board") (C := RX1) (T := TX1) (N := 8) hx hb hts hi1 tyX1 tyX1_ok nmX1 hown hK hP hD hS 0 rfl rfl 0 (by decide) hw7 (fun _ h9 => h9) rfl hin rfl (by decide +kernel) rfl rfl (Nat.le_of_ble_eq_true rfl) dX1_init_22 (fun H locs hP hD hS => ?_)
  have hP : va_P D vwCl [(w, .inr (1, [.ref b, .ref a7, .ref a15, .long 0, .long 0, .int (nI 0), .int (nI 0), .int (nI 0)])), (a7, .inl (cJ, 24, .inr (.inl (fun _ => 0)))), (a15, .inl (cJ, 24, .inr (.inl (fun _ => 0))))] H := hP
  have hD : va_D A [(w, .inr (1, [.ref b, .ref a7, .ref a15, .long 0, .long 0, .int (nI 0), .int (nI 0), .int (nI 0)])), (a7, .inl (cJ, 24, .inr (.inl (fun _ => 0)))), (a15, .inl (cJ, 24, .inr (.inl (fun _ => 0))))] := hD
  exact hret ((a7, a15)) _ _ _ _ dX1_init_25 trivial hP hD hS

abbrev rm_X3_init : Room := { frames := 2, cells := 7, slots := 52, locals := 40 }
set_option maxHeartbeats 1000000 in
set_option maxRecDepth 100000 in
theorem n_guild (l : Launch) (D : va_G) (cI cJ cZ cG cM : ClassId) (w : Nat) :
    CV l yX3_init wsX3_init rm_X3_init D [(cI, .int), (cJ, .long), (cZ, .boolean), (cG, .object "LatestSets$Guild"), (cM, .array .int)] [(w, .inr (3, [.null, .null, .null, .null, .null, .null, .int (nI 0), .int (nI 0), .int (nI 0)]))] [.ref w] (S := (Nat × Nat × Nat × Nat × Nat × Nat × Nat)) (fun u => True) (fun u => [(w, .inr (3, [.ref u.1, .ref u.2.1, .ref u.2.2.1, .ref u.2.2.2.1, .ref u.2.2.2.2.2.1, .ref u.2.2.2.2.2.2, .int (nI 0), .int (nI 4), .int (nI 1)])), (u.1, .inl (cI, 6, .inl (fun _ => 0))), (u.2.1, .inl (cI, 6, .inl (fun _ => 0))), (u.2.2.1, .inl (cI, 6, .inl (filI (fun _ => 0) (nI 12) 6))), (u.2.2.2.1, .inr (4, [.ref u.2.2.2.2.1, .int (nI 1)])), (u.2.2.2.2.1, .inl (cI, 20, .inl (upd (fun _ => 0) 0 (nI 108)))), (u.2.2.2.2.2.1, .inl (cI, 6, .inl (fun _ => 0))), (u.2.2.2.2.2.2, .inl (cI, 6, .inl (fun _ => 0)))]) := by
  refine sv_of (cc := cX3_init) (maxL := 1) (by decide) rfl (Nat.le_of_ble_eq_true rfl) ?_
  intro p e s m args below meth c A ls Q E hret
  obtain ⟨hx, hb, -, hml, hown, hts, -, hin, hA, hK, hP, hD, hS, hl, hN⟩ := E
  have hown : s.vm.findClass RX3 = some m.cls := hown
  have hl : lv_has ls 1 [(0, .ref w)] := hl
  have SF : CallFix p m c cX3_init 1 s args wsX3_init RX3 := ⟨hx, hb, hml, hown, hts⟩
  have hw0 := hts (.methodLink RX3 3 objectInit) (by decide +kernel)
  have hw1 := hts (.instanceMethod objectInit) (by decide +kernel)
  have hw2 := hts (.code objectInit ⟨#[0xb1]⟩ 1 none) (by decide +kernel)
  have hw3 := hts (.arrayClass .int) (by decide +kernel)
  have hw4 := hts (.fieldLink RX3 9 "LatestSets$Guild" "early" "[I") (by decide +kernel)
  have hi3 : ∀ x ∈ wsX30, x ∈ wsX3_init := by decide +kernel
  have hw6 := hts (.fieldLink RX3 15 "LatestSets$Guild" "late" "[I") (by decide +kernel)
  have hw7 := hts (.fieldLink RX3 18 "LatestSets$Guild" "best" "[I") (by decide +kernel)
  have hi4 : ∀ x ∈ wsX40, x ∈ wsX3_init := by decide +kernel
  have hw9 := hts (.classLink RX3 21 RX4) (by decide +kernel)
  have hw10 := hts (.instantiable RX4 2) (by decide +kernel)
  have hw11 := hts (.initialized RX4) (by decide +kernel)
  have hw12 := hts (.instanceMethod yX4_init) (by decide +kernel)
  have hw13 := hts (.methodLink RX3 23 yX4_init) (by decide +kernel)
  have hw14 := hts (.fieldLink RX3 24 "LatestSets$Guild" "law" "LLatestSets$Law;") (by decide +kernel)
  have hw15 := hts (.fieldLink RX3 28 "LatestSets$Guild" "sightWeek" "[I") (by decide +kernel)
  have hw16 := hts (.fieldLink RX3 31 "LatestSets$Guild" "sightHour" "[I") (by decide +kernel)
  have hw17 := hts (.fieldLink RX3 34 "LatestSets$Guild" "fineEach" "I") (by decide +kernel)
  have hw18 := hts (.fieldLink RX3 38 "LatestSets$Guild" "count" "I") (by decide +kernel)
  refine lv_aload_n hx hb dX3_init_0 rfl (lv_at hl 0 rfl) ?_
  refine W.objInit hx hb hown hw0 hw1 hw2 rfl (by rw [hml]; exact hl.1) rfl dX3_init_1 (Nat.le_of_ble_eq_true rfl) (Nat.le_of_ble_eq_true rfl) ?_
  refine W.eq (g2 := F0 m 4 ls []) rfl ?_
  refine lv_aload_n hx hb dX3_init_4 rfl (lv_at hl 0 rfl) ?_
  refine lv_bipush (v := nI 6) hx hb dX3_init_5 (by decide) ?_
  refine va_newa (atype := .int) (ty := .int) (N' := 6) (a0 := (6, .inl (fun _ => 0))) hx hb hw3 rfl hK hP hD hS hA (fun _ => rfl) (nI_pos (by omega)) (nI_clamp (by omega)) (by decide) (Nat.le_of_ble_eq_true rfl) (Nat.le_of_ble_eq_true rfl) dX3_init_7 (fun a7 cA9 H hK9 hP hD hS => ?_)
  have ecA : cI = cA9 := Option.some.inj ((va_nm_int (hK.2 0 _ rfl).2).symm.trans (va_nm_int (hK9.2 5 _ rfl).2))
  subst ecA
  have hP : va_P D vwCl [(w, .inr (3, [.null, .null, .null, .null, .null, .null, .int (nI 0), .int (nI 0), .int (nI 0)])), (a7, .inl (cI, 6, .inl (fun _ => 0)))] H := hP
  have hD : va_D A [(w, .inr (3, [.null, .null, .null, .null, .null, .null, .int (nI 0), .int (nI 0), .int (nI 0)])), (a7, .inl (cI, 6, .inl (fun _ => 0)))] := hD
  refine va_putF (D := D) (ci := 3) (v := .ref a7) (ty := .array .int) (C := RX3) (T := TX3) (N := 9) hx hb hts hi3 tyX3 tyX3_ok nmX3 hown hK hP hD hS 0 rfl rfl 0 (by decide) hw4 (fun _ h9 => h9) rfl hin rfl (by decide +kernel) rfl rfl (Nat.le_of_ble_eq_true rfl) dX3_init_9 (fun H locs hP hD hS => ?_)
  have hP : va_P D vwCl [(w, .inr (3, [.ref a7, .null, .null, .null, .null, .null, .int (nI 0), .int (nI 0), .int (nI 0)])), (a7, .inl (cI, 6, .inl (fun _ => 0)))] H := hP
  have hD : va_D A [(w, .inr (3, [.ref a7, .null, .null, .null, .null, .null, .int (nI 0), .int (nI 0), .int (nI 0)])), (a7, .inl (cI, 6, .inl (fun _ => 0)))] := hD
  refine lv_aload_n hx hb dX3_init_12 rfl (lv_at hl 0 rfl) ?_
  refine lv_bipush (v := nI 6) hx hb dX3_init_13 (by decide) ?_
  refine va_newa (atype := .int) (ty := .int) (N' := 6) (a0 := (6, .inl (fun _ => 0))) hx hb hw3 rfl hK hP hD hS hA (fun _ => rfl) (nI_pos (by omega)) (nI_clamp (by omega)) (by decide) (Nat.le_of_ble_eq_true rfl) (Nat.le_of_ble_eq_true rfl) dX3_init_15 (fun a15 cA9 H hK9 hP hD hS => ?_)
  have ecA : cI = cA9 := Option.some.inj ((va_nm_int (hK.2 0 _ rfl).2).symm.trans (va_nm_int (hK9.2 5 _ rfl).2))
  subst ecA
  have hP : va_P D vwCl [(w, .inr (3, [.ref a7, .null, .null, .null, .null, .null, .int (nI 0), .int (nI 0), .int (nI 0)])), (a7, .inl (cI, 6, .inl (fun _ => 0))), (a15, .inl (cI, 6, .inl (fun _ => 0)))] H := hP
  have hD : va_D A [(w, .inr (3, [.ref a7, .null, .null, .null, .null, .null, .int (nI 0), .int (nI 0), .int (nI 0)])), (a7, .inl (cI, 6, .inl (fun _ => 0))), (a15, .inl (cI, 6, .inl (fun _ => 0)))] := hD
  refine va_putF (D := D) (ci := 3) (v := .ref a15) (ty := .array .int) (C := RX3) (T := TX3) (N := 9) hx hb hts hi3 tyX3 tyX3_ok nmX3 hown hK hP hD hS 0 rfl rfl 1 (by decide) hw6 (fun _ h9 => h9) rfl hin rfl (by decide +kernel) rfl rfl (Nat.le_of_ble_eq_true rfl) dX3_init_17 (fun H locs hP hD hS => ?_)
  have hP : va_P D vwCl [(w, .inr (3, [.ref a7, .ref a15, .null, .null, .null, .null, .int (nI 0), .int (nI 0), .int (nI 0)])), (a7, .inl (cI, 6, .inl (fun _ => 0))), (a15, .inl (cI, 6, .inl (fun _ => 0)))] H := hP
  have hD : va_D A [(w, .inr (3, [.ref a7, .ref a15, .null, .null, .null, .null, .int (nI 0), .int (nI 0), .int (nI 0)])), (a7, .inl (cI, 6, .inl (fun _ => 0))), (a15, .inl (cI, 6, .inl (fun _ => 0)))] := hD
  refine lv_aload_n hx hb dX3_init_20 rfl (lv_at hl 0 rfl) ?_
  refine lv_bipush (v := nI 6) hx hb dX3_init_21 (by decide) ?_
  refine va_newa (atype := .int) (ty := .int) (N' := 6) (a0 := (6, .inl (fun _ => 0))) hx hb hw3 rfl hK hP hD hS hA (fun _ => rfl) (nI_pos (by omega)) (nI_clamp (by omega)) (by decide) (Nat.le_of_ble_eq_true rfl) (Nat.le_of_ble_eq_true rfl) dX3_init_23 (fun a23 cA9 H hK9 hP hD hS => ?_)
  have ecA : cI = cA9 := Option.some.inj ((va_nm_int (hK.2 0 _ rfl).2).symm.trans (va_nm_int (hK9.2 5 _ rfl).2))
  subst ecA
  have hP : va_P D vwCl [(w, .inr (3, [.ref a7, .ref a15, .null, .null, .null, .null, .int (nI 0), .int (nI 0), .int (nI 0)])), (a7, .inl (cI, 6, .inl (fun _ => 0))), (a15, .inl (cI, 6, .inl (fun _ => 0))), (a23, .inl (cI, 6, .inl (fun _ => 0)))] H := hP
  have hD : va_D A [(w, .inr (3, [.ref a7, .ref a15, .null, .null, .null, .null, .int (nI 0), .int (nI 0), .int (nI 0)])), (a7, .inl (cI, 6, .inl (fun _ => 0))), (a15, .inl (cI, 6, .inl (fun _ => 0))), (a23, .inl (cI, 6, .inl (fun _ => 0)))] := hD
  refine va_putF (D := D) (ci := 3) (v := .ref a23) (ty := .array .int) (C := RX3) (T := TX3) (N := 9) hx hb hts hi3 tyX3 tyX3_ok nmX3 hown hK hP hD hS 0 rfl rfl 2 (by decide) hw7 (fun _ h9 => h9) rfl hin rfl (by decide +kernel) rfl rfl (Nat.le_of_ble_eq_true rfl) dX3_init_25 (fun H locs hP hD hS => ?_)
  have hP : va_P D vwCl [(w, .inr (3, [.ref a7, .ref a15, .ref a23, .null, .null, .null, .int (nI 0), .int (nI 0), .int (nI 0)])), (a7, .inl (cI, 6, .inl (fun _ => 0))), (a15, .inl (cI, 6, .inl (fun _ => 0))), (a23, .inl (cI, 6, .inl (fun _ => 0)))] H := hP
  have hD : va_D A [(w, .inr (3, [.ref a7, .ref a15, .ref a23, .null, .null, .null, .int (nI 0), .int (nI 0), .int (nI 0)])), (a7, .inl (cI, 6, .inl (fun _ => 0))), (a15, .inl (cI, 6, .inl (fun _ => 0))), (a23, .inl (cI, 6, .inl (fun _ => 0)))] := hD
  refine lv_aload_n hx hb dX3_init_28 rfl (lv_at hl 0 rfl) ?_
  refine va_new (D := D) (ci := 4) (C := RX4) (T := TX4) (N := 2) (fs := [.null, .int (nI 0)]) hx hb hts hi4 tyX4 tyX4_ok hown hw9 hw10 hw11 hK hP hD hS hA rfl (fun j hj => match j, hj with | 0, _ => rfl | 1, _ => rfl | j + 2, h9 => absurd h9 (by omega)) (Nat.le_of_ble_eq_true rfl) (Nat.le_of_ble_eq_true rfl) dX3_init_29 (fun a29 H hP hD hS => ?_)
  have hP : va_P D vwCl [(w, .inr (3, [.ref a7, .ref a15, .ref a23, .null, .null, .null, .int (nI 0), .int (nI 0), .int (nI 0)])), (a7, .inl (cI, 6, .inl (fun _ => 0))), (a15, .inl (cI, 6, .inl (fun _ => 0))), (a23, .inl (cI, 6, .inl (fun _ => 0))), (a29, .inr (4, [.null, .int (nI 0)]))] H := hP
  have hD : va_D A [(w, .inr (3, [.ref a7, .ref a15, .ref a23, .null, .null, .null, .int (nI 0), .int (nI 0), .int (nI 0)])), (a7, .inl (cI, 6, .inl (fun _ => 0))), (a15, .inl (cI, 6, .inl (fun _ => 0))), (a23, .inl (cI, 6, .inl (fun _ => 0))), (a29, .inr (4, [.null, .int (nI 0)]))] := hD
  refine lv_dup hx hb dX3_init_32 rfl ?_
  refine cal_vX (w1 := fun (u : Nat) => [(a29, .inr (4, [.ref u, .int (nI 1)]))]) (wx := fun (u : Nat) => [(u, .inl (cI, 20, .inl (upd (fun _ => 0) 0 (nI 108))))]) (run_I (As := []) (rest := [.ref a29, .ref w]) SF (n_law l D cI cJ cZ cG cM a29) (cwI 0 hts gX3_init_X4_init rfl rfl rfl hw11 hw13 hw12 rfl (by decide +kernel) ⟨Nat.le_of_ble_eq_true rfl, Nat.le_of_ble_eq_true rfl⟩) hN hK hP hD [4] rfl (by decide) rfl hl.1 rfl (Nat.le_of_ble_eq_true rfl) dX3_init_33 ⟨Nat.le_of_ble_eq_true rfl, Nat.le_of_ble_eq_true rfl⟩) hP hD hS hA [4] rfl (fun _ => rfl) (fun u33 H locs hw hP hD hS => ?_)
  have hP : va_P D vwCl [(w, .inr (3, [.ref a7, .ref a15, .ref a23, .null, .null, .null, .int (nI 0), .int (nI 0), .int (nI 0)])), (a7, .inl (cI, 6, .inl (fun _ => 0))), (a15, .inl (cI, 6, .inl (fun _ => 0))), (a23, .inl (cI, 6, .inl (fun _ => 0))), (a29, .inr (4, [.ref u33, .int (nI 1)])), (u33, .inl (cI, 20, .inl (upd (fun _ => 0) 0 (nI 108))))] H := hP
  have hD : va_D A [(w, .inr (3, [.ref a7, .ref a15, .ref a23, .null, .null, .null, .int (nI 0), .int (nI 0), .int (nI 0)])), (a7, .inl (cI, 6, .inl (fun _ => 0))), (a15, .inl (cI, 6, .inl (fun _ => 0))), (a23, .inl (cI, 6, .inl (fun _ => 0))), (a29, .inr (4, [.ref u33, .int (nI 1)])), (u33, .inl (cI, 20, .inl (upd (fun _ => 0) 0 (nI 108))))] := hD
  refine va_putF (D := D) (ci := 3) (v := .ref a29) (ty := .object "LatestSets$Law") (C := RX3) (T := TX3) (N := 9) hx hb hts hi3 tyX3 tyX3_ok nmX3 hown hK hP hD hS 0 rfl rfl 3 (by decide) hw14 (fun _ h9 => h9) rfl hin rfl (by decide +kernel) rfl rfl (Nat.le_of_ble_eq_true rfl) dX3_init_36 (fun H locs hP hD hS => ?_)
  have hP : va_P D vwCl [(w, .inr (3, [.ref a7, .ref a15, .ref a23, .ref a29, .null, .null, .int (nI 0), .int (nI 0), .int (nI 0)])), (a7, .inl (cI, 6, .inl (fun _ => 0))), (a15, .inl (cI, 6, .inl (fun _ => 0))), (a23, .inl (cI, 6, .inl (fun _ => 0))), (a29, .inr (4, [.ref u33, .int (nI 1)])), (u33, .inl (cI, 20, .inl (upd (fun _ => 0) 0 (nI 108))))] H := hP
  have hD : va_D A [(w, .inr (3, [.ref a7, .ref a15, .ref a23, .ref a29, .null, .null, .int (nI 0), .int (nI 0), .int (nI 0)])), (a7, .inl (cI, 6, .inl (fun _ => 0))), (a15, .inl (cI, 6, .inl (fun _ => 0))), (a23, .inl (cI, 6, .inl (fun _ => 0))), (a29, .inr (4, [.ref u33, .int (nI 1)])), (u33, .inl (cI, 20, .inl (upd (fun _ => 0) 0 (nI 108))))] := hD
  refine lv_aload_n hx hb dX3_init_39 rfl (lv_at hl 0 rfl) ?_
  refine lv_bipush (v := nI 6) hx hb dX3_init_40 (by decide) ?_
  refine va_newa (atype := .int) (ty := .int) (N' := 6) (a0 := (6, .inl (fun _ => 0))) hx hb hw3 rfl hK hP hD hS hA (fun _ => rfl) (nI_pos (by omega)) (nI_clamp (by omega)) (by decide) (Nat.le_of_ble_eq_true rfl) (Nat.le_of_ble_eq_true rfl) dX3_init_42 (fun a42 cA9 H hK9 hP hD hS => ?_)
  have ecA : cI = cA9 := Option.some.inj ((va_nm_int (hK.2 0 _ rfl).2).symm.trans (va_nm_int (hK9.2 5 _ rfl).2))
  subst ecA
  have hP : va_P D vwCl [(w, .inr (3, [.ref a7, .ref a15, .ref a23, .ref a29, .null, .null, .int (nI 0), .int (nI 0), .int (nI 0)])), (a7, .inl (cI, 6, .inl (fun _ => 0))), (a15, .inl (cI, 6, .inl (fun _ => 0))), (a23, .inl (cI, 6, .inl (fun _ => 0))), (a29, .inr (4, [.ref u33, .int (nI 1)])), (u33, .inl (cI, 20, .inl (upd (fun _ => 0) 0 (nI 108)))), (a42, .inl (cI, 6, .inl (fun _ => 0)))] H := hP
  have hD : va_D A [(w, .inr (3, [.ref a7, .ref a15, .ref a23, .ref a29, .null, .null, .int (nI 0), .int (nI 0), .int (nI 0)])), (a7, .inl (cI, 6, .inl (fun _ => 0))), (a15, .inl (cI, 6, .inl (fun _ => 0))), (a23, .inl (cI, 6, .inl (fun _ => 0))), (a29, .inr (4, [.ref u33, .int (nI 1)])), (u33, .inl (cI, 20, .inl (upd (fun _ => 0) 0 (nI 108)))), (a42, .inl (cI, 6, .inl (fun _ => 0)))] := hD
  refine va_putF (D := D) (ci := 3) (v := .ref a42) (ty := .array .int) (C := RX3) (T := TX3) (N := 9) hx hb hts hi3 tyX3 tyX3_ok nmX3 hown hK hP hD hS 0 rfl rfl 4 (by decide) hw15 (fun _ h9 => h9) rfl hin rfl (by decide +kernel) rfl rfl (Nat.le_of_ble_eq_true rfl) dX3_init_44 (fun H locs hP hD hS => ?_)
  have hP : va_P D vwCl [(w, .inr (3, [.ref a7, .ref a15, .ref a23, .ref a29, .ref a42, .null, .int (nI 0), .int (nI 0), .int (nI 0)])), (a7, .inl (cI, 6, .inl (fun _ => 0))), (a15, .inl (cI, 6, .inl (fun _ => 0))), (a23, .inl (cI, 6, .inl (fun _ => 0))), (a29, .inr (4, [.ref u33, .int (nI 1)])), (u33, .inl (cI, 20, .inl (upd (fun _ => 0) 0 (nI 108)))), (a42, .inl (cI, 6, .inl (fun _ => 0)))] H := hP
  have hD : va_D A [(w, .inr (3, [.ref a7, .ref a15, .ref a23, .ref a29, .ref a42, .null, .int (nI 0), .int (nI 0), .int (nI 0)])), (a7, .inl (cI, 6, .inl (fun _ => 0))), (a15, .inl (cI, 6, .inl (fun _ => 0))), (a23, .inl (cI, 6, .inl (fun _ => 0))), (a29, .inr (4, [.ref u33, .int (nI 1)])), (u33, .inl (cI, 20, .inl (upd (fun _ => 0) 0 (nI 108)))), (a42, .inl (cI, 6, .inl (fun _ => 0)))] := hD
  refine lv_aload_n hx hb dX3_init_47 rfl (lv_at hl 0 rfl) ?_
  refine lv_bipush (v := nI 6) hx hb dX3_init_48 (by decide) ?_
  refine va_newa (atype := .int) (ty := .int) (N' := 6) (a0 := (6, .inl (fun _ => 0))) hx hb hw3 rfl hK hP hD hS hA (fun _ => rfl) (nI_pos (by omega)) (nI_clamp (by omega)) (by decide) (Nat.le_of_ble_eq_true rfl) (Nat.le_of_ble_eq_true rfl) dX3_init_50 (fun a50 cA9 H hK9 hP hD hS => ?_)
  have ecA : cI = cA9 := Option.some.inj ((va_nm_int (hK.2 0 _ rfl).2).symm.trans (va_nm_int (hK9.2 5 _ rfl).2))
  subst ecA
  have hP : va_P D vwCl [(w, .inr (3, [.ref a7, .ref a15, .ref a23, .ref a29, .ref a42, .null, .int (nI 0), .int (nI 0), .int (nI 0)])), (a7, .inl (cI, 6, .inl (fun _ => 0))), (a15, .inl (cI, 6, .inl (fun _ => 0))), (a23, .inl (cI, 6, .inl (fun _ => 0))), (a29, .inr (4, [.ref u33, .int (nI 1)])), (u33, .inl (cI, 20, .inl (upd (fun _ => 0) 0 (nI 108)))), (a42, .inl (cI, 6, .inl (fun _ => 0))), (a50, .inl (cI, 6, .inl (fun _ => 0)))] H := hP
  have hD : va_D A [(w, .inr (3, [.ref a7, .ref a15, .ref a23, .ref a29, .ref a42, .null, .int (nI 0), .int (nI 0), .int (nI 0)])), (a7, .inl (cI, 6, .inl (fun _ => 0))), (a15, .inl (cI, 6, .inl (fun _ => 0))), (a23, .inl (cI, 6, .inl (fun _ => 0))), (a29, .inr (4, [.ref u33, .int (nI 1)])), (u33, .inl (cI, 20, .inl (upd (fun _ => 0) 0 (nI 108)))), (a42, .inl (cI, 6, .inl (fun _ => 0))), (a50, .inl (cI, 6, .inl (fun _ => 0)))] := hD
  refine va_putF (D := D) (ci := 3) (v := .ref a50) (ty := .array .int) (C := RX3) (T := TX3) (N := 9) hx hb hts hi3 tyX3 tyX3_ok nmX3 hown hK hP hD hS 0 rfl rfl 5 (by decide) hw16 (fun _ h9 => h9) rfl hin rfl (by decide +kernel) rfl rfl (Nat.le_of_ble_eq_true rfl) dX3_init_52 (fun H locs hP hD hS => ?_)
  have hP : va_P D vwCl [(w, .inr (3, [.ref a7, .ref a15, .ref a23, .ref a29, .ref a42, .ref a50, .int (nI 0), .int (nI 0), .int (nI 0)])), (a7, .inl (cI, 6, .inl (fun _ => 0))), (a15, .inl (cI, 6, .inl (fun _ => 0))), (a23, .inl (cI, 6, .inl (fun _ => 0))), (a29, .inr (4, [.ref u33, .int (nI 1)])), (u33, .inl (cI, 20, .inl (upd (fun _ => 0) 0 (nI 108)))), (a42, .inl (cI, 6, .inl (fun _ => 0))), (a50, .inl (cI, 6, .inl (fun _ => 0)))] H := hP
  have hD : va_D A [(w, .inr (3, [.ref a7, .ref a15, .ref a23, .ref a29, .ref a42, .ref a50, .int (nI 0), .int (nI 0), .int (nI 0)])), (a7, .inl (cI, 6, .inl (fun _ => 0))), (a15, .inl (cI, 6, .inl (fun _ => 0))), (a23, .inl (cI, 6, .inl (fun _ => 0))), (a29, .inr (4, [.ref u33, .int (nI 1)])), (u33, .inl (cI, 20, .inl (upd (fun _ => 0) 0 (nI 108)))), (a42, .inl (cI, 6, .inl (fun _ => 0))), (a50, .inl (cI, 6, .inl (fun _ => 0)))] := hD
  refine lv_aload_n hx hb dX3_init_55 rfl (lv_at hl 0 rfl) ?_
  refine lv_iconst (v := nI 1) hx hb dX3_init_56 (by decide) ?_
  refine va_put (D := D) (ci := 3) (v := .int (nI 1)) (ty := .int) (C := RX3) (T := TX3) (N := 9) hx hb hts hi3 tyX3 tyX3_ok nmX3 hown hK hP hD hS 0 rfl rfl 8 (by decide) hw17 (fun _ h9 => h9) rfl (by decide +kernel) rfl rfl (Nat.le_of_ble_eq_true rfl) dX3_init_57 (fun H locs hP hD hS => ?_)
  have hP : va_P D vwCl [(w, .inr (3, [.ref a7, .ref a15, .ref a23, .ref a29, .ref a42, .ref a50, .int (nI 0), .int (nI 0), .int (nI 1)])), (a7, .inl (cI, 6, .inl (fun _ => 0))), (a15, .inl (cI, 6, .inl (fun _ => 0))), (a23, .inl (cI, 6, .inl (fun _ => 0))), (a29, .inr (4, [.ref u33, .int (nI 1)])), (u33, .inl (cI, 20, .inl (upd (fun _ => 0) 0 (nI 108)))), (a42, .inl (cI, 6, .inl (fun _ => 0))), (a50, .inl (cI, 6, .inl (fun _ => 0)))] H := hP
  have hD : va_D A [(w, .inr (3, [.ref a7, .ref a15, .ref a23, .ref a29, .ref a42, .ref a50, .int (nI 0), .int (nI 0), .int (nI 1)])), (a7, .inl (cI, 6, .inl (fun _ => 0))), (a15, .inl (cI, 6, .inl (fun _ => 0))), (a23, .inl (cI, 6, .inl (fun _ => 0))), (a29, .inr (4, [.ref u33, .int (nI 1)])), (u33, .inl (cI, 20, .inl (upd (fun _ => 0) 0 (nI 108)))), (a42, .inl (cI, 6, .inl (fun _ => 0))), (a50, .inl (cI, 6, .inl (fun _ => 0)))] := hD
  refine lv_aload_n hx hb dX3_init_60 rfl (lv_at hl 0 rfl) ?_
  refine lv_iconst (v := nI 4) hx hb dX3_init_61 (by decide) ?_
  refine va_put (D := D) (ci := 3) (v := .int (nI 4)) (ty := .int) (C := RX3) (T := TX3) (N := 9) hx hb hts hi3 tyX3 tyX3_ok nmX3 hown hK hP hD hS 0 rfl rfl 7 (by decide) hw18 (fun _ h9 => h9) rfl (by decide +kernel) rfl rfl (Nat.le_of_ble_eq_true rfl) dX3_init_62 (fun H locs hP hD hS => ?_)
  have hP : va_P D vwCl [(w, .inr (3, [.ref a7, .ref a15, .ref a23, .ref a29, .ref a42, .ref a50, .int (nI 0), .int (nI 4), .int (nI 1)])), (a7, .inl (cI, 6, .inl (fun _ => 0))), (a15, .inl (cI, 6, .inl (fun _ => 0))), (a23, .inl (cI, 6, .inl (fun _ => 0))), (a29, .inr (4, [.ref u33, .int (nI 1)])), (u33, .inl (cI, 20, .inl (upd (fun _ => 0) 0 (nI 108)))), (a42, .inl (cI, 6, .inl (fun _ => 0))), (a50, .inl (cI, 6, .inl (fun _ => 0)))] H := hP
  have hD : va_D A [(w, .inr (3, [.ref a7, .ref a15, .ref a23, .ref a29, .ref a42, .ref a50, .int (nI 0), .int (nI 4), .int (nI 1)])), (a7, .inl (cI, 6, .inl (fun _ => 0))), (a15, .inl (cI, 6, .inl (fun _ => 0))), (a23, .inl (cI, 6, .inl (fun _ => 0))), (a29, .inr (4, [.ref u33, .int (nI 1)])), (u33, .inl (cI, 20, .inl (upd (fun _ => 0) 0 (nI 108)))), (a42, .inl (cI, 6, .inl (fun _ => 0))), (a50, .inl (cI, 6, .inl (fun _ => 0)))] := hD
  refine lv_aload_n hx hb dX3_init_65 rfl (lv_at hl 0 rfl) ?_
  refine va_get (D := D) (ci := 3) (v := .ref a23) (C := RX3) (T := TX3) (N := 9) hx hb hts hi3 hown hK hP 0 rfl rfl 2 (by decide) hw7 (fun _ h9 => h9) rfl dX3_init_66 ?_
  refine lv_bipush (v := nI 12) hx hb dX3_init_69 (by decide) ?_
  refine cal_v (run_S (As := [.ref a23, .int (nI 12)]) (rest := []) SF (c_fillI l D cI cJ cZ cG cM a23 6 (fun _ => 0) (nI 12) (by omega)) (va_cwS 2 hts gX3_init_J7_fill_53178 rfl rfl rfl (by decide +kernel) ⟨Nat.le_of_ble_eq_true rfl, Nat.le_of_ble_eq_true rfl⟩) hN hK hP hD [3] rfl (by decide) rfl hl.1 rfl (Nat.le_of_ble_eq_true rfl) dX3_init_71 ⟨Nat.le_of_ble_eq_true rfl, Nat.le_of_ble_eq_true rfl⟩) ⟨rfl, rfl⟩ hP hD hS hA [3] rfl (fun _ => rfl) (fun _ H locs hw hP hD hS => ?_)
  have hP : va_P D vwCl [(w, .inr (3, [.ref a7, .ref a15, .ref a23, .ref a29, .ref a42, .ref a50, .int (nI 0), .int (nI 4), .int (nI 1)])), (a7, .inl (cI, 6, .inl (fun _ => 0))), (a15, .inl (cI, 6, .inl (fun _ => 0))), (a23, .inl (cI, 6, .inl (filI (fun _ => 0) (nI 12) 6))), (a29, .inr (4, [.ref u33, .int (nI 1)])), (u33, .inl (cI, 20, .inl (upd (fun _ => 0) 0 (nI 108)))), (a42, .inl (cI, 6, .inl (fun _ => 0))), (a50, .inl (cI, 6, .inl (fun _ => 0)))] H := hP
  have hD : va_D A [(w, .inr (3, [.ref a7, .ref a15, .ref a23, .ref a29, .ref a42, .ref a50, .int (nI 0), .int (nI 4), .int (nI 1)])), (a7, .inl (cI, 6, .inl (fun _ => 0))), (a15, .inl (cI, 6, .inl (fun _ => 0))), (a23, .inl (cI, 6, .inl (filI (fun _ => 0) (nI 12) 6))), (a29, .inr (4, [.ref u33, .int (nI 1)])), (u33, .inl (cI, 20, .inl (upd (fun _ => 0) 0 (nI 108)))), (a42, .inl (cI, 6, .inl (fun _ => 0))), (a50, .inl (cI, 6, .inl (fun _ => 0)))] := hD
  exact hret ((a7, a15, a23, a29, u33, a42, a50)) _ _ _ _ dX3_init_74 trivial hP hD hS

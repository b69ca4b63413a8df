abbrev rm_X7_members : Room := { frames := 2, cells := 0, slots := 0, locals := 44 }
set_option maxHeartbeats 4000000 in
set_option maxRecDepth 100000 in
theorem o_members (l : Launch) (D : va_G) (cI cJ cZ cG cM : ClassId) (xo pd b rg ch cn im : Nat) (g ge gl gb gw gsw gsh : Nat) (fi : Int32) (n ns : Nat) (fe fl fb : Nat → Int32) (x : Int32) (h6 : n ≤ 6) :
    CI l yX7_members wsX7_members rm_X7_members D [(cI, .int), (cJ, .long), (cZ, .boolean), (cG, .object "LatestSets$Guild"), (cM, .array .int)] [(xo, .inr (7, [.ref g, .ref pd, .ref b, .ref rg, .ref ch, .ref cn, .ref im])), (g, .inr (3, [.ref ge, .ref gl, .ref gb, .ref gw, .ref gsw, .ref gsh, .int (nI ns), .int (nI n), .int fi])), (ge, .inl (cI, 6, .inl fe)), (gl, .inl (cI, 6, .inl fl)), (gb, .inl (cI, 6, .inl fb))] [.ref xo, .int x] (S := (Nat × Nat × (Nat → Int32) × (Nat → Int32) × (Nat → Int32))) (fun r u => r = (if nI 1 ≤ x ∧ x ≤ nI 6 then nI n else (-2)) ∧ u = (if nI 1 ≤ x ∧ x ≤ nI 6 then (x.toNatClampNeg, 0, filI fe (nI 0) 6, filI fl (nI 0) 6, filI fb (nI 12) 6) else (n, ns, fe, fl, fb))) (fun u => [(xo, .inr (7, [.ref g, .ref pd, .ref b, .ref rg, .ref ch, .ref cn, .ref im])), (g, .inr (3, [.ref ge, .ref gl, .ref gb, .ref gw, .ref gsw, .ref gsh, .int (nI u.2.1), .int (nI u.1), .int fi])), (ge, .inl (cI, 6, .inl u.2.2.1)), (gl, .inl (cI, 6, .inl u.2.2.2.1)), (gb, .inl (cI, 6, .inl u.2.2.2.2))]) := by
  refine si_of (cc := cX7_members) (maxL := 3) (by decide) rfl (Nat.le_of_ble_eq_true rfl) ?_
  intro p e s m args below meth c A ls Q E hret
  obtain ⟨hx, hb, -, hml, hown, hts, -, hin, hA, hK, hP, hD, hS, hl, hN⟩ := E
  have hown : s.vm.findClass RX7 = some m.cls := hown
  have hl : lv_has ls 3 [(0, .ref xo), (1, .int x)] := hl
  have SF : CallFix p m c cX7_members 3 s args wsX7_members RX7 := ⟨hx, hb, hml, hown, hts⟩
  have hw0 := hts (.fieldLink RX7 15 "LatestSets" "guild" "LLatestSets$Guild;") (by decide +kernel)
  have hi7 : ∀ x ∈ wsX70, x ∈ wsX7_members := by decide +kernel
  have hw2 := hts (.fieldLink RX7 63 "LatestSets$Guild" "count" "I") (by decide +kernel)
  have hi3 : ∀ x ∈ wsX30, x ∈ wsX7_members := by decide +kernel
  refine lv_iload_n hx hb dX7_members_0 rfl (lv_at hl 1 rfl) ?_
  refine lv_iconst (v := nI 1) hx hb dX7_members_1 (by decide) ?_
  refine lv_bipush (v := nI 6) hx hb dX7_members_2 (by decide) ?_
  refine cal_i (run_S (As := [.int x, .int (nI 1), .int (nI 6)]) (rest := []) SF (c_within l D cI cJ cZ cG cM x (nI 1) (nI 6)) (va_cwS 3 hts gX7_members_X7_within rfl rfl rfl (by decide +kernel) ⟨Nat.le_of_ble_eq_true rfl, Nat.le_of_ble_eq_true rfl⟩) hN hK hP hD [] rfl (by decide) rfl hl.1 rfl (Nat.le_of_ble_eq_true rfl) dX7_members_4 ⟨Nat.le_of_ble_eq_true rfl, Nat.le_of_ble_eq_true rfl⟩) ⟨rfl, rfl⟩ hP hD hS hA [] rfl (fun _ => rfl) (fun r4 _ H locs hw hP hD hS => ?_)
  have hP : va_P D vwCl [(xo, .inr (7, [.ref g, .ref pd, .ref b, .ref rg, .ref ch, .ref cn, .ref im])), (g, .inr (3, [.ref ge, .ref gl, .ref gb, .ref gw, .ref gsw, .ref gsh, .int (nI ns), .int (nI n), .int fi])), (ge, .inl (cI, 6, .inl fe)), (gl, .inl (cI, 6, .inl fl)), (gb, .inl (cI, 6, .inl fb))] H := hP
  have hD : va_D A [(xo, .inr (7, [.ref g, .ref pd, .ref b, .ref rg, .ref ch, .ref cn, .ref im])), (g, .inr (3, [.ref ge, .ref gl, .ref gb, .ref gw, .ref gsw, .ref gsh, .int (nI ns), .int (nI n), .int fi])), (ge, .inl (cI, 6, .inl fe)), (gl, .inl (cI, 6, .inl fl)), (gb, .inl (cI, 6, .inl fb))] := hD
  rcases hw with ⟨b4, rfl⟩ | ⟨b4, rfl⟩
  · obtain ⟨k, k1k, k2k, rfl⟩ := nI_rng (by omega) (by omega) b4.1 b4.2
    refine lv_if_ne (tgt := 13) hx hb dX7_members_7 (by decide) (fun _ => ?_) (fun c9 => absurd c9 (by decide))
    refine lv_aload_n hx hb dX7_members_13 rfl (lv_at hl 0 rfl) ?_
    refine va_get (D := D) (ci := 7) (v := .ref g) (C := RX7) (T := TX7) (N := 7) hx hb hts hi7 hown hK hP 0 rfl rfl 0 (by decide) hw0 (fun _ h9 => h9) rfl dX7_members_14 ?_
    refine va_get (D := D) (ci := 3) (v := .int (nI n)) (C := RX3) (T := TX3) (N := 9) hx hb hts hi3 hown hK hP 1 rfl rfl 7 (by decide) hw2 (fun _ h9 => h9) rfl dX7_members_17 ?_
    refine lv_istore_n (lv' := [(2, .int (nI n)), (0, .ref xo), (1, .int (nI k))]) hx hb dX7_members_20 rfl hl (by decide) rfl (fun ls hl => ?_)
    refine lv_aload_n hx hb dX7_members_21 rfl (lv_at hl 1 rfl) ?_
    refine va_get (D := D) (ci := 7) (v := .ref g) (C := RX7) (T := TX7) (N := 7) hx hb hts hi7 hown hK hP 0 rfl rfl 0 (by decide) hw0 (fun _ h9 => h9) rfl dX7_members_22 ?_
    refine lv_iload_n hx hb dX7_members_25 rfl (lv_at hl 2 rfl) ?_
    refine cal_v (run_V (As := [.int (nI k)]) (rest := []) SF (c_assemble l D cI cJ cZ cG cM g ge gl gb gw gsw gsh (nI ns) fi n k fe fl fb) (cwV 1 hts gX7_members_X3_assemble rfl rfl rfl (by decide +kernel) ⟨Nat.le_of_ble_eq_true rfl, Nat.le_of_ble_eq_true rfl⟩) hN hK hP hD [1, 2, 3, 4] rfl (by decide) 3 1 rfl rfl rfl rfl hl.1 rfl (Nat.le_of_ble_eq_true rfl) dX7_members_26 ⟨Nat.le_of_ble_eq_true rfl, Nat.le_of_ble_eq_true rfl⟩) ⟨rfl, rfl⟩ hP hD hS hA [1, 2, 3, 4] rfl (fun _ => rfl) (fun _ H locs hw hP hD hS => ?_)
    have hP : va_P D vwCl [(xo, .inr (7, [.ref g, .ref pd, .ref b, .ref rg, .ref ch, .ref cn, .ref im])), (g, .inr (3, [.ref ge, .ref gl, .ref gb, .ref gw, .ref gsw, .ref gsh, .int (nI 0), .int (nI k), .int fi])), (ge, .inl (cI, 6, .inl (filI fe (nI 0) 6))), (gl, .inl (cI, 6, .inl (filI fl (nI 0) 6))), (gb, .inl (cI, 6, .inl (filI fb (nI 12) 6)))] H := hP
    have hD : va_D A [(xo, .inr (7, [.ref g, .ref pd, .ref b, .ref rg, .ref ch, .ref cn, .ref im])), (g, .inr (3, [.ref ge, .ref gl, .ref gb, .ref gw, .ref gsw, .ref gsh, .int (nI 0), .int (nI k), .int fi])), (ge, .inl (cI, 6, .inl (filI fe (nI 0) 6))), (gl, .inl (cI, 6, .inl (filI fl (nI 0) 6))), (gb, .inl (cI, 6, .inl (filI fb (nI 12) 6)))] := hD
    refine lv_iload_n hx hb dX7_members_29 rfl (lv_at hl 0 rfl) ?_
    exact hret (nI n) ((k, 0, filI fe (nI 0) 6, filI fl (nI 0) 6, filI fb (nI 12) 6)) _ _ _ _ dX7_members_30 ⟨by rw [if_pos b4], by rw [if_pos b4, nI_clamp (by omega)]⟩ hP hD hS
  · refine lv_if_ne (tgt := 13) hx hb dX7_members_7 (by decide) (fun c9 => absurd c9 (by decide)) (fun _ => ?_)
    refine lv_bipush (v := (-2)) hx hb dX7_members_10 (by decide) ?_
    exact hret ((-2)) ((n, ns, fe, fl, fb)) _ _ _ _ dX7_members_12 ⟨by rw [if_neg b4], by rw [if_neg b4]⟩ hP hD hS

abbrev rm_X7_member : Room := { frames := 1, cells := 0, slots := 0, locals := 22 }
set_option maxHeartbeats 4000000 in
set_option maxRecDepth 100000 in
theorem o_member (l : Launch) (D : va_G) (cI cJ cZ cG cM : ClassId) (xo pd b rg ch cn im : Nat) (g ge gl gb gw gsw gsh : Nat) (fi : Int32) (n ns : Nat) (fe fl fb : Nat → Int32) (x y v : Int32) (h6 : n ≤ 6) :
    CI l yX7_member wsX7_member rm_X7_member D [(cI, .int), (cJ, .long), (cZ, .boolean), (cG, .object "LatestSets$Guild"), (cM, .array .int)] [(xo, .inr (7, [.ref g, .ref pd, .ref b, .ref rg, .ref ch, .ref cn, .ref im])), (g, .inr (3, [.ref ge, .ref gl, .ref gb, .ref gw, .ref gsw, .ref gsh, .int (nI ns), .int (nI n), .int fi])), (ge, .inl (cI, 6, .inl fe)), (gl, .inl (cI, 6, .inl fl)), (gb, .inl (cI, 6, .inl fb))] [.ref xo, .int x, .int y, .int v] (S := ((Nat → Int32) × (Nat → Int32) × (Nat → Int32))) (fun r u => r = (if nI 0 ≤ x ∧ x < nI n then (if (nI 0 ≤ y ∧ y ≤ nI 2) ∧ (nI 0 ≤ v ∧ v ≤ nI (if y = nI 1 then 5 else 23)) then (if y = nI 0 then fe x.toNatClampNeg else if y = nI 1 then fl x.toNatClampNeg else fb x.toNatClampNeg) else (-2)) else (-1)) ∧ u = (if (nI 0 ≤ x ∧ x < nI n) ∧ ((nI 0 ≤ y ∧ y ≤ nI 2) ∧ (nI 0 ≤ v ∧ v ≤ nI (if y = nI 1 then 5 else 23))) then (if y = nI 0 then upd fe x.toNatClampNeg v else fe, if y = nI 1 then upd fl x.toNatClampNeg v else fl, if y = nI 2 then upd fb x.toNatClampNeg v else fb) else (fe, fl, fb))) (fun u => [(xo, .inr (7, [.ref g, .ref pd, .ref b, .ref rg, .ref ch, .ref cn, .ref im])), (g, .inr (3, [.ref ge, .ref gl, .ref gb, .ref gw, .ref gsw, .ref gsh, .int (nI ns), .int (nI n), .int fi])), (ge, .inl (cI, 6, .inl u.1)), (gl, .inl (cI, 6, .inl u.2.1)), (gb, .inl (cI, 6, .inl u.2.2))]) := by
  refine si_of (cc := cX7_member) (maxL := 6) (by decide) rfl (Nat.le_of_ble_eq_true rfl) ?_
  intro p e s m args below meth c A ls Q E hret
  obtain ⟨hx, hb, -, hml, hown, hts, -, hin, hA, hK, hP, hD, hS, hl, hN⟩ := E
  have hown : s.vm.findClass RX7 = some m.cls := hown
  have hl : lv_has ls 6 [(0, .ref xo), (1, .int x), (2, .int y), (3, .int v)] := hl
  have SF : CallFix p m c cX7_member 6 s args wsX7_member RX7 := ⟨hx, hb, hml, hown, hts⟩
  have hw0 := hts (.fieldLink RX7 15 "LatestSets" "guild" "LLatestSets$Guild;") (by decide +kernel)
  have hi7 : ∀ x ∈ wsX70, x ∈ wsX7_member := by decide +kernel
  refine lv_aload_n hx hb dX7_member_0 rfl (lv_at hl 0 rfl) ?_
  refine va_get (D := D) (ci := 7) (v := .ref g) (C := RX7) (T := TX7) (N := 7) hx hb hts hi7 hown hK hP 0 rfl rfl 0 (by decide) hw0 (fun _ h9 => h9) rfl dX7_member_1 ?_
  refine lv_iload_n hx hb dX7_member_4 rfl (lv_at hl 1 rfl) ?_
  refine cal_i (run_V (As := [.int x]) (rest := []) SF (c_has l D cI cJ cZ cG cM g ge gl gb gw gsw gsh (nI ns) fi n x) (cwV 1 hts gX7_member_X3_has rfl rfl rfl (by decide +kernel) ⟨Nat.le_of_ble_eq_true rfl, Nat.le_of_ble_eq_true rfl⟩) hN hK hP hD [1] rfl (by decide) 3 1 rfl rfl rfl rfl hl.1 rfl (Nat.le_of_ble_eq_true rfl) dX7_member_5 ⟨Nat.le_of_ble_eq_true rfl, Nat.le_of_ble_eq_true rfl⟩) ⟨rfl, rfl⟩ hP hD hS hA [1] rfl (fun _ => rfl) (fun r5 _ H locs hw hP hD hS => ?_)
  have hP : va_P D vwCl [(xo, .inr (7, [.ref g, .ref pd, .ref b, .ref rg, .ref ch, .ref cn, .ref im])), (g, .inr (3, [.ref ge, .ref gl, .ref gb, .ref gw, .ref gsw, .ref gsh, .int (nI ns), .int (nI n), .int fi])), (ge, .inl (cI, 6, .inl fe)), (gl, .inl (cI, 6, .inl fl)), (gb, .inl (cI, 6, .inl fb))] H := hP
  have hD : va_D A [(xo, .inr (7, [.ref g, .ref pd, .ref b, .ref rg, .ref ch, .ref cn, .ref im])), (g, .inr (3, [.ref ge, .ref gl, .ref gb, .ref gw, .ref gsw, .ref gsh, .int (nI ns), .int (nI n), .int fi])), (ge, .inl (cI, 6, .inl fe)), (gl, .inl (cI, 6, .inl fl)), (gb, .inl (cI, 6, .inl fb))] := hD
  rcases hw with ⟨b5, rfl⟩ | ⟨b5, rfl⟩
  · obtain ⟨kx, k2kx, rfl⟩ := nI_rngL (by omega) b5.1 b5.2
    refine lv_if_ne (tgt := 13) hx hb dX7_member_8 (by decide) (fun _ => ?_) (fun c9 => absurd c9 (by decide))
    refine lv_iload_n hx hb dX7_member_13 rfl (lv_at hl 2 rfl) ?_
    refine lv_iconst (v := nI 0) hx hb dX7_member_14 (by decide) ?_
    refine lv_iconst (v := nI 2) hx hb dX7_member_15 (by decide) ?_
    refine cal_i (run_S (As := [.int y, .int (nI 0), .int (nI 2)]) (rest := []) SF (c_within l D cI cJ cZ cG cM y (nI 0) (nI 2)) (va_cwS 3 hts gX7_member_X7_within rfl rfl rfl (by decide +kernel) ⟨Nat.le_of_ble_eq_true rfl, Nat.le_of_ble_eq_true rfl⟩) hN hK hP hD [] rfl (by decide) rfl hl.1 rfl (Nat.le_of_ble_eq_true rfl) dX7_member_16 ⟨Nat.le_of_ble_eq_true rfl, Nat.le_of_ble_eq_true rfl⟩) ⟨rfl, rfl⟩ hP hD hS hA [] rfl (fun _ => rfl) (fun r16 _ H locs hw hP hD hS => ?_)
    have hP : va_P D vwCl [(xo, .inr (7, [.ref g, .ref pd, .ref b, .ref rg, .ref ch, .ref cn, .ref im])), (g, .inr (3, [.ref ge, .ref gl, .ref gb, .ref gw, .ref gsw, .ref gsh, .int (nI ns), .int (nI n), .int fi])), (ge, .inl (cI, 6, .inl fe)), (gl, .inl (cI, 6, .inl fl)), (gb, .inl (cI, 6, .inl fb))] H := hP
    have hD : va_D A [(xo, .inr (7, [.ref g, .ref pd, .ref b, .ref rg, .ref ch, .ref cn, .ref im])), (g, .inr (3, [.ref ge, .ref gl, .ref gb, .ref gw, .ref gsw, .ref gsh, .int (nI ns), .int (nI n), .int fi])), (ge, .inl (cI, 6, .inl fe)), (gl, .inl (cI, 6, .inl fl)), (gb, .inl (cI, 6, .inl fb))] := hD
    rcases hw with ⟨b16, rfl⟩ | ⟨b16, rfl⟩
    · obtain ⟨ky, k1ky, k2ky, rfl⟩ := nI_rng (by omega) (by omega) b16.1 b16.2
      rcases (show ky = 0 ∨ ky = 1 ∨ ky = 2 by omega) with rfl | rfl | rfl
      · refine lv_if_eq (tgt := 41) hx hb dX7_member_19 (by decide) (fun c9 => absurd c9 (by decide)) (fun _ => ?_)
        refine lv_iload_n hx hb dX7_member_22 rfl (lv_at hl 3 rfl) ?_
        refine lv_iconst (v := nI 0) hx hb dX7_member_23 (by decide) ?_
        refine lv_iload_n hx hb dX7_member_24 rfl (lv_at hl 2 rfl) ?_
        refine lv_iconst (v := nI 1) hx hb dX7_member_25 (by decide) ?_
        refine icmp_ne_n (a := 0) (b := 1) (tgt := 33) hx hb dX7_member_26 (by decide) (by omega) (by omega) (fun _ => ?_) (fun c9 => absurd c9 (by decide))
        refine lv_bipush (v := nI 23) hx hb dX7_member_33 (by decide) ?_
        refine cal_i (run_S (As := [.int v, .int (nI 0), .int (nI 23)]) (rest := []) SF (c_within l D cI cJ cZ cG cM v (nI 0) (nI 23)) (va_cwS 3 hts gX7_member_X7_within rfl rfl rfl (by decide +kernel) ⟨Nat.le_of_ble_eq_true rfl, Nat.le_of_ble_eq_true rfl⟩) hN hK hP hD [] rfl (by decide) rfl hl.1 rfl (Nat.le_of_ble_eq_true rfl) dX7_member_35 ⟨Nat.le_of_ble_eq_true rfl, Nat.le_of_ble_eq_true rfl⟩) ⟨rfl, rfl⟩ hP hD hS hA [] rfl (fun _ => rfl) (fun r35 _ H locs hw hP hD hS => ?_)
        have hP : va_P D vwCl [(xo, .inr (7, [.ref g, .ref pd, .ref b, .ref rg, .ref ch, .ref cn, .ref im])), (g, .inr (3, [.ref ge, .ref gl, .ref gb, .ref gw, .ref gsw, .ref gsh, .int (nI ns), .int (nI n), .int fi])), (ge, .inl (cI, 6, .inl fe)), (gl, .inl (cI, 6, .inl fl)), (gb, .inl (cI, 6, .inl fb))] H := hP
        have hD : va_D A [(xo, .inr (7, [.ref g, .ref pd, .ref b, .ref rg, .ref ch, .ref cn, .ref im])), (g, .inr (3, [.ref ge, .ref gl, .ref gb, .ref gw, .ref gsw, .ref gsh, .int (nI ns), .int (nI n), .int fi])), (ge, .inl (cI, 6, .inl fe)), (gl, .inl (cI, 6, .inl fl)), (gb, .inl (cI, 6, .inl fb))] := hD
        rcases hw with ⟨b35, rfl⟩ | ⟨b35, rfl⟩
        · refine lv_if_ne (tgt := 44) hx hb dX7_member_38 (by decide) (fun _ => ?_) (fun c9 => absurd c9 (by decide))
          refine lv_aload_n hx hb dX7_member_44 rfl (lv_at hl 0 rfl) ?_
          refine va_get (D := D) (ci := 7) (v := .ref g) (C := RX7) (T := TX7) (N := 7) hx hb hts hi7 hown hK hP 0 rfl rfl 0 (by decide) hw0 (fun _ h9 => h9) rfl dX7_member_45 ?_
          refine lv_iload_n hx hb dX7_member_48 rfl (lv_at hl 2 rfl) ?_
          refine cal_r (run_V (As := [.int (nI 0)]) (rest := []) SF (c_rowOf l D cI cJ cZ cG cM g ge gl gb gw gsw gsh (nI ns) fi n (nI 0)) (cwV 1 hts gX7_member_X3_rowOf rfl rfl rfl (by decide +kernel) ⟨Nat.le_of_ble_eq_true rfl, Nat.le_of_ble_eq_true rfl⟩) hN hK hP hD [1] rfl (by decide) 3 1 rfl rfl rfl rfl hl.1 rfl (Nat.le_of_ble_eq_true rfl) dX7_member_49 ⟨Nat.le_of_ble_eq_true rfl, Nat.le_of_ble_eq_true rfl⟩) ⟨rfl, rfl⟩ hP hD hS hA [1] rfl (fun _ => rfl) (fun u49 H locs hw hP hD hS => ?_)
          have hP : va_P D vwCl [(xo, .inr (7, [.ref g, .ref pd, .ref b, .ref rg, .ref ch, .ref cn, .ref im])), (g, .inr (3, [.ref ge, .ref gl, .ref gb, .ref gw, .ref gsw, .ref gsh, .int (nI ns), .int (nI n), .int fi])), (ge, .inl (cI, 6, .inl fe)), (gl, .inl (cI, 6, .inl fl)), (gb, .inl (cI, 6, .inl fb))] H := hP
          have hD : va_D A [(xo, .inr (7, [.ref g, .ref pd, .ref b, .ref rg, .ref ch, .ref cn, .ref im])), (g, .inr (3, [.ref ge, .ref gl, .ref gb, .ref gw, .ref gsw, .ref gsh, .int (nI ns), .int (nI n), .int fi])), (ge, .inl (cI, 6, .inl fe)), (gl, .inl (cI, 6, .inl fl)), (gb, .inl (cI, 6, .inl fb))] := hD
          have hw : ge = u49 := hw.symm
          subst hw
          refine lv_astore (lv' := [(4, .ref ge), (0, .ref xo), (1, .int (nI kx)), (2, .int (nI 0)), (3, .int v)]) hx hb dX7_member_52 hl (by decide) rfl (fun ls hl => ?_)
          refine lv_aload hx hb dX7_member_54 (lv_at hl 0 rfl) ?_
          refine lv_iload_n hx hb dX7_member_56 rfl (lv_at hl 2 rfl) ?_
          refine iald_n (k := kx) hx hb hK hP 2 0 rfl rfl (by omega) (by omega) dX7_member_57 ?_
          refine lv_istore (lv' := [(5, .int (fe kx)), (4, .ref ge), (0, .ref xo), (1, .int (nI kx)), (2, .int (nI 0)), (3, .int v)]) hx hb dX7_member_58 hl (by decide) rfl (fun ls hl => ?_)
          refine lv_aload hx hb dX7_member_60 (lv_at hl 1 rfl) ?_
          refine lv_iload_n hx hb dX7_member_62 rfl (lv_at hl 3 rfl) ?_
          refine lv_iload_n hx hb dX7_member_63 rfl (lv_at hl 5 rfl) ?_
          refine iast_n (k := kx) hx hb hK hP hD hS 2 0 rfl rfl (by omega) (by omega) dX7_member_64 (fun H locs hP hD hS => ?_)
          have hP : va_P D vwCl [(xo, .inr (7, [.ref g, .ref pd, .ref b, .ref rg, .ref ch, .ref cn, .ref im])), (g, .inr (3, [.ref ge, .ref gl, .ref gb, .ref gw, .ref gsw, .ref gsh, .int (nI ns), .int (nI n), .int fi])), (ge, .inl (cI, 6, .inl (upd fe kx v))), (gl, .inl (cI, 6, .inl fl)), (gb, .inl (cI, 6, .inl fb))] H := hP
          have hD : va_D A [(xo, .inr (7, [.ref g, .ref pd, .ref b, .ref rg, .ref ch, .ref cn, .ref im])), (g, .inr (3, [.ref ge, .ref gl, .ref gb, .ref gw, .ref gsw, .ref gsh, .int (nI ns), .int (nI n), .int fi])), (ge, .inl (cI, 6, .inl (upd fe kx v))), (gl, .inl (cI, 6, .inl fl)), (gb, .inl (cI, 6, .inl fb))] := hD
          refine lv_iload hx hb dX7_member_65 (lv_at hl 0 rfl) ?_
          exact hret (fe kx) ((upd fe kx v, fl, fb)) _ _ _ _ dX7_member_67 ⟨by rw [if_pos b5, if_pos ⟨b16, b35⟩, nI_clamp (by omega)]; rfl, by rw [if_pos ⟨b5, b16, b35⟩, nI_clamp (by omega)]; rfl⟩ hP hD hS
        · refine lv_if_ne (tgt := 44) hx hb dX7_member_38 (by decide) (fun c9 => absurd c9 (by decide)) (fun _ => ?_)
          refine lv_bipush (v := (-2)) hx hb dX7_member_41 (by decide) ?_
          exact hret ((-2)) ((fe, fl, fb)) _ _ _ _ dX7_member_43 ⟨by rw [if_pos b5, if_neg (fun z => b35 z.2)], by rw [if_neg (fun z => b35 z.2.2)]⟩ hP hD hS
      · refine lv_if_eq (tgt := 41) hx hb dX7_member_19 (by decide) (fun c9 => absurd c9 (by decide)) (fun _ => ?_)
        refine lv_iload_n hx hb dX7_member_22 rfl (lv_at hl 3 rfl) ?_
        refine lv_iconst (v := nI 0) hx hb dX7_member_23 (by decide) ?_
        refine lv_iload_n hx hb dX7_member_24 rfl (lv_at hl 2 rfl) ?_
        refine lv_iconst (v := nI 1) hx hb dX7_member_25 (by decide) ?_
        refine icmp_ne_n (a := 1) (b := 1) (tgt := 33) hx hb dX7_member_26 (by decide) (by omega) (by omega) (fun c9 => absurd c9 (by decide)) (fun _ => ?_)
        refine lv_iconst (v := nI 5) hx hb dX7_member_29 (by decide) ?_
        refine lv_goto (tgt := 35) hx hb dX7_member_30 (by decide) ?_
        refine cal_i (run_S (As := [.int v, .int (nI 0), .int (nI 5)]) (rest := []) SF (c_within l D cI cJ cZ cG cM v (nI 0) (nI 5)) (va_cwS 3 hts gX7_member_X7_within rfl rfl rfl (by decide +kernel) ⟨Nat.le_of_ble_eq_true rfl, Nat.le_of_ble_eq_true rfl⟩) hN hK hP hD [] rfl (by decide) rfl hl.1 rfl (Nat.le_of_ble_eq_true rfl) dX7_member_35 ⟨Nat.le_of_ble_eq_true rfl, Nat.le_of_ble_eq_true rfl⟩) ⟨rfl, rfl⟩ hP hD hS hA [] rfl (fun _ => rfl) (fun r35 _ H locs hw hP hD hS => ?_)
        have hP : va_P D vwCl [(xo, .inr (7, [.ref g, .ref pd, .ref b, .ref rg, .ref ch, .ref cn, .ref im])), (g, .inr (3, [.ref ge, .ref gl, .ref gb, .ref gw, .ref gsw, .ref gsh, .int (nI ns), .int (nI n), .int fi])), (ge, .inl (cI, 6, .inl fe)), (gl, .inl (cI, 6, .inl fl)), (gb, .inl (cI, 6, .inl fb))] H := hP
        have hD : va_D A [(xo, .inr (7, [.ref g, .ref pd, .ref b, .ref rg, .ref ch, .ref cn, .ref im])), (g, .inr (3, [.ref ge, .ref gl, .ref gb, .ref gw, .ref gsw, .ref gsh, .int (nI ns), .int (nI n), .int fi])), (ge, .inl (cI, 6, .inl fe)), (gl, .inl (cI, 6, .inl fl)), (gb, .inl (cI, 6, .inl fb))] := hD
        rcases hw with ⟨b35, rfl⟩ | ⟨b35, rfl⟩
        · refine lv_if_ne (tgt := 44) hx hb dX7_member_38 (by decide) (fun _ => ?_) (fun c9 => absurd c9 (by decide))
          refine lv_aload_n hx hb dX7_member_44 rfl (lv_at hl 0 rfl) ?_
          refine va_get (D := D) (ci := 7) (v := .ref g) (C := RX7) (T := TX7) (N := 7) hx hb hts hi7 hown hK hP 0 rfl rfl 0 (by decide) hw0 (fun _ h9 => h9) rfl dX7_member_45 ?_
          refine lv_iload_n hx hb dX7_member_48 rfl (lv_at hl 2 rfl) ?_
          refine cal_r (run_V (As := [.int (nI 1)]) (rest := []) SF (c_rowOf l D cI cJ cZ cG cM g ge gl gb gw gsw gsh (nI ns) fi n (nI 1)) (cwV 1 hts gX7_member_X3_rowOf rfl rfl rfl (by decide +kernel) ⟨Nat.le_of_ble_eq_true rfl, Nat.le_of_ble_eq_true rfl⟩) hN hK hP hD [1] rfl (by decide) 3 1 rfl rfl rfl rfl hl.1 rfl (Nat.le_of_ble_eq_true rfl) dX7_member_49 ⟨Nat.le_of_ble_eq_true rfl, Nat.le_of_ble_eq_true rfl⟩) ⟨rfl, rfl⟩ hP hD hS hA [1] rfl (fun _ => rfl) (fun u49 H locs hw hP hD hS => ?_)
          have hP : va_P D vwCl [(xo, .inr (7, [.ref g, .ref pd, .ref b, .ref rg, .ref ch, .ref cn, .ref im])), (g, .inr (3, [.ref ge, .ref gl, .ref gb, .ref gw, .ref gsw, .ref gsh, .int (nI ns), .int (nI n), .int fi])), (ge, .inl (cI, 6, .inl fe)), (gl, .inl (cI, 6, .inl fl)), (gb, .inl (cI, 6, .inl fb))] H := hP
          have hD : va_D A [(xo, .inr (7, [.ref g, .ref pd, .ref b, .ref rg, .ref ch, .ref cn, .ref im])), (g, .inr (3, [.ref ge, .ref gl, .ref gb, .ref gw, .ref gsw, .ref gsh, .int (nI ns), .int (nI n), .int fi])), (ge, .inl (cI, 6, .inl fe)), (gl, .inl (cI, 6, .inl fl)), (gb, .inl (cI, 6, .inl fb))] := hD
          have hw : gl = u49 := hw.symm
          subst hw
          refine lv_astore (lv' := [(4, .ref gl), (0, .ref xo), (1, .int (nI kx)), (2, .int (nI 1)), (3, .int v)]) hx hb dX7_member_52 hl (by decide) rfl (fun ls hl => ?_)
          refine lv_aload hx hb dX7_member_54 (lv_at hl 0 rfl) ?_
          refine lv_iload_n hx hb dX7_member_56 rfl (lv_at hl 2 rfl) ?_
          refine iald_n (k := kx) hx hb hK hP 3 0 rfl rfl (by omega) (by omega) dX7_member_57 ?_
          refine lv_istore (lv' := [(5, .int (fl kx)), (4, .ref gl), (0, .ref xo), (1, .int (nI kx)), (2, .int (nI 1)), (3, .int v)]) hx hb dX7_member_58 hl (by decide) rfl (fun ls hl => ?_)
          refine lv_aload hx hb dX7_member_60 (lv_at hl 1 rfl) ?_
          refine lv_iload_n hx hb dX7_member_62 rfl (lv_at hl 3 rfl) ?_
          refine lv_iload_n hx hb dX7_member_63 rfl (lv_at hl 5 rfl) ?_
          refine iast_n (k := kx) hx hb hK hP hD hS 3 0 rfl rfl (by omega) (by omega) dX7_member_64 (fun H locs hP hD hS => ?_)
          have hP : va_P D vwCl [(xo, .inr (7, [.ref g, .ref pd, .ref b, .ref rg, .ref ch, .ref cn, .ref im])), (g, .inr (3, [.ref ge, .ref gl, .ref gb, .ref gw, .ref gsw, .ref gsh, .int (nI ns), .int (nI n), .int fi])), (ge, .inl (cI, 6, .inl fe)), (gl, .inl (cI, 6, .inl (upd fl kx v))), (gb, .inl (cI, 6, .inl fb))] H := hP
          have hD : va_D A [(xo, .inr (7, [.ref g, .ref pd, .ref b, .ref rg, .ref ch, .ref cn, .ref im])), (g, .inr (3, [.ref ge, .ref gl, .ref gb, .ref gw, .ref gsw, .ref gsh, .int (nI ns), .int (nI n), .int fi])), (ge, .inl (cI, 6, .inl fe)), (gl, .inl (cI, 6, .inl (upd fl kx v))), (gb, .inl (cI, 6, .inl fb))] := hD
          refine lv_iload hx hb dX7_member_65 (lv_at hl 0 rfl) ?_
          exact hret (fl kx) ((fe, upd fl kx v, fb)) _ _ _ _ dX7_member_67 ⟨by rw [if_pos b5, if_pos ⟨b16, b35⟩, nI_clamp (by omega)]; rfl, by rw [if_pos ⟨b5, b16, b35⟩, nI_clamp (by omega)]; rfl⟩ hP hD hS
        · refine lv_if_ne (tgt := 44) hx hb dX7_member_38 (by decide) (fun c9 => absurd c9 (by decide)) (fun _ => ?_)
          refine lv_bipush (v := (-2)) hx hb dX7_member_41 (by decide) ?_
          exact hret ((-2)) ((fe, fl, fb)) _ _ _ _ dX7_member_43 ⟨by rw [if_pos b5, if_neg (fun z => b35 z.2)], by rw [if_neg (fun z => b35 z.2.2)]⟩ hP hD hS
      · refine lv_if_eq (tgt := 41) hx hb dX7_member_19 (by decide) (fun c9 => absurd c9 (by decide)) (fun _ => ?_)
        refine lv_iload_n hx hb dX7_member_22 rfl (lv_at hl 3 rfl) ?_
        refine lv_iconst (v := nI 0) hx hb dX7_member_23 (by decide) ?_
        refine lv_iload_n hx hb dX7_member_24 rfl (lv_at hl 2 rfl) ?_
        refine lv_iconst (v := nI 1) hx hb dX7_member_25 (by decide) ?_
        refine icmp_ne_n (a := 2) (b := 1) (tgt := 33) hx hb dX7_member_26 (by decide) (by omega) (by omega) (fun _ => ?_) (fun c9 => absurd c9 (by decide))
        refine lv_bipush (v := nI 23) hx hb dX7_member_33 (by decide) ?_
        refine cal_i (run_S (As := [.int v, .int (nI 0), .int (nI 23)]) (rest := []) SF (c_within l D cI cJ cZ cG cM v (nI 0) (nI 23)) (va_cwS 3 hts gX7_member_X7_within rfl rfl rfl (by decide +kernel) ⟨Nat.le_of_ble_eq_true rfl, Nat.le_of_ble_eq_true rfl⟩) hN hK hP hD [] rfl (by decide) rfl hl.1 rfl (Nat.le_of_ble_eq_true rfl) dX7_member_35 ⟨Nat.le_of_ble_eq_true rfl, Nat.le_of_ble_eq_true rfl⟩) ⟨rfl, rfl⟩ hP hD hS hA [] rfl (fun _ => rfl) (fun r35 _ H locs hw hP hD hS => ?_)
        have hP : va_P D vwCl [(xo, .inr (7, [.ref g, .ref pd, .ref b, .ref rg, .ref ch, .ref cn, .ref im])), (g, .inr (3, [.ref ge, .ref gl, .ref gb, .ref gw, .ref gsw, .ref gsh, .int (nI ns), .int (nI n), .int fi])), (ge, .inl (cI, 6, .inl fe)), (gl, .inl (cI, 6, .inl fl)), (gb, .inl (cI, 6, .inl fb))] H := hP
        have hD : va_D A [(xo, .inr (7, [.ref g, .ref pd, .ref b, .ref rg, .ref ch, .ref cn, .ref im])), (g, .inr (3, [.ref ge, .ref gl, .ref gb, .ref gw, .ref gsw, .ref gsh, .int (nI ns), .int (nI n), .int fi])), (ge, .inl (cI, 6, .inl fe)), (gl, .inl (cI, 6, .inl fl)), (gb, .inl (cI, 6, .inl fb))] := hD
        rcases hw with ⟨b35, rfl⟩ | ⟨b35, rfl⟩
        · refine lv_if_ne (tgt := 44) hx hb dX7_member_38 (by decide) (fun _ => ?_) (fun c9 => absurd c9 (by decide))
          refine lv_aload_n hx hb dX7_member_44 rfl (lv_at hl 0 rfl) ?_
          refine va_get (D := D) (ci := 7) (v := .ref g) (C := RX7) (T := TX7) (N := 7) hx hb hts hi7 hown hK hP 0 rfl rfl 0 (by decide) hw0 (fun _ h9 => h9) rfl dX7_member_45 ?_
          refine lv_iload_n hx hb dX7_member_48 rfl (lv_at hl 2 rfl) ?_
          refine cal_r (run_V (As := [.int (nI 2)]) (rest := []) SF (c_rowOf l D cI cJ cZ cG cM g ge gl gb gw gsw gsh (nI ns) fi n (nI 2)) (cwV 1 hts gX7_member_X3_rowOf rfl rfl rfl (by decide +kernel) ⟨Nat.le_of_ble_eq_true rfl, Nat.le_of_ble_eq_true rfl⟩) hN hK hP hD [1] rfl (by decide) 3 1 rfl rfl rfl rfl hl.1 rfl (Nat.le_of_ble_eq_true rfl) dX7_member_49 ⟨Nat.le_of_ble_eq_true rfl, Nat.le_of_ble_eq_true rfl⟩) ⟨rfl, rfl⟩ hP hD hS hA [1] rfl (fun _ => rfl) (fun u49 H locs hw hP hD hS => ?_)
          have hP : va_P D vwCl [(xo, .inr (7, [.ref g, .ref pd, .ref b, .ref rg, .ref ch, .ref cn, .ref im])), (g, .inr (3, [.ref ge, .ref gl, .ref gb, .ref gw, .ref gsw, .ref gsh, .int (nI ns), .int (nI n), .int fi])), (ge, .inl (cI, 6, .inl fe)), (gl, .inl (cI, 6, .inl fl)), (gb, .inl (cI, 6, .inl fb))] H := hP
          have hD : va_D A [(xo, .inr (7, [.ref g, .ref pd, .ref b, .ref rg, .ref ch, .ref cn, .ref im])), (g, .inr (3, [.ref ge, .ref gl, .ref gb, .ref gw, .ref gsw, .ref gsh, .int (nI ns), .int (nI n), .int fi])), (ge, .inl (cI, 6, .inl fe)), (gl, .inl (cI, 6, .inl fl)), (gb, .inl (cI, 6, .inl fb))] := hD
          have hw : gb = u49 := hw.symm
          subst hw
          refine lv_astore (lv' := [(4, .ref gb), (0, .ref xo), (1, .int (nI kx)), (2, .int (nI 2)), (3, .int v)]) hx hb dX7_member_52 hl (by decide) rfl (fun ls hl => ?_)
          refine lv_aload hx hb dX7_member_54 (lv_at hl 0 rfl) ?_
          refine lv_iload_n hx hb dX7_member_56 rfl (lv_at hl 2 rfl) ?_
          refine iald_n (k := kx) hx hb hK hP 4 0 rfl rfl (by omega) (by omega) dX7_member_57 ?_
          refine lv_istore (lv' := [(5, .int (fb kx)), (4, .ref gb), (0, .ref xo), (1, .int (nI kx)), (2, .int (nI 2)), (3, .int v)]) hx hb dX7_member_58 hl (by decide) rfl (fun ls hl => ?_)
          refine lv_aload hx hb dX7_member_60 (lv_at hl 1 rfl) ?_
          refine lv_iload_n hx hb dX7_member_62 rfl (lv_at hl 3 rfl) ?_
          refine lv_iload_n hx hb dX7_member_63 rfl (lv_at hl 5 rfl) ?_
          refine iast_n (k := kx) hx hb hK hP hD hS 4 0 rfl rfl (by omega) (by omega) dX7_member_64 (fun H locs hP hD hS => ?_)
          have hP : va_P D vwCl [(xo, .inr (7, [.ref g, .ref pd, .ref b, .ref rg, .ref ch, .ref cn, .ref im])), (g, .inr (3, [.ref ge, .ref gl, .ref gb, .ref gw, .ref gsw, .ref gsh, .int (nI ns), .int (nI n), .int fi])), (ge, .inl (cI, 6, .inl fe)), (gl, .inl (cI, 6, .inl fl)), (gb, .inl (cI, 6, .inl (upd fb kx v)))] H := hP
          have hD : va_D A [(xo, .inr (7, [.ref g, .ref pd, .ref b, .ref rg, .ref ch, .ref cn, .ref im])), (g, .inr (3, [.ref ge, .ref gl, .ref gb, .ref gw, .ref gsw, .ref gsh, .int (nI ns), .int (nI n), .int fi])), (ge, .inl (cI, 6, .inl fe)), (gl, .inl (cI, 6, .inl fl)), (gb, .inl (cI, 6, .inl (upd fb kx v)))] := hD
          refine lv_iload hx hb dX7_member_65 (lv_at hl 0 rfl) ?_
          exact hret (fb kx) ((fe, fl, upd fb kx v)) _ _ _ _ dX7_member_67 ⟨by rw [if_pos b5, if_pos ⟨b16, b35⟩, nI_clamp (by omega)]; rfl, by rw [if_pos ⟨b5, b16, b35⟩, nI_clamp (by omega)]; rfl⟩ hP hD hS
        · refine lv_if_ne (tgt := 44) hx hb dX7_member_38 (by decide) (fun c9 => absurd c9 (by decide)) (fun _ => ?_)
          refine lv_bipush (v := (-2)) hx hb dX7_member_41 (by decide) ?_
          exact hret ((-2)) ((fe, fl, fb)) _ _ _ _ dX7_member_43 ⟨by rw [if_pos b5, if_neg (fun z => b35 z.2)], by rw [if_neg (fun z => b35 z.2.2)]⟩ hP hD hS
    · refine lv_if_eq (tgt := 41) hx hb dX7_member_19 (by decide) (fun _ => ?_) (fun c9 => absurd (by decide) c9)
      refine lv_bipush (v := (-2)) hx hb dX7_member_41 (by decide) ?_
      exact hret ((-2)) ((fe, fl, fb)) _ _ _ _ dX7_member_43 ⟨by rw [if_pos b5, if_neg (fun z => b16 z.1)], by rw [if_neg (fun z => b16 z.2.1)]⟩ hP hD hS
  · refine lv_if_ne (tgt := 13) hx hb dX7_member_8 (by decide) (fun c9 => absurd c9 (by decide)) (fun _ => ?_)
    refine lv_iconst (v := (-1)) hx hb dX7_member_11 (by decide) ?_
    exact hret ((-1)) ((fe, fl, fb)) _ _ _ _ dX7_member_12 ⟨by rw [if_neg b5], by rw [if_neg (fun z => b5 z.1)]⟩ hP hD hS

abbrev rm_X7_fine : Room := { frames := 1, cells := 0, slots := 0, locals := 22 }
set_option maxHeartbeats 4000000 in
set_option maxRecDepth 100000 in
theorem o_fine (l : Launch) (D : va_G) (cI cJ cZ cG cM : ClassId) (xo pd b rg ch cn im : Nat) (g ge gl gb gw gsw gsh : Nat) (fi : Int32) (n ns : Nat) (x : Int32) :
    CI l yX7_fine wsX7_fine rm_X7_fine D [(cI, .int), (cJ, .long), (cZ, .boolean), (cG, .object "LatestSets$Guild"), (cM, .array .int)] [(xo, .inr (7, [.ref g, .ref pd, .ref b, .ref rg, .ref ch, .ref cn, .ref im])), (g, .inr (3, [.ref ge, .ref gl, .ref gb, .ref gw, .ref gsw, .ref gsh, .int (nI ns), .int (nI n), .int fi]))] [.ref xo, .int x] (S := Int32) (fun r u => r = (if nI 0 ≤ x ∧ x ≤ nI 9 then fi else (-2)) ∧ u = (if nI 0 ≤ x ∧ x ≤ nI 9 then x else fi)) (fun u => [(xo, .inr (7, [.ref g, .ref pd, .ref b, .ref rg, .ref ch, .ref cn, .ref im])), (g, .inr (3, [.ref ge, .ref gl, .ref gb, .ref gw, .ref gsw, .ref gsh, .int (nI ns), .int (nI n), .int u]))]) := by
  refine si_of (cc := cX7_fine) (maxL := 3) (by decide) rfl (Nat.le_of_ble_eq_true rfl) ?_
  intro p e s m args below meth c A ls Q E hret
  obtain ⟨hx, hb, -, hml, hown, hts, -, hin, hA, hK, hP, hD, hS, hl, hN⟩ := E
  have hown : s.vm.findClass RX7 = some m.cls := hown
  have hl : lv_has ls 3 [(0, .ref xo), (1, .int x)] := hl
  have SF : CallFix p m c cX7_fine 3 s args wsX7_fine RX7 := ⟨hx, hb, hml, hown, hts⟩
  have hw0 := hts (.fieldLink RX7 15 "LatestSets" "guild" "LLatestSets$Guild;") (by decide +kernel)
  have hi7 : ∀ x ∈ wsX70, x ∈ wsX7_fine := by decide +kernel
  have hw2 := hts (.fieldLink RX7 79 "LatestSets$Guild" "fineEach" "I") (by decide +kernel)
  have hi3 : ∀ x ∈ wsX30, x ∈ wsX7_fine := by decide +kernel
  refine lv_iload_n hx hb dX7_fine_0 rfl (lv_at hl 1 rfl) ?_
  refine lv_iconst (v := nI 0) hx hb dX7_fine_1 (by decide) ?_
  refine lv_bipush (v := nI 9) hx hb dX7_fine_2 (by decide) ?_
  refine cal_i (run_S (As := [.int x, .int (nI 0), .int (nI 9)]) (rest := []) SF (c_within l D cI cJ cZ cG cM x (nI 0) (nI 9)) (va_cwS 3 hts gX7_fine_X7_within rfl rfl rfl (by decide +kernel) ⟨Nat.le_of_ble_eq_true rfl, Nat.le_of_ble_eq_true rfl⟩) hN hK hP hD [] rfl (by decide) rfl hl.1 rfl (Nat.le_of_ble_eq_true rfl) dX7_fine_4 ⟨Nat.le_of_ble_eq_true rfl, Nat.le_of_ble_eq_true rfl⟩) ⟨rfl, rfl⟩ hP hD hS hA [] rfl (fun _ => rfl) (fun r4 _ H locs hw hP hD hS => ?_)
  have hP : va_P D vwCl [(xo, .inr (7, [.ref g, .ref pd, .ref b, .ref rg, .ref ch, .ref cn, .ref im])), (g, .inr (3, [.ref ge, .ref gl, .ref gb, .ref gw, .ref gsw, .ref gsh, .int (nI ns), .int (nI n), .int fi]))] H := hP
  have hD : va_D A [(xo, .inr (7, [.ref g, .ref pd, .ref b, .ref rg, .ref ch, .ref cn, .ref im])), (g, .inr (3, [.ref ge, .ref gl, .ref gb, .ref gw, .ref gsw, .ref gsh, .int (nI ns), .int (nI n), .int fi]))] := hD
  rcases hw with ⟨b4, rfl⟩ | ⟨b4, rfl⟩
  · refine lv_if_ne (tgt := 13) hx hb dX7_fine_7 (by decide) (fun _ => ?_) (fun c9 => absurd c9 (by decide))
    refine lv_aload_n hx hb dX7_fine_13 rfl (lv_at hl 0 rfl) ?_
    refine va_get (D := D) (ci := 7) (v := .ref g) (C := RX7) (T := TX7) (N := 7) hx hb hts hi7 hown hK hP 0 rfl rfl 0 (by decide) hw0 (fun _ h9 => h9) rfl dX7_fine_14 ?_
    refine va_get (D := D) (ci := 3) (v := .int fi) (C := RX3) (T := TX3) (N := 9) hx hb hts hi3 hown hK hP 1 rfl rfl 8 (by decide) hw2 (fun _ h9 => h9) rfl dX7_fine_17 ?_
    refine lv_istore_n (lv' := [(2, .int fi), (0, .ref xo), (1, .int x)]) hx hb dX7_fine_20 rfl hl (by decide) rfl (fun ls hl => ?_)
    refine lv_aload_n hx hb dX7_fine_21 rfl (lv_at hl 1 rfl) ?_
    refine va_get (D := D) (ci := 7) (v := .ref g) (C := RX7) (T := TX7) (N := 7) hx hb hts hi7 hown hK hP 0 rfl rfl 0 (by decide) hw0 (fun _ h9 => h9) rfl dX7_fine_22 ?_
    refine lv_iload_n hx hb dX7_fine_25 rfl (lv_at hl 2 rfl) ?_
    refine va_put (D := D) (ci := 3) (v := .int x) (ty := .int) (C := RX3) (T := TX3) (N := 9) hx hb hts hi3 tyX3 tyX3_ok nmX3 hown hK hP hD hS 1 rfl rfl 8 (by decide) hw2 (fun _ h9 => h9) rfl (by decide +kernel) rfl rfl (Nat.le_of_ble_eq_true rfl) dX7_fine_26 (fun H locs hP hD hS => ?_)
    have hP : va_P D vwCl [(xo, .inr (7, [.ref g, .ref pd, .ref b, .ref rg, .ref ch, .ref cn, .ref im])), (g, .inr (3, [.ref ge, .ref gl, .ref gb, .ref gw, .ref gsw, .ref gsh, .int (nI ns), .int (nI n), .int x]))] H := hP
    have hD : va_D A [(xo, .inr (7, [.ref g, .ref pd, .ref b, .ref rg, .ref ch, .ref cn, .ref im])), (g, .inr (3, [.ref ge, .ref gl, .ref gb, .ref gw, .ref gsw, .ref gsh, .int (nI ns), .int (nI n), .int x]))] := hD
    refine lv_iload_n hx hb dX7_fine_29 rfl (lv_at hl 0 rfl) ?_
    exact hret fi x _ _ _ _ dX7_fine_30 ⟨by rw [if_pos b4], by rw [if_pos b4]⟩ hP hD hS
  · refine lv_if_ne (tgt := 13) hx hb dX7_fine_7 (by decide) (fun c9 => absurd c9 (by decide)) (fun _ => ?_)
    refine lv_bipush (v := (-2)) hx hb dX7_fine_10 (by decide) ?_
    exact hret ((-2)) fi _ _ _ _ dX7_fine_12 ⟨by rw [if_neg b4], by rw [if_neg b4]⟩ hP hD hS

abbrev rm_X7_say : Room := { frames := 1, cells := 0, slots := 0, locals := 22 }
set_option maxHeartbeats 4000000 in
set_option maxRecDepth 100000 in
theorem o_say (l : Launch) (D : va_G) (cI cJ cZ cG cM : ClassId) (xo pd b rg ch cn im : Nat) (g : Nat) (pds sc : Nat) (fp : Nat → Int32) (x : Int32) (hsc : sc ≤ 48) :
    CI l yX7_say wsX7_say rm_X7_say D [(cI, .int), (cJ, .long), (cZ, .boolean), (cG, .object "LatestSets$Guild"), (cM, .array .int)] [(xo, .inr (7, [.ref g, .ref pd, .ref b, .ref rg, .ref ch, .ref cn, .ref im])), (pd, .inr (5, [.ref pds, .int (nI sc)])), (pds, .inl (cI, 48, .inl fp))] [.ref xo, .int x] (S := (Nat × (Nat → Int32))) (fun r u => r = (if nI 33 ≤ x ∧ x ≤ nI 126 then (if sc < 48 then nI (sc + 1) else (-4)) else (-2)) ∧ u = (if (nI 33 ≤ x ∧ x ≤ nI 126) ∧ sc < 48 then (sc + 1, upd fp sc x) else (sc, fp))) (fun u => [(xo, .inr (7, [.ref g, .ref pd, .ref b, .ref rg, .ref ch, .ref cn, .ref im])), (pd, .inr (5, [.ref pds, .int (nI u.1)])), (pds, .inl (cI, 48, .inl u.2))]) := by
  refine si_of (cc := cX7_say) (maxL := 2) (by decide) rfl (Nat.le_of_ble_eq_true rfl) ?_
  intro p e s m args below meth c A ls Q E hret
  obtain ⟨hx, hb, -, hml, hown, hts, -, hin, hA, hK, hP, hD, hS, hl, hN⟩ := E
  have hown : s.vm.findClass RX7 = some m.cls := hown
  have hl : lv_has ls 2 [(0, .ref xo), (1, .int x)] := hl
  have SF : CallFix p m c cX7_say 2 s args wsX7_say RX7 := ⟨hx, hb, hml, hown, hts⟩
  have hw0 := hts (.fieldLink RX7 28 "LatestSets" "pad" "LLatestSets$Pad;") (by decide +kernel)
  have hi7 : ∀ x ∈ wsX70, x ∈ wsX7_say := by decide +kernel
  have hw2 := hts (.fieldLink RX7 82 "LatestSets$Pad" "count" "I") (by decide +kernel)
  have hi5 : ∀ x ∈ wsX50, x ∈ wsX7_say := by decide +kernel
  refine lv_iload_n hx hb dX7_say_0 rfl (lv_at hl 1 rfl) ?_
  refine lv_bipush (v := nI 33) hx hb dX7_say_1 (by decide) ?_
  refine lv_bipush (v := nI 126) hx hb dX7_say_3 (by decide) ?_
  refine cal_i (run_S (As := [.int x, .int (nI 33), .int (nI 126)]) (rest := []) SF (c_within l D cI cJ cZ cG cM x (nI 33) (nI 126)) (va_cwS 3 hts gX7_say_X7_within rfl rfl rfl (by decide +kernel) ⟨Nat.le_of_ble_eq_true rfl, Nat.le_of_ble_eq_true rfl⟩) hN hK hP hD [] rfl (by decide) rfl hl.1 rfl (Nat.le_of_ble_eq_true rfl) dX7_say_5 ⟨Nat.le_of_ble_eq_true rfl, Nat.le_of_ble_eq_true rfl⟩) ⟨rfl, rfl⟩ hP hD hS hA [] rfl (fun _ => rfl) (fun r5 _ H locs hw hP hD hS => ?_)
  have hP : va_P D vwCl [(xo, .inr (7, [.ref g, .ref pd, .ref b, .ref rg, .ref ch, .ref cn, .ref im])), (pd, .inr (5, [.ref pds, .int (nI sc)])), (pds, .inl (cI, 48, .inl fp))] H := hP
  have hD : va_D A [(xo, .inr (7, [.ref g, .ref pd, .ref b, .ref rg, .ref ch, .ref cn, .ref im])), (pd, .inr (5, [.ref pds, .int (nI sc)])), (pds, .inl (cI, 48, .inl fp))] := hD
  rcases hw with ⟨b5, rfl⟩ | ⟨b5, rfl⟩
  · refine lv_if_ne (tgt := 14) hx hb dX7_say_8 (by decide) (fun _ => ?_) (fun c9 => absurd c9 (by decide))
    refine lv_aload_n hx hb dX7_say_14 rfl (lv_at hl 0 rfl) ?_
    refine va_get (D := D) (ci := 7) (v := .ref pd) (C := RX7) (T := TX7) (N := 7) hx hb hts hi7 hown hK hP 0 rfl rfl 1 (by decide) hw0 (fun _ h9 => h9) rfl dX7_say_15 ?_
    refine va_get (D := D) (ci := 5) (v := .int (nI sc)) (C := RX5) (T := TX5) (N := 2) hx hb hts hi5 hown hK hP 1 rfl rfl 1 (by decide) hw2 (fun _ h9 => h9) rfl dX7_say_18 ?_
    refine lv_bipush (v := nI 48) hx hb dX7_say_21 (by decide) ?_
    refine icmp_lt_n (a := sc) (b := 48) (tgt := 29) hx hb dX7_say_23 (by decide) (by omega) (by omega) (fun c23 => ?_) (fun c23 => ?_)
    · refine lv_aload_n hx hb dX7_say_29 rfl (lv_at hl 0 rfl) ?_
      refine va_get (D := D) (ci := 7) (v := .ref pd) (C := RX7) (T := TX7) (N := 7) hx hb hts hi7 hown hK hP 0 rfl rfl 1 (by decide) hw0 (fun _ h9 => h9) rfl dX7_say_30 ?_
      refine lv_iload_n hx hb dX7_say_33 rfl (lv_at hl 1 rfl) ?_
      refine cal_i (run_V (As := [.int x]) (rest := []) SF (c_write l D cI cJ cZ cG cM pd pds fp sc x (by omega)) (cwV 1 hts gX7_say_X5_write rfl rfl rfl (by decide +kernel) ⟨Nat.le_of_ble_eq_true rfl, Nat.le_of_ble_eq_true rfl⟩) hN hK hP hD [1, 2] rfl (by decide) 5 1 rfl rfl rfl rfl hl.1 rfl (Nat.le_of_ble_eq_true rfl) dX7_say_34 ⟨Nat.le_of_ble_eq_true rfl, Nat.le_of_ble_eq_true rfl⟩) ⟨rfl, rfl⟩ hP hD hS hA [1, 2] rfl (fun _ => rfl) (fun r34 _ H locs hw hP hD hS => ?_)
      have hP : va_P D vwCl [(xo, .inr (7, [.ref g, .ref pd, .ref b, .ref rg, .ref ch, .ref cn, .ref im])), (pd, .inr (5, [.ref pds, .int (nI (sc + 1))])), (pds, .inl (cI, 48, .inl (upd fp sc x)))] H := hP
      have hD : va_D A [(xo, .inr (7, [.ref g, .ref pd, .ref b, .ref rg, .ref ch, .ref cn, .ref im])), (pd, .inr (5, [.ref pds, .int (nI (sc + 1))])), (pds, .inl (cI, 48, .inl (upd fp sc x)))] := hD
      subst hw
      exact hret (nI (sc + 1)) ((sc + 1, upd fp sc x)) _ _ _ _ dX7_say_37 ⟨by rw [if_pos b5, if_pos c23], by rw [if_pos ⟨b5, c23⟩]⟩ hP hD hS
    · refine lv_bipush (v := (-4)) hx hb dX7_say_26 (by decide) ?_
      exact hret ((-4)) ((sc, fp)) _ _ _ _ dX7_say_28 ⟨by rw [if_pos b5, if_neg (by omega)], by rw [if_neg (fun z => by omega)]⟩ hP hD hS
  · refine lv_if_ne (tgt := 14) hx hb dX7_say_8 (by decide) (fun c9 => absurd c9 (by decide)) (fun _ => ?_)
    refine lv_bipush (v := (-2)) hx hb dX7_say_11 (by decide) ?_
    exact hret ((-2)) ((sc, fp)) _ _ _ _ dX7_say_13 ⟨by rw [if_neg b5], by rw [if_neg (fun z => b5 z.1)]⟩ hP hD hS

abbrev rm_X7_wipe : Room := { frames := 0, cells := 0, slots := 0, locals := 0 }
set_option maxHeartbeats 4000000 in
set_option maxRecDepth 100000 in
theorem o_wipe (l : Launch) (D : va_G) (cI cJ cZ cG cM : ClassId) (xo pd b rg ch cn im : Nat) (g : Nat) (pds sc : Nat) :
    CI l yX7_wipe wsX7_wipe rm_X7_wipe D [(cI, .int), (cJ, .long), (cZ, .boolean), (cG, .object "LatestSets$Guild"), (cM, .array .int)] [(xo, .inr (7, [.ref g, .ref pd, .ref b, .ref rg, .ref ch, .ref cn, .ref im])), (pd, .inr (5, [.ref pds, .int (nI sc)]))] [.ref xo] (S := Unit) (fun r u => r = nI sc) (fun u => [(xo, .inr (7, [.ref g, .ref pd, .ref b, .ref rg, .ref ch, .ref cn, .ref im])), (pd, .inr (5, [.ref pds, .int (nI 0)]))]) := by
  refine si_of (cc := cX7_wipe) (maxL := 2) (by decide) rfl (Nat.le_of_ble_eq_true rfl) ?_
  intro p e s m args below meth c A ls Q E hret
  obtain ⟨hx, hb, -, hml, hown, hts, -, hin, hA, hK, hP, hD, hS, hl, hN⟩ := E
  have hown : s.vm.findClass RX7 = some m.cls := hown
  have hl : lv_has ls 2 [(0, .ref xo)] := hl
  have SF : CallFix p m c cX7_wipe 2 s args wsX7_wipe RX7 := ⟨hx, hb, hml, hown, hts⟩
  have hw0 := hts (.fieldLink RX7 28 "LatestSets" "pad" "LLatestSets$Pad;") (by decide +kernel)
  have hi7 : ∀ x ∈ wsX70, x ∈ wsX7_wipe := by decide +kernel
  have hw2 := hts (.fieldLink RX7 82 "LatestSets$Pad" "count" "I") (by decide +kernel)
  have hi5 : ∀ x ∈ wsX50, x ∈ wsX7_wipe := by decide +kernel
  refine lv_aload_n hx hb dX7_wipe_0 rfl (lv_at hl 0 rfl) ?_
  refine va_get (D := D) (ci := 7) (v := .ref pd) (C := RX7) (T := TX7) (N := 7) hx hb hts hi7 hown hK hP 0 rfl rfl 1 (by decide) hw0 (fun _ h9 => h9) rfl dX7_wipe_1 ?_
  refine va_get (D := D) (ci := 5) (v := .int (nI sc)) (C := RX5) (T := TX5) (N := 2) hx hb hts hi5 hown hK hP 1 rfl rfl 1 (by decide) hw2 (fun _ h9 => h9) rfl dX7_wipe_4 ?_
  refine lv_istore_n (lv' := [(1, .int (nI sc)), (0, .ref xo)]) hx hb dX7_wipe_7 rfl hl (by decide) rfl (fun ls hl => ?_)
  refine lv_aload_n hx hb dX7_wipe_8 rfl (lv_at hl 1 rfl) ?_
  refine va_get (D := D) (ci := 7) (v := .ref pd) (C := RX7) (T := TX7) (N := 7) hx hb hts hi7 hown hK hP 0 rfl rfl 1 (by decide) hw0 (fun _ h9 => h9) rfl dX7_wipe_9 ?_
  refine lv_iconst (v := nI 0) hx hb dX7_wipe_12 (by decide) ?_
  refine va_put (D := D) (ci := 5) (v := .int (nI 0)) (ty := .int) (C := RX5) (T := TX5) (N := 2) hx hb hts hi5 tyX5 tyX5_ok nmX5 hown hK hP hD hS 1 rfl rfl 1 (by decide) hw2 (fun _ h9 => h9) rfl (by decide +kernel) rfl rfl (Nat.le_of_ble_eq_true rfl) dX7_wipe_13 (fun H locs hP hD hS => ?_)
  have hP : va_P D vwCl [(xo, .inr (7, [.ref g, .ref pd, .ref b, .ref rg, .ref ch, .ref cn, .ref im])), (pd, .inr (5, [.ref pds, .int (nI 0)]))] H := hP
  have hD : va_D A [(xo, .inr (7, [.ref g, .ref pd, .ref b, .ref rg, .ref ch, .ref cn, .ref im])), (pd, .inr (5, [.ref pds, .int (nI 0)]))] := hD
  refine lv_iload_n hx hb dX7_wipe_16 rfl (lv_at hl 0 rfl) ?_
  exact hret (nI sc) (()) _ _ _ _ dX7_wipe_17 rfl hP hD hS

abbrev rm_X5_firstFault : Room := { frames := 1, cells := 0, slots := 0, locals := 20 }
set_option maxHeartbeats 4000000 in
set_option maxRecDepth 100000 in
theorem c_firstFault (l : Launch) (D : va_G) (cI cJ cZ cG cM : ClassId) (pd pds sc : Nat) (fp : Nat → Int32) (hsc : sc ≤ 48) :
    CI l yX5_firstFault wsX5_firstFault rm_X5_firstFault D [(cI, .int), (cJ, .long), (cZ, .boolean), (cG, .object "LatestSets$Guild"), (cM, .array .int)] [(pd, .inr (5, [.ref pds, .int (nI sc)])), (pds, .inl (cI, 48, .inl fp))] [.ref pd] (S := Unit) (fun r u => FT fp sc r) (fun u => [(pd, .inr (5, [.ref pds, .int (nI sc)])), (pds, .inl (cI, 48, .inl fp))]) := by
  refine si_of (cc := cX5_firstFault) (maxL := 5) (by decide) rfl (Nat.le_of_ble_eq_true rfl) ?_
  intro p e s m args below meth c A ls Q E hret
  obtain ⟨hx, hb, -, hml, hown, hts, -, hin, hA, hK, hP, hD, hS, hl, hN⟩ := E
  have hown : s.vm.findClass RX5 = some m.cls := hown
  have hl : lv_has ls 5 [(0, .ref pd)] := hl
  have SF : CallFix p m c cX5_firstFault 5 s args wsX5_firstFault RX5 := ⟨hx, hb, hml, hown, hts⟩
  have hw0 := hts (.fieldLink RX5 15 "LatestSets$Pad" "count" "I") (by decide +kernel)
  have hi5 : ∀ x ∈ wsX50, x ∈ wsX5_firstFault := by decide +kernel
  have hw2 := hts (.fieldLink RX5 9 "LatestSets$Pad" "signs" "[I") (by decide +kernel)
  refine lv_iconst (v := nI 1) hx hb dX5_firstFault_0 (by decide) ?_
  refine lv_istore_n (lv' := [(1, .int (nI 1)), (0, .ref pd)]) hx hb dX5_firstFault_1 rfl hl (by decide) rfl (fun ls hl => ?_)
  refine lv_iconst (v := nI 0) hx hb dX5_firstFault_2 (by decide) ?_
  refine lv_istore_n (lv' := [(2, .int (nI 0)), (1, .int (nI 1)), (0, .ref pd)]) hx hb dX5_firstFault_3 rfl hl (by decide) rfl (fun ls hl => ?_)
  refine lv_iconst (v := nI 0) hx hb dX5_firstFault_4 (by decide) ?_
  refine lv_istore_n (lv' := [(3, .int (nI 0)), (2, .int (nI 0)), (1, .int (nI 1)), (0, .ref pd)]) hx hb dX5_firstFault_5 rfl hl (by decide) rfl (fun ls hl => ?_)
  have L6 : ∀ (n9 : Nat) (k : Nat) (hk : k ≤ sc) (hg : ∀ i, i < k → gd fp i), sc - k < n9 → ∀ (H : Heap) (locs : List Loc), va_P D vwCl [(pd, .inr (5, [.ref pds, .int (nI sc)])), (pds, .inl (cI, 48, .inl fp))] H → va_D A [(pd, .inr (5, [.ref pds, .int (nI sc)])), (pds, .inl (cI, 48, .inl fp))] → va_S A s.heap H locs → ∀ (ls : Array Slot), lv_has ls 5 [(0, .ref pd), (1, .int (nI ((ps fp k).1))), (2, .int (nI ((ps fp k).2.toNat))), (3, .int (nI k))] → W p l e rm_X5_firstFault s m args below meth c H locs 0 0 Q (F0 m 6 ls []) := by
    intro n9
    induction n9 with
    | zero => intro k hk hg hm; exact absurd hm (Nat.not_lt_zero _)
    | succ n9 ih6 =>
      intro k hk hg hm6 H locs hP hD hS ls hl
      have hps := ps_le fp k
      refine lv_iload_n hx hb dX5_firstFault_6 rfl (lv_at hl 3 rfl) ?_
      refine lv_aload_n hx hb dX5_firstFault_7 rfl (lv_at hl 0 rfl) ?_
      refine va_get (D := D) (ci := 5) (v := .int (nI sc)) (C := RX5) (T := TX5) (N := 2) hx hb hts hi5 hown hK hP 0 rfl rfl 1 (by decide) hw0 (fun _ h9 => h9) rfl dX5_firstFault_8 ?_
      refine icmp_ge_n (a := k) (b := sc) (tgt := 105) hx hb dX5_firstFault_11 (by decide) (by omega) (by omega) (fun c11 => ?_) (fun c11 => ?_)
      · have e9 : k = sc := by omega
        refine lv_iload_n hx hb dX5_firstFault_105 rfl (lv_at hl 1 rfl) ?_
        refine if_le_n (a := (ps fp k).1) (tgt := 116) hx hb dX5_firstFault_106 (by decide) (by omega) (fun c106 => ?_) (fun c106 => ?_)
        · refine lv_bipush (v := (-6)) hx hb dX5_firstFault_116 (by decide) ?_
          exact hret ((-6)) (()) _ _ _ _ dX5_firstFault_118 (Or.inr (Or.inr ⟨by rw [← e9]; exact hg, by rw [← e9]; exact c106, rfl⟩)) hP hD hS
        · refine lv_aload_n hx hb dX5_firstFault_109 rfl (lv_at hl 0 rfl) ?_
          refine va_get (D := D) (ci := 5) (v := .int (nI sc)) (C := RX5) (T := TX5) (N := 2) hx hb hts hi5 hown hK hP 0 rfl rfl 1 (by decide) hw0 (fun _ h9 => h9) rfl dX5_firstFault_110 ?_
          refine lv_goto (tgt := 118) hx hb dX5_firstFault_113 (by decide) ?_
          exact hret (nI sc) (()) _ _ _ _ dX5_firstFault_118 (Or.inr (Or.inl ⟨by rw [← e9]; exact hg, by rw [← e9]; exact c106, rfl⟩)) hP hD hS
      · refine lv_iload_n hx hb dX5_firstFault_14 rfl (lv_at hl 3 rfl) ?_
        refine lv_bipush (v := nI 20) hx hb dX5_firstFault_15 (by decide) ?_
        refine icmp_ge_n (a := k) (b := 20) (tgt := 24) hx hb dX5_firstFault_17 (by decide) (by omega) (by omega) (fun c17 => ?_) (fun c17 => ?_)
        · refine lv_iload_n hx hb dX5_firstFault_24 rfl (lv_at hl 3 rfl) ?_
          exact hret (nI k) (()) _ _ _ _ dX5_firstFault_25 (Or.inl ⟨k, by omega, hg, (fun z => by have := z.1; omega), rfl⟩) hP hD hS
        · refine lv_iload_n hx hb dX5_firstFault_20 rfl (lv_at hl 1 rfl) ?_
          refine if_ne_n (a := (ps fp k).1) (tgt := 26) hx hb dX5_firstFault_21 (by decide) (by omega) (fun c21 => ?_) (fun c21 => ?_)
          · refine lv_aload_n hx hb dX5_firstFault_26 rfl (lv_at hl 0 rfl) ?_
            refine va_get (D := D) (ci := 5) (v := .ref pds) (C := RX5) (T := TX5) (N := 2) hx hb hts hi5 hown hK hP 0 rfl rfl 0 (by decide) hw2 (fun _ h9 => h9) rfl dX5_firstFault_27 ?_
            refine lv_iload_n hx hb dX5_firstFault_30 rfl (lv_at hl 3 rfl) ?_
            refine iald_n (k := k) hx hb hK hP 1 0 rfl rfl (by omega) (by omega) dX5_firstFault_31 ?_
            refine lv_istore (lv' := [(4, .int (fp k)), (0, .ref pd), (1, .int (nI ((ps fp k).1))), (2, .int (nI ((ps fp k).2.toNat))), (3, .int (nI k))]) hx hb dX5_firstFault_32 hl (by decide) rfl (fun ls hl => ?_)
            have hb9 : (ps fp k).2.toNat ≤ 1 := Bool.toNat_le _
            refine lv_iload_n hx hb dX5_firstFault_34 rfl (lv_at hl 3 rfl) ?_
            refine if_eq_n (a := (ps fp k).2.toNat) (tgt := 59) hx hb dX5_firstFault_35 (by decide) (by omega) (fun c35 => ?_) (fun c35 => ?_)
            · have hdg : (ps fp k).2 = false := by cases e9 : (ps fp k).2 with | false => rfl | true => (rw [e9] at c35; exact absurd c35 (by decide))
              refine lv_iload hx hb dX5_firstFault_59 (lv_at hl 0 rfl) ?_
              refine cal_i (run_S (As := [.int (fp k)]) (rest := []) SF (c_partsOf l D cI cJ cZ cG cM (fp k)) (va_cwS 1 hts gX5_firstFault_X5_partsOf rfl rfl rfl (by decide +kernel) ⟨Nat.le_of_ble_eq_true rfl, Nat.le_of_ble_eq_true rfl⟩) hN hK hP hD [] rfl (by decide) rfl hl.1 rfl (Nat.le_of_ble_eq_true rfl) dX5_firstFault_61 ⟨Nat.le_of_ble_eq_true rfl, Nat.le_of_ble_eq_true rfl⟩) ⟨rfl, rfl⟩ hP hD hS hA [] rfl (fun _ => rfl) (fun r61 _ H locs hw hP hD hS => ?_)
              have hP : va_P D vwCl [(pd, .inr (5, [.ref pds, .int (nI sc)])), (pds, .inl (cI, 48, .inl fp))] H := hP
              have hD : va_D A [(pd, .inr (5, [.ref pds, .int (nI sc)])), (pds, .inl (cI, 48, .inl fp))] := hD
              subst hw
              refine lv_if_ge (tgt := 69) hx hb dX5_firstFault_64 (by decide) (fun c64 => ?_) (fun c64 => ?_)
              · have hgd : gds (fp k) := gds_prt c64
                refine lv_iload_n hx hb dX5_firstFault_69 rfl (lv_at hl 2 rfl) ?_
                refine lv_iload hx hb dX5_firstFault_70 (lv_at hl 0 rfl) ?_
                refine cal_i (run_S (As := [.int (fp k)]) (rest := [.int (nI ((ps fp k).1))]) SF (c_partsOf l D cI cJ cZ cG cM (fp k)) (va_cwS 1 hts gX5_firstFault_X5_partsOf rfl rfl rfl (by decide +kernel) ⟨Nat.le_of_ble_eq_true rfl, Nat.le_of_ble_eq_true rfl⟩) hN hK hP hD [] rfl (by decide) rfl hl.1 rfl (Nat.le_of_ble_eq_true rfl) dX5_firstFault_72 ⟨Nat.le_of_ble_eq_true rfl, Nat.le_of_ble_eq_true rfl⟩) ⟨rfl, rfl⟩ hP hD hS hA [] rfl (fun _ => rfl) (fun r72 _ H locs hw hP hD hS => ?_)
                have hP : va_P D vwCl [(pd, .inr (5, [.ref pds, .int (nI sc)])), (pds, .inl (cI, 48, .inl fp))] H := hP
                have hD : va_D A [(pd, .inr (5, [.ref pds, .int (nI sc)])), (pds, .inl (cI, 48, .inl fp))] := hD
                have hw := hw.trans (prt_pN hgd)
                subst hw
                refine lv_iconst (v := nI 1) hx hb dX5_firstFault_75 (by decide) ?_
                refine lv_isub hx hb dX5_firstFault_76 ?_
                refine lv_iadd hx hb dX5_firstFault_77 ?_
                refine lv_topi (fun y9 e9 => ?_)
                have e9 : nI ((ps fp k).1 + pN (fp k) - 1) = y9 := (e9.trans (i_sum1 (by omega))).symm
                subst e9
                refine lv_istore_n (lv' := [(1, .int (nI ((ps fp k).1 + pN (fp k) - 1))), (4, .int (fp k)), (0, .ref pd), (2, .int (nI ((ps fp k).2.toNat))), (3, .int (nI k))]) hx hb dX5_firstFault_78 rfl hl (by decide) rfl (fun ls hl => ?_)
                refine lv_iload hx hb dX5_firstFault_79 (lv_at hl 1 rfl) ?_
                refine lv_bipush (v := nI 45) hx hb dX5_firstFault_81 (by decide) ?_
                refine lv_icmp_eq (tgt := 93) hx hb dX5_firstFault_83 (by decide) (fun c83 => ?_) (fun c83 => ?_)
                · refine lv_iconst (v := nI 1) hx hb dX5_firstFault_93 (by decide) ?_
                  refine lv_goto (tgt := 98) hx hb dX5_firstFault_94 (by decide) ?_
                  refine lv_istore_n (lv' := [(2, .int (nI 1)), (1, .int (nI ((ps fp k).1 + pN (fp k) - 1))), (4, .int (fp k)), (0, .ref pd), (3, .int (nI k))]) hx hb dX5_firstFault_98 rfl hl (by decide) rfl (fun ls hl => ?_)
                  refine lv_iinc (v := nI (k + 1)) (lv' := [(3, .int (nI (k + 1))), (2, .int (nI 1)), (1, .int (nI ((ps fp k).1 + pN (fp k) - 1))), (4, .int (fp k)), (0, .ref pd)]) hx hb dX5_firstFault_99 hl (k := 4) rfl (nI_1 k) (by decide) rfl (fun ls hl => ?_)
                  refine lv_goto (tgt := 6) hx hb dX5_firstFault_102 (by decide) ?_
                  have e7 : ps fp (k + 1) = ((ps fp k).1 + pN (fp k) - 1, decide (isSh (fp k))) := ps_f hdg
                  have e6 : decide (isSh (fp k)) = true := (decide_eq_true (Or.inl c83))
                  rw [show (ps fp k).1 + pN (fp k) - 1 = (ps fp (k + 1)).1 by rw [e7], show nI 1 = nI ((ps fp (k + 1)).2.toNat) by rw [e7, e6]; rfl] at hl
                  exact ih6 (k + 1) ((by omega)) ((lt_s hg ⟨by omega, by omega, fun z => absurd (hdg.symm.trans z) (by decide), fun _ => hgd⟩)) (by omega) _ _ hP hD hS _ (lv_sub hl [4, 2, 1, 0] rfl)
                · refine lv_iload hx hb dX5_firstFault_86 (lv_at hl 1 rfl) ?_
                  refine lv_bipush (v := nI 43) hx hb dX5_firstFault_88 (by decide) ?_
                  refine lv_icmp_ne (tgt := 97) hx hb dX5_firstFault_90 (by decide) (fun c90 => ?_) (fun c90 => ?_)
                  · refine lv_iconst (v := nI 0) hx hb dX5_firstFault_97 (by decide) ?_
                    refine lv_istore_n (lv' := [(2, .int (nI 0)), (1, .int (nI ((ps fp k).1 + pN (fp k) - 1))), (4, .int (fp k)), (0, .ref pd), (3, .int (nI k))]) hx hb dX5_firstFault_98 rfl hl (by decide) rfl (fun ls hl => ?_)
                    refine lv_iinc (v := nI (k + 1)) (lv' := [(3, .int (nI (k + 1))), (2, .int (nI 0)), (1, .int (nI ((ps fp k).1 + pN (fp k) - 1))), (4, .int (fp k)), (0, .ref pd)]) hx hb dX5_firstFault_99 hl (k := 4) rfl (nI_1 k) (by decide) rfl (fun ls hl => ?_)
                    refine lv_goto (tgt := 6) hx hb dX5_firstFault_102 (by decide) ?_
                    have e7 : ps fp (k + 1) = ((ps fp k).1 + pN (fp k) - 1, decide (isSh (fp k))) := ps_f hdg
                    have e6 : decide (isSh (fp k)) = false := (decide_eq_false (by rintro (z | z) <;> contradiction))
                    rw [show (ps fp k).1 + pN (fp k) - 1 = (ps fp (k + 1)).1 by rw [e7], show nI 0 = nI ((ps fp (k + 1)).2.toNat) by rw [e7, e6]; rfl] at hl
                    exact ih6 (k + 1) ((by omega)) ((lt_s hg ⟨by omega, by omega, fun z => absurd (hdg.symm.trans z) (by decide), fun _ => hgd⟩)) (by omega) _ _ hP hD hS _ (lv_sub hl [4, 2, 1, 0] rfl)
                  · refine lv_iconst (v := nI 1) hx hb dX5_firstFault_93 (by decide) ?_
                    refine lv_goto (tgt := 98) hx hb dX5_firstFault_94 (by decide) ?_
                    refine lv_istore_n (lv' := [(2, .int (nI 1)), (1, .int (nI ((ps fp k).1 + pN (fp k) - 1))), (4, .int (fp k)), (0, .ref pd), (3, .int (nI k))]) hx hb dX5_firstFault_98 rfl hl (by decide) rfl (fun ls hl => ?_)
                    refine lv_iinc (v := nI (k + 1)) (lv' := [(3, .int (nI (k + 1))), (2, .int (nI 1)), (1, .int (nI ((ps fp k).1 + pN (fp k) - 1))), (4, .int (fp k)), (0, .ref pd)]) hx hb dX5_firstFault_99 hl (k := 4) rfl (nI_1 k) (by decide) rfl (fun ls hl => ?_)
                    refine lv_goto (tgt := 6) hx hb dX5_firstFault_102 (by decide) ?_
                    have e7 : ps fp (k + 1) = ((ps fp k).1 + pN (fp k) - 1, decide (isSh (fp k))) := ps_f hdg
                    have e6 : decide (isSh (fp k)) = true := (decide_eq_true (Or.inr c90))
                    rw [show (ps fp k).1 + pN (fp k) - 1 = (ps fp (k + 1)).1 by rw [e7], show nI 1 = nI ((ps fp (k + 1)).2.toNat) by rw [e7, e6]; rfl] at hl
                    exact ih6 (k + 1) ((by omega)) ((lt_s hg ⟨by omega, by omega, fun z => absurd (hdg.symm.trans z) (by decide), fun _ => hgd⟩)) (by omega) _ _ hP hD hS _ (lv_sub hl [4, 2, 1, 0] rfl)
              · refine lv_iload_n hx hb dX5_firstFault_67 rfl (lv_at hl 4 rfl) ?_
                exact hret (nI k) (()) _ _ _ _ dX5_firstFault_68 (Or.inl ⟨k, by omega, hg, (fun z => c64 (prt_nn (z.2.2.2 hdg))), rfl⟩) hP hD hS
            · have hdg : (ps fp k).2 = true := by cases e9 : (ps fp k).2 with | false => (rw [e9] at c35; exact absurd c35 (by decide)) | true => rfl
              refine lv_iload hx hb dX5_firstFault_38 (lv_at hl 0 rfl) ?_
              refine lv_bipush (v := nI 48) hx hb dX5_firstFault_40 (by decide) ?_
              refine lv_icmp_lt (tgt := 52) hx hb dX5_firstFault_42 (by decide) (fun c42 => ?_) (fun c42 => ?_)
              · refine lv_iload_n hx hb dX5_firstFault_52 rfl (lv_at hl 4 rfl) ?_
                exact hret (nI k) (()) _ _ _ _ dX5_firstFault_53 (Or.inl ⟨k, by omega, hg, (fun z => absurd (z.2.2.1 hdg).1 (i_ltnle c42)), rfl⟩) hP hD hS
              · refine lv_iload hx hb dX5_firstFault_45 (lv_at hl 0 rfl) ?_
                refine lv_bipush (v := nI 57) hx hb dX5_firstFault_47 (by decide) ?_
                refine lv_icmp_le (tgt := 54) hx hb dX5_firstFault_49 (by decide) (fun c49 => ?_) (fun c49 => ?_)
                · refine lv_iconst (v := nI 0) hx hb dX5_firstFault_54 (by decide) ?_
                  refine lv_istore_n (lv' := [(2, .int (nI 0)), (4, .int (fp k)), (0, .ref pd), (1, .int (nI ((ps fp k).1))), (3, .int (nI k))]) hx hb dX5_firstFault_55 rfl hl (by decide) rfl (fun ls hl => ?_)
                  refine lv_goto (tgt := 99) hx hb dX5_firstFault_56 (by decide) ?_
                  refine lv_iinc (v := nI (k + 1)) (lv' := [(3, .int (nI (k + 1))), (2, .int (nI 0)), (4, .int (fp k)), (0, .ref pd), (1, .int (nI ((ps fp k).1)))]) hx hb dX5_firstFault_99 hl (k := 4) rfl (nI_1 k) (by decide) rfl (fun ls hl => ?_)
                  refine lv_goto (tgt := 6) hx hb dX5_firstFault_102 (by decide) ?_
                  have e7 : ps fp (k + 1) = ((ps fp k).1, false) := ps_t hdg
                  rw [show (ps fp k).1 = (ps fp (k + 1)).1 by rw [e7], show nI 0 = nI ((ps fp (k + 1)).2.toNat) by rw [e7]; rfl] at hl
                  exact ih6 (k + 1) ((by omega)) ((lt_s hg ⟨by omega, by omega, fun _ => ⟨i_nlt c42, c49⟩, fun z => absurd (hdg.symm.trans z) (by decide)⟩)) (by omega) _ _ hP hD hS _ (lv_sub hl [3, 4, 1, 0] rfl)
                · refine lv_iload_n hx hb dX5_firstFault_52 rfl (lv_at hl 4 rfl) ?_
                  exact hret (nI k) (()) _ _ _ _ dX5_firstFault_53 (Or.inl ⟨k, by omega, hg, (fun z => absurd (z.2.2.1 hdg).2 c49), rfl⟩) hP hD hS
          · refine lv_iload_n hx hb dX5_firstFault_24 rfl (lv_at hl 3 rfl) ?_
            exact hret (nI k) (()) _ _ _ _ dX5_firstFault_25 (Or.inl ⟨k, by omega, hg, (fun z => by have := z.2.1; omega), rfl⟩) hP hD hS
  exact L6 _ 0 ((Nat.zero_le _)) ((fun i hi => absurd hi (Nat.not_lt_zero i))) (Nat.lt_succ_self _) _ _ hP hD hS _ (lv_sub hl [3, 2, 1, 0] rfl)

abbrev rm_X7_fault : Room := { frames := 2, cells := 0, slots := 0, locals := 44 }
set_option maxHeartbeats 4000000 in
set_option maxRecDepth 100000 in
theorem o_fault (l : Launch) (D : va_G) (cI cJ cZ cG cM : ClassId) (xo pd b rg ch cn im : Nat) (g : Nat) (pds sc : Nat) (fp : Nat → Int32) (hsc : sc ≤ 48) :
    CI l yX7_fault wsX7_fault rm_X7_fault D [(cI, .int), (cJ, .long), (cZ, .boolean), (cG, .object "LatestSets$Guild"), (cM, .array .int)] [(xo, .inr (7, [.ref g, .ref pd, .ref b, .ref rg, .ref ch, .ref cn, .ref im])), (pd, .inr (5, [.ref pds, .int (nI sc)])), (pds, .inl (cI, 48, .inl fp))] [.ref xo] (S := Unit) (fun r u => FT fp sc r) (fun u => [(xo, .inr (7, [.ref g, .ref pd, .ref b, .ref rg, .ref ch, .ref cn, .ref im])), (pd, .inr (5, [.ref pds, .int (nI sc)])), (pds, .inl (cI, 48, .inl fp))]) := by
  refine si_of (cc := cX7_fault) (maxL := 1) (by decide) rfl (Nat.le_of_ble_eq_true rfl) ?_
  intro p e s m args below meth c A ls Q E hret
  obtain ⟨hx, hb, -, hml, hown, hts, -, hin, hA, hK, hP, hD, hS, hl, hN⟩ := E
  have hown : s.vm.findClass RX7 = some m.cls := hown
  have hl : lv_has ls 1 [(0, .ref xo)] := hl
  have SF : CallFix p m c cX7_fault 1 s args wsX7_fault RX7 := ⟨hx, hb, hml, hown, hts⟩
  have hw0 := hts (.fieldLink RX7 28 "LatestSets" "pad" "LLatestSets$Pad;") (by decide +kernel)
  have hi7 : ∀ x ∈ wsX70, x ∈ wsX7_fault := by decide +kernel
  refine lv_aload_n hx hb dX7_fault_0 rfl (lv_at hl 0 rfl) ?_
  refine va_get (D := D) (ci := 7) (v := .ref pd) (C := RX7) (T := TX7) (N := 7) hx hb hts hi7 hown hK hP 0 rfl rfl 1 (by decide) hw0 (fun _ h9 => h9) rfl dX7_fault_1 ?_
  refine cal_i (run_V (As := []) (rest := []) SF (c_firstFault l D cI cJ cZ cG cM pd pds sc fp hsc) (cwV 0 hts gX7_fault_X5_firstFault rfl rfl rfl (by decide +kernel) ⟨Nat.le_of_ble_eq_true rfl, Nat.le_of_ble_eq_true rfl⟩) hN hK hP hD [1, 2] rfl (by decide) 5 1 rfl rfl rfl rfl hl.1 rfl (Nat.le_of_ble_eq_true rfl) dX7_fault_4 ⟨Nat.le_of_ble_eq_true rfl, Nat.le_of_ble_eq_true rfl⟩) ⟨rfl, rfl⟩ hP hD hS hA [1, 2] rfl (fun _ => rfl) (fun r4 _ H locs hw hP hD hS => ?_)
  have hP : va_P D vwCl [(xo, .inr (7, [.ref g, .ref pd, .ref b, .ref rg, .ref ch, .ref cn, .ref im])), (pd, .inr (5, [.ref pds, .int (nI sc)])), (pds, .inl (cI, 48, .inl fp))] H := hP
  have hD : va_D A [(xo, .inr (7, [.ref g, .ref pd, .ref b, .ref rg, .ref ch, .ref cn, .ref im])), (pd, .inr (5, [.ref pds, .int (nI sc)])), (pds, .inl (cI, 48, .inl fp))] := hD
  exact hret r4 (()) _ _ _ _ dX7_fault_7 hw hP hD hS

abbrev rm_X7_enact : Room := { frames := 2, cells := 0, slots := 0, locals := 48 }
set_option maxHeartbeats 4000000 in
set_option maxRecDepth 100000 in
theorem o_enact (l : Launch) (D : va_G) (cI cJ cZ cG cM : ClassId) (xo pd b rg ch cn im : Nat) (g ge gl gb gw gsw gsh : Nat) (fi : Int32) (n ns : Nat) (pds sc sg nl : Nat) (fp fs : Nat → Int32) (hsc : sc ≤ 48) :
    CI l yX7_enact wsX7_enact rm_X7_enact D [(cI, .int), (cJ, .long), (cZ, .boolean), (cG, .object "LatestSets$Guild"), (cM, .array .int)] [(xo, .inr (7, [.ref g, .ref pd, .ref b, .ref rg, .ref ch, .ref cn, .ref im])), (g, .inr (3, [.ref ge, .ref gl, .ref gb, .ref gw, .ref gsw, .ref gsh, .int (nI ns), .int (nI n), .int fi])), (pd, .inr (5, [.ref pds, .int (nI sc)])), (pds, .inl (cI, 48, .inl fp)), (gw, .inr (4, [.ref sg, .int (nI nl)])), (sg, .inl (cI, 20, .inl fs))] [.ref xo] (S := (Nat × (Nat → Int32) × Nat)) (fun r u => (∃ z, FT fp sc z ∧ ¬ z = (-6) ∧ r = (-5) ∧ u = (nl, fs, sc)) ∨ (FT fp sc (-6) ∧ r = nI sc ∧ u = (sc, va_cpy fp fs 0 0 sc, 0))) (fun u => [(xo, .inr (7, [.ref g, .ref pd, .ref b, .ref rg, .ref ch, .ref cn, .ref im])), (g, .inr (3, [.ref ge, .ref gl, .ref gb, .ref gw, .ref gsw, .ref gsh, .int (nI ns), .int (nI n), .int fi])), (pd, .inr (5, [.ref pds, .int (nI u.2.2)])), (pds, .inl (cI, 48, .inl fp)), (gw, .inr (4, [.ref sg, .int (nI u.1)])), (sg, .inl (cI, 20, .inl u.2.1))]) := by
  refine si_of (cc := cX7_enact) (maxL := 1) (by decide) rfl (Nat.le_of_ble_eq_true rfl) ?_
  intro p e s m args below meth c A ls Q E hret
  obtain ⟨hx, hb, -, hml, hown, hts, -, hin, hA, hK, hP, hD, hS, hl, hN⟩ := E
  have hown : s.vm.findClass RX7 = some m.cls := hown
  have hl : lv_has ls 1 [(0, .ref xo)] := hl
  have SF : CallFix p m c cX7_enact 1 s args wsX7_enact RX7 := ⟨hx, hb, hml, hown, hts⟩
  have hw0 := hts (.fieldLink RX7 28 "LatestSets" "pad" "LLatestSets$Pad;") (by decide +kernel)
  have hi7 : ∀ x ∈ wsX70, x ∈ wsX7_enact := by decide +kernel
  have hw2 := hts (.fieldLink RX7 15 "LatestSets" "guild" "LLatestSets$Guild;") (by decide +kernel)
  have hw3 := hts (.fieldLink RX7 91 "LatestSets$Guild" "law" "LLatestSets$Law;") (by decide +kernel)
  have hi3 : ∀ x ∈ wsX30, x ∈ wsX7_enact := by decide +kernel
  have hw5 := hts (.fieldLink RX7 95 "LatestSets$Pad" "signs" "[I") (by decide +kernel)
  have hi5 : ∀ x ∈ wsX50, x ∈ wsX7_enact := by decide +kernel
  have hw7 := hts (.fieldLink RX7 82 "LatestSets$Pad" "count" "I") (by decide +kernel)
  have hw8 := hts (.fieldLink RX7 105 "LatestSets$Law" "length" "I") (by decide +kernel)
  have hi4 : ∀ x ∈ wsX40, x ∈ wsX7_enact := by decide +kernel
  refine lv_aload_n hx hb dX7_enact_0 rfl (lv_at hl 0 rfl) ?_
  refine va_get (D := D) (ci := 7) (v := .ref pd) (C := RX7) (T := TX7) (N := 7) hx hb hts hi7 hown hK hP 0 rfl rfl 1 (by decide) hw0 (fun _ h9 => h9) rfl dX7_enact_1 ?_
  refine cal_i (run_V (As := []) (rest := []) SF (c_firstFault l D cI cJ cZ cG cM pd pds sc fp hsc) (cwV 0 hts gX7_enact_X5_firstFault rfl rfl rfl (by decide +kernel) ⟨Nat.le_of_ble_eq_true rfl, Nat.le_of_ble_eq_true rfl⟩) hN hK hP hD [2, 3] rfl (by decide) 5 2 rfl rfl rfl rfl hl.1 rfl (Nat.le_of_ble_eq_true rfl) dX7_enact_4 ⟨Nat.le_of_ble_eq_true rfl, Nat.le_of_ble_eq_true rfl⟩) ⟨rfl, rfl⟩ hP hD hS hA [2, 3] rfl (fun _ => rfl) (fun r4 _ H locs hw hP hD hS => ?_)
  have hP : va_P D vwCl [(xo, .inr (7, [.ref g, .ref pd, .ref b, .ref rg, .ref ch, .ref cn, .ref im])), (g, .inr (3, [.ref ge, .ref gl, .ref gb, .ref gw, .ref gsw, .ref gsh, .int (nI ns), .int (nI n), .int fi])), (pd, .inr (5, [.ref pds, .int (nI sc)])), (pds, .inl (cI, 48, .inl fp)), (gw, .inr (4, [.ref sg, .int (nI nl)])), (sg, .inl (cI, 20, .inl fs))] H := hP
  have hD : va_D A [(xo, .inr (7, [.ref g, .ref pd, .ref b, .ref rg, .ref ch, .ref cn, .ref im])), (g, .inr (3, [.ref ge, .ref gl, .ref gb, .ref gw, .ref gsw, .ref gsh, .int (nI ns), .int (nI n), .int fi])), (pd, .inr (5, [.ref pds, .int (nI sc)])), (pds, .inl (cI, 48, .inl fp)), (gw, .inr (4, [.ref sg, .int (nI nl)])), (sg, .inl (cI, 20, .inl fs))] := hD
  have hfw := hw
  refine lv_bipush (v := (-6)) hx hb dX7_enact_7 (by decide) ?_
  refine lv_icmp_eq (tgt := 15) hx hb dX7_enact_9 (by decide) (fun c9 => ?_) (fun c9 => ?_)
  · subst c9
    have hv := FT_VL hfw
    have hv20 := hv.1
    refine lv_aload_n hx hb dX7_enact_15 rfl (lv_at hl 0 rfl) ?_
    refine va_get (D := D) (ci := 7) (v := .ref g) (C := RX7) (T := TX7) (N := 7) hx hb hts hi7 hown hK hP 0 rfl rfl 0 (by decide) hw2 (fun _ h9 => h9) rfl dX7_enact_16 ?_
    refine va_get (D := D) (ci := 3) (v := .ref gw) (C := RX3) (T := TX3) (N := 9) hx hb hts hi3 hown hK hP 1 rfl rfl 3 (by decide) hw3 (fun _ h9 => h9) rfl dX7_enact_19 ?_
    refine lv_aload_n hx hb dX7_enact_22 rfl (lv_at hl 0 rfl) ?_
    refine va_get (D := D) (ci := 7) (v := .ref pd) (C := RX7) (T := TX7) (N := 7) hx hb hts hi7 hown hK hP 0 rfl rfl 1 (by decide) hw0 (fun _ h9 => h9) rfl dX7_enact_23 ?_
    refine va_get (D := D) (ci := 5) (v := .ref pds) (C := RX5) (T := TX5) (N := 2) hx hb hts hi5 hown hK hP 2 rfl rfl 0 (by decide) hw5 (fun _ h9 => h9) rfl dX7_enact_26 ?_
    refine lv_aload_n hx hb dX7_enact_29 rfl (lv_at hl 0 rfl) ?_
    refine va_get (D := D) (ci := 7) (v := .ref pd) (C := RX7) (T := TX7) (N := 7) hx hb hts hi7 hown hK hP 0 rfl rfl 1 (by decide) hw0 (fun _ h9 => h9) rfl dX7_enact_30 ?_
    refine va_get (D := D) (ci := 5) (v := .int (nI sc)) (C := RX5) (T := TX5) (N := 2) hx hb hts hi5 hown hK hP 2 rfl rfl 1 (by decide) hw7 (fun _ h9 => h9) rfl dX7_enact_33 ?_
    refine cal_v (run_V (As := [.ref pds, .int (nI sc)]) (rest := []) SF (c_take l D cI cJ cZ cG cM gw sg pds fs fp 48 sc (nI nl) (by omega) (by omega) (by omega)) (cwV 2 hts gX7_enact_X4_take rfl rfl rfl (by decide +kernel) ⟨Nat.le_of_ble_eq_true rfl, Nat.le_of_ble_eq_true rfl⟩) hN hK hP hD [4, 5, 3] rfl (by decide) 4 4 rfl rfl rfl rfl hl.1 rfl (Nat.le_of_ble_eq_true rfl) dX7_enact_36 ⟨Nat.le_of_ble_eq_true rfl, Nat.le_of_ble_eq_true rfl⟩) ⟨rfl, rfl⟩ hP hD hS hA [4, 5, 3] rfl (fun _ => rfl) (fun _ H locs hw hP hD hS => ?_)
    have hP : va_P D vwCl [(xo, .inr (7, [.ref g, .ref pd, .ref b, .ref rg, .ref ch, .ref cn, .ref im])), (g, .inr (3, [.ref ge, .ref gl, .ref gb, .ref gw, .ref gsw, .ref gsh, .int (nI ns), .int (nI n), .int fi])), (pd, .inr (5, [.ref pds, .int (nI sc)])), (pds, .inl (cI, 48, .inl fp)), (gw, .inr (4, [.ref sg, .int (nI sc)])), (sg, .inl (cI, 20, .inl (va_cpy fp fs 0 0 sc)))] H := hP
    have hD : va_D A [(xo, .inr (7, [.ref g, .ref pd, .ref b, .ref rg, .ref ch, .ref cn, .ref im])), (g, .inr (3, [.ref ge, .ref gl, .ref gb, .ref gw, .ref gsw, .ref gsh, .int (nI ns), .int (nI n), .int fi])), (pd, .inr (5, [.ref pds, .int (nI sc)])), (pds, .inl (cI, 48, .inl fp)), (gw, .inr (4, [.ref sg, .int (nI sc)])), (sg, .inl (cI, 20, .inl (va_cpy fp fs 0 0 sc)))] := hD
    refine lv_aload_n hx hb dX7_enact_39 rfl (lv_at hl 0 rfl) ?_
    refine va_get (D := D) (ci := 7) (v := .ref pd) (C := RX7) (T := TX7) (N := 7) hx hb hts hi7 hown hK hP 0 rfl rfl 1 (by decide) hw0 (fun _ h9 => h9) rfl dX7_enact_40 ?_
    refine lv_iconst (v := nI 0) hx hb dX7_enact_43 (by decide) ?_
    refine va_put (D := D) (ci := 5) (v := .int (nI 0)) (ty := .int) (C := RX5) (T := TX5) (N := 2) hx hb hts hi5 tyX5 tyX5_ok nmX5 hown hK hP hD hS 2 rfl rfl 1 (by decide) hw7 (fun _ h9 => h9) rfl (by decide +kernel) rfl rfl (Nat.le_of_ble_eq_true rfl) dX7_enact_44 (fun H locs hP hD hS => ?_)
    have hP : va_P D vwCl [(xo, .inr (7, [.ref g, .ref pd, .ref b, .ref rg, .ref ch, .ref cn, .ref im])), (g, .inr (3, [.ref ge, .ref gl, .ref gb, .ref gw, .ref gsw, .ref gsh, .int (nI ns), .int (nI n), .int fi])), (pd, .inr (5, [.ref pds, .int (nI 0)])), (pds, .inl (cI, 48, .inl fp)), (gw, .inr (4, [.ref sg, .int (nI sc)])), (sg, .inl (cI, 20, .inl (va_cpy fp fs 0 0 sc)))] H := hP
    have hD : va_D A [(xo, .inr (7, [.ref g, .ref pd, .ref b, .ref rg, .ref ch, .ref cn, .ref im])), (g, .inr (3, [.ref ge, .ref gl, .ref gb, .ref gw, .ref gsw, .ref gsh, .int (nI ns), .int (nI n), .int fi])), (pd, .inr (5, [.ref pds, .int (nI 0)])), (pds, .inl (cI, 48, .inl fp)), (gw, .inr (4, [.ref sg, .int (nI sc)])), (sg, .inl (cI, 20, .inl (va_cpy fp fs 0 0 sc)))] := hD
    refine lv_aload_n hx hb dX7_enact_47 rfl (lv_at hl 0 rfl) ?_
    refine va_get (D := D) (ci := 7) (v := .ref g) (C := RX7) (T := TX7) (N := 7) hx hb hts hi7 hown hK hP 0 rfl rfl 0 (by decide) hw2 (fun _ h9 => h9) rfl dX7_enact_48 ?_
    refine va_get (D := D) (ci := 3) (v := .ref gw) (C := RX3) (T := TX3) (N := 9) hx hb hts hi3 hown hK hP 1 rfl rfl 3 (by decide) hw3 (fun _ h9 => h9) rfl dX7_enact_51 ?_
    refine va_get (D := D) (ci := 4) (v := .int (nI sc)) (C := RX4) (T := TX4) (N := 2) hx hb hts hi4 hown hK hP 4 rfl rfl 1 (by decide) hw8 (fun _ h9 => h9) rfl dX7_enact_54 ?_
    exact hret (nI sc) ((sc, va_cpy fp fs 0 0 sc, 0)) _ _ _ _ dX7_enact_57 (Or.inr ⟨hfw, rfl, rfl⟩) hP hD hS
  · refine lv_bipush (v := (-5)) hx hb dX7_enact_12 (by decide) ?_
    exact hret ((-5)) ((nl, fs, sc)) _ _ _ _ dX7_enact_14 (Or.inl ⟨_, hfw, c9, rfl, rfl⟩) hP hD hS

abbrev rm_X7_seen : Room := { frames := 1, cells := 0, slots := 0, locals := 22 }
set_option maxHeartbeats 4000000 in
set_option maxRecDepth 100000 in
theorem o_seen (l : Launch) (D : va_G) (cI cJ cZ cG cM : ClassId) (xo pd b rg ch cn im : Nat) (g ge gl gb gw gsw gsh : Nat) (fi : Int32) (n ns : Nat) (fw fh : Nat → Int32) (x y : Int32) (hns : ns ≤ 6) :
    CI l yX7_seen wsX7_seen rm_X7_seen D [(cI, .int), (cJ, .long), (cZ, .boolean), (cG, .object "LatestSets$Guild"), (cM, .array .int)] [(xo, .inr (7, [.ref g, .ref pd, .ref b, .ref rg, .ref ch, .ref cn, .ref im])), (g, .inr (3, [.ref ge, .ref gl, .ref gb, .ref gw, .ref gsw, .ref gsh, .int (nI ns), .int (nI n), .int fi])), (gsw, .inl (cI, 6, .inl fw)), (gsh, .inl (cI, 6, .inl fh))] [.ref xo, .int x, .int y] (S := (Nat × (Nat → Int32) × (Nat → Int32))) (fun r u => r = (if (nI 0 ≤ x ∧ x ≤ nI 30) ∧ (nI 0 ≤ y ∧ y ≤ nI 23) then (if ns < 6 then nI (ns + 1) else (-4)) else (-2)) ∧ u = (if ((nI 0 ≤ x ∧ x ≤ nI 30) ∧ (nI 0 ≤ y ∧ y ≤ nI 23)) ∧ ns < 6 then (ns + 1, upd fw ns x, upd fh ns y) else (ns, fw, fh))) (fun u => [(xo, .inr (7, [.ref g, .ref pd, .ref b, .ref rg, .ref ch, .ref cn, .ref im])), (g, .inr (3, [.ref ge, .ref gl, .ref gb, .ref gw, .ref gsw, .ref gsh, .int (nI u.1), .int (nI n), .int fi])), (gsw, .inl (cI, 6, .inl u.2.1)), (gsh, .inl (cI, 6, .inl u.2.2))]) := by
  refine si_of (cc := cX7_seen) (maxL := 3) (by decide) rfl (Nat.le_of_ble_eq_true rfl) ?_
  intro p e s m args below meth c A ls Q E hret
  obtain ⟨hx, hb, -, hml, hown, hts, -, hin, hA, hK, hP, hD, hS, hl, hN⟩ := E
  have hown : s.vm.findClass RX7 = some m.cls := hown
  have hl : lv_has ls 3 [(0, .ref xo), (1, .int x), (2, .int y)] := hl
  have SF : CallFix p m c cX7_seen 3 s args wsX7_seen RX7 := ⟨hx, hb, hml, hown, hts⟩
  have hw0 := hts (.fieldLink RX7 15 "LatestSets" "guild" "LLatestSets$Guild;") (by decide +kernel)
  have hi7 : ∀ x ∈ wsX70, x ∈ wsX7_seen := by decide +kernel
  have hw2 := hts (.fieldLink RX7 168 "LatestSets$Guild" "sights" "I") (by decide +kernel)
  have hi3 : ∀ x ∈ wsX30, x ∈ wsX7_seen := by decide +kernel
  refine lv_iload_n hx hb dX7_seen_0 rfl (lv_at hl 1 rfl) ?_
  refine lv_iconst (v := nI 0) hx hb dX7_seen_1 (by decide) ?_
  refine lv_bipush (v := nI 30) hx hb dX7_seen_2 (by decide) ?_
  refine cal_i (run_S (As := [.int x, .int (nI 0), .int (nI 30)]) (rest := []) SF (c_within l D cI cJ cZ cG cM x (nI 0) (nI 30)) (va_cwS 3 hts gX7_seen_X7_within rfl rfl rfl (by decide +kernel) ⟨Nat.le_of_ble_eq_true rfl, Nat.le_of_ble_eq_true rfl⟩) hN hK hP hD [] rfl (by decide) rfl hl.1 rfl (Nat.le_of_ble_eq_true rfl) dX7_seen_4 ⟨Nat.le_of_ble_eq_true rfl, Nat.le_of_ble_eq_true rfl⟩) ⟨rfl, rfl⟩ hP hD hS hA [] rfl (fun _ => rfl) (fun r4 _ H locs hw hP hD hS => ?_)
  have hP : va_P D vwCl [(xo, .inr (7, [.ref g, .ref pd, .ref b, .ref rg, .ref ch, .ref cn, .ref im])), (g, .inr (3, [.ref ge, .ref gl, .ref gb, .ref gw, .ref gsw, .ref gsh, .int (nI ns), .int (nI n), .int fi])), (gsw, .inl (cI, 6, .inl fw)), (gsh, .inl (cI, 6, .inl fh))] H := hP
  have hD : va_D A [(xo, .inr (7, [.ref g, .ref pd, .ref b, .ref rg, .ref ch, .ref cn, .ref im])), (g, .inr (3, [.ref ge, .ref gl, .ref gb, .ref gw, .ref gsw, .ref gsh, .int (nI ns), .int (nI n), .int fi])), (gsw, .inl (cI, 6, .inl fw)), (gsh, .inl (cI, 6, .inl fh))] := hD
  rcases hw with ⟨b4, rfl⟩ | ⟨b4, rfl⟩
  · refine lv_if_eq (tgt := 17) hx hb dX7_seen_7 (by decide) (fun c9 => absurd c9 (by decide)) (fun _ => ?_)
    refine lv_iload_n hx hb dX7_seen_10 rfl (lv_at hl 2 rfl) ?_
    refine cal_i (run_S (As := [.int y]) (rest := []) SF (c_isHour l D cI cJ cZ cG cM y) (va_cwS 1 hts gX7_seen_X7_isHour rfl rfl rfl (by decide +kernel) ⟨Nat.le_of_ble_eq_true rfl, Nat.le_of_ble_eq_true rfl⟩) hN hK hP hD [] rfl (by decide) rfl hl.1 rfl (Nat.le_of_ble_eq_true rfl) dX7_seen_11 ⟨Nat.le_of_ble_eq_true rfl, Nat.le_of_ble_eq_true rfl⟩) ⟨rfl, rfl⟩ hP hD hS hA [] rfl (fun _ => rfl) (fun r11 _ H locs hw hP hD hS => ?_)
    have hP : va_P D vwCl [(xo, .inr (7, [.ref g, .ref pd, .ref b, .ref rg, .ref ch, .ref cn, .ref im])), (g, .inr (3, [.ref ge, .ref gl, .ref gb, .ref gw, .ref gsw, .ref gsh, .int (nI ns), .int (nI n), .int fi])), (gsw, .inl (cI, 6, .inl fw)), (gsh, .inl (cI, 6, .inl fh))] H := hP
    have hD : va_D A [(xo, .inr (7, [.ref g, .ref pd, .ref b, .ref rg, .ref ch, .ref cn, .ref im])), (g, .inr (3, [.ref ge, .ref gl, .ref gb, .ref gw, .ref gsw, .ref gsh, .int (nI ns), .int (nI n), .int fi])), (gsw, .inl (cI, 6, .inl fw)), (gsh, .inl (cI, 6, .inl fh))] := hD
    rcases hw with ⟨b11, rfl⟩ | ⟨b11, rfl⟩
    · refine lv_if_ne (tgt := 20) hx hb dX7_seen_14 (by decide) (fun _ => ?_) (fun c9 => absurd c9 (by decide))
      refine lv_aload_n hx hb dX7_seen_20 rfl (lv_at hl 0 rfl) ?_
      refine va_get (D := D) (ci := 7) (v := .ref g) (C := RX7) (T := TX7) (N := 7) hx hb hts hi7 hown hK hP 0 rfl rfl 0 (by decide) hw0 (fun _ h9 => h9) rfl dX7_seen_21 ?_
      refine va_get (D := D) (ci := 3) (v := .int (nI ns)) (C := RX3) (T := TX3) (N := 9) hx hb hts hi3 hown hK hP 1 rfl rfl 6 (by decide) hw2 (fun _ h9 => h9) rfl dX7_seen_24 ?_
      refine lv_bipush (v := nI 6) hx hb dX7_seen_27 (by decide) ?_
      refine icmp_lt_n (a := ns) (b := 6) (tgt := 35) hx hb dX7_seen_29 (by decide) (by omega) (by omega) (fun c29 => ?_) (fun c29 => ?_)
      · refine lv_aload_n hx hb dX7_seen_35 rfl (lv_at hl 0 rfl) ?_
        refine va_get (D := D) (ci := 7) (v := .ref g) (C := RX7) (T := TX7) (N := 7) hx hb hts hi7 hown hK hP 0 rfl rfl 0 (by decide) hw0 (fun _ h9 => h9) rfl dX7_seen_36 ?_
        refine lv_iload_n hx hb dX7_seen_39 rfl (lv_at hl 1 rfl) ?_
        refine lv_iload_n hx hb dX7_seen_40 rfl (lv_at hl 2 rfl) ?_
        refine cal_i (run_V (As := [.int x, .int y]) (rest := []) SF (c_addSight l D cI cJ cZ cG cM g ge gl gb gw gsw gsh fi n ns fw fh x y (by omega)) (cwV 2 hts gX7_seen_X3_addSight rfl rfl rfl (by decide +kernel) ⟨Nat.le_of_ble_eq_true rfl, Nat.le_of_ble_eq_true rfl⟩) hN hK hP hD [1, 2, 3] rfl (by decide) 3 1 rfl rfl rfl rfl hl.1 rfl (Nat.le_of_ble_eq_true rfl) dX7_seen_41 ⟨Nat.le_of_ble_eq_true rfl, Nat.le_of_ble_eq_true rfl⟩) ⟨rfl, rfl⟩ hP hD hS hA [1, 2, 3] rfl (fun _ => rfl) (fun r41 _ H locs hw hP hD hS => ?_)
        have hP : va_P D vwCl [(xo, .inr (7, [.ref g, .ref pd, .ref b, .ref rg, .ref ch, .ref cn, .ref im])), (g, .inr (3, [.ref ge, .ref gl, .ref gb, .ref gw, .ref gsw, .ref gsh, .int (nI (ns + 1)), .int (nI n), .int fi])), (gsw, .inl (cI, 6, .inl (upd fw ns x))), (gsh, .inl (cI, 6, .inl (upd fh ns y)))] H := hP
        have hD : va_D A [(xo, .inr (7, [.ref g, .ref pd, .ref b, .ref rg, .ref ch, .ref cn, .ref im])), (g, .inr (3, [.ref ge, .ref gl, .ref gb, .ref gw, .ref gsw, .ref gsh, .int (nI (ns + 1)), .int (nI n), .int fi])), (gsw, .inl (cI, 6, .inl (upd fw ns x))), (gsh, .inl (cI, 6, .inl (upd fh ns y)))] := hD
        subst hw
        exact hret (nI (ns + 1)) ((ns + 1, upd fw ns x, upd fh ns y)) _ _ _ _ dX7_seen_44 ⟨by rw [if_pos ⟨b4, b11⟩, if_pos c29], by rw [if_pos ⟨⟨b4, b11⟩, c29⟩]⟩ hP hD hS
      · refine lv_bipush (v := (-4)) hx hb dX7_seen_32 (by decide) ?_
        exact hret ((-4)) ((ns, fw, fh)) _ _ _ _ dX7_seen_34 ⟨by rw [if_pos ⟨b4, b11⟩, if_neg (by omega)], by rw [if_neg (fun z => by omega)]⟩ hP hD hS
    · refine lv_if_ne (tgt := 20) hx hb dX7_seen_14 (by decide) (fun c9 => absurd c9 (by decide)) (fun _ => ?_)
      refine lv_bipush (v := (-2)) hx hb dX7_seen_17 (by decide) ?_
      exact hret ((-2)) ((ns, fw, fh)) _ _ _ _ dX7_seen_19 ⟨by rw [if_neg (fun z => b11 z.2)], by rw [if_neg (fun z => b11 z.1.2)]⟩ hP hD hS
  · refine lv_if_eq (tgt := 17) hx hb dX7_seen_7 (by decide) (fun _ => ?_) (fun c9 => absurd (by decide) c9)
    refine lv_bipush (v := (-2)) hx hb dX7_seen_17 (by decide) ?_
    exact hret ((-2)) ((ns, fw, fh)) _ _ _ _ dX7_seen_19 ⟨by rw [if_neg (fun z => b4 z.1)], by rw [if_neg (fun z => b4 z.1.1)]⟩ hP hD hS

abbrev rm_X7_forget : Room := { frames := 0, cells := 0, slots := 0, locals := 0 }
set_option maxHeartbeats 4000000 in
set_option maxRecDepth 100000 in
theorem o_forget (l : Launch) (D : va_G) (cI cJ cZ cG cM : ClassId) (xo pd b rg ch cn im : Nat) (g ge gl gb gw gsw gsh : Nat) (fi : Int32) (n ns : Nat) :
    CI l yX7_forget wsX7_forget rm_X7_forget D [(cI, .int), (cJ, .long), (cZ, .boolean), (cG, .object "LatestSets$Guild"), (cM, .array .int)] [(xo, .inr (7, [.ref g, .ref pd, .ref b, .ref rg, .ref ch, .ref cn, .ref im])), (g, .inr (3, [.ref ge, .ref gl, .ref gb, .ref gw, .ref gsw, .ref gsh, .int (nI ns), .int (nI n), .int fi]))] [.ref xo] (S := Unit) (fun r u => r = nI ns) (fun u => [(xo, .inr (7, [.ref g, .ref pd, .ref b, .ref rg, .ref ch, .ref cn, .ref im])), (g, .inr (3, [.ref ge, .ref gl, .ref gb, .ref gw, .ref gsw, .ref gsh, .int (nI 0), .int (nI n), .int fi]))]) := by
  refine si_of (cc := cX7_forget) (maxL := 2) (by decide) rfl (Nat.le_of_ble_eq_true rfl) ?_
  intro p e s m args below meth c A ls Q E hret
  obtain ⟨hx, hb, -, hml, hown, hts, -, hin, hA, hK, hP, hD, hS, hl, hN⟩ := E
  have hown : s.vm.findClass RX7 = some m.cls := hown
  have hl : lv_has ls 2 [(0, .ref xo)] := hl
  have SF : CallFix p m c cX7_forget 2 s args wsX7_forget RX7 := ⟨hx, hb, hml, hown, hts⟩
  have hw0 := hts (.fieldLink RX7 15 "LatestSets" "guild" "LLatestSets$Guild;") (by decide +kernel)
  have hi7 : ∀ x ∈ wsX70, x ∈ wsX7_forget := by decide +kernel
  have hw2 := hts (.fieldLink RX7 168 "LatestSets$Guild" "sights" "I") (by decide +kernel)
  have hi3 : ∀ x ∈ wsX30, x ∈ wsX7_forget := by decide +kernel
  refine lv_aload_n hx hb dX7_forget_0 rfl (lv_at hl 0 rfl) ?_
  refine va_get (D := D) (ci := 7) (v := .ref g) (C := RX7) (T := TX7) (N := 7) hx hb hts hi7 hown hK hP 0 rfl rfl 0 (by decide) hw0 (fun _ h9 => h9) rfl dX7_forget_1 ?_
  refine va_get (D := D) (ci := 3) (v := .int (nI ns)) (C := RX3) (T := TX3) (N := 9) hx hb hts hi3 hown hK hP 1 rfl rfl 6 (by decide) hw2 (fun _ h9 => h9) rfl dX7_forget_4 ?_
  refine lv_istore_n (lv' := [(1, .int (nI ns)), (0, .ref xo)]) hx hb dX7_forget_7 rfl hl (by decide) rfl (fun ls hl => ?_)
  refine lv_aload_n hx hb dX7_forget_8 rfl (lv_at hl 1 rfl) ?_
  refine va_get (D := D) (ci := 7) (v := .ref g) (C := RX7) (T := TX7) (N := 7) hx hb hts hi7 hown hK hP 0 rfl rfl 0 (by decide) hw0 (fun _ h9 => h9) rfl dX7_forget_9 ?_
  refine lv_iconst (v := nI 0) hx hb dX7_forget_12 (by decide) ?_
  refine va_put (D := D) (ci := 3) (v := .int (nI 0)) (ty := .int) (C := RX3) (T := TX3) (N := 9) hx hb hts hi3 tyX3 tyX3_ok nmX3 hown hK hP hD hS 1 rfl rfl 6 (by decide) hw2 (fun _ h9 => h9) rfl (by decide +kernel) rfl rfl (Nat.le_of_ble_eq_true rfl) dX7_forget_13 (fun H locs hP hD hS => ?_)
  have hP : va_P D vwCl [(xo, .inr (7, [.ref g, .ref pd, .ref b, .ref rg, .ref ch, .ref cn, .ref im])), (g, .inr (3, [.ref ge, .ref gl, .ref gb, .ref gw, .ref gsw, .ref gsh, .int (nI 0), .int (nI n), .int fi]))] H := hP
  have hD : va_D A [(xo, .inr (7, [.ref g, .ref pd, .ref b, .ref rg, .ref ch, .ref cn, .ref im])), (g, .inr (3, [.ref ge, .ref gl, .ref gb, .ref gw, .ref gsw, .ref gsh, .int (nI 0), .int (nI n), .int fi]))] := hD
  refine lv_iload_n hx hb dX7_forget_16 rfl (lv_at hl 0 rfl) ?_
  exact hret (nI ns) (()) _ _ _ _ dX7_forget_17 rfl hP hD hS

abbrev rm_X7_hour : Room := { frames := 5, cells := 0, slots := 0, locals := 119 }
set_option maxHeartbeats 4000000 in
set_option maxRecDepth 100000 in
theorem o_hour (l : Launch) (D : va_G) (cI cJ cZ cG cM : ClassId) (xo pd b rg ch cn im : Nat) (bt bc bs : Nat) (hg : Int32) (g ge gl gb gw gsw gsh : Nat) (fi : Int32) (n ns : Nat) (sg nl : Nat) (cm fk fs fe fl : Nat → Int32) (hV : VL fs nl) (h1 : 1 ≤ n) (h6 : n ≤ 6) (x w : Int32) :
    CI l yX7_hour wsX7_hour rm_X7_hour D [(cI, .int), (cJ, .long), (cZ, .boolean), (cG, .object "LatestSets$Guild"), (cM, .array .int)] [(xo, .inr (7, [.ref g, .ref pd, .ref b, .ref rg, .ref ch, .ref cn, .ref im])), (b, .inr (0, [.ref g, .ref bt, .ref bc, .ref bs, .int hg])), (g, .inr (3, [.ref ge, .ref gl, .ref gb, .ref gw, .ref gsw, .ref gsh, .int (nI ns), .int (nI n), .int fi])), (ge, .inl (cI, 6, .inl fe)), (gl, .inl (cI, 6, .inl fl)), (bc, .inl (cI, 6, .inl cm)), (bs, .inl (cI, 20, .inl fk)), (gw, .inr (4, [.ref sg, .int (nI nl)])), (sg, .inl (cI, 20, .inl fs))] [.ref xo, .int x, .int w] (S := ((Nat → Int32) × (Nat → Int32) × Int32)) (fun r u => r = (if (nI 0 ≤ x ∧ x ≤ nI 23) ∧ (nI 0 ≤ w ∧ w ≤ nI 99) then itH (nxF fs nl n fe fl (nI 0)) w.toNatClampNeg x else (-2))) (fun u => [(xo, .inr (7, [.ref g, .ref pd, .ref b, .ref rg, .ref ch, .ref cn, .ref im])), (b, .inr (0, [.ref g, .ref bt, .ref bc, .ref bs, .int u.2.2])), (g, .inr (3, [.ref ge, .ref gl, .ref gb, .ref gw, .ref gsw, .ref gsh, .int (nI ns), .int (nI n), .int fi])), (ge, .inl (cI, 6, .inl fe)), (gl, .inl (cI, 6, .inl fl)), (bc, .inl (cI, 6, .inl u.1)), (bs, .inl (cI, 20, .inl u.2.1)), (gw, .inr (4, [.ref sg, .int (nI nl)])), (sg, .inl (cI, 20, .inl fs))]) := by
  refine si_of (cc := cX7_hour) (maxL := 3) (by decide) rfl (Nat.le_of_ble_eq_true rfl) ?_
  intro p e s m args below meth c A ls Q E hret
  obtain ⟨hx, hb, -, hml, hown, hts, -, hin, hA, hK, hP, hD, hS, hl, hN⟩ := E
  have hown : s.vm.findClass RX7 = some m.cls := hown
  have hl : lv_has ls 3 [(0, .ref xo), (1, .int x), (2, .int w)] := hl
  have SF : CallFix p m c cX7_hour 3 s args wsX7_hour RX7 := ⟨hx, hb, hml, hown, hts⟩
  have hw0 := hts (.fieldLink RX7 21 "LatestSets" "board" "LLatestSets$Board;") (by decide +kernel)
  have hi7 : ∀ x ∈ wsX70, x ∈ wsX7_hour := by decide +kernel
  have hw2 := hts (.fieldLink RX7 15 "LatestSets" "guild" "LLatestSets$Guild;") (by decide +kernel)
  have hw3 := hts (.fieldLink RX7 111 "LatestSets$Guild" "late" "[I") (by decide +kernel)
  have hi3 : ∀ x ∈ wsX30, x ∈ wsX7_hour := by decide +kernel
  refine lv_iload_n hx hb dX7_hour_0 rfl (lv_at hl 1 rfl) ?_
  refine cal_i (run_S (As := [.int x]) (rest := []) SF (c_isHour l D cI cJ cZ cG cM x) (va_cwS 1 hts gX7_hour_X7_isHour rfl rfl rfl (by decide +kernel) ⟨Nat.le_of_ble_eq_true rfl, Nat.le_of_ble_eq_true rfl⟩) hN hK hP hD [] rfl (by decide) rfl hl.1 rfl (Nat.le_of_ble_eq_true rfl) dX7_hour_1 ⟨Nat.le_of_ble_eq_true rfl, Nat.le_of_ble_eq_true rfl⟩) ⟨rfl, rfl⟩ hP hD hS hA [] rfl (fun _ => rfl) (fun r1 _ H locs hw hP hD hS => ?_)
  have hP : va_P D vwCl [(xo, .inr (7, [.ref g, .ref pd, .ref b, .ref rg, .ref ch, .ref cn, .ref im])), (b, .inr (0, [.ref g, .ref bt, .ref bc, .ref bs, .int hg])), (g, .inr (3, [.ref ge, .ref gl, .ref gb, .ref gw, .ref gsw, .ref gsh, .int (nI ns), .int (nI n), .int fi])), (ge, .inl (cI, 6, .inl fe)), (gl, .inl (cI, 6, .inl fl)), (bc, .inl (cI, 6, .inl cm)), (bs, .inl (cI, 20, .inl fk)), (gw, .inr (4, [.ref sg, .int (nI nl)])), (sg, .inl (cI, 20, .inl fs))] H := hP
  have hD : va_D A [(xo, .inr (7, [.ref g, .ref pd, .ref b, .ref rg, .ref ch, .ref cn, .ref im])), (b, .inr (0, [.ref g, .ref bt, .ref bc, .ref bs, .int hg])), (g, .inr (3, [.ref ge, .ref gl, .ref gb, .ref gw, .ref gsw, .ref gsh, .int (nI ns), .int (nI n), .int fi])), (ge, .inl (cI, 6, .inl fe)), (gl, .inl (cI, 6, .inl fl)), (bc, .inl (cI, 6, .inl cm)), (bs, .inl (cI, 20, .inl fk)), (gw, .inr (4, [.ref sg, .int (nI nl)])), (sg, .inl (cI, 20, .inl fs))] := hD
  rcases hw with ⟨b1, rfl⟩ | ⟨b1, rfl⟩
  · refine lv_if_eq (tgt := 17) hx hb dX7_hour_4 (by decide) (fun c9 => absurd c9 (by decide)) (fun _ => ?_)
    refine lv_iload_n hx hb dX7_hour_7 rfl (lv_at hl 2 rfl) ?_
    refine lv_iconst (v := nI 0) hx hb dX7_hour_8 (by decide) ?_
    refine lv_bipush (v := nI 99) hx hb dX7_hour_9 (by decide) ?_
    refine cal_i (run_S (As := [.int w, .int (nI 0), .int (nI 99)]) (rest := []) SF (c_within l D cI cJ cZ cG cM w (nI 0) (nI 99)) (va_cwS 3 hts gX7_hour_X7_within rfl rfl rfl (by decide +kernel) ⟨Nat.le_of_ble_eq_true rfl, Nat.le_of_ble_eq_true rfl⟩) hN hK hP hD [] rfl (by decide) rfl hl.1 rfl (Nat.le_of_ble_eq_true rfl) dX7_hour_11 ⟨Nat.le_of_ble_eq_true rfl, Nat.le_of_ble_eq_true rfl⟩) ⟨rfl, rfl⟩ hP hD hS hA [] rfl (fun _ => rfl) (fun r11 _ H locs hw hP hD hS => ?_)
    have hP : va_P D vwCl [(xo, .inr (7, [.ref g, .ref pd, .ref b, .ref rg, .ref ch, .ref cn, .ref im])), (b, .inr (0, [.ref g, .ref bt, .ref bc, .ref bs, .int hg])), (g, .inr (3, [.ref ge, .ref gl, .ref gb, .ref gw, .ref gsw, .ref gsh, .int (nI ns), .int (nI n), .int fi])), (ge, .inl (cI, 6, .inl fe)), (gl, .inl (cI, 6, .inl fl)), (bc, .inl (cI, 6, .inl cm)), (bs, .inl (cI, 20, .inl fk)), (gw, .inr (4, [.ref sg, .int (nI nl)])), (sg, .inl (cI, 20, .inl fs))] H := hP
    have hD : va_D A [(xo, .inr (7, [.ref g, .ref pd, .ref b, .ref rg, .ref ch, .ref cn, .ref im])), (b, .inr (0, [.ref g, .ref bt, .ref bc, .ref bs, .int hg])), (g, .inr (3, [.ref ge, .ref gl, .ref gb, .ref gw, .ref gsw, .ref gsh, .int (nI ns), .int (nI n), .int fi])), (ge, .inl (cI, 6, .inl fe)), (gl, .inl (cI, 6, .inl fl)), (bc, .inl (cI, 6, .inl cm)), (bs, .inl (cI, 20, .inl fk)), (gw, .inr (4, [.ref sg, .int (nI nl)])), (sg, .inl (cI, 20, .inl fs))] := hD
    rcases hw with ⟨b11, rfl⟩ | ⟨b11, rfl⟩
    · obtain ⟨kw, k1kw, k2kw, rfl⟩ := nI_rng (by omega) (by omega) b11.1 b11.2
      refine lv_if_ne (tgt := 20) hx hb dX7_hour_14 (by decide) (fun _ => ?_) (fun c9 => absurd c9 (by decide))
      refine lv_aload_n hx hb dX7_hour_20 rfl (lv_at hl 0 rfl) ?_
      refine va_get (D := D) (ci := 7) (v := .ref b) (C := RX7) (T := TX7) (N := 7) hx hb hts hi7 hown hK hP 0 rfl rfl 2 (by decide) hw0 (fun _ h9 => h9) rfl dX7_hour_21 ?_
      refine lv_iload_n hx hb dX7_hour_24 rfl (lv_at hl 1 rfl) ?_
      refine lv_iload_n hx hb dX7_hour_25 rfl (lv_at hl 2 rfl) ?_
      refine lv_aload_n hx hb dX7_hour_26 rfl (lv_at hl 0 rfl) ?_
      refine va_get (D := D) (ci := 7) (v := .ref g) (C := RX7) (T := TX7) (N := 7) hx hb hts hi7 hown hK hP 0 rfl rfl 0 (by decide) hw2 (fun _ h9 => h9) rfl dX7_hour_27 ?_
      refine va_get (D := D) (ci := 3) (v := .ref gl) (C := RX3) (T := TX3) (N := 9) hx hb hts hi3 hown hK hP 2 rfl rfl 1 (by decide) hw3 (fun _ h9 => h9) rfl dX7_hour_30 ?_
      refine cal_i (run_V (As := [.int x, .int (nI kw), .ref gl]) (rest := []) SF (c_hourAfter l D cI cJ cZ cG cM b bt bc bs g ge gl gb gw gsw gsh (nI ns) fi n sg nl gl hg cm fk fs fe fl hV h1 h6 x kw (by omega)) (cwV 3 hts gX7_hour_X0_hourAfter rfl rfl rfl (by decide +kernel) ⟨Nat.le_of_ble_eq_true rfl, Nat.le_of_ble_eq_true rfl⟩) hN hK hP hD [1, 2, 3, 4, 5, 6, 7, 8] rfl (by decide) 0 1 rfl rfl rfl rfl hl.1 rfl (Nat.le_of_ble_eq_true rfl) dX7_hour_33 ⟨Nat.le_of_ble_eq_true rfl, Nat.le_of_ble_eq_true rfl⟩) ⟨rfl, rfl⟩ hP hD hS hA [1, 2, 3, 4, 5, 6, 7, 8] rfl (fun _ => rfl) (fun r33 u33 H locs hw hP hD hS => ?_)
      have hP : va_P D vwCl [(xo, .inr (7, [.ref g, .ref pd, .ref b, .ref rg, .ref ch, .ref cn, .ref im])), (b, .inr (0, [.ref g, .ref bt, .ref bc, .ref bs, .int u33.2.2])), (g, .inr (3, [.ref ge, .ref gl, .ref gb, .ref gw, .ref gsw, .ref gsh, .int (nI ns), .int (nI n), .int fi])), (ge, .inl (cI, 6, .inl fe)), (gl, .inl (cI, 6, .inl fl)), (bc, .inl (cI, 6, .inl u33.1)), (bs, .inl (cI, 20, .inl u33.2.1)), (gw, .inr (4, [.ref sg, .int (nI nl)])), (sg, .inl (cI, 20, .inl fs))] H := hP
      have hD : va_D A [(xo, .inr (7, [.ref g, .ref pd, .ref b, .ref rg, .ref ch, .ref cn, .ref im])), (b, .inr (0, [.ref g, .ref bt, .ref bc, .ref bs, .int u33.2.2])), (g, .inr (3, [.ref ge, .ref gl, .ref gb, .ref gw, .ref gsw, .ref gsh, .int (nI ns), .int (nI n), .int fi])), (ge, .inl (cI, 6, .inl fe)), (gl, .inl (cI, 6, .inl fl)), (bc, .inl (cI, 6, .inl u33.1)), (bs, .inl (cI, 20, .inl u33.2.1)), (gw, .inr (4, [.ref sg, .int (nI nl)])), (sg, .inl (cI, 20, .inl fs))] := hD
      exact hret r33 ((u33.1, u33.2.1, u33.2.2)) _ _ _ _ dX7_hour_36 (by rw [if_pos ⟨b1, b11⟩, nI_clamp (by omega), hw]) hP hD hS
    · refine lv_if_ne (tgt := 20) hx hb dX7_hour_14 (by decide) (fun c9 => absurd c9 (by decide)) (fun _ => ?_)
      refine lv_bipush (v := (-2)) hx hb dX7_hour_17 (by decide) ?_
      exact hret ((-2)) ((cm, fk, hg)) _ _ _ _ dX7_hour_19 (by rw [if_neg (fun z => b11 z.2)]) hP hD hS
  · refine lv_if_eq (tgt := 17) hx hb dX7_hour_4 (by decide) (fun _ => ?_) (fun c9 => absurd (by decide) c9)
    refine lv_bipush (v := (-2)) hx hb dX7_hour_17 (by decide) ?_
    exact hret ((-2)) ((cm, fk, hg)) _ _ _ _ dX7_hour_19 (by rw [if_neg (fun z => b1 z.1)]) hP hD hS

abbrev rm_X7_comes : Room := { frames := 5, cells := 0, slots := 0, locals := 119 }
set_option maxHeartbeats 4000000 in
set_option maxRecDepth 100000 in
theorem o_comes (l : Launch) (D : va_G) (cI cJ cZ cG cM : ClassId) (xo pd b rg ch cn im : Nat) (bt bc bs : Nat) (hg : Int32) (g ge gl gb gw gsw gsh : Nat) (fi : Int32) (n ns : Nat) (sg nl : Nat) (cm fk fs fe fl : Nat → Int32) (hV : VL fs nl) (h1 : 1 ≤ n) (h6 : n ≤ 6) (m9 x w : Int32) :
    CI l yX7_comes wsX7_comes rm_X7_comes D [(cI, .int), (cJ, .long), (cZ, .boolean), (cG, .object "LatestSets$Guild"), (cM, .array .int)] [(xo, .inr (7, [.ref g, .ref pd, .ref b, .ref rg, .ref ch, .ref cn, .ref im])), (b, .inr (0, [.ref g, .ref bt, .ref bc, .ref bs, .int hg])), (g, .inr (3, [.ref ge, .ref gl, .ref gb, .ref gw, .ref gsw, .ref gsh, .int (nI ns), .int (nI n), .int fi])), (ge, .inl (cI, 6, .inl fe)), (gl, .inl (cI, 6, .inl fl)), (bc, .inl (cI, 6, .inl cm)), (bs, .inl (cI, 20, .inl fk)), (gw, .inr (4, [.ref sg, .int (nI nl)])), (sg, .inl (cI, 20, .inl fs))] [.ref xo, .int m9, .int x, .int w] (S := ((Nat → Int32) × (Nat → Int32) × Int32)) (fun r u => r = (if nI 0 ≤ m9 ∧ m9 < nI n then (if (nI 0 ≤ x ∧ x ≤ nI 23) ∧ (nI 0 ≤ w ∧ w ≤ nI 99) then cmA (itH (nxF fs nl n fe fl (nI 0)) w.toNatClampNeg x) (fe m9.toNatClampNeg) (fl m9.toNatClampNeg) else (-2)) else (-1))) (fun u => [(xo, .inr (7, [.ref g, .ref pd, .ref b, .ref rg, .ref ch, .ref cn, .ref im])), (b, .inr (0, [.ref g, .ref bt, .ref bc, .ref bs, .int u.2.2])), (g, .inr (3, [.ref ge, .ref gl, .ref gb, .ref gw, .ref gsw, .ref gsh, .int (nI ns), .int (nI n), .int fi])), (ge, .inl (cI, 6, .inl fe)), (gl, .inl (cI, 6, .inl fl)), (bc, .inl (cI, 6, .inl u.1)), (bs, .inl (cI, 20, .inl u.2.1)), (gw, .inr (4, [.ref sg, .int (nI nl)])), (sg, .inl (cI, 20, .inl fs))]) := by
  refine si_of (cc := cX7_comes) (maxL := 5) (by decide) rfl (Nat.le_of_ble_eq_true rfl) ?_
  intro p e s m args below meth c A ls Q E hret
  obtain ⟨hx, hb, -, hml, hown, hts, -, hin, hA, hK, hP, hD, hS, hl, hN⟩ := E
  have hown : s.vm.findClass RX7 = some m.cls := hown
  have hl : lv_has ls 5 [(0, .ref xo), (1, .int m9), (2, .int x), (3, .int w)] := hl
  have SF : CallFix p m c cX7_comes 5 s args wsX7_comes RX7 := ⟨hx, hb, hml, hown, hts⟩
  have hw0 := hts (.fieldLink RX7 15 "LatestSets" "guild" "LLatestSets$Guild;") (by decide +kernel)
  have hi7 : ∀ x ∈ wsX70, x ∈ wsX7_comes := by decide +kernel
  have hw2 := hts (.fieldLink RX7 21 "LatestSets" "board" "LLatestSets$Board;") (by decide +kernel)
  have hw3 := hts (.fieldLink RX7 111 "LatestSets$Guild" "late" "[I") (by decide +kernel)
  have hi3 : ∀ x ∈ wsX30, x ∈ wsX7_comes := by decide +kernel
  have hw5 := hts (.fieldLink RX7 118 "LatestSets$Guild" "early" "[I") (by decide +kernel)
  refine lv_aload_n hx hb dX7_comes_0 rfl (lv_at hl 0 rfl) ?_
  refine va_get (D := D) (ci := 7) (v := .ref g) (C := RX7) (T := TX7) (N := 7) hx hb hts hi7 hown hK hP 0 rfl rfl 0 (by decide) hw0 (fun _ h9 => h9) rfl dX7_comes_1 ?_
  refine lv_iload_n hx hb dX7_comes_4 rfl (lv_at hl 1 rfl) ?_
  refine cal_i (run_V (As := [.int m9]) (rest := []) SF (c_has l D cI cJ cZ cG cM g ge gl gb gw gsw gsh (nI ns) fi n m9) (cwV 1 hts gX7_comes_X3_has rfl rfl rfl (by decide +kernel) ⟨Nat.le_of_ble_eq_true rfl, Nat.le_of_ble_eq_true rfl⟩) hN hK hP hD [2] rfl (by decide) 3 2 rfl rfl rfl rfl hl.1 rfl (Nat.le_of_ble_eq_true rfl) dX7_comes_5 ⟨Nat.le_of_ble_eq_true rfl, Nat.le_of_ble_eq_true rfl⟩) ⟨rfl, rfl⟩ hP hD hS hA [2] rfl (fun _ => rfl) (fun r5 _ H locs hw hP hD hS => ?_)
  have hP : va_P D vwCl [(xo, .inr (7, [.ref g, .ref pd, .ref b, .ref rg, .ref ch, .ref cn, .ref im])), (b, .inr (0, [.ref g, .ref bt, .ref bc, .ref bs, .int hg])), (g, .inr (3, [.ref ge, .ref gl, .ref gb, .ref gw, .ref gsw, .ref gsh, .int (nI ns), .int (nI n), .int fi])), (ge, .inl (cI, 6, .inl fe)), (gl, .inl (cI, 6, .inl fl)), (bc, .inl (cI, 6, .inl cm)), (bs, .inl (cI, 20, .inl fk)), (gw, .inr (4, [.ref sg, .int (nI nl)])), (sg, .inl (cI, 20, .inl fs))] H := hP
  have hD : va_D A [(xo, .inr (7, [.ref g, .ref pd, .ref b, .ref rg, .ref ch, .ref cn, .ref im])), (b, .inr (0, [.ref g, .ref bt, .ref bc, .ref bs, .int hg])), (g, .inr (3, [.ref ge, .ref gl, .ref gb, .ref gw, .ref gsw, .ref gsh, .int (nI ns), .int (nI n), .int fi])), (ge, .inl (cI, 6, .inl fe)), (gl, .inl (cI, 6, .inl fl)), (bc, .inl (cI, 6, .inl cm)), (bs, .inl (cI, 20, .inl fk)), (gw, .inr (4, [.ref sg, .int (nI nl)])), (sg, .inl (cI, 20, .inl fs))] := hD
  rcases hw with ⟨b5, rfl⟩ | ⟨b5, rfl⟩
  · obtain ⟨km, k2km, rfl⟩ := nI_rngL (by omega) b5.1 b5.2
    refine lv_if_ne (tgt := 13) hx hb dX7_comes_8 (by decide) (fun _ => ?_) (fun c9 => absurd c9 (by decide))
    refine lv_iload_n hx hb dX7_comes_13 rfl (lv_at hl 2 rfl) ?_
    refine cal_i (run_S (As := [.int x]) (rest := []) SF (c_isHour l D cI cJ cZ cG cM x) (va_cwS 1 hts gX7_comes_X7_isHour rfl rfl rfl (by decide +kernel) ⟨Nat.le_of_ble_eq_true rfl, Nat.le_of_ble_eq_true rfl⟩) hN hK hP hD [] rfl (by decide) rfl hl.1 rfl (Nat.le_of_ble_eq_true rfl) dX7_comes_14 ⟨Nat.le_of_ble_eq_true rfl, Nat.le_of_ble_eq_true rfl⟩) ⟨rfl, rfl⟩ hP hD hS hA [] rfl (fun _ => rfl) (fun r14 _ H locs hw hP hD hS => ?_)
    have hP : va_P D vwCl [(xo, .inr (7, [.ref g, .ref pd, .ref b, .ref rg, .ref ch, .ref cn, .ref im])), (b, .inr (0, [.ref g, .ref bt, .ref bc, .ref bs, .int hg])), (g, .inr (3, [.ref ge, .ref gl, .ref gb, .ref gw, .ref gsw, .ref gsh, .int (nI ns), .int (nI n), .int fi])), (ge, .inl (cI, 6, .inl fe)), (gl, .inl (cI, 6, .inl fl)), (bc, .inl (cI, 6, .inl cm)), (bs, .inl (cI, 20, .inl fk)), (gw, .inr (4, [.ref sg, .int (nI nl)])), (sg, .inl (cI, 20, .inl fs))] H := hP
    have hD : va_D A [(xo, .inr (7, [.ref g, .ref pd, .ref b, .ref rg, .ref ch, .ref cn, .ref im])), (b, .inr (0, [.ref g, .ref bt, .ref bc, .ref bs, .int hg])), (g, .inr (3, [.ref ge, .ref gl, .ref gb, .ref gw, .ref gsw, .ref gsh, .int (nI ns), .int (nI n), .int fi])), (ge, .inl (cI, 6, .inl fe)), (gl, .inl (cI, 6, .inl fl)), (bc, .inl (cI, 6, .inl cm)), (bs, .inl (cI, 20, .inl fk)), (gw, .inr (4, [.ref sg, .int (nI nl)])), (sg, .inl (cI, 20, .inl fs))] := hD
    rcases hw with ⟨b14, rfl⟩ | ⟨b14, rfl⟩
    · refine lv_if_eq (tgt := 30) hx hb dX7_comes_17 (by decide) (fun c9 => absurd c9 (by decide)) (fun _ => ?_)
      refine lv_iload_n hx hb dX7_comes_20 rfl (lv_at hl 3 rfl) ?_
      refine lv_iconst (v := nI 0) hx hb dX7_comes_21 (by decide) ?_
      refine lv_bipush (v := nI 99) hx hb dX7_comes_22 (by decide) ?_
      refine cal_i (run_S (As := [.int w, .int (nI 0), .int (nI 99)]) (rest := []) SF (c_within l D cI cJ cZ cG cM w (nI 0) (nI 99)) (va_cwS 3 hts gX7_comes_X7_within rfl rfl rfl (by decide +kernel) ⟨Nat.le_of_ble_eq_true rfl, Nat.le_of_ble_eq_true rfl⟩) hN hK hP hD [] rfl (by decide) rfl hl.1 rfl (Nat.le_of_ble_eq_true rfl) dX7_comes_24 ⟨Nat.le_of_ble_eq_true rfl, Nat.le_of_ble_eq_true rfl⟩) ⟨rfl, rfl⟩ hP hD hS hA [] rfl (fun _ => rfl) (fun r24 _ H locs hw hP hD hS => ?_)
      have hP : va_P D vwCl [(xo, .inr (7, [.ref g, .ref pd, .ref b, .ref rg, .ref ch, .ref cn, .ref im])), (b, .inr (0, [.ref g, .ref bt, .ref bc, .ref bs, .int hg])), (g, .inr (3, [.ref ge, .ref gl, .ref gb, .ref gw, .ref gsw, .ref gsh, .int (nI ns), .int (nI n), .int fi])), (ge, .inl (cI, 6, .inl fe)), (gl, .inl (cI, 6, .inl fl)), (bc, .inl (cI, 6, .inl cm)), (bs, .inl (cI, 20, .inl fk)), (gw, .inr (4, [.ref sg, .int (nI nl)])), (sg, .inl (cI, 20, .inl fs))] H := hP
      have hD : va_D A [(xo, .inr (7, [.ref g, .ref pd, .ref b, .ref rg, .ref ch, .ref cn, .ref im])), (b, .inr (0, [.ref g, .ref bt, .ref bc, .ref bs, .int hg])), (g, .inr (3, [.ref ge, .ref gl, .ref gb, .ref gw, .ref gsw, .ref gsh, .int (nI ns), .int (nI n), .int fi])), (ge, .inl (cI, 6, .inl fe)), (gl, .inl (cI, 6, .inl fl)), (bc, .inl (cI, 6, .inl cm)), (bs, .inl (cI, 20, .inl fk)), (gw, .inr (4, [.ref sg, .int (nI nl)])), (sg, .inl (cI, 20, .inl fs))] := hD
      rcases hw with ⟨b24, rfl⟩ | ⟨b24, rfl⟩
      · obtain ⟨kw, k1kw, k2kw, rfl⟩ := nI_rng (by omega) (by omega) b24.1 b24.2
        refine lv_if_ne (tgt := 33) hx hb dX7_comes_27 (by decide) (fun _ => ?_) (fun c9 => absurd c9 (by decide))
        refine lv_aload_n hx hb dX7_comes_33 rfl (lv_at hl 0 rfl) ?_
        refine va_get (D := D) (ci := 7) (v := .ref b) (C := RX7) (T := TX7) (N := 7) hx hb hts hi7 hown hK hP 0 rfl rfl 2 (by decide) hw2 (fun _ h9 => h9) rfl dX7_comes_34 ?_
        refine lv_iload_n hx hb dX7_comes_37 rfl (lv_at hl 2 rfl) ?_
        refine lv_iload_n hx hb dX7_comes_38 rfl (lv_at hl 3 rfl) ?_
        refine lv_aload_n hx hb dX7_comes_39 rfl (lv_at hl 0 rfl) ?_
        refine va_get (D := D) (ci := 7) (v := .ref g) (C := RX7) (T := TX7) (N := 7) hx hb hts hi7 hown hK hP 0 rfl rfl 0 (by decide) hw0 (fun _ h9 => h9) rfl dX7_comes_40 ?_
        refine va_get (D := D) (ci := 3) (v := .ref gl) (C := RX3) (T := TX3) (N := 9) hx hb hts hi3 hown hK hP 2 rfl rfl 1 (by decide) hw3 (fun _ h9 => h9) rfl dX7_comes_43 ?_
        refine cal_i (run_V (As := [.int x, .int (nI kw), .ref gl]) (rest := []) SF (c_hourAfter l D cI cJ cZ cG cM b bt bc bs g ge gl gb gw gsw gsh (nI ns) fi n sg nl gl hg cm fk fs fe fl hV h1 h6 x kw (by omega)) (cwV 3 hts gX7_comes_X0_hourAfter rfl rfl rfl (by decide +kernel) ⟨Nat.le_of_ble_eq_true rfl, Nat.le_of_ble_eq_true rfl⟩) hN hK hP hD [1, 2, 3, 4, 5, 6, 7, 8] rfl (by decide) 0 1 rfl rfl rfl rfl hl.1 rfl (Nat.le_of_ble_eq_true rfl) dX7_comes_46 ⟨Nat.le_of_ble_eq_true rfl, Nat.le_of_ble_eq_true rfl⟩) ⟨rfl, rfl⟩ hP hD hS hA [1, 2, 3, 4, 5, 6, 7, 8] rfl (fun _ => rfl) (fun r46 u46 H locs hw hP hD hS => ?_)
        have hP : va_P D vwCl [(xo, .inr (7, [.ref g, .ref pd, .ref b, .ref rg, .ref ch, .ref cn, .ref im])), (b, .inr (0, [.ref g, .ref bt, .ref bc, .ref bs, .int u46.2.2])), (g, .inr (3, [.ref ge, .ref gl, .ref gb, .ref gw, .ref gsw, .ref gsh, .int (nI ns), .int (nI n), .int fi])), (ge, .inl (cI, 6, .inl fe)), (gl, .inl (cI, 6, .inl fl)), (bc, .inl (cI, 6, .inl u46.1)), (bs, .inl (cI, 20, .inl u46.2.1)), (gw, .inr (4, [.ref sg, .int (nI nl)])), (sg, .inl (cI, 20, .inl fs))] H := hP
        have hD : va_D A [(xo, .inr (7, [.ref g, .ref pd, .ref b, .ref rg, .ref ch, .ref cn, .ref im])), (b, .inr (0, [.ref g, .ref bt, .ref bc, .ref bs, .int u46.2.2])), (g, .inr (3, [.ref ge, .ref gl, .ref gb, .ref gw, .ref gsw, .ref gsh, .int (nI ns), .int (nI n), .int fi])), (ge, .inl (cI, 6, .inl fe)), (gl, .inl (cI, 6, .inl fl)), (bc, .inl (cI, 6, .inl u46.1)), (bs, .inl (cI, 20, .inl u46.2.1)), (gw, .inr (4, [.ref sg, .int (nI nl)])), (sg, .inl (cI, 20, .inl fs))] := hD
        subst hw
        refine lv_istore (lv' := [(4, .int (itH (nxF fs nl n fe fl (nI 0)) kw x)), (0, .ref xo), (1, .int (nI km)), (2, .int x), (3, .int (nI kw))]) hx hb dX7_comes_49 hl (by decide) rfl (fun ls hl => ?_)
        refine lv_iload hx hb dX7_comes_51 (lv_at hl 0 rfl) ?_
        refine lv_aload_n hx hb dX7_comes_53 rfl (lv_at hl 1 rfl) ?_
        refine va_get (D := D) (ci := 7) (v := .ref g) (C := RX7) (T := TX7) (N := 7) hx hb hts hi7 hown hK hP 0 rfl rfl 0 (by decide) hw0 (fun _ h9 => h9) rfl dX7_comes_54 ?_
        refine va_get (D := D) (ci := 3) (v := .ref ge) (C := RX3) (T := TX3) (N := 9) hx hb hts hi3 hown hK hP 2 rfl rfl 0 (by decide) hw5 (fun _ h9 => h9) rfl dX7_comes_57 ?_
        refine lv_iload_n hx hb dX7_comes_60 rfl (lv_at hl 2 rfl) ?_
        refine iald_n (k := km) hx hb hK hP 3 0 rfl rfl (by omega) (by omega) dX7_comes_61 ?_
        refine lv_aload_n hx hb dX7_comes_62 rfl (lv_at hl 1 rfl) ?_
        refine va_get (D := D) (ci := 7) (v := .ref g) (C := RX7) (T := TX7) (N := 7) hx hb hts hi7 hown hK hP 0 rfl rfl 0 (by decide) hw0 (fun _ h9 => h9) rfl dX7_comes_63 ?_
        refine va_get (D := D) (ci := 3) (v := .ref gl) (C := RX3) (T := TX3) (N := 9) hx hb hts hi3 hown hK hP 2 rfl rfl 1 (by decide) hw3 (fun _ h9 => h9) rfl dX7_comes_66 ?_
        refine lv_iload_n hx hb dX7_comes_69 rfl (lv_at hl 2 rfl) ?_
        refine iald_n (k := km) hx hb hK hP 4 0 rfl rfl (by omega) (by omega) dX7_comes_70 ?_
        refine cal_i (run_S (As := [.int (itH (nxF fs nl n fe fl (nI 0)) kw x), .int (fe km), .int (fl km)]) (rest := []) SF (c_comingAt l D cI cJ cZ cG cM (itH (nxF fs nl n fe fl (nI 0)) kw x) (fe km) (fl km)) (va_cwS 3 hts gX7_comes_X7_comingAt rfl rfl rfl (by decide +kernel) ⟨Nat.le_of_ble_eq_true rfl, Nat.le_of_ble_eq_true rfl⟩) hN hK hP hD [] rfl (by decide) rfl hl.1 rfl (Nat.le_of_ble_eq_true rfl) dX7_comes_71 ⟨Nat.le_of_ble_eq_true rfl, Nat.le_of_ble_eq_true rfl⟩) ⟨rfl, rfl⟩ hP hD hS hA [] rfl (fun _ => rfl) (fun r71 _ H locs hw hP hD hS => ?_)
        have hP : va_P D vwCl [(xo, .inr (7, [.ref g, .ref pd, .ref b, .ref rg, .ref ch, .ref cn, .ref im])), (b, .inr (0, [.ref g, .ref bt, .ref bc, .ref bs, .int u46.2.2])), (g, .inr (3, [.ref ge, .ref gl, .ref gb, .ref gw, .ref gsw, .ref gsh, .int (nI ns), .int (nI n), .int fi])), (ge, .inl (cI, 6, .inl fe)), (gl, .inl (cI, 6, .inl fl)), (bc, .inl (cI, 6, .inl u46.1)), (bs, .inl (cI, 20, .inl u46.2.1)), (gw, .inr (4, [.ref sg, .int (nI nl)])), (sg, .inl (cI, 20, .inl fs))] H := hP
        have hD : va_D A [(xo, .inr (7, [.ref g, .ref pd, .ref b, .ref rg, .ref ch, .ref cn, .ref im])), (b, .inr (0, [.ref g, .ref bt, .ref bc, .ref bs, .int u46.2.2])), (g, .inr (3, [.ref ge, .ref gl, .ref gb, .ref gw, .ref gsw, .ref gsh, .int (nI ns), .int (nI n), .int fi])), (ge, .inl (cI, 6, .inl fe)), (gl, .inl (cI, 6, .inl fl)), (bc, .inl (cI, 6, .inl u46.1)), (bs, .inl (cI, 20, .inl u46.2.1)), (gw, .inr (4, [.ref sg, .int (nI nl)])), (sg, .inl (cI, 20, .inl fs))] := hD
        exact hret r71 ((u46.1, u46.2.1, u46.2.2)) _ _ _ _ dX7_comes_74 (by rw [if_pos b5, if_pos ⟨b14, b24⟩, nI_clamp (by omega), nI_clamp (by omega)]; exact hw) hP hD hS
      · refine lv_if_ne (tgt := 33) hx hb dX7_comes_27 (by decide) (fun c9 => absurd c9 (by decide)) (fun _ => ?_)
        refine lv_bipush (v := (-2)) hx hb dX7_comes_30 (by decide) ?_
        exact hret ((-2)) ((cm, fk, hg)) _ _ _ _ dX7_comes_32 (by rw [if_pos b5, if_neg (fun z => b24 z.2)]) hP hD hS
    · refine lv_if_eq (tgt := 30) hx hb dX7_comes_17 (by decide) (fun _ => ?_) (fun c9 => absurd (by decide) c9)
      refine lv_bipush (v := (-2)) hx hb dX7_comes_30 (by decide) ?_
      exact hret ((-2)) ((cm, fk, hg)) _ _ _ _ dX7_comes_32 (by rw [if_pos b5, if_neg (fun z => b14 z.1)]) hP hD hS
  · refine lv_if_ne (tgt := 13) hx hb dX7_comes_8 (by decide) (fun c9 => absurd c9 (by decide)) (fun _ => ?_)
    refine lv_iconst (v := (-1)) hx hb dX7_comes_11 (by decide) ?_
    exact hret ((-1)) ((cm, fk, hg)) _ _ _ _ dX7_comes_12 (by rw [if_neg b5]) hP hD hS

abbrev rm_X7_paid : Room := { frames := 1, cells := 0, slots := 0, locals := 22 }
set_option maxHeartbeats 4000000 in
set_option maxRecDepth 100000 in
theorem o_paid (l : Launch) (D : va_G) (cI cJ cZ cG cM : ClassId) (xo pd b rg ch cn im : Nat) (g ge gl gb gw gsw gsh : Nat) (fi : Int32) (n ns : Nat) (fl : Nat → Int32) (m9 w : Int32) (h6 : n ≤ 6) :
    CI l yX7_paid wsX7_paid rm_X7_paid D [(cI, .int), (cJ, .long), (cZ, .boolean), (cG, .object "LatestSets$Guild"), (cM, .array .int)] [(xo, .inr (7, [.ref g, .ref pd, .ref b, .ref rg, .ref ch, .ref cn, .ref im])), (g, .inr (3, [.ref ge, .ref gl, .ref gb, .ref gw, .ref gsw, .ref gsh, .int (nI ns), .int (nI n), .int fi])), (gl, .inl (cI, 6, .inl fl))] [.ref xo, .int m9, .int w] (S := Unit) (fun r u => r = (if nI 0 ≤ m9 ∧ m9 < nI n then (if nI 0 ≤ w ∧ w ≤ nI 99 then fi * fl m9.toNatClampNeg * w else (-2)) else (-1))) (fun u => [(xo, .inr (7, [.ref g, .ref pd, .ref b, .ref rg, .ref ch, .ref cn, .ref im])), (g, .inr (3, [.ref ge, .ref gl, .ref gb, .ref gw, .ref gsw, .ref gsh, .int (nI ns), .int (nI n), .int fi])), (gl, .inl (cI, 6, .inl fl))]) := by
  refine si_of (cc := cX7_paid) (maxL := 3) (by decide) rfl (Nat.le_of_ble_eq_true rfl) ?_
  intro p e s m args below meth c A ls Q E hret
  obtain ⟨hx, hb, -, hml, hown, hts, -, hin, hA, hK, hP, hD, hS, hl, hN⟩ := E
  have hown : s.vm.findClass RX7 = some m.cls := hown
  have hl : lv_has ls 3 [(0, .ref xo), (1, .int m9), (2, .int w)] := hl
  have SF : CallFix p m c cX7_paid 3 s args wsX7_paid RX7 := ⟨hx, hb, hml, hown, hts⟩
  have hw0 := hts (.fieldLink RX7 15 "LatestSets" "guild" "LLatestSets$Guild;") (by decide +kernel)
  have hi7 : ∀ x ∈ wsX70, x ∈ wsX7_paid := by decide +kernel
  have hw2 := hts (.fieldLink RX7 79 "LatestSets$Guild" "fineEach" "I") (by decide +kernel)
  have hi3 : ∀ x ∈ wsX30, x ∈ wsX7_paid := by decide +kernel
  have hw4 := hts (.fieldLink RX7 111 "LatestSets$Guild" "late" "[I") (by decide +kernel)
  refine lv_aload_n hx hb dX7_paid_0 rfl (lv_at hl 0 rfl) ?_
  refine va_get (D := D) (ci := 7) (v := .ref g) (C := RX7) (T := TX7) (N := 7) hx hb hts hi7 hown hK hP 0 rfl rfl 0 (by decide) hw0 (fun _ h9 => h9) rfl dX7_paid_1 ?_
  refine lv_iload_n hx hb dX7_paid_4 rfl (lv_at hl 1 rfl) ?_
  refine cal_i (run_V (As := [.int m9]) (rest := []) SF (c_has l D cI cJ cZ cG cM g ge gl gb gw gsw gsh (nI ns) fi n m9) (cwV 1 hts gX7_paid_X3_has rfl rfl rfl (by decide +kernel) ⟨Nat.le_of_ble_eq_true rfl, Nat.le_of_ble_eq_true rfl⟩) hN hK hP hD [1] rfl (by decide) 3 1 rfl rfl rfl rfl hl.1 rfl (Nat.le_of_ble_eq_true rfl) dX7_paid_5 ⟨Nat.le_of_ble_eq_true rfl, Nat.le_of_ble_eq_true rfl⟩) ⟨rfl, rfl⟩ hP hD hS hA [1] rfl (fun _ => rfl) (fun r5 _ H locs hw hP hD hS => ?_)
  have hP : va_P D vwCl [(xo, .inr (7, [.ref g, .ref pd, .ref b, .ref rg, .ref ch, .ref cn, .ref im])), (g, .inr (3, [.ref ge, .ref gl, .ref gb, .ref gw, .ref gsw, .ref gsh, .int (nI ns), .int (nI n), .int fi])), (gl, .inl (cI, 6, .inl fl))] H := hP
  have hD : va_D A [(xo, .inr (7, [.ref g, .ref pd, .ref b, .ref rg, .ref ch, .ref cn, .ref im])), (g, .inr (3, [.ref ge, .ref gl, .ref gb, .ref gw, .ref gsw, .ref gsh, .int (nI ns), .int (nI n), .int fi])), (gl, .inl (cI, 6, .inl fl))] := hD
  rcases hw with ⟨b5, rfl⟩ | ⟨b5, rfl⟩
  · obtain ⟨km, k2km, rfl⟩ := nI_rngL (by omega) b5.1 b5.2
    refine lv_if_ne (tgt := 13) hx hb dX7_paid_8 (by decide) (fun _ => ?_) (fun c9 => absurd c9 (by decide))
    refine lv_iload_n hx hb dX7_paid_13 rfl (lv_at hl 2 rfl) ?_
    refine lv_iconst (v := nI 0) hx hb dX7_paid_14 (by decide) ?_
    refine lv_bipush (v := nI 99) hx hb dX7_paid_15 (by decide) ?_
    refine cal_i (run_S (As := [.int w, .int (nI 0), .int (nI 99)]) (rest := []) SF (c_within l D cI cJ cZ cG cM w (nI 0) (nI 99)) (va_cwS 3 hts gX7_paid_X7_within rfl rfl rfl (by decide +kernel) ⟨Nat.le_of_ble_eq_true rfl, Nat.le_of_ble_eq_true rfl⟩) hN hK hP hD [] rfl (by decide) rfl hl.1 rfl (Nat.le_of_ble_eq_true rfl) dX7_paid_17 ⟨Nat.le_of_ble_eq_true rfl, Nat.le_of_ble_eq_true rfl⟩) ⟨rfl, rfl⟩ hP hD hS hA [] rfl (fun _ => rfl) (fun r17 _ H locs hw hP hD hS => ?_)
    have hP : va_P D vwCl [(xo, .inr (7, [.ref g, .ref pd, .ref b, .ref rg, .ref ch, .ref cn, .ref im])), (g, .inr (3, [.ref ge, .ref gl, .ref gb, .ref gw, .ref gsw, .ref gsh, .int (nI ns), .int (nI n), .int fi])), (gl, .inl (cI, 6, .inl fl))] H := hP
    have hD : va_D A [(xo, .inr (7, [.ref g, .ref pd, .ref b, .ref rg, .ref ch, .ref cn, .ref im])), (g, .inr (3, [.ref ge, .ref gl, .ref gb, .ref gw, .ref gsw, .ref gsh, .int (nI ns), .int (nI n), .int fi])), (gl, .inl (cI, 6, .inl fl))] := hD
    rcases hw with ⟨b17, rfl⟩ | ⟨b17, rfl⟩
    · refine lv_if_ne (tgt := 26) hx hb dX7_paid_20 (by decide) (fun _ => ?_) (fun c9 => absurd c9 (by decide))
      refine lv_aload_n hx hb dX7_paid_26 rfl (lv_at hl 0 rfl) ?_
      refine va_get (D := D) (ci := 7) (v := .ref g) (C := RX7) (T := TX7) (N := 7) hx hb hts hi7 hown hK hP 0 rfl rfl 0 (by decide) hw0 (fun _ h9 => h9) rfl dX7_paid_27 ?_
      refine va_get (D := D) (ci := 3) (v := .int fi) (C := RX3) (T := TX3) (N := 9) hx hb hts hi3 hown hK hP 1 rfl rfl 8 (by decide) hw2 (fun _ h9 => h9) rfl dX7_paid_30 ?_
      refine lv_aload_n hx hb dX7_paid_33 rfl (lv_at hl 0 rfl) ?_
      refine va_get (D := D) (ci := 7) (v := .ref g) (C := RX7) (T := TX7) (N := 7) hx hb hts hi7 hown hK hP 0 rfl rfl 0 (by decide) hw0 (fun _ h9 => h9) rfl dX7_paid_34 ?_
      refine va_get (D := D) (ci := 3) (v := .ref gl) (C := RX3) (T := TX3) (N := 9) hx hb hts hi3 hown hK hP 1 rfl rfl 1 (by decide) hw4 (fun _ h9 => h9) rfl dX7_paid_37 ?_
      refine lv_iload_n hx hb dX7_paid_40 rfl (lv_at hl 1 rfl) ?_
      refine iald_n (k := km) hx hb hK hP 2 0 rfl rfl (by omega) (by omega) dX7_paid_41 ?_
      refine lv_imul hx hb dX7_paid_42 ?_
      refine lv_iload_n hx hb dX7_paid_43 rfl (lv_at hl 2 rfl) ?_
      refine lv_imul hx hb dX7_paid_44 ?_
      exact hret ((fi * (fl km)) * w) (()) _ _ _ _ dX7_paid_45 (by rw [if_pos b5, if_pos b17, nI_clamp (by omega)]) hP hD hS
    · refine lv_if_ne (tgt := 26) hx hb dX7_paid_20 (by decide) (fun c9 => absurd c9 (by decide)) (fun _ => ?_)
      refine lv_bipush (v := (-2)) hx hb dX7_paid_23 (by decide) ?_
      exact hret ((-2)) (()) _ _ _ _ dX7_paid_25 (by rw [if_pos b5, if_neg b17]) hP hD hS
  · refine lv_if_ne (tgt := 13) hx hb dX7_paid_8 (by decide) (fun c9 => absurd c9 (by decide)) (fun _ => ?_)
    refine lv_iconst (v := (-1)) hx hb dX7_paid_11 (by decide) ?_
    exact hret ((-1)) (()) _ _ _ _ dX7_paid_12 (by rw [if_neg b5]) hP hD hS

abbrev rm_X7_content : Room := { frames := 2, cells := 0, slots := 0, locals := 44 }
set_option maxHeartbeats 4000000 in
set_option maxRecDepth 100000 in
theorem o_content (l : Launch) (D : va_G) (cI cJ cZ cG cM : ClassId) (xo pd b rg ch cn im : Nat) (g ge gl gb gw gsw gsh : Nat) (fi : Int32) (n ns : Nat) (fb : Nat → Int32) (x : Int32) (h6 : n ≤ 6) :
    CI l yX7_content wsX7_content rm_X7_content D [(cI, .int), (cJ, .long), (cZ, .boolean), (cG, .object "LatestSets$Guild"), (cM, .array .int)] [(xo, .inr (7, [.ref g, .ref pd, .ref b, .ref rg, .ref ch, .ref cn, .ref im])), (g, .inr (3, [.ref ge, .ref gl, .ref gb, .ref gw, .ref gsw, .ref gsh, .int (nI ns), .int (nI n), .int fi])), (gb, .inl (cI, 6, .inl fb))] [.ref xo, .int x] (S := Unit) (fun r u => r = (if nI 0 ≤ x ∧ x ≤ nI 23 then farS fb x n else (-2))) (fun u => [(xo, .inr (7, [.ref g, .ref pd, .ref b, .ref rg, .ref ch, .ref cn, .ref im])), (g, .inr (3, [.ref ge, .ref gl, .ref gb, .ref gw, .ref gsw, .ref gsh, .int (nI ns), .int (nI n), .int fi])), (gb, .inl (cI, 6, .inl fb))]) := by
  refine si_of (cc := cX7_content) (maxL := 2) (by decide) rfl (Nat.le_of_ble_eq_true rfl) ?_
  intro p e s m args below meth c A ls Q E hret
  obtain ⟨hx, hb, -, hml, hown, hts, -, hin, hA, hK, hP, hD, hS, hl, hN⟩ := E
  have hown : s.vm.findClass RX7 = some m.cls := hown
  have hl : lv_has ls 2 [(0, .ref xo), (1, .int x)] := hl
  have SF : CallFix p m c cX7_content 2 s args wsX7_content RX7 := ⟨hx, hb, hml, hown, hts⟩
  have hw0 := hts (.fieldLink RX7 15 "LatestSets" "guild" "LLatestSets$Guild;") (by decide +kernel)
  have hi7 : ∀ x ∈ wsX70, x ∈ wsX7_content := by decide +kernel
  refine lv_iload_n hx hb dX7_content_0 rfl (lv_at hl 1 rfl) ?_
  refine cal_i (run_S (As := [.int x]) (rest := []) SF (c_isHour l D cI cJ cZ cG cM x) (va_cwS 1 hts gX7_content_X7_isHour rfl rfl rfl (by decide +kernel) ⟨Nat.le_of_ble_eq_true rfl, Nat.le_of_ble_eq_true rfl⟩) hN hK hP hD [] rfl (by decide) rfl hl.1 rfl (Nat.le_of_ble_eq_true rfl) dX7_content_1 ⟨Nat.le_of_ble_eq_true rfl, Nat.le_of_ble_eq_true rfl⟩) ⟨rfl, rfl⟩ hP hD hS hA [] rfl (fun _ => rfl) (fun r1 _ H locs hw hP hD hS => ?_)
  have hP : va_P D vwCl [(xo, .inr (7, [.ref g, .ref pd, .ref b, .ref rg, .ref ch, .ref cn, .ref im])), (g, .inr (3, [.ref ge, .ref gl, .ref gb, .ref gw, .ref gsw, .ref gsh, .int (nI ns), .int (nI n), .int fi])), (gb, .inl (cI, 6, .inl fb))] H := hP
  have hD : va_D A [(xo, .inr (7, [.ref g, .ref pd, .ref b, .ref rg, .ref ch, .ref cn, .ref im])), (g, .inr (3, [.ref ge, .ref gl, .ref gb, .ref gw, .ref gsw, .ref gsh, .int (nI ns), .int (nI n), .int fi])), (gb, .inl (cI, 6, .inl fb))] := hD
  rcases hw with ⟨b1, rfl⟩ | ⟨b1, rfl⟩
  · refine lv_if_eq (tgt := 18) hx hb dX7_content_4 (by decide) (fun c9 => absurd c9 (by decide)) (fun _ => ?_)
    refine lv_aload_n hx hb dX7_content_7 rfl (lv_at hl 0 rfl) ?_
    refine va_get (D := D) (ci := 7) (v := .ref g) (C := RX7) (T := TX7) (N := 7) hx hb hts hi7 hown hK hP 0 rfl rfl 0 (by decide) hw0 (fun _ h9 => h9) rfl dX7_content_8 ?_
    refine lv_iload_n hx hb dX7_content_11 rfl (lv_at hl 1 rfl) ?_
    refine cal_i (run_V (As := [.int x]) (rest := []) SF (c_farFromBest l D cI cJ cZ cG cM g ge gl gb gw gsw gsh (nI ns) fi n x fb (by omega)) (cwV 1 hts gX7_content_X3_farFromBest rfl rfl rfl (by decide +kernel) ⟨Nat.le_of_ble_eq_true rfl, Nat.le_of_ble_eq_true rfl⟩) hN hK hP hD [1, 2] rfl (by decide) 3 1 rfl rfl rfl rfl hl.1 rfl (Nat.le_of_ble_eq_true rfl) dX7_content_12 ⟨Nat.le_of_ble_eq_true rfl, Nat.le_of_ble_eq_true rfl⟩) ⟨rfl, rfl⟩ hP hD hS hA [1, 2] rfl (fun _ => rfl) (fun r12 _ H locs hw hP hD hS => ?_)
    have hP : va_P D vwCl [(xo, .inr (7, [.ref g, .ref pd, .ref b, .ref rg, .ref ch, .ref cn, .ref im])), (g, .inr (3, [.ref ge, .ref gl, .ref gb, .ref gw, .ref gsw, .ref gsh, .int (nI ns), .int (nI n), .int fi])), (gb, .inl (cI, 6, .inl fb))] H := hP
    have hD : va_D A [(xo, .inr (7, [.ref g, .ref pd, .ref b, .ref rg, .ref ch, .ref cn, .ref im])), (g, .inr (3, [.ref ge, .ref gl, .ref gb, .ref gw, .ref gsw, .ref gsh, .int (nI ns), .int (nI n), .int fi])), (gb, .inl (cI, 6, .inl fb))] := hD
    refine lv_goto (tgt := 20) hx hb dX7_content_15 (by decide) ?_
    exact hret r12 (()) _ _ _ _ dX7_content_20 (by rw [if_pos b1]; exact hw) hP hD hS
  · refine lv_if_eq (tgt := 18) hx hb dX7_content_4 (by decide) (fun _ => ?_) (fun c9 => absurd (by decide) c9)
    refine lv_bipush (v := (-2)) hx hb dX7_content_18 (by decide) ?_
    exact hret ((-2)) (()) _ _ _ _ dX7_content_20 (by rw [if_neg b1]) hP hD hS

abbrev rm_X7_could : Room := { frames := 7, cells := 0, slots := 0, locals := 165 }
set_option maxHeartbeats 4000000 in
set_option maxRecDepth 100000 in
theorem o_could (l : Launch) (D : va_G) (cI cJ cZ cG cM : ClassId) (xo pd b rg ch cn im : Nat) (bt bc bs : Nat) (hg : Int32) (g ge gl gb gw gsw gsh : Nat) (fi : Int32) (n ns : Nat) (sg nl : Nat) (cm fk fs fe ft fw fh fl : Nat → Int32) (hV : VL fs nl) (h1 : 1 ≤ n) (h6 : n ≤ 6) (hns : ns ≤ 6) (hsw : ∀ j, j < ns → ∃ k : Nat, k ≤ 30 ∧ fw j = nI k) (m9 x : Int32) :
    CI l yX7_could wsX7_could rm_X7_could D [(cI, .int), (cJ, .long), (cZ, .boolean), (cG, .object "LatestSets$Guild"), (cM, .array .int)] [(xo, .inr (7, [.ref g, .ref pd, .ref b, .ref rg, .ref ch, .ref cn, .ref im])), (b, .inr (0, [.ref g, .ref bt, .ref bc, .ref bs, .int hg])), (g, .inr (3, [.ref ge, .ref gl, .ref gb, .ref gw, .ref gsw, .ref gsh, .int (nI ns), .int (nI n), .int fi])), (ge, .inl (cI, 6, .inl fe)), (bt, .inl (cI, 6, .inl ft)), (bc, .inl (cI, 6, .inl cm)), (bs, .inl (cI, 20, .inl fk)), (gw, .inr (4, [.ref sg, .int (nI nl)])), (sg, .inl (cI, 20, .inl fs)), (gsw, .inl (cI, 6, .inl fw)), (gsh, .inl (cI, 6, .inl fh)), (gl, .inl (cI, 6, .inl fl))] [.ref xo, .int m9, .int x] (S := ((Nat → Int32) × (Nat → Int32) × (Nat → Int32) × Int32)) (fun r u => r = (if nI 0 ≤ m9 ∧ m9 < nI n then (if nI 0 ≤ x ∧ x ≤ nI 23 then cdB (fun k => SHb (nxF fs nl n fe (upd fl m9.toNatClampNeg (nI k)) (nI 0)) fw fh x ns) 6 else (-2)) else (-1))) (fun u => [(xo, .inr (7, [.ref g, .ref pd, .ref b, .ref rg, .ref ch, .ref cn, .ref im])), (b, .inr (0, [.ref g, .ref bt, .ref bc, .ref bs, .int u.2.2.2])), (g, .inr (3, [.ref ge, .ref gl, .ref gb, .ref gw, .ref gsw, .ref gsh, .int (nI ns), .int (nI n), .int fi])), (ge, .inl (cI, 6, .inl fe)), (bt, .inl (cI, 6, .inl u.1)), (bc, .inl (cI, 6, .inl u.2.1)), (bs, .inl (cI, 20, .inl u.2.2.1)), (gw, .inr (4, [.ref sg, .int (nI nl)])), (sg, .inl (cI, 20, .inl fs)), (gsw, .inl (cI, 6, .inl fw)), (gsh, .inl (cI, 6, .inl fh)), (gl, .inl (cI, 6, .inl fl))]) := by
  refine si_of (cc := cX7_could) (maxL := 3) (by decide) rfl (Nat.le_of_ble_eq_true rfl) ?_
  intro p e s m args below meth c A ls Q E hret
  obtain ⟨hx, hb, -, hml, hown, hts, -, hin, hA, hK, hP, hD, hS, hl, hN⟩ := E
  have hown : s.vm.findClass RX7 = some m.cls := hown
  have hl : lv_has ls 3 [(0, .ref xo), (1, .int m9), (2, .int x)] := hl
  have SF : CallFix p m c cX7_could 3 s args wsX7_could RX7 := ⟨hx, hb, hml, hown, hts⟩
  have hw0 := hts (.fieldLink RX7 15 "LatestSets" "guild" "LLatestSets$Guild;") (by decide +kernel)
  have hi7 : ∀ x ∈ wsX70, x ∈ wsX7_could := by decide +kernel
  have hw2 := hts (.fieldLink RX7 21 "LatestSets" "board" "LLatestSets$Board;") (by decide +kernel)
  refine lv_aload_n hx hb dX7_could_0 rfl (lv_at hl 0 rfl) ?_
  refine va_get (D := D) (ci := 7) (v := .ref g) (C := RX7) (T := TX7) (N := 7) hx hb hts hi7 hown hK hP 0 rfl rfl 0 (by decide) hw0 (fun _ h9 => h9) rfl dX7_could_1 ?_
  refine lv_iload_n hx hb dX7_could_4 rfl (lv_at hl 1 rfl) ?_
  refine cal_i (run_V (As := [.int m9]) (rest := []) SF (c_has l D cI cJ cZ cG cM g ge gl gb gw gsw gsh (nI ns) fi n m9) (cwV 1 hts gX7_could_X3_has rfl rfl rfl (by decide +kernel) ⟨Nat.le_of_ble_eq_true rfl, Nat.le_of_ble_eq_true rfl⟩) hN hK hP hD [2] rfl (by decide) 3 2 rfl rfl rfl rfl hl.1 rfl (Nat.le_of_ble_eq_true rfl) dX7_could_5 ⟨Nat.le_of_ble_eq_true rfl, Nat.le_of_ble_eq_true rfl⟩) ⟨rfl, rfl⟩ hP hD hS hA [2] rfl (fun _ => rfl) (fun r5 _ H locs hw hP hD hS => ?_)
  have hP : va_P D vwCl [(xo, .inr (7, [.ref g, .ref pd, .ref b, .ref rg, .ref ch, .ref cn, .ref im])), (b, .inr (0, [.ref g, .ref bt, .ref bc, .ref bs, .int hg])), (g, .inr (3, [.ref ge, .ref gl, .ref gb, .ref gw, .ref gsw, .ref gsh, .int (nI ns), .int (nI n), .int fi])), (ge, .inl (cI, 6, .inl fe)), (bt, .inl (cI, 6, .inl ft)), (bc, .inl (cI, 6, .inl cm)), (bs, .inl (cI, 20, .inl fk)), (gw, .inr (4, [.ref sg, .int (nI nl)])), (sg, .inl (cI, 20, .inl fs)), (gsw, .inl (cI, 6, .inl fw)), (gsh, .inl (cI, 6, .inl fh)), (gl, .inl (cI, 6, .inl fl))] H := hP
  have hD : va_D A [(xo, .inr (7, [.ref g, .ref pd, .ref b, .ref rg, .ref ch, .ref cn, .ref im])), (b, .inr (0, [.ref g, .ref bt, .ref bc, .ref bs, .int hg])), (g, .inr (3, [.ref ge, .ref gl, .ref gb, .ref gw, .ref gsw, .ref gsh, .int (nI ns), .int (nI n), .int fi])), (ge, .inl (cI, 6, .inl fe)), (bt, .inl (cI, 6, .inl ft)), (bc, .inl (cI, 6, .inl cm)), (bs, .inl (cI, 20, .inl fk)), (gw, .inr (4, [.ref sg, .int (nI nl)])), (sg, .inl (cI, 20, .inl fs)), (gsw, .inl (cI, 6, .inl fw)), (gsh, .inl (cI, 6, .inl fh)), (gl, .inl (cI, 6, .inl fl))] := hD
  rcases hw with ⟨b5, rfl⟩ | ⟨b5, rfl⟩
  · obtain ⟨km, k2km, rfl⟩ := nI_rngL (by omega) b5.1 b5.2
    refine lv_if_ne (tgt := 13) hx hb dX7_could_8 (by decide) (fun _ => ?_) (fun c9 => absurd c9 (by decide))
    refine lv_iload_n hx hb dX7_could_13 rfl (lv_at hl 2 rfl) ?_
    refine cal_i (run_S (As := [.int x]) (rest := []) SF (c_isHour l D cI cJ cZ cG cM x) (va_cwS 1 hts gX7_could_X7_isHour rfl rfl rfl (by decide +kernel) ⟨Nat.le_of_ble_eq_true rfl, Nat.le_of_ble_eq_true rfl⟩) hN hK hP hD [] rfl (by decide) rfl hl.1 rfl (Nat.le_of_ble_eq_true rfl) dX7_could_14 ⟨Nat.le_of_ble_eq_true rfl, Nat.le_of_ble_eq_true rfl⟩) ⟨rfl, rfl⟩ hP hD hS hA [] rfl (fun _ => rfl) (fun r14 _ H locs hw hP hD hS => ?_)
    have hP : va_P D vwCl [(xo, .inr (7, [.ref g, .ref pd, .ref b, .ref rg, .ref ch, .ref cn, .ref im])), (b, .inr (0, [.ref g, .ref bt, .ref bc, .ref bs, .int hg])), (g, .inr (3, [.ref ge, .ref gl, .ref gb, .ref gw, .ref gsw, .ref gsh, .int (nI ns), .int (nI n), .int fi])), (ge, .inl (cI, 6, .inl fe)), (bt, .inl (cI, 6, .inl ft)), (bc, .inl (cI, 6, .inl cm)), (bs, .inl (cI, 20, .inl fk)), (gw, .inr (4, [.ref sg, .int (nI nl)])), (sg, .inl (cI, 20, .inl fs)), (gsw, .inl (cI, 6, .inl fw)), (gsh, .inl (cI, 6, .inl fh)), (gl, .inl (cI, 6, .inl fl))] H := hP
    have hD : va_D A [(xo, .inr (7, [.ref g, .ref pd, .ref b, .ref rg, .ref ch, .ref cn, .ref im])), (b, .inr (0, [.ref g, .ref bt, .ref bc, .ref bs, .int hg])), (g, .inr (3, [.ref ge, .ref gl, .ref gb, .ref gw, .ref gsw, .ref gsh, .int (nI ns), .int (nI n), .int fi])), (ge, .inl (cI, 6, .inl fe)), (bt, .inl (cI, 6, .inl ft)), (bc, .inl (cI, 6, .inl cm)), (bs, .inl (cI, 20, .inl fk)), (gw, .inr (4, [.ref sg, .int (nI nl)])), (sg, .inl (cI, 20, .inl fs)), (gsw, .inl (cI, 6, .inl fw)), (gsh, .inl (cI, 6, .inl fh)), (gl, .inl (cI, 6, .inl fl))] := hD
    rcases hw with ⟨b14, rfl⟩ | ⟨b14, rfl⟩
    · refine lv_if_eq (tgt := 32) hx hb dX7_could_17 (by decide) (fun c9 => absurd c9 (by decide)) (fun _ => ?_)
      refine lv_aload_n hx hb dX7_could_20 rfl (lv_at hl 0 rfl) ?_
      refine va_get (D := D) (ci := 7) (v := .ref b) (C := RX7) (T := TX7) (N := 7) hx hb hts hi7 hown hK hP 0 rfl rfl 2 (by decide) hw2 (fun _ h9 => h9) rfl dX7_could_21 ?_
      refine lv_iload_n hx hb dX7_could_24 rfl (lv_at hl 1 rfl) ?_
      refine lv_iload_n hx hb dX7_could_25 rfl (lv_at hl 2 rfl) ?_
      refine cal_i (run_V (As := [.int (nI km), .int x]) (rest := []) SF (c_latesThatFit l D cI cJ cZ cG cM b bt bc bs g ge gl gb gw gsw gsh fi n ns sg nl hg cm fk fs fe ft fw fh hV h1 h6 hns hsw fl km (by omega) x) (cwV 2 hts gX7_could_X0_latesThatFit rfl rfl rfl (by decide +kernel) ⟨Nat.le_of_ble_eq_true rfl, Nat.le_of_ble_eq_true rfl⟩) hN hK hP hD [1, 2, 3, 4, 5, 6, 7, 8, 9, 10, 11] rfl (by decide) 0 1 rfl rfl rfl rfl hl.1 rfl (Nat.le_of_ble_eq_true rfl) dX7_could_26 ⟨Nat.le_of_ble_eq_true rfl, Nat.le_of_ble_eq_true rfl⟩) ⟨rfl, rfl⟩ hP hD hS hA [1, 2, 3, 4, 5, 6, 7, 8, 9, 10, 11] rfl (fun _ => rfl) (fun r26 u26 H locs hw hP hD hS => ?_)
      have hP : va_P D vwCl [(xo, .inr (7, [.ref g, .ref pd, .ref b, .ref rg, .ref ch, .ref cn, .ref im])), (b, .inr (0, [.ref g, .ref bt, .ref bc, .ref bs, .int u26.2.2.2])), (g, .inr (3, [.ref ge, .ref gl, .ref gb, .ref gw, .ref gsw, .ref gsh, .int (nI ns), .int (nI n), .int fi])), (ge, .inl (cI, 6, .inl fe)), (bt, .inl (cI, 6, .inl u26.1)), (bc, .inl (cI, 6, .inl u26.2.1)), (bs, .inl (cI, 20, .inl u26.2.2.1)), (gw, .inr (4, [.ref sg, .int (nI nl)])), (sg, .inl (cI, 20, .inl fs)), (gsw, .inl (cI, 6, .inl fw)), (gsh, .inl (cI, 6, .inl fh)), (gl, .inl (cI, 6, .inl fl))] H := hP
      have hD : va_D A [(xo, .inr (7, [.ref g, .ref pd, .ref b, .ref rg, .ref ch, .ref cn, .ref im])), (b, .inr (0, [.ref g, .ref bt, .ref bc, .ref bs, .int u26.2.2.2])), (g, .inr (3, [.ref ge, .ref gl, .ref gb, .ref gw, .ref gsw, .ref gsh, .int (nI ns), .int (nI n), .int fi])), (ge, .inl (cI, 6, .inl fe)), (bt, .inl (cI, 6, .inl u26.1)), (bc, .inl (cI, 6, .inl u26.2.1)), (bs, .inl (cI, 20, .inl u26.2.2.1)), (gw, .inr (4, [.ref sg, .int (nI nl)])), (sg, .inl (cI, 20, .inl fs)), (gsw, .inl (cI, 6, .inl fw)), (gsh, .inl (cI, 6, .inl fh)), (gl, .inl (cI, 6, .inl fl))] := hD
      refine lv_goto (tgt := 34) hx hb dX7_could_29 (by decide) ?_
      exact hret r26 ((u26.1, u26.2.1, u26.2.2.1, u26.2.2.2)) _ _ _ _ dX7_could_34 (by rw [if_pos b5, if_pos b14, nI_clamp (by omega)]; exact hw) hP hD hS
    · refine lv_if_eq (tgt := 32) hx hb dX7_could_17 (by decide) (fun _ => ?_) (fun c9 => absurd (by decide) c9)
      refine lv_bipush (v := (-2)) hx hb dX7_could_32 (by decide) ?_
      exact hret ((-2)) ((ft, cm, fk, hg)) _ _ _ _ dX7_could_34 (by rw [if_pos b5, if_neg b14]) hP hD hS
  · refine lv_if_ne (tgt := 13) hx hb dX7_could_8 (by decide) (fun c9 => absurd c9 (by decide)) (fun _ => ?_)
    refine lv_iconst (v := (-1)) hx hb dX7_could_11 (by decide) ?_
    exact hret ((-1)) ((ft, cm, fk, hg)) _ _ _ _ dX7_could_12 (by rw [if_neg b5]) hP hD hS

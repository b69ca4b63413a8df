/-! THE LAW, call by call -/
set_option maxHeartbeats 1000000 in
set_option maxRecDepth 100000 in
theorem lc_choice {p : Program} {l : Launch} {e : Env} {s : State} {m : MethodId} {below : List Frame} {meth : Method} {c : Code} {b L : Nat} {xs : Nat → Int32} {D : va_G} {cI cJ cZ cG cM : ClassId} {a d : Nat → Nat} {kk i k1 k2 : Nat} (C0 : FX p s m c b L xs D cI cJ cZ cG cM) (hi : i + 6 ≤ L) (hk : k1 ≤ 599000 ∧ k2 ≤ 7300000) (K : HD p l e s m below meth c b D cI cJ cZ cG cM a d kk 887 i k1 k2) : HD p l e s m below meth c b D cI cJ cZ cG cM a d kk 460 i k1 k2 := by
  obtain ⟨hx, hb, SF, hts, hX, hbl, hbA, hL, hN, hK⟩ := C0
  have hA : ∀ q : Nat, s.heap.size ≤ q → (fun q : Nat => s.heap.size ≤ q) q := fun _ h => h
  intro n nl ns sc ff fe fl fb fs fw fh fp hg ah le lst ln lah lmh fin up lo ft cm fk rs rf nf cr pr wf vf imf fe8 fl8 fb8 fs8 fw8 fp8 la ah8 ri lh by8 cm8 fk8 wn8 oc8 kq8 mf zf ia ib hLI H locs hP hD hS ls hl
  obtain ⟨g, e9, pr9, ir1, ir2⟩ := hLI
  have h1 := g.1.1
  have h6 := g.1.2.1
  have hff := g.1.2.2.1
  have hns := g.1.2.2.2
  have hsc := pr9.1
  have hV := g.2.2.2.2.1
  have hV8 := VL_cong hV e9.2.2.2.1
  have hn20 := hV.1
  have hn1 := VL_pos hV
  have hfb : ∀ j, j < n → ∃ b : Nat, b ≤ 23 ∧ fb j = nI b := RNG_n g.2.2.2.1 h6
  have hfl : ∀ j, j < n → ∃ b : Nat, b ≤ 5 ∧ fl j = nI b := RNG_n g.2.2.1 h6
  have hfb8 : ∀ j, j < n → ∃ b : Nat, b ≤ 23 ∧ fb8 j = nI b := RNG_e hfb (fun j hj => e9.2.2.1 j (by omega))
  have hfl8 : ∀ j, j < n → ∃ b : Nat, b ≤ 5 ∧ fl8 j = nI b := RNG_e hfl (fun j hj => e9.2.1 j (by omega))
  have hsw : ∀ j, j < ns → ∃ k : Nat, k ≤ 30 ∧ fw j = nI k := g.2.2.2.2.2
  have hsw8 : ∀ j, j < ns → ∃ k : Nat, k ≤ 30 ∧ fw8 (2 * j) = nI k := RNG_e hsw (fun j hj => (e9.2.2.2.2 j hj).1)
  refine lv_aload_n hx hb dL_law_460 rfl (lv_at hl 1 rfl) ?_
  refine lv_aload_n hx hb dL_law_461 rfl (lv_at hl 0 rfl) ?_
  refine lv_iload_n hx hb dL_law_462 rfl (lv_at hl 3 rfl) ?_
  refine lv_iconst (v := nI 1) hx hb dL_law_463 (by decide) ?_
  refine iadd_n (a := i) (b := 1) hx hb dL_law_464 ?_
  refine sld_n (k := i + 1) hx hb hX hbl hbA hS (by omega) (by omega) dL_law_465 ?_
  refine lv_aload_n hx hb dL_law_466 rfl (lv_at hl 0 rfl) ?_
  refine lv_iload_n hx hb dL_law_467 rfl (lv_at hl 3 rfl) ?_
  refine lv_iconst (v := nI 2) hx hb dL_law_468 (by decide) ?_
  refine iadd_n (a := i) (b := 2) hx hb dL_law_469 ?_
  refine sld_n (k := i + 2) hx hb hX hbl hbA hS (by omega) (by omega) dL_law_470 ?_
  refine lv_aload_n hx hb dL_law_471 rfl (lv_at hl 0 rfl) ?_
  refine lv_iload_n hx hb dL_law_472 rfl (lv_at hl 3 rfl) ?_
  refine lv_iconst (v := nI 3) hx hb dL_law_473 (by decide) ?_
  refine iadd_n (a := i) (b := 3) hx hb dL_law_474 ?_
  refine sld_n (k := i + 3) hx hb hX hbl hbA hS (by omega) (by omega) dL_law_475 ?_
  refine lv_aload_n hx hb dL_law_476 rfl (lv_at hl 0 rfl) ?_
  refine lv_iload_n hx hb dL_law_477 rfl (lv_at hl 3 rfl) ?_
  refine lv_iconst (v := nI 4) hx hb dL_law_478 (by decide) ?_
  refine iadd_n (a := i) (b := 4) hx hb dL_law_479 ?_
  refine sld_n (k := i + 4) hx hb hX hbl hbA hS (by omega) (by omega) dL_law_480 ?_
  refine cal_iT (run_V (As := [.int (xs (i + 1)), .int (xs (i + 2)), .int (xs (i + 3)), .int (xs (i + 4))]) (rest := []) SF (o_choice l D cI cJ cZ cG cM (a 0) (a 9) (a 11) (a 15) (a 19) (a 32) (a 35) (a 20) (a 26) (a 31) (a 12) (a 13) (a 14) (a 1) (a 2) (a 3) (a 4) (a 5) (a 7) (a 8) ff n ns (a 21) (a 22) (a 23) (a 24) (a 25) (a 27) (a 28) (a 29) (a 30) (a 6) nl hg cm fk fs fe fl fb ft cr pr hV h1 h6 hff hfb (xs (i + 1)) (xs (i + 2)) (xs (i + 3)) (xs (i + 4))) (cwV 4 hts gL_law_X7_choice rfl rfl rfl (by decide +kernel) ⟨Nat.le_of_ble_eq_true rfl, Nat.le_of_ble_eq_true rfl⟩) hN hK hP hD [0, 19, 11, 1, 2, 3, 4, 12, 13, 14, 5, 6, 20, 21, 22, 23, 24, 25, 26, 27, 28, 29, 30] rfl (by decide) 7 0 rfl rfl rfl rfl hl.1 rfl (Nat.le_of_ble_eq_true rfl) dL_law_481 ⟨by show k1 + 0 ≤ 600000; omega, by show k2 + 0 ≤ 7302250; omega⟩) hP hD hS hA [0, 19, 11, 1, 2, 3, 4, 12, 13, 14, 5, 6, 20, 21, 22, 23, 24, 25, 26, 27, 28, 29, 30] rfl rfl (fun _ => rfl) (fun r u H locs hw hP hD hS => ?_)
  have hP : va_P D vwCl (WC a cI cJ cG cM n nl ns sc ff fe fl fb fs fw fh fp u.2.2.2.1 ah le lst ln lah lmh fin up lo u.1 u.2.1 u.2.2.1 rs rf nf u.2.2.2.2.1 u.2.2.2.2.2 wf vf imf ++ (WM d cI cZ n nl ns sc ff fe8 fl8 fb8 fs8 fw8 fp8 la ah8 ri lh by8 cm8 fk8 wn8 oc8 kq8 mf zf ++ (tlI cI ia ++ tlI cI ib))) H := hP
  have hD : va_D (fun q : Nat => s.heap.size ≤ q) (WC a cI cJ cG cM n nl ns sc ff fe fl fb fs fw fh fp u.2.2.2.1 ah le lst ln lah lmh fin up lo u.1 u.2.1 u.2.2.1 rs rf nf u.2.2.2.2.1 u.2.2.2.2.2 wf vf imf ++ (WM d cI cZ n nl ns sc ff fe8 fl8 fb8 fs8 fw8 fp8 la ah8 ri lh by8 cm8 fk8 wn8 oc8 kq8 mf zf ++ (tlI cI ia ++ tlI cI ib))) := hD
  have hP := pa_m2 hP
  have hD := da_m2 hD
  refine lv_aload_n hx hb dL_law_484 rfl (lv_at hl 2 rfl) ?_
  refine lv_aload_n hx hb dL_law_485 rfl (lv_at hl 0 rfl) ?_
  refine lv_iload_n hx hb dL_law_486 rfl (lv_at hl 3 rfl) ?_
  refine lv_iconst (v := nI 1) hx hb dL_law_487 (by decide) ?_
  refine iadd_n (a := i) (b := 1) hx hb dL_law_488 ?_
  refine sld_n (k := i + 1) hx hb hX hbl hbA hS (by omega) (by omega) dL_law_489 ?_
  refine lv_aload_n hx hb dL_law_490 rfl (lv_at hl 0 rfl) ?_
  refine lv_iload_n hx hb dL_law_491 rfl (lv_at hl 3 rfl) ?_
  refine lv_iconst (v := nI 2) hx hb dL_law_492 (by decide) ?_
  refine iadd_n (a := i) (b := 2) hx hb dL_law_493 ?_
  refine sld_n (k := i + 2) hx hb hX hbl hbA hS (by omega) (by omega) dL_law_494 ?_
  refine lv_aload_n hx hb dL_law_495 rfl (lv_at hl 0 rfl) ?_
  refine lv_iload_n hx hb dL_law_496 rfl (lv_at hl 3 rfl) ?_
  refine lv_iconst (v := nI 3) hx hb dL_law_497 (by decide) ?_
  refine iadd_n (a := i) (b := 3) hx hb dL_law_498 ?_
  refine sld_n (k := i + 3) hx hb hX hbl hbA hS (by omega) (by omega) dL_law_499 ?_
  refine lv_aload_n hx hb dL_law_500 rfl (lv_at hl 0 rfl) ?_
  refine lv_iload_n hx hb dL_law_501 rfl (lv_at hl 3 rfl) ?_
  refine lv_iconst (v := nI 4) hx hb dL_law_502 (by decide) ?_
  refine iadd_n (a := i) (b := 4) hx hb dL_law_503 ?_
  refine sld_n (k := i + 4) hx hb hX hbl hbA hS (by omega) (by omega) dL_law_504 ?_
  refine cal_iT (run_V (As := [.int (xs (i + 1)), .int (xs (i + 2)), .int (xs (i + 3)), .int (xs (i + 4))]) (rest := [.int r]) SF (m_choice l D cI cJ cZ cG cM (d 0) (d 1) (d 2) (d 3) (d 4) (d 5) (d 6) (d 7) (d 8) (d 9) (d 10) (d 11) (d 12) (d 13) (d 14) 0 (nI ns) (nI sc) la ah8 ri lh n nl ff fe8 by8 cm8 fk8 fs8 fl8 fb8 hV8 h1 h6 hff hfb8 (xs (i + 1)) (xs (i + 2)) (xs (i + 3)) (xs (i + 4))) (cwV 4 hts gL_law_X8_choice rfl rfl rfl (by decide +kernel) ⟨Nat.le_of_ble_eq_true rfl, Nat.le_of_ble_eq_true rfl⟩) hN hK hP hD [0, 1, 7, 8, 9, 4, 2, 3] rfl (by decide) 8 0 rfl rfl rfl rfl hl.1 rfl (Nat.le_of_ble_eq_true rfl) dL_law_505 ⟨by show k1 + 0 ≤ 600000; omega, by show k2 + 0 ≤ 7302250; omega⟩) hP hD hS hA [0, 1, 7, 8, 9, 4, 2, 3] rfl rfl (fun _ => rfl) (fun r8 v H locs hw8 hP hD hS => ?_)
  have hq : r = r8 := sm_choice g e9 hw hw8
  have hP : va_P D vwCl (WM d cI cZ n nl ns sc ff fe8 fl8 fb8 fs8 fw8 fp8 v.1 ah8 ri lh v.2.1 v.2.2.1 v.2.2.2 wn8 oc8 kq8 mf zf ++ (WC a cI cJ cG cM n nl ns sc ff fe fl fb fs fw fh fp u.2.2.2.1 ah le lst ln lah lmh fin up lo u.1 u.2.1 u.2.2.1 rs rf nf u.2.2.2.2.1 u.2.2.2.2.2 wf vf imf ++ (tlI cI ia ++ tlI cI ib))) H := hP
  have hD : va_D (fun q : Nat => s.heap.size ≤ q) (WM d cI cZ n nl ns sc ff fe8 fl8 fb8 fs8 fw8 fp8 v.1 ah8 ri lh v.2.1 v.2.2.1 v.2.2.2 wn8 oc8 kq8 mf zf ++ (WC a cI cJ cG cM n nl ns sc ff fe fl fb fs fw fh fp u.2.2.2.1 ah le lst ln lah lmh fin up lo u.1 u.2.1 u.2.2.1 rs rf nf u.2.2.2.2.1 u.2.2.2.2.2 wf vf imf ++ (tlI cI ia ++ tlI cI ib))) := hD
  have hP := pa_m2 hP
  have hD := da_m2 hD
  refine lv_icmp_eq (tgt := 887) hx hb dL_law_508 (by decide) (fun _ => ?_) (fun c9 => absurd hq c9)
  exact K n nl ns sc ff fe fl fb fs fw fh fp u.2.2.2.1 ah le lst ln lah lmh fin up lo u.1 u.2.1 u.2.2.1 rs rf nf u.2.2.2.2.1 u.2.2.2.2.2 wf vf imf fe8 fl8 fb8 fs8 fw8 fp8 v.1 ah8 ri lh v.2.1 v.2.2.1 v.2.2.2 wn8 oc8 kq8 mf zf ia ib ⟨g, e9, pr9, ir1, ir2⟩ H locs hP hD hS ls hl

set_option maxHeartbeats 1000000 in
set_option maxRecDepth 100000 in
theorem lc_rests {p : Program} {l : Launch} {e : Env} {s : State} {m : MethodId} {below : List Frame} {meth : Method} {c : Code} {b L : Nat} {xs : Nat → Int32} {D : va_G} {cI cJ cZ cG cM : ClassId} {a d : Nat → Nat} {kk i k1 k2 : Nat} (C0 : FX p s m c b L xs D cI cJ cZ cG cM) (hi : i + 6 ≤ L) (hk : k1 ≤ 599000 ∧ k2 ≤ 7300000) (K : HD p l e s m below meth c b D cI cJ cZ cG cM a d kk 887 i k1 k2) : HD p l e s m below meth c b D cI cJ cZ cG cM a d kk 513 i k1 k2 := by
  obtain ⟨hx, hb, SF, hts, hX, hbl, hbA, hL, hN, hK⟩ := C0
  have hA : ∀ q : Nat, s.heap.size ≤ q → (fun q : Nat => s.heap.size ≤ q) q := fun _ h => h
  intro n nl ns sc ff fe fl fb fs fw fh fp hg ah le lst ln lah lmh fin up lo ft cm fk rs rf nf cr pr wf vf imf fe8 fl8 fb8 fs8 fw8 fp8 la ah8 ri lh by8 cm8 fk8 wn8 oc8 kq8 mf zf ia ib hLI H locs hP hD hS ls hl
  obtain ⟨g, e9, pr9, ir1, ir2⟩ := hLI
  have h1 := g.1.1
  have h6 := g.1.2.1
  have hff := g.1.2.2.1
  have hns := g.1.2.2.2
  have hsc := pr9.1
  have hV := g.2.2.2.2.1
  have hV8 := VL_cong hV e9.2.2.2.1
  have hn20 := hV.1
  have hn1 := VL_pos hV
  have hfb : ∀ j, j < n → ∃ b : Nat, b ≤ 23 ∧ fb j = nI b := RNG_n g.2.2.2.1 h6
  have hfl : ∀ j, j < n → ∃ b : Nat, b ≤ 5 ∧ fl j = nI b := RNG_n g.2.2.1 h6
  have hfb8 : ∀ j, j < n → ∃ b : Nat, b ≤ 23 ∧ fb8 j = nI b := RNG_e hfb (fun j hj => e9.2.2.1 j (by omega))
  have hfl8 : ∀ j, j < n → ∃ b : Nat, b ≤ 5 ∧ fl8 j = nI b := RNG_e hfl (fun j hj => e9.2.1 j (by omega))
  have hsw : ∀ j, j < ns → ∃ k : Nat, k ≤ 30 ∧ fw j = nI k := g.2.2.2.2.2
  have hsw8 : ∀ j, j < ns → ∃ k : Nat, k ≤ 30 ∧ fw8 (2 * j) = nI k := RNG_e hsw (fun j hj => (e9.2.2.2.2 j hj).1)
  refine lv_aload_n hx hb dL_law_513 rfl (lv_at hl 1 rfl) ?_
  refine lv_aload_n hx hb dL_law_514 rfl (lv_at hl 0 rfl) ?_
  refine lv_iload_n hx hb dL_law_515 rfl (lv_at hl 3 rfl) ?_
  refine lv_iconst (v := nI 1) hx hb dL_law_516 (by decide) ?_
  refine iadd_n (a := i) (b := 1) hx hb dL_law_517 ?_
  refine sld_n (k := i + 1) hx hb hX hbl hbA hS (by omega) (by omega) dL_law_518 ?_
  refine lv_aload_n hx hb dL_law_519 rfl (lv_at hl 0 rfl) ?_
  refine lv_iload_n hx hb dL_law_520 rfl (lv_at hl 3 rfl) ?_
  refine lv_iconst (v := nI 2) hx hb dL_law_521 (by decide) ?_
  refine iadd_n (a := i) (b := 2) hx hb dL_law_522 ?_
  refine sld_n (k := i + 2) hx hb hX hbl hbA hS (by omega) (by omega) dL_law_523 ?_
  refine cal_iT (run_V (As := [.int (xs (i + 1)), .int (xs (i + 2))]) (rest := []) SF (o_rests l D cI cJ cZ cG cM (a 0) (a 9) (a 11) (a 15) (a 19) (a 32) (a 35) (a 20) (a 26) (a 31) (a 12) (a 13) (a 14) (a 1) (a 2) (a 3) (a 4) (a 5) (a 7) (a 8) ff n ns (a 6) nl hg cm fk fs fe fb ft nf hV h1 h6 hff hfb (xs (i + 1)) (xs (i + 2))) (cwV 2 hts gL_law_X7_rests rfl rfl rfl (by decide +kernel) ⟨Nat.le_of_ble_eq_true rfl, Nat.le_of_ble_eq_true rfl⟩) hN hK hP hD [0, 19, 11, 1, 2, 12, 13, 14, 5, 6, 31, 4] rfl (by decide) 7 0 rfl rfl rfl rfl hl.1 rfl (Nat.le_of_ble_eq_true rfl) dL_law_524 ⟨by show k1 + 0 ≤ 600000; omega, by show k2 + 0 ≤ 7302250; omega⟩) hP hD hS hA [0, 19, 11, 1, 2, 12, 13, 14, 5, 6, 31, 4] rfl rfl (fun _ => rfl) (fun r u H locs hw hP hD hS => ?_)
  have hP : va_P D vwCl (WC a cI cJ cG cM n nl ns sc ff fe fl fb fs fw fh fp u.2.2.2.1 ah le lst ln lah lmh fin up lo u.1 u.2.1 u.2.2.1 rs rf u.2.2.2.2 cr pr wf vf imf ++ (WM d cI cZ n nl ns sc ff fe8 fl8 fb8 fs8 fw8 fp8 la ah8 ri lh by8 cm8 fk8 wn8 oc8 kq8 mf zf ++ (tlI cI ia ++ tlI cI ib))) H := hP
  have hD : va_D (fun q : Nat => s.heap.size ≤ q) (WC a cI cJ cG cM n nl ns sc ff fe fl fb fs fw fh fp u.2.2.2.1 ah le lst ln lah lmh fin up lo u.1 u.2.1 u.2.2.1 rs rf u.2.2.2.2 cr pr wf vf imf ++ (WM d cI cZ n nl ns sc ff fe8 fl8 fb8 fs8 fw8 fp8 la ah8 ri lh by8 cm8 fk8 wn8 oc8 kq8 mf zf ++ (tlI cI ia ++ tlI cI ib))) := hD
  have hP := pa_m2 hP
  have hD := da_m2 hD
  refine lv_aload_n hx hb dL_law_527 rfl (lv_at hl 2 rfl) ?_
  refine lv_aload_n hx hb dL_law_528 rfl (lv_at hl 0 rfl) ?_
  refine lv_iload_n hx hb dL_law_529 rfl (lv_at hl 3 rfl) ?_
  refine lv_iconst (v := nI 1) hx hb dL_law_530 (by decide) ?_
  refine iadd_n (a := i) (b := 1) hx hb dL_law_531 ?_
  refine sld_n (k := i + 1) hx hb hX hbl hbA hS (by omega) (by omega) dL_law_532 ?_
  refine lv_aload_n hx hb dL_law_533 rfl (lv_at hl 0 rfl) ?_
  refine lv_iload_n hx hb dL_law_534 rfl (lv_at hl 3 rfl) ?_
  refine lv_iconst (v := nI 2) hx hb dL_law_535 (by decide) ?_
  refine iadd_n (a := i) (b := 2) hx hb dL_law_536 ?_
  refine sld_n (k := i + 2) hx hb hX hbl hbA hS (by omega) (by omega) dL_law_537 ?_
  refine cal_iT (run_V (As := [.int (xs (i + 1)), .int (xs (i + 2))]) (rest := [.int r]) SF (m_rests l D cI cJ cZ cG cM (d 0) (d 1) (d 2) (d 3) (d 4) (d 5) (d 6) (d 7) (d 8) (d 9) (d 10) (d 11) (d 12) (d 13) (d 14) 0 (nI ns) (nI sc) la ah8 ri lh n nl ff fe8 by8 cm8 fk8 fs8 fl8 fb8 oc8 hV8 h1 h6 hff hfb8 (xs (i + 1)) (xs (i + 2))) (cwV 2 hts gL_law_X8_rests rfl rfl rfl (by decide +kernel) ⟨Nat.le_of_ble_eq_true rfl, Nat.le_of_ble_eq_true rfl⟩) hN hK hP hD [0, 1, 7, 8, 9, 4, 2, 3, 11] rfl (by decide) 8 0 rfl rfl rfl rfl hl.1 rfl (Nat.le_of_ble_eq_true rfl) dL_law_538 ⟨by show k1 + 0 ≤ 600000; omega, by show k2 + 0 ≤ 7302250; omega⟩) hP hD hS hA [0, 1, 7, 8, 9, 4, 2, 3, 11] rfl rfl (fun _ => rfl) (fun r8 v H locs hw8 hP hD hS => ?_)
  have hq : r = r8 := sm_rests g e9 hw hw8
  have hP : va_P D vwCl (WM d cI cZ n nl ns sc ff fe8 fl8 fb8 fs8 fw8 fp8 v.1 ah8 ri lh v.2.1 v.2.2.1 v.2.2.2.1 wn8 v.2.2.2.2 kq8 mf zf ++ (WC a cI cJ cG cM n nl ns sc ff fe fl fb fs fw fh fp u.2.2.2.1 ah le lst ln lah lmh fin up lo u.1 u.2.1 u.2.2.1 rs rf u.2.2.2.2 cr pr wf vf imf ++ (tlI cI ia ++ tlI cI ib))) H := hP
  have hD : va_D (fun q : Nat => s.heap.size ≤ q) (WM d cI cZ n nl ns sc ff fe8 fl8 fb8 fs8 fw8 fp8 v.1 ah8 ri lh v.2.1 v.2.2.1 v.2.2.2.1 wn8 v.2.2.2.2 kq8 mf zf ++ (WC a cI cJ cG cM n nl ns sc ff fe fl fb fs fw fh fp u.2.2.2.1 ah le lst ln lah lmh fin up lo u.1 u.2.1 u.2.2.1 rs rf u.2.2.2.2 cr pr wf vf imf ++ (tlI cI ia ++ tlI cI ib))) := hD
  have hP := pa_m2 hP
  have hD := da_m2 hD
  refine lv_icmp_eq (tgt := 887) hx hb dL_law_541 (by decide) (fun _ => ?_) (fun c9 => absurd hq c9)
  exact K n nl ns sc ff fe fl fb fs fw fh fp u.2.2.2.1 ah le lst ln lah lmh fin up lo u.1 u.2.1 u.2.2.1 rs rf u.2.2.2.2 cr pr wf vf imf fe8 fl8 fb8 fs8 fw8 fp8 v.1 ah8 ri lh v.2.1 v.2.2.1 v.2.2.2.1 wn8 v.2.2.2.2 kq8 mf zf ia ib ⟨g, e9, pr9, ir1, ir2⟩ H locs hP hD hS ls hl

set_option maxHeartbeats 1000000 in
set_option maxRecDepth 100000 in
theorem lc_laws {p : Program} {l : Launch} {e : Env} {s : State} {m : MethodId} {below : List Frame} {meth : Method} {c : Code} {b L : Nat} {xs : Nat → Int32} {D : va_G} {cI cJ cZ cG cM : ClassId} {a d : Nat → Nat} {kk i k1 k2 : Nat} (C0 : FX p s m c b L xs D cI cJ cZ cG cM) (hi : i + 6 ≤ L) (hk : k1 ≤ 599000 ∧ k2 ≤ 7300000) (K : HD p l e s m below meth c b D cI cJ cZ cG cM a d kk 887 i k1 k2) : HD p l e s m below meth c b D cI cJ cZ cG cM a d kk 546 i k1 k2 := by
  obtain ⟨hx, hb, SF, hts, hX, hbl, hbA, hL, hN, hK⟩ := C0
  have hA : ∀ q : Nat, s.heap.size ≤ q → (fun q : Nat => s.heap.size ≤ q) q := fun _ h => h
  intro n nl ns sc ff fe fl fb fs fw fh fp hg ah le lst ln lah lmh fin up lo ft cm fk rs rf nf cr pr wf vf imf fe8 fl8 fb8 fs8 fw8 fp8 la ah8 ri lh by8 cm8 fk8 wn8 oc8 kq8 mf zf ia ib hLI H locs hP hD hS ls hl
  obtain ⟨g, e9, pr9, ir1, ir2⟩ := hLI
  have h1 := g.1.1
  have h6 := g.1.2.1
  have hff := g.1.2.2.1
  have hns := g.1.2.2.2
  have hsc := pr9.1
  have hV := g.2.2.2.2.1
  have hV8 := VL_cong hV e9.2.2.2.1
  have hn20 := hV.1
  have hn1 := VL_pos hV
  have hfb : ∀ j, j < n → ∃ b : Nat, b ≤ 23 ∧ fb j = nI b := RNG_n g.2.2.2.1 h6
  have hfl : ∀ j, j < n → ∃ b : Nat, b ≤ 5 ∧ fl j = nI b := RNG_n g.2.2.1 h6
  have hfb8 : ∀ j, j < n → ∃ b : Nat, b ≤ 23 ∧ fb8 j = nI b := RNG_e hfb (fun j hj => e9.2.2.1 j (by omega))
  have hfl8 : ∀ j, j < n → ∃ b : Nat, b ≤ 5 ∧ fl8 j = nI b := RNG_e hfl (fun j hj => e9.2.1 j (by omega))
  have hsw : ∀ j, j < ns → ∃ k : Nat, k ≤ 30 ∧ fw j = nI k := g.2.2.2.2.2
  have hsw8 : ∀ j, j < ns → ∃ k : Nat, k ≤ 30 ∧ fw8 (2 * j) = nI k := RNG_e hsw (fun j hj => (e9.2.2.2.2 j hj).1)
  refine lv_aload_n hx hb dL_law_546 rfl (lv_at hl 1 rfl) ?_
  refine lv_aload_n hx hb dL_law_547 rfl (lv_at hl 0 rfl) ?_
  refine lv_iload_n hx hb dL_law_548 rfl (lv_at hl 3 rfl) ?_
  refine lv_iconst (v := nI 1) hx hb dL_law_549 (by decide) ?_
  refine iadd_n (a := i) (b := 1) hx hb dL_law_550 ?_
  refine sld_n (k := i + 1) hx hb hX hbl hbA hS (by omega) (by omega) dL_law_551 ?_
  refine lv_aload_n hx hb dL_law_552 rfl (lv_at hl 0 rfl) ?_
  refine lv_iload_n hx hb dL_law_553 rfl (lv_at hl 3 rfl) ?_
  refine lv_iconst (v := nI 2) hx hb dL_law_554 (by decide) ?_
  refine iadd_n (a := i) (b := 2) hx hb dL_law_555 ?_
  refine sld_n (k := i + 2) hx hb hX hbl hbA hS (by omega) (by omega) dL_law_556 ?_
  refine cal_iT (run_V (As := [.int (xs (i + 1)), .int (xs (i + 2))]) (rest := []) SF (o_laws l D cI cJ cZ cG cM (a 0) (a 9) (a 11) (a 15) (a 19) (a 32) (a 35) (a 16) (a 17) (a 18) ah le lst ln (a 12) (a 13) (a 14) (a 1) (a 2) (a 3) (a 4) (a 5) (a 7) (a 8) (nI ff) n ns hg rf cm fk rs fe fl fb h1 h6 (xs (i + 1)) (xs (i + 2))) (cwV 2 hts gL_law_X7_laws rfl rfl rfl (by decide +kernel) ⟨Nat.le_of_ble_eq_true rfl, Nat.le_of_ble_eq_true rfl⟩) hN hK hP hD [0, 15, 18, 11, 1, 2, 3, 13, 14, 16, 17, 4] rfl (by decide) 7 0 rfl rfl rfl rfl hl.1 rfl (Nat.le_of_ble_eq_true rfl) dL_law_557 ⟨by show k1 + 0 ≤ 600000; omega, by show k2 + 0 ≤ 7302250; omega⟩) hP hD hS hA [0, 15, 18, 11, 1, 2, 3, 13, 14, 16, 17, 4] rfl rfl (fun _ => rfl) (fun r u H locs hw hP hD hS => ?_)
  have hP : va_P D vwCl (WC a cI cJ cG cM n nl ns sc ff fe fl fb fs fw fh fp u.2.2.2.1 u.2.2.2.2.1 u.2.2.2.2.2.1 u.2.2.2.2.2.2.1 u.2.2.2.2.2.2.2.1 lah lmh fin up lo ft u.2.1 u.2.2.1 u.2.2.2.2.2.2.2.2 u.1 nf cr pr wf vf imf ++ (WM d cI cZ n nl ns sc ff fe8 fl8 fb8 fs8 fw8 fp8 la ah8 ri lh by8 cm8 fk8 wn8 oc8 kq8 mf zf ++ (tlI cI ia ++ tlI cI ib))) H := hP
  have hD : va_D (fun q : Nat => s.heap.size ≤ q) (WC a cI cJ cG cM n nl ns sc ff fe fl fb fs fw fh fp u.2.2.2.1 u.2.2.2.2.1 u.2.2.2.2.2.1 u.2.2.2.2.2.2.1 u.2.2.2.2.2.2.2.1 lah lmh fin up lo ft u.2.1 u.2.2.1 u.2.2.2.2.2.2.2.2 u.1 nf cr pr wf vf imf ++ (WM d cI cZ n nl ns sc ff fe8 fl8 fb8 fs8 fw8 fp8 la ah8 ri lh by8 cm8 fk8 wn8 oc8 kq8 mf zf ++ (tlI cI ia ++ tlI cI ib))) := hD
  have hP := pa_m2 hP
  have hD := da_m2 hD
  refine lv_aload_n hx hb dL_law_560 rfl (lv_at hl 2 rfl) ?_
  refine lv_aload_n hx hb dL_law_561 rfl (lv_at hl 0 rfl) ?_
  refine lv_iload_n hx hb dL_law_562 rfl (lv_at hl 3 rfl) ?_
  refine lv_iconst (v := nI 1) hx hb dL_law_563 (by decide) ?_
  refine iadd_n (a := i) (b := 1) hx hb dL_law_564 ?_
  refine sld_n (k := i + 1) hx hb hX hbl hbA hS (by omega) (by omega) dL_law_565 ?_
  refine lv_aload_n hx hb dL_law_566 rfl (lv_at hl 0 rfl) ?_
  refine lv_iload_n hx hb dL_law_567 rfl (lv_at hl 3 rfl) ?_
  refine lv_iconst (v := nI 2) hx hb dL_law_568 (by decide) ?_
  refine iadd_n (a := i) (b := 2) hx hb dL_law_569 ?_
  refine sld_n (k := i + 2) hx hb hX hbl hbA hS (by omega) (by omega) dL_law_570 ?_
  refine cal_iT (run_V (As := [.int (xs (i + 1)), .int (xs (i + 2))]) (rest := [.int r]) SF (m_laws l D cI cJ cZ cG cM (d 0) (d 1) (d 2) (d 3) (d 4) (d 5) (d 6) (d 7) (d 8) (d 9) (d 10) (d 11) (d 12) (d 13) (d 14) (nI ff) (nI ns) (nI sc) la ah8 ri lh n nl fe8 by8 cm8 fk8 fs8 wn8 fl8 fb8 kq8 hn20 h1 h6 (xs (i + 1)) (xs (i + 2))) (cwV 2 hts gL_law_X8_laws rfl rfl rfl (by decide +kernel) ⟨Nat.le_of_ble_eq_true rfl, Nat.le_of_ble_eq_true rfl⟩) hN hK hP hD [0, 1, 7, 8, 9, 4, 10, 2, 3, 12] rfl (by decide) 8 0 rfl rfl rfl rfl hl.1 rfl (Nat.le_of_ble_eq_true rfl) dL_law_571 ⟨by show k1 + 0 ≤ 600000; omega, by show k2 + 0 ≤ 7302250; omega⟩) hP hD hS hA [0, 1, 7, 8, 9, 4, 10, 2, 3, 12] rfl rfl (fun _ => rfl) (fun r8 v H locs hw8 hP hD hS => ?_)
  have hq : r = r8 := sm_laws g e9 hw hw8.1
  have hP : va_P D vwCl (WM d cI cZ n nl ns sc ff fe8 fl8 fb8 v.2.2.2.2.2.2.2.2.2 fw8 fp8 v.1 v.2.2.2.2.2.1 v.2.2.2.2.2.2.1 v.2.2.2.2.2.2.2.1 v.2.1 v.2.2.1 v.2.2.2.1 v.2.2.2.2.1 oc8 v.2.2.2.2.2.2.2.2.1 mf zf ++ (WC a cI cJ cG cM n nl ns sc ff fe fl fb fs fw fh fp u.2.2.2.1 u.2.2.2.2.1 u.2.2.2.2.2.1 u.2.2.2.2.2.2.1 u.2.2.2.2.2.2.2.1 lah lmh fin up lo ft u.2.1 u.2.2.1 u.2.2.2.2.2.2.2.2 u.1 nf cr pr wf vf imf ++ (tlI cI ia ++ tlI cI ib))) H := hP
  have hD : va_D (fun q : Nat => s.heap.size ≤ q) (WM d cI cZ n nl ns sc ff fe8 fl8 fb8 v.2.2.2.2.2.2.2.2.2 fw8 fp8 v.1 v.2.2.2.2.2.1 v.2.2.2.2.2.2.1 v.2.2.2.2.2.2.2.1 v.2.1 v.2.2.1 v.2.2.2.1 v.2.2.2.2.1 oc8 v.2.2.2.2.2.2.2.2.1 mf zf ++ (WC a cI cJ cG cM n nl ns sc ff fe fl fb fs fw fh fp u.2.2.2.1 u.2.2.2.2.1 u.2.2.2.2.2.1 u.2.2.2.2.2.2.1 u.2.2.2.2.2.2.2.1 lah lmh fin up lo ft u.2.1 u.2.2.1 u.2.2.2.2.2.2.2.2 u.1 nf cr pr wf vf imf ++ (tlI cI ia ++ tlI cI ib))) := hD
  have hP := pa_m2 hP
  have hD := da_m2 hD
  refine lv_icmp_eq (tgt := 887) hx hb dL_law_574 (by decide) (fun _ => ?_) (fun c9 => absurd hq c9)
  exact K n nl ns sc ff fe fl fb fs fw fh fp u.2.2.2.1 u.2.2.2.2.1 u.2.2.2.2.2.1 u.2.2.2.2.2.2.1 u.2.2.2.2.2.2.2.1 lah lmh fin up lo ft u.2.1 u.2.2.1 u.2.2.2.2.2.2.2.2 u.1 nf cr pr wf vf imf fe8 fl8 fb8 v.2.2.2.2.2.2.2.2.2 fw8 fp8 v.1 v.2.2.2.2.2.1 v.2.2.2.2.2.2.1 v.2.2.2.2.2.2.2.1 v.2.1 v.2.2.1 v.2.2.2.1 v.2.2.2.2.1 oc8 v.2.2.2.2.2.2.2.2.1 mf zf ia ib ⟨g, kp_laws g e9 hw8.2, pr9, ir1, ir2⟩ H locs hP hD hS ls hl

set_option maxHeartbeats 1000000 in
set_option maxRecDepth 100000 in
theorem lc_move {p : Program} {l : Launch} {e : Env} {s : State} {m : MethodId} {below : List Frame} {meth : Method} {c : Code} {b L : Nat} {xs : Nat → Int32} {D : va_G} {cI cJ cZ cG cM : ClassId} {a d : Nat → Nat} {kk i k1 k2 : Nat} (C0 : FX p s m c b L xs D cI cJ cZ cG cM) (hi : i + 6 ≤ L) (hk : k1 ≤ 599000 ∧ k2 ≤ 7300000) (K : HD p l e s m below meth c b D cI cJ cZ cG cM a d kk 887 i k1 k2) : HD p l e s m below meth c b D cI cJ cZ cG cM a d kk 579 i k1 k2 := by
  obtain ⟨hx, hb, SF, hts, hX, hbl, hbA, hL, hN, hK⟩ := C0
  have hA : ∀ q : Nat, s.heap.size ≤ q → (fun q : Nat => s.heap.size ≤ q) q := fun _ h => h
  intro n nl ns sc ff fe fl fb fs fw fh fp hg ah le lst ln lah lmh fin up lo ft cm fk rs rf nf cr pr wf vf imf fe8 fl8 fb8 fs8 fw8 fp8 la ah8 ri lh by8 cm8 fk8 wn8 oc8 kq8 mf zf ia ib hLI H locs hP hD hS ls hl
  obtain ⟨g, e9, pr9, ir1, ir2⟩ := hLI
  have h1 := g.1.1
  have h6 := g.1.2.1
  have hff := g.1.2.2.1
  have hns := g.1.2.2.2
  have hsc := pr9.1
  have hV := g.2.2.2.2.1
  have hV8 := VL_cong hV e9.2.2.2.1
  have hn20 := hV.1
  have hn1 := VL_pos hV
  have hfb : ∀ j, j < n → ∃ b : Nat, b ≤ 23 ∧ fb j = nI b := RNG_n g.2.2.2.1 h6
  have hfl : ∀ j, j < n → ∃ b : Nat, b ≤ 5 ∧ fl j = nI b := RNG_n g.2.2.1 h6
  have hfb8 : ∀ j, j < n → ∃ b : Nat, b ≤ 23 ∧ fb8 j = nI b := RNG_e hfb (fun j hj => e9.2.2.1 j (by omega))
  have hfl8 : ∀ j, j < n → ∃ b : Nat, b ≤ 5 ∧ fl8 j = nI b := RNG_e hfl (fun j hj => e9.2.1 j (by omega))
  have hsw : ∀ j, j < ns → ∃ k : Nat, k ≤ 30 ∧ fw j = nI k := g.2.2.2.2.2
  have hsw8 : ∀ j, j < ns → ∃ k : Nat, k ≤ 30 ∧ fw8 (2 * j) = nI k := RNG_e hsw (fun j hj => (e9.2.2.2.2 j hj).1)
  refine lv_aload_n hx hb dL_law_579 rfl (lv_at hl 1 rfl) ?_
  refine lv_aload_n hx hb dL_law_580 rfl (lv_at hl 0 rfl) ?_
  refine lv_iload_n hx hb dL_law_581 rfl (lv_at hl 3 rfl) ?_
  refine lv_iconst (v := nI 1) hx hb dL_law_582 (by decide) ?_
  refine iadd_n (a := i) (b := 1) hx hb dL_law_583 ?_
  refine sld_n (k := i + 1) hx hb hX hbl hbA hS (by omega) (by omega) dL_law_584 ?_
  refine lv_aload_n hx hb dL_law_585 rfl (lv_at hl 0 rfl) ?_
  refine lv_iload_n hx hb dL_law_586 rfl (lv_at hl 3 rfl) ?_
  refine lv_iconst (v := nI 2) hx hb dL_law_587 (by decide) ?_
  refine iadd_n (a := i) (b := 2) hx hb dL_law_588 ?_
  refine sld_n (k := i + 2) hx hb hX hbl hbA hS (by omega) (by omega) dL_law_589 ?_
  refine lv_aload_n hx hb dL_law_590 rfl (lv_at hl 0 rfl) ?_
  refine lv_iload_n hx hb dL_law_591 rfl (lv_at hl 3 rfl) ?_
  refine lv_iconst (v := nI 3) hx hb dL_law_592 (by decide) ?_
  refine iadd_n (a := i) (b := 3) hx hb dL_law_593 ?_
  refine sld_n (k := i + 3) hx hb hX hbl hbA hS (by omega) (by omega) dL_law_594 ?_
  refine cal_iT (run_V (As := [.int (xs (i + 1)), .int (xs (i + 2)), .int (xs (i + 3))]) (rest := []) SF (o_move l D cI cJ cZ cG cM (a 0) (a 9) (a 11) (a 15) (a 19) (a 32) (a 35) (a 20) (a 26) (a 31) (a 12) (a 13) (a 14) (a 1) (a 2) (a 3) (a 4) (a 5) (a 7) (a 8) ff n ns (a 6) nl hg cm fk fs fe fl ft hV h1 h6 hfl (xs (i + 1)) (xs (i + 2)) (xs (i + 3))) (cwV 3 hts gL_law_X7_move rfl rfl rfl (by decide +kernel) ⟨Nat.le_of_ble_eq_true rfl, Nat.le_of_ble_eq_true rfl⟩) hN hK hP hD [0, 19, 11, 1, 2, 3, 12, 13, 14, 5, 6] rfl (by decide) 7 0 rfl rfl rfl rfl hl.1 rfl (Nat.le_of_ble_eq_true rfl) dL_law_595 ⟨by show k1 + 0 ≤ 600000; omega, by show k2 + 0 ≤ 7302250; omega⟩) hP hD hS hA [0, 19, 11, 1, 2, 3, 12, 13, 14, 5, 6] rfl rfl (fun _ => rfl) (fun r u H locs hw hP hD hS => ?_)
  have hP : va_P D vwCl (WC a cI cJ cG cM n nl ns sc ff fe fl fb fs fw fh fp u.2.2.2 ah le lst ln lah lmh fin up lo u.1 u.2.1 u.2.2.1 rs rf nf cr pr wf vf imf ++ (WM d cI cZ n nl ns sc ff fe8 fl8 fb8 fs8 fw8 fp8 la ah8 ri lh by8 cm8 fk8 wn8 oc8 kq8 mf zf ++ (tlI cI ia ++ tlI cI ib))) H := hP
  have hD : va_D (fun q : Nat => s.heap.size ≤ q) (WC a cI cJ cG cM n nl ns sc ff fe fl fb fs fw fh fp u.2.2.2 ah le lst ln lah lmh fin up lo u.1 u.2.1 u.2.2.1 rs rf nf cr pr wf vf imf ++ (WM d cI cZ n nl ns sc ff fe8 fl8 fb8 fs8 fw8 fp8 la ah8 ri lh by8 cm8 fk8 wn8 oc8 kq8 mf zf ++ (tlI cI ia ++ tlI cI ib))) := hD
  have hP := pa_m2 hP
  have hD := da_m2 hD
  refine lv_aload_n hx hb dL_law_598 rfl (lv_at hl 2 rfl) ?_
  refine lv_aload_n hx hb dL_law_599 rfl (lv_at hl 0 rfl) ?_
  refine lv_iload_n hx hb dL_law_600 rfl (lv_at hl 3 rfl) ?_
  refine lv_iconst (v := nI 1) hx hb dL_law_601 (by decide) ?_
  refine iadd_n (a := i) (b := 1) hx hb dL_law_602 ?_
  refine sld_n (k := i + 1) hx hb hX hbl hbA hS (by omega) (by omega) dL_law_603 ?_
  refine lv_aload_n hx hb dL_law_604 rfl (lv_at hl 0 rfl) ?_
  refine lv_iload_n hx hb dL_law_605 rfl (lv_at hl 3 rfl) ?_
  refine lv_iconst (v := nI 2) hx hb dL_law_606 (by decide) ?_
  refine iadd_n (a := i) (b := 2) hx hb dL_law_607 ?_
  refine sld_n (k := i + 2) hx hb hX hbl hbA hS (by omega) (by omega) dL_law_608 ?_
  refine lv_aload_n hx hb dL_law_609 rfl (lv_at hl 0 rfl) ?_
  refine lv_iload_n hx hb dL_law_610 rfl (lv_at hl 3 rfl) ?_
  refine lv_iconst (v := nI 3) hx hb dL_law_611 (by decide) ?_
  refine iadd_n (a := i) (b := 3) hx hb dL_law_612 ?_
  refine sld_n (k := i + 3) hx hb hX hbl hbA hS (by omega) (by omega) dL_law_613 ?_
  refine cal_iT (run_V (As := [.int (xs (i + 1)), .int (xs (i + 2)), .int (xs (i + 3))]) (rest := [.int r]) SF (m_move l D cI cJ cZ cG cM (d 0) (d 1) (d 2) (d 3) (d 4) (d 5) (d 6) (d 7) (d 8) (d 9) (d 10) (d 11) (d 12) (d 13) (d 14) (nI ff) (nI ns) (nI sc) la ah8 ri lh n nl fe8 by8 cm8 fk8 fs8 fl8 hV8 h1 h6 hfl8 (xs (i + 1)) (xs (i + 2)) (xs (i + 3))) (cwV 3 hts gL_law_X8_move rfl rfl rfl (by decide +kernel) ⟨Nat.le_of_ble_eq_true rfl, Nat.le_of_ble_eq_true rfl⟩) hN hK hP hD [0, 1, 7, 8, 9, 4, 2] rfl (by decide) 8 0 rfl rfl rfl rfl hl.1 rfl (Nat.le_of_ble_eq_true rfl) dL_law_614 ⟨by show k1 + 0 ≤ 600000; omega, by show k2 + 0 ≤ 7302250; omega⟩) hP hD hS hA [0, 1, 7, 8, 9, 4, 2] rfl rfl (fun _ => rfl) (fun r8 v H locs hw8 hP hD hS => ?_)
  have hq : r = r8 := sm_move g e9 hw hw8
  have hP : va_P D vwCl (WM d cI cZ n nl ns sc ff fe8 fl8 fb8 fs8 fw8 fp8 v.1 ah8 ri lh v.2.1 v.2.2.1 v.2.2.2 wn8 oc8 kq8 mf zf ++ (WC a cI cJ cG cM n nl ns sc ff fe fl fb fs fw fh fp u.2.2.2 ah le lst ln lah lmh fin up lo u.1 u.2.1 u.2.2.1 rs rf nf cr pr wf vf imf ++ (tlI cI ia ++ tlI cI ib))) H := hP
  have hD : va_D (fun q : Nat => s.heap.size ≤ q) (WM d cI cZ n nl ns sc ff fe8 fl8 fb8 fs8 fw8 fp8 v.1 ah8 ri lh v.2.1 v.2.2.1 v.2.2.2 wn8 oc8 kq8 mf zf ++ (WC a cI cJ cG cM n nl ns sc ff fe fl fb fs fw fh fp u.2.2.2 ah le lst ln lah lmh fin up lo u.1 u.2.1 u.2.2.1 rs rf nf cr pr wf vf imf ++ (tlI cI ia ++ tlI cI ib))) := hD
  have hP := pa_m2 hP
  have hD := da_m2 hD
  refine lv_icmp_eq (tgt := 887) hx hb dL_law_617 (by decide) (fun _ => ?_) (fun c9 => absurd hq c9)
  exact K n nl ns sc ff fe fl fb fs fw fh fp u.2.2.2 ah le lst ln lah lmh fin up lo u.1 u.2.1 u.2.2.1 rs rf nf cr pr wf vf imf fe8 fl8 fb8 fs8 fw8 fp8 v.1 ah8 ri lh v.2.1 v.2.2.1 v.2.2.2 wn8 oc8 kq8 mf zf ia ib ⟨g, e9, pr9, ir1, ir2⟩ H locs hP hD hS ls hl

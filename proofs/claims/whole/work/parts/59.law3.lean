/-! THE LAW, call by call -/
set_option maxHeartbeats 1000000 in
set_option maxRecDepth 100000 in
theorem lc_tends {p : Program} {l : Launch} {e : Env} {s : State} {m : MethodId} {below : List Frame} {meth : Method} {c : Code} {b L : Nat} {xs : Nat → Int32} {D : va_G} {cI cJ cZ cG cM : ClassId} {a d : Nat → Nat} {kk i k1 k2 : Nat} (C0 : FX p s m c b L xs D cI cJ cZ cG cM) (hi : i + 6 ≤ L) (hk : k1 ≤ 599000 ∧ k2 ≤ 7300000) (K : HD p l e s m below meth c b D cI cJ cZ cG cM a d kk 887 i k1 k2) : HD p l e s m below meth c b D cI cJ cZ cG cM a d kk 371 i k1 k2 := by
  obtain ⟨hx, hb, SF, hts, hX, hbl, hbA, hL, hN, hK⟩ := C0
  have hA : ∀ q : Nat, s.heap.size ≤ q → (fun q : Nat => s.heap.size ≤ q) q := fun _ h => h
  intro n nl ns sc ff fe fl fb fs fw fh fp hg ah le lst ln lah lmh fin up lo ft cm fk rs rf nf cr pr wf vf imf fe8 fl8 fb8 fs8 fw8 fp8 la ah8 ri lh by8 cm8 fk8 wn8 oc8 kq8 mf zf ia ib hLI H locs hP hD hS ls hl
  obtain ⟨g, e9, pr9, ir1, ir2⟩ := hLI
  have h1 := g.1.1
  have h6 := g.1.2.1
  have hff := g.1.2.2.1
  have hns := g.1.2.2.2
  have hsc := pr9.1
  have hV := g.2.2.2.2.1
  have hV8 := VL_cong hV e9.2.2.2.1
  have hn20 := hV.1
  have hn1 := VL_pos hV
  have hfb : ∀ j, j < n → ∃ b : Nat, b ≤ 23 ∧ fb j = nI b := RNG_n g.2.2.2.1 h6
  have hfl : ∀ j, j < n → ∃ b : Nat, b ≤ 5 ∧ fl j = nI b := RNG_n g.2.2.1 h6
  have hfb8 : ∀ j, j < n → ∃ b : Nat, b ≤ 23 ∧ fb8 j = nI b := RNG_e hfb (fun j hj => e9.2.2.1 j (by omega))
  have hfl8 : ∀ j, j < n → ∃ b : Nat, b ≤ 5 ∧ fl8 j = nI b := RNG_e hfl (fun j hj => e9.2.1 j (by omega))
  have hsw : ∀ j, j < ns → ∃ k : Nat, k ≤ 30 ∧ fw j = nI k := g.2.2.2.2.2
  have hsw8 : ∀ j, j < ns → ∃ k : Nat, k ≤ 30 ∧ fw8 (2 * j) = nI k := RNG_e hsw (fun j hj => (e9.2.2.2.2 j hj).1)
  refine lv_aload_n hx hb dL_law_371 rfl (lv_at hl 1 rfl) ?_
  refine lv_aload_n hx hb dL_law_372 rfl (lv_at hl 0 rfl) ?_
  refine lv_iload_n hx hb dL_law_373 rfl (lv_at hl 3 rfl) ?_
  refine lv_iconst (v := nI 1) hx hb dL_law_374 (by decide) ?_
  refine iadd_n (a := i) (b := 1) hx hb dL_law_375 ?_
  refine sld_n (k := i + 1) hx hb hX hbl hbA hS (by omega) (by omega) dL_law_376 ?_
  refine lv_aload_n hx hb dL_law_377 rfl (lv_at hl 0 rfl) ?_
  refine lv_iload_n hx hb dL_law_378 rfl (lv_at hl 3 rfl) ?_
  refine lv_iconst (v := nI 2) hx hb dL_law_379 (by decide) ?_
  refine iadd_n (a := i) (b := 2) hx hb dL_law_380 ?_
  refine sld_n (k := i + 2) hx hb hX hbl hbA hS (by omega) (by omega) dL_law_381 ?_
  refine cal_iT (run_V (As := [.int (xs (i + 1)), .int (xs (i + 2))]) (rest := []) SF (o_tends l D cI cJ cZ cG cM (a 0) (a 9) (a 11) (a 15) (a 19) (a 32) (a 35) (a 16) (a 18) ah le lst (a 12) (a 13) (a 14) hg (a 1) (a 2) (a 3) (a 4) (a 5) (a 7) (a 8) (nI ff) n ns (a 6) nl rf cm fk fs fe fl hV h1 h6 (xs (i + 1)) (xs (i + 2))) (cwV 2 hts gL_law_X7_tends rfl rfl rfl (by decide +kernel) ⟨Nat.le_of_ble_eq_true rfl, Nat.le_of_ble_eq_true rfl⟩) hN hK hP hD [0, 15, 18, 11, 1, 2, 3, 13, 14, 5, 6] rfl (by decide) 7 0 rfl rfl rfl rfl hl.1 rfl (Nat.le_of_ble_eq_true rfl) dL_law_382 ⟨by show k1 + 0 ≤ 600000; omega, by show k2 + 0 ≤ 7302250; omega⟩) hP hD hS hA [0, 15, 18, 11, 1, 2, 3, 13, 14, 5, 6] rfl rfl (fun _ => rfl) (fun r u H locs hw hP hD hS => ?_)
  have hP : va_P D vwCl (WC a cI cJ cG cM n nl ns sc ff fe fl fb fs fw fh fp u.2.2.2.1 u.2.2.2.2.1 u.2.2.2.2.2.1 u.2.2.2.2.2.2 ln lah lmh fin up lo ft u.2.1 u.2.2.1 rs u.1 nf cr pr wf vf imf ++ (WM d cI cZ n nl ns sc ff fe8 fl8 fb8 fs8 fw8 fp8 la ah8 ri lh by8 cm8 fk8 wn8 oc8 kq8 mf zf ++ (tlI cI ia ++ tlI cI ib))) H := hP
  have hD : va_D (fun q : Nat => s.heap.size ≤ q) (WC a cI cJ cG cM n nl ns sc ff fe fl fb fs fw fh fp u.2.2.2.1 u.2.2.2.2.1 u.2.2.2.2.2.1 u.2.2.2.2.2.2 ln lah lmh fin up lo ft u.2.1 u.2.2.1 rs u.1 nf cr pr wf vf imf ++ (WM d cI cZ n nl ns sc ff fe8 fl8 fb8 fs8 fw8 fp8 la ah8 ri lh by8 cm8 fk8 wn8 oc8 kq8 mf zf ++ (tlI cI ia ++ tlI cI ib))) := hD
  have hP := pa_m2 hP
  have hD := da_m2 hD
  refine lv_aload_n hx hb dL_law_385 rfl (lv_at hl 2 rfl) ?_
  refine lv_aload_n hx hb dL_law_386 rfl (lv_at hl 0 rfl) ?_
  refine lv_iload_n hx hb dL_law_387 rfl (lv_at hl 3 rfl) ?_
  refine lv_iconst (v := nI 1) hx hb dL_law_388 (by decide) ?_
  refine iadd_n (a := i) (b := 1) hx hb dL_law_389 ?_
  refine sld_n (k := i + 1) hx hb hX hbl hbA hS (by omega) (by omega) dL_law_390 ?_
  refine lv_aload_n hx hb dL_law_391 rfl (lv_at hl 0 rfl) ?_
  refine lv_iload_n hx hb dL_law_392 rfl (lv_at hl 3 rfl) ?_
  refine lv_iconst (v := nI 2) hx hb dL_law_393 (by decide) ?_
  refine iadd_n (a := i) (b := 2) hx hb dL_law_394 ?_
  refine sld_n (k := i + 2) hx hb hX hbl hbA hS (by omega) (by omega) dL_law_395 ?_
  refine cal_iT (run_V (As := [.int (xs (i + 1)), .int (xs (i + 2))]) (rest := [.int r]) SF (m_tends l D cI cJ cZ cG cM (d 0) (d 1) (d 2) (d 3) (d 4) (d 5) (d 6) (d 7) (d 8) (d 9) (d 10) (d 11) (d 12) (d 13) (d 14) (nI ff) (nI ns) (nI sc) la ah8 ri lh n nl fe8 by8 cm8 fk8 fs8 wn8 fl8 hV8 h1 h6 (xs (i + 1)) (xs (i + 2))) (cwV 2 hts gL_law_X8_tends rfl rfl rfl (by decide +kernel) ⟨Nat.le_of_ble_eq_true rfl, Nat.le_of_ble_eq_true rfl⟩) hN hK hP hD [0, 1, 7, 8, 9, 4, 10, 2] rfl (by decide) 8 0 rfl rfl rfl rfl hl.1 rfl (Nat.le_of_ble_eq_true rfl) dL_law_396 ⟨by show k1 + 0 ≤ 600000; omega, by show k2 + 0 ≤ 7302250; omega⟩) hP hD hS hA [0, 1, 7, 8, 9, 4, 10, 2] rfl rfl (fun _ => rfl) (fun r8 v H locs hw8 hP hD hS => ?_)
  have hq : r = r8 := sm_tends g e9 hw hw8
  have hP : va_P D vwCl (WM d cI cZ n nl ns sc ff fe8 fl8 fb8 fs8 fw8 fp8 v.1 v.2.2.2.2.2.1 v.2.2.2.2.2.2.1 v.2.2.2.2.2.2.2 v.2.1 v.2.2.1 v.2.2.2.1 v.2.2.2.2.1 oc8 kq8 mf zf ++ (WC a cI cJ cG cM n nl ns sc ff fe fl fb fs fw fh fp u.2.2.2.1 u.2.2.2.2.1 u.2.2.2.2.2.1 u.2.2.2.2.2.2 ln lah lmh fin up lo ft u.2.1 u.2.2.1 rs u.1 nf cr pr wf vf imf ++ (tlI cI ia ++ tlI cI ib))) H := hP
  have hD : va_D (fun q : Nat => s.heap.size ≤ q) (WM d cI cZ n nl ns sc ff fe8 fl8 fb8 fs8 fw8 fp8 v.1 v.2.2.2.2.2.1 v.2.2.2.2.2.2.1 v.2.2.2.2.2.2.2 v.2.1 v.2.2.1 v.2.2.2.1 v.2.2.2.2.1 oc8 kq8 mf zf ++ (WC a cI cJ cG cM n nl ns sc ff fe fl fb fs fw fh fp u.2.2.2.1 u.2.2.2.2.1 u.2.2.2.2.2.1 u.2.2.2.2.2.2 ln lah lmh fin up lo ft u.2.1 u.2.2.1 rs u.1 nf cr pr wf vf imf ++ (tlI cI ia ++ tlI cI ib))) := hD
  have hP := pa_m2 hP
  have hD := da_m2 hD
  refine lv_icmp_eq (tgt := 887) hx hb dL_law_399 (by decide) (fun _ => ?_) (fun c9 => absurd hq c9)
  exact K n nl ns sc ff fe fl fb fs fw fh fp u.2.2.2.1 u.2.2.2.2.1 u.2.2.2.2.2.1 u.2.2.2.2.2.2 ln lah lmh fin up lo ft u.2.1 u.2.2.1 rs u.1 nf cr pr wf vf imf fe8 fl8 fb8 fs8 fw8 fp8 v.1 v.2.2.2.2.2.1 v.2.2.2.2.2.2.1 v.2.2.2.2.2.2.2 v.2.1 v.2.2.1 v.2.2.2.1 v.2.2.2.2.1 oc8 kq8 mf zf ia ib ⟨g, e9, pr9, ir1, ir2⟩ H locs hP hD hS ls hl

set_option maxHeartbeats 1000000 in
set_option maxRecDepth 100000 in
theorem lc_could {p : Program} {l : Launch} {e : Env} {s : State} {m : MethodId} {below : List Frame} {meth : Method} {c : Code} {b L : Nat} {xs : Nat → Int32} {D : va_G} {cI cJ cZ cG cM : ClassId} {a d : Nat → Nat} {kk i k1 k2 : Nat} (C0 : FX p s m c b L xs D cI cJ cZ cG cM) (hi : i + 6 ≤ L) (hk : k1 ≤ 599000 ∧ k2 ≤ 7300000) (K : HD p l e s m below meth c b D cI cJ cZ cG cM a d kk 887 i k1 k2) : HD p l e s m below meth c b D cI cJ cZ cG cM a d kk 668 i k1 k2 := by
  obtain ⟨hx, hb, SF, hts, hX, hbl, hbA, hL, hN, hK⟩ := C0
  have hA : ∀ q : Nat, s.heap.size ≤ q → (fun q : Nat => s.heap.size ≤ q) q := fun _ h => h
  intro n nl ns sc ff fe fl fb fs fw fh fp hg ah le lst ln lah lmh fin up lo ft cm fk rs rf nf cr pr wf vf imf fe8 fl8 fb8 fs8 fw8 fp8 la ah8 ri lh by8 cm8 fk8 wn8 oc8 kq8 mf zf ia ib hLI H locs hP hD hS ls hl
  obtain ⟨g, e9, pr9, ir1, ir2⟩ := hLI
  have h1 := g.1.1
  have h6 := g.1.2.1
  have hff := g.1.2.2.1
  have hns := g.1.2.2.2
  have hsc := pr9.1
  have hV := g.2.2.2.2.1
  have hV8 := VL_cong hV e9.2.2.2.1
  have hn20 := hV.1
  have hn1 := VL_pos hV
  have hfb : ∀ j, j < n → ∃ b : Nat, b ≤ 23 ∧ fb j = nI b := RNG_n g.2.2.2.1 h6
  have hfl : ∀ j, j < n → ∃ b : Nat, b ≤ 5 ∧ fl j = nI b := RNG_n g.2.2.1 h6
  have hfb8 : ∀ j, j < n → ∃ b : Nat, b ≤ 23 ∧ fb8 j = nI b := RNG_e hfb (fun j hj => e9.2.2.1 j (by omega))
  have hfl8 : ∀ j, j < n → ∃ b : Nat, b ≤ 5 ∧ fl8 j = nI b := RNG_e hfl (fun j hj => e9.2.1 j (by omega))
  have hsw : ∀ j, j < ns → ∃ k : Nat, k ≤ 30 ∧ fw j = nI k := g.2.2.2.2.2
  have hsw8 : ∀ j, j < ns → ∃ k : Nat, k ≤ 30 ∧ fw8 (2 * j) = nI k := RNG_e hsw (fun j hj => (e9.2.2.2.2 j hj).1)
  refine lv_aload_n hx hb dL_law_668 rfl (lv_at hl 1 rfl) ?_
  refine lv_aload_n hx hb dL_law_669 rfl (lv_at hl 0 rfl) ?_
  refine lv_iload_n hx hb dL_law_670 rfl (lv_at hl 3 rfl) ?_
  refine lv_iconst (v := nI 1) hx hb dL_law_671 (by decide) ?_
  refine iadd_n (a := i) (b := 1) hx hb dL_law_672 ?_
  refine sld_n (k := i + 1) hx hb hX hbl hbA hS (by omega) (by omega) dL_law_673 ?_
  refine lv_aload_n hx hb dL_law_674 rfl (lv_at hl 0 rfl) ?_
  refine lv_iload_n hx hb dL_law_675 rfl (lv_at hl 3 rfl) ?_
  refine lv_iconst (v := nI 2) hx hb dL_law_676 (by decide) ?_
  refine iadd_n (a := i) (b := 2) hx hb dL_law_677 ?_
  refine sld_n (k := i + 2) hx hb hX hbl hbA hS (by omega) (by omega) dL_law_678 ?_
  refine cal_iT (run_V (As := [.int (xs (i + 1)), .int (xs (i + 2))]) (rest := []) SF (o_could l D cI cJ cZ cG cM (a 0) (a 9) (a 11) (a 15) (a 19) (a 32) (a 35) (a 12) (a 13) (a 14) hg (a 1) (a 2) (a 3) (a 4) (a 5) (a 7) (a 8) (nI ff) n ns (a 6) nl cm fk fs fe ft fw fh fl hV h1 h6 hns hsw (xs (i + 1)) (xs (i + 2))) (cwV 2 hts gL_law_X7_could rfl rfl rfl (by decide +kernel) ⟨Nat.le_of_ble_eq_true rfl, Nat.le_of_ble_eq_true rfl⟩) hN hK hP hD [0, 11, 1, 2, 12, 13, 14, 5, 6, 7, 8, 3] rfl (by decide) 7 0 rfl rfl rfl rfl hl.1 rfl (Nat.le_of_ble_eq_true rfl) dL_law_679 ⟨by show k1 + 0 ≤ 600000; omega, by show k2 + 0 ≤ 7302250; omega⟩) hP hD hS hA [0, 11, 1, 2, 12, 13, 14, 5, 6, 7, 8, 3] rfl rfl (fun _ => rfl) (fun r u H locs hw hP hD hS => ?_)
  have hP : va_P D vwCl (WC a cI cJ cG cM n nl ns sc ff fe fl fb fs fw fh fp u.2.2.2 ah le lst ln lah lmh fin up lo u.1 u.2.1 u.2.2.1 rs rf nf cr pr wf vf imf ++ (WM d cI cZ n nl ns sc ff fe8 fl8 fb8 fs8 fw8 fp8 la ah8 ri lh by8 cm8 fk8 wn8 oc8 kq8 mf zf ++ (tlI cI ia ++ tlI cI ib))) H := hP
  have hD : va_D (fun q : Nat => s.heap.size ≤ q) (WC a cI cJ cG cM n nl ns sc ff fe fl fb fs fw fh fp u.2.2.2 ah le lst ln lah lmh fin up lo u.1 u.2.1 u.2.2.1 rs rf nf cr pr wf vf imf ++ (WM d cI cZ n nl ns sc ff fe8 fl8 fb8 fs8 fw8 fp8 la ah8 ri lh by8 cm8 fk8 wn8 oc8 kq8 mf zf ++ (tlI cI ia ++ tlI cI ib))) := hD
  have hP := pa_m2 hP
  have hD := da_m2 hD
  refine lv_aload_n hx hb dL_law_682 rfl (lv_at hl 2 rfl) ?_
  refine lv_aload_n hx hb dL_law_683 rfl (lv_at hl 0 rfl) ?_
  refine lv_iload_n hx hb dL_law_684 rfl (lv_at hl 3 rfl) ?_
  refine lv_iconst (v := nI 1) hx hb dL_law_685 (by decide) ?_
  refine iadd_n (a := i) (b := 1) hx hb dL_law_686 ?_
  refine sld_n (k := i + 1) hx hb hX hbl hbA hS (by omega) (by omega) dL_law_687 ?_
  refine lv_aload_n hx hb dL_law_688 rfl (lv_at hl 0 rfl) ?_
  refine lv_iload_n hx hb dL_law_689 rfl (lv_at hl 3 rfl) ?_
  refine lv_iconst (v := nI 2) hx hb dL_law_690 (by decide) ?_
  refine iadd_n (a := i) (b := 2) hx hb dL_law_691 ?_
  refine sld_n (k := i + 2) hx hb hX hbl hbA hS (by omega) (by omega) dL_law_692 ?_
  refine cal_iT (run_V (As := [.int (xs (i + 1)), .int (xs (i + 2))]) (rest := [.int r]) SF (m_could l D cI cJ cZ cG cM (d 0) (d 1) (d 2) (d 3) (d 4) (d 5) (d 6) (d 7) (d 8) (d 9) (d 10) (d 11) (d 12) (d 13) (d 14) (nI ff) 0 (nI sc) la ah8 ri lh n nl fe8 by8 cm8 fk8 fs8 fl8 fw8 ns hV8 h1 h6 hns hsw8 (xs (i + 1)) (xs (i + 2))) (cwV 2 hts gL_law_X8_could rfl rfl rfl (by decide +kernel) ⟨Nat.le_of_ble_eq_true rfl, Nat.le_of_ble_eq_true rfl⟩) hN hK hP hD [0, 1, 7, 8, 9, 4, 2, 5] rfl (by decide) 8 0 rfl rfl rfl rfl hl.1 rfl (Nat.le_of_ble_eq_true rfl) dL_law_693 ⟨by show k1 + 0 ≤ 600000; omega, by show k2 + 0 ≤ 7302250; omega⟩) hP hD hS hA [0, 1, 7, 8, 9, 4, 2, 5] rfl rfl (fun _ => rfl) (fun r8 v H locs hw8 hP hD hS => ?_)
  have hq : r = r8 := sm_could g e9 hw hw8
  have hP : va_P D vwCl (WM d cI cZ n nl ns sc ff fe8 fl8 fb8 fs8 fw8 fp8 v.1 ah8 ri lh v.2.1 v.2.2.1 v.2.2.2 wn8 oc8 kq8 mf zf ++ (WC a cI cJ cG cM n nl ns sc ff fe fl fb fs fw fh fp u.2.2.2 ah le lst ln lah lmh fin up lo u.1 u.2.1 u.2.2.1 rs rf nf cr pr wf vf imf ++ (tlI cI ia ++ tlI cI ib))) H := hP
  have hD : va_D (fun q : Nat => s.heap.size ≤ q) (WM d cI cZ n nl ns sc ff fe8 fl8 fb8 fs8 fw8 fp8 v.1 ah8 ri lh v.2.1 v.2.2.1 v.2.2.2 wn8 oc8 kq8 mf zf ++ (WC a cI cJ cG cM n nl ns sc ff fe fl fb fs fw fh fp u.2.2.2 ah le lst ln lah lmh fin up lo u.1 u.2.1 u.2.2.1 rs rf nf cr pr wf vf imf ++ (tlI cI ia ++ tlI cI ib))) := hD
  have hP := pa_m2 hP
  have hD := da_m2 hD
  refine lv_icmp_eq (tgt := 887) hx hb dL_law_696 (by decide) (fun _ => ?_) (fun c9 => absurd hq c9)
  exact K n nl ns sc ff fe fl fb fs fw fh fp u.2.2.2 ah le lst ln lah lmh fin up lo u.1 u.2.1 u.2.2.1 rs rf nf cr pr wf vf imf fe8 fl8 fb8 fs8 fw8 fp8 v.1 ah8 ri lh v.2.1 v.2.2.1 v.2.2.2 wn8 oc8 kq8 mf zf ia ib ⟨g, e9, pr9, ir1, ir2⟩ H locs hP hD hS ls hl

set_option maxHeartbeats 1000000 in
set_option maxRecDepth 100000 in
theorem lc_rain {p : Program} {l : Launch} {e : Env} {s : State} {m : MethodId} {below : List Frame} {meth : Method} {c : Code} {b L : Nat} {xs : Nat → Int32} {D : va_G} {cI cJ cZ cG cM : ClassId} {a d : Nat → Nat} {kk i k1 k2 : Nat} (C0 : FX p s m c b L xs D cI cJ cZ cG cM) (hi : i + 6 ≤ L) (hk : k1 ≤ 599000 ∧ k2 ≤ 7300000) (K : HD p l e s m below meth c b D cI cJ cZ cG cM a d kk 887 i k1 k2) : HD p l e s m below meth c b D cI cJ cZ cG cM a d kk 701 i k1 k2 := by
  obtain ⟨hx, hb, SF, hts, hX, hbl, hbA, hL, hN, hK⟩ := C0
  have hA : ∀ q : Nat, s.heap.size ≤ q → (fun q : Nat => s.heap.size ≤ q) q := fun _ h => h
  intro n nl ns sc ff fe fl fb fs fw fh fp hg ah le lst ln lah lmh fin up lo ft cm fk rs rf nf cr pr wf vf imf fe8 fl8 fb8 fs8 fw8 fp8 la ah8 ri lh by8 cm8 fk8 wn8 oc8 kq8 mf zf ia ib hLI H locs hP hD hS ls hl
  obtain ⟨g, e9, pr9, ir1, ir2⟩ := hLI
  have h1 := g.1.1
  have h6 := g.1.2.1
  have hff := g.1.2.2.1
  have hns := g.1.2.2.2
  have hsc := pr9.1
  have hV := g.2.2.2.2.1
  have hV8 := VL_cong hV e9.2.2.2.1
  have hn20 := hV.1
  have hn1 := VL_pos hV
  have hfb : ∀ j, j < n → ∃ b : Nat, b ≤ 23 ∧ fb j = nI b := RNG_n g.2.2.2.1 h6
  have hfl : ∀ j, j < n → ∃ b : Nat, b ≤ 5 ∧ fl j = nI b := RNG_n g.2.2.1 h6
  have hfb8 : ∀ j, j < n → ∃ b : Nat, b ≤ 23 ∧ fb8 j = nI b := RNG_e hfb (fun j hj => e9.2.2.1 j (by omega))
  have hfl8 : ∀ j, j < n → ∃ b : Nat, b ≤ 5 ∧ fl8 j = nI b := RNG_e hfl (fun j hj => e9.2.1 j (by omega))
  have hsw : ∀ j, j < ns → ∃ k : Nat, k ≤ 30 ∧ fw j = nI k := g.2.2.2.2.2
  have hsw8 : ∀ j, j < ns → ∃ k : Nat, k ≤ 30 ∧ fw8 (2 * j) = nI k := RNG_e hsw (fun j hj => (e9.2.2.2.2 j hj).1)
  refine lv_aload_n hx hb dL_law_701 rfl (lv_at hl 1 rfl) ?_
  refine lv_aload_n hx hb dL_law_702 rfl (lv_at hl 0 rfl) ?_
  refine lv_iload_n hx hb dL_law_703 rfl (lv_at hl 3 rfl) ?_
  refine lv_iconst (v := nI 1) hx hb dL_law_704 (by decide) ?_
  refine iadd_n (a := i) (b := 1) hx hb dL_law_705 ?_
  refine sld_n (k := i + 1) hx hb hX hbl hbA hS (by omega) (by omega) dL_law_706 ?_
  refine lv_aload_n hx hb dL_law_707 rfl (lv_at hl 0 rfl) ?_
  refine lv_iload_n hx hb dL_law_708 rfl (lv_at hl 3 rfl) ?_
  refine lv_iconst (v := nI 2) hx hb dL_law_709 (by decide) ?_
  refine iadd_n (a := i) (b := 2) hx hb dL_law_710 ?_
  refine sld_n (k := i + 2) hx hb hX hbl hbA hS (by omega) (by omega) dL_law_711 ?_
  refine lv_aload_n hx hb dL_law_712 rfl (lv_at hl 0 rfl) ?_
  refine lv_iload_n hx hb dL_law_713 rfl (lv_at hl 3 rfl) ?_
  refine lv_iconst (v := nI 3) hx hb dL_law_714 (by decide) ?_
  refine iadd_n (a := i) (b := 3) hx hb dL_law_715 ?_
  refine sld_n (k := i + 3) hx hb hX hbl hbA hS (by omega) (by omega) dL_law_716 ?_
  refine lv_aload_n hx hb dL_law_717 rfl (lv_at hl 0 rfl) ?_
  refine lv_iload_n hx hb dL_law_718 rfl (lv_at hl 3 rfl) ?_
  refine lv_iconst (v := nI 4) hx hb dL_law_719 (by decide) ?_
  refine iadd_n (a := i) (b := 4) hx hb dL_law_720 ?_
  refine sld_n (k := i + 4) hx hb hX hbl hbA hS (by omega) (by omega) dL_law_721 ?_
  refine lv_aload_n hx hb dL_law_722 rfl (lv_at hl 0 rfl) ?_
  refine lv_iload_n hx hb dL_law_723 rfl (lv_at hl 3 rfl) ?_
  refine lv_iconst (v := nI 5) hx hb dL_law_724 (by decide) ?_
  refine iadd_n (a := i) (b := 5) hx hb dL_law_725 ?_
  refine sld_n (k := i + 5) hx hb hX hbl hbA hS (by omega) (by omega) dL_law_726 ?_
  refine cal_lT (run_V (As := [.int (xs (i + 1)), .int (xs (i + 2)), .int (xs (i + 3)), .int (xs (i + 4)), .int (xs (i + 5))]) (rest := []) SF (o_rain l D cI cJ cZ cG cM (a 0) (a 9) (a 11) (a 15) (a 19) (a 32) (a 35) (a 33) (a 34) up lo lah lmh fin (a 12) (a 13) (a 14) (a 1) (a 2) (a 3) (a 4) (a 5) (a 7) (a 8) (nI ff) n ns (a 6) nl hg wf vf cm fk fs fe fl hV h1 h6 (xs (i + 1)) (xs (i + 2)) (xs (i + 3)) (xs (i + 4)) (xs (i + 5))) (cwV 5 hts gL_law_X7_rain rfl rfl rfl (by decide +kernel) ⟨Nat.le_of_ble_eq_true rfl, Nat.le_of_ble_eq_true rfl⟩) hN hK hP hD [0, 32, 11, 1, 2, 3, 13, 14, 5, 6, 33, 34] rfl (by decide) 7 0 rfl rfl rfl rfl hl.1 rfl (Nat.le_of_ble_eq_true rfl) dL_law_727 ⟨by show k1 + 0 ≤ 600000; omega, by show k2 + 0 ≤ 7302250; omega⟩) hP hD hS hA [0, 32, 11, 1, 2, 3, 13, 14, 5, 6, 33, 34] rfl rfl (fun _ => rfl) (fun r u H locs hw hP hD hS => ?_)
  have hP : va_P D vwCl (WC a cI cJ cG cM n nl ns sc ff fe fl fb fs fw fh fp u.2.2.2.2.1 ah le lst ln lah lmh fin u.2.2.2.2.2.1 u.2.2.2.2.2.2 ft u.2.2.1 u.2.2.2.1 rs rf nf cr pr u.1 u.2.1 imf ++ (WM d cI cZ n nl ns sc ff fe8 fl8 fb8 fs8 fw8 fp8 la ah8 ri lh by8 cm8 fk8 wn8 oc8 kq8 mf zf ++ (tlI cI ia ++ tlI cI ib))) H := hP
  have hD : va_D (fun q : Nat => s.heap.size ≤ q) (WC a cI cJ cG cM n nl ns sc ff fe fl fb fs fw fh fp u.2.2.2.2.1 ah le lst ln lah lmh fin u.2.2.2.2.2.1 u.2.2.2.2.2.2 ft u.2.2.1 u.2.2.2.1 rs rf nf cr pr u.1 u.2.1 imf ++ (WM d cI cZ n nl ns sc ff fe8 fl8 fb8 fs8 fw8 fp8 la ah8 ri lh by8 cm8 fk8 wn8 oc8 kq8 mf zf ++ (tlI cI ia ++ tlI cI ib))) := hD
  have hP := pa_m2 hP
  have hD := da_m2 hD
  refine lv_aload_n hx hb dL_law_730 rfl (lv_at hl 2 rfl) ?_
  refine lv_aload_n hx hb dL_law_731 rfl (lv_at hl 0 rfl) ?_
  refine lv_iload_n hx hb dL_law_732 rfl (lv_at hl 3 rfl) ?_
  refine lv_iconst (v := nI 1) hx hb dL_law_733 (by decide) ?_
  refine iadd_n (a := i) (b := 1) hx hb dL_law_734 ?_
  refine sld_n (k := i + 1) hx hb hX hbl hbA hS (by omega) (by omega) dL_law_735 ?_
  refine lv_aload_n hx hb dL_law_736 rfl (lv_at hl 0 rfl) ?_
  refine lv_iload_n hx hb dL_law_737 rfl (lv_at hl 3 rfl) ?_
  refine lv_iconst (v := nI 2) hx hb dL_law_738 (by decide) ?_
  refine iadd_n (a := i) (b := 2) hx hb dL_law_739 ?_
  refine sld_n (k := i + 2) hx hb hX hbl hbA hS (by omega) (by omega) dL_law_740 ?_
  refine lv_aload_n hx hb dL_law_741 rfl (lv_at hl 0 rfl) ?_
  refine lv_iload_n hx hb dL_law_742 rfl (lv_at hl 3 rfl) ?_
  refine lv_iconst (v := nI 3) hx hb dL_law_743 (by decide) ?_
  refine iadd_n (a := i) (b := 3) hx hb dL_law_744 ?_
  refine sld_n (k := i + 3) hx hb hX hbl hbA hS (by omega) (by omega) dL_law_745 ?_
  refine lv_aload_n hx hb dL_law_746 rfl (lv_at hl 0 rfl) ?_
  refine lv_iload_n hx hb dL_law_747 rfl (lv_at hl 3 rfl) ?_
  refine lv_iconst (v := nI 4) hx hb dL_law_748 (by decide) ?_
  refine iadd_n (a := i) (b := 4) hx hb dL_law_749 ?_
  refine sld_n (k := i + 4) hx hb hX hbl hbA hS (by omega) (by omega) dL_law_750 ?_
  refine lv_aload_n hx hb dL_law_751 rfl (lv_at hl 0 rfl) ?_
  refine lv_iload_n hx hb dL_law_752 rfl (lv_at hl 3 rfl) ?_
  refine lv_iconst (v := nI 5) hx hb dL_law_753 (by decide) ?_
  refine iadd_n (a := i) (b := 5) hx hb dL_law_754 ?_
  refine sld_n (k := i + 5) hx hb hX hbl hbA hS (by omega) (by omega) dL_law_755 ?_
  refine cal_lT (run_V (As := [.int (xs (i + 1)), .int (xs (i + 2)), .int (xs (i + 3)), .int (xs (i + 4)), .int (xs (i + 5))]) (rest := [.long r]) SF (m_rain l D cI cJ cZ cG cM (d 0) (d 1) (d 2) (d 3) (d 4) (d 5) (d 6) (d 7) (d 8) (d 9) (d 10) (d 11) (d 12) (d 13) (d 14) (nI ff) (nI ns) (nI sc) la ah8 ri lh n nl fe8 by8 cm8 fk8 fs8 fl8 hV8 h1 h6 (xs (i + 1)) (xs (i + 2)) (xs (i + 3)) (xs (i + 4)) (xs (i + 5))) (cwV 5 hts gL_law_X8_rain rfl rfl rfl (by decide +kernel) ⟨Nat.le_of_ble_eq_true rfl, Nat.le_of_ble_eq_true rfl⟩) hN hK hP hD [0, 1, 7, 8, 9, 4, 2] rfl (by decide) 8 0 rfl rfl rfl rfl hl.1 rfl (Nat.le_of_ble_eq_true rfl) dL_law_756 ⟨by show k1 + 0 ≤ 600000; omega, by show k2 + 0 ≤ 7302250; omega⟩) hP hD hS hA [0, 1, 7, 8, 9, 4, 2] rfl rfl (fun _ => rfl) (fun r8 v H locs hw8 hP hD hS => ?_)
  have hq : r = r8 := sm_rain g e9 hw hw8
  have hP : va_P D vwCl (WM d cI cZ n nl ns sc ff fe8 fl8 fb8 fs8 fw8 fp8 v.1 ah8 ri lh v.2.1 v.2.2.1 v.2.2.2 wn8 oc8 kq8 mf zf ++ (WC a cI cJ cG cM n nl ns sc ff fe fl fb fs fw fh fp u.2.2.2.2.1 ah le lst ln lah lmh fin u.2.2.2.2.2.1 u.2.2.2.2.2.2 ft u.2.2.1 u.2.2.2.1 rs rf nf cr pr u.1 u.2.1 imf ++ (tlI cI ia ++ tlI cI ib))) H := hP
  have hD : va_D (fun q : Nat => s.heap.size ≤ q) (WM d cI cZ n nl ns sc ff fe8 fl8 fb8 fs8 fw8 fp8 v.1 ah8 ri lh v.2.1 v.2.2.1 v.2.2.2 wn8 oc8 kq8 mf zf ++ (WC a cI cJ cG cM n nl ns sc ff fe fl fb fs fw fh fp u.2.2.2.2.1 ah le lst ln lah lmh fin u.2.2.2.2.2.1 u.2.2.2.2.2.2 ft u.2.2.1 u.2.2.2.1 rs rf nf cr pr u.1 u.2.1 imf ++ (tlI cI ia ++ tlI cI ib))) := hD
  have hP := pa_m2 hP
  have hD := da_m2 hD
  refine W.lcmp hx hb dL_law_759 ?_
  refine lv_if_eq (tgt := 887) hx hb dL_law_760 (by decide) (fun _ => ?_) (fun c9 => absurd ((lg_cmp_eq _ _).mpr hq) c9)
  exact K n nl ns sc ff fe fl fb fs fw fh fp u.2.2.2.2.1 ah le lst ln lah lmh fin u.2.2.2.2.2.1 u.2.2.2.2.2.2 ft u.2.2.1 u.2.2.2.1 rs rf nf cr pr u.1 u.2.1 imf fe8 fl8 fb8 fs8 fw8 fp8 v.1 ah8 ri lh v.2.1 v.2.2.1 v.2.2.2 wn8 oc8 kq8 mf zf ia ib ⟨g, e9, pr9, ir1, ir2⟩ H locs hP hD hS ls hl

set_option maxHeartbeats 1000000 in
set_option maxRecDepth 100000 in
theorem lc_year {p : Program} {l : Launch} {e : Env} {s : State} {m : MethodId} {below : List Frame} {meth : Method} {c : Code} {b L : Nat} {xs : Nat → Int32} {D : va_G} {cI cJ cZ cG cM : ClassId} {a d : Nat → Nat} {kk i k1 k2 : Nat} (C0 : FX p s m c b L xs D cI cJ cZ cG cM) (hi : i + 6 ≤ L) (hk : k1 ≤ 599000 ∧ k2 ≤ 7300000) (K : HD p l e s m below meth c b D cI cJ cZ cG cM a d kk 887 i k1 k2) : HD p l e s m below meth c b D cI cJ cZ cG cM a d kk 765 i k1 k2 := by
  obtain ⟨hx, hb, SF, hts, hX, hbl, hbA, hL, hN, hK⟩ := C0
  have hA : ∀ q : Nat, s.heap.size ≤ q → (fun q : Nat => s.heap.size ≤ q) q := fun _ h => h
  intro n nl ns sc ff fe fl fb fs fw fh fp hg ah le lst ln lah lmh fin up lo ft cm fk rs rf nf cr pr wf vf imf fe8 fl8 fb8 fs8 fw8 fp8 la ah8 ri lh by8 cm8 fk8 wn8 oc8 kq8 mf zf ia ib hLI H locs hP hD hS ls hl
  obtain ⟨g, e9, pr9, ir1, ir2⟩ := hLI
  have h1 := g.1.1
  have h6 := g.1.2.1
  have hff := g.1.2.2.1
  have hns := g.1.2.2.2
  have hsc := pr9.1
  have hV := g.2.2.2.2.1
  have hV8 := VL_cong hV e9.2.2.2.1
  have hn20 := hV.1
  have hn1 := VL_pos hV
  have hfb : ∀ j, j < n → ∃ b : Nat, b ≤ 23 ∧ fb j = nI b := RNG_n g.2.2.2.1 h6
  have hfl : ∀ j, j < n → ∃ b : Nat, b ≤ 5 ∧ fl j = nI b := RNG_n g.2.2.1 h6
  have hfb8 : ∀ j, j < n → ∃ b : Nat, b ≤ 23 ∧ fb8 j = nI b := RNG_e hfb (fun j hj => e9.2.2.1 j (by omega))
  have hfl8 : ∀ j, j < n → ∃ b : Nat, b ≤ 5 ∧ fl8 j = nI b := RNG_e hfl (fun j hj => e9.2.1 j (by omega))
  have hsw : ∀ j, j < ns → ∃ k : Nat, k ≤ 30 ∧ fw j = nI k := g.2.2.2.2.2
  have hsw8 : ∀ j, j < ns → ∃ k : Nat, k ≤ 30 ∧ fw8 (2 * j) = nI k := RNG_e hsw (fun j hj => (e9.2.2.2.2 j hj).1)
  refine lv_aload_n hx hb dL_law_765 rfl (lv_at hl 1 rfl) ?_
  refine lv_aload_n hx hb dL_law_766 rfl (lv_at hl 0 rfl) ?_
  refine lv_iload_n hx hb dL_law_767 rfl (lv_at hl 3 rfl) ?_
  refine lv_iconst (v := nI 1) hx hb dL_law_768 (by decide) ?_
  refine iadd_n (a := i) (b := 1) hx hb dL_law_769 ?_
  refine sld_n (k := i + 1) hx hb hX hbl hbA hS (by omega) (by omega) dL_law_770 ?_
  refine lv_aload_n hx hb dL_law_771 rfl (lv_at hl 0 rfl) ?_
  refine lv_iload_n hx hb dL_law_772 rfl (lv_at hl 3 rfl) ?_
  refine lv_iconst (v := nI 2) hx hb dL_law_773 (by decide) ?_
  refine iadd_n (a := i) (b := 2) hx hb dL_law_774 ?_
  refine sld_n (k := i + 2) hx hb hX hbl hbA hS (by omega) (by omega) dL_law_775 ?_
  refine lv_aload_n hx hb dL_law_776 rfl (lv_at hl 0 rfl) ?_
  refine lv_iload_n hx hb dL_law_777 rfl (lv_at hl 3 rfl) ?_
  refine lv_iconst (v := nI 3) hx hb dL_law_778 (by decide) ?_
  refine iadd_n (a := i) (b := 3) hx hb dL_law_779 ?_
  refine sld_n (k := i + 3) hx hb hX hbl hbA hS (by omega) (by omega) dL_law_780 ?_
  refine lv_aload_n hx hb dL_law_781 rfl (lv_at hl 0 rfl) ?_
  refine lv_iload_n hx hb dL_law_782 rfl (lv_at hl 3 rfl) ?_
  refine lv_iconst (v := nI 4) hx hb dL_law_783 (by decide) ?_
  refine iadd_n (a := i) (b := 4) hx hb dL_law_784 ?_
  refine sld_n (k := i + 4) hx hb hX hbl hbA hS (by omega) (by omega) dL_law_785 ?_
  refine cal_iT (run_V (As := [.int (xs (i + 1)), .int (xs (i + 2)), .int (xs (i + 3)), .int (xs (i + 4))]) (rest := []) SF (o_year l D cI cJ cZ cG cM (a 0) (a 9) (a 11) (a 15) (a 19) (a 32) (a 35) (a 33) (a 34) up lo lah lmh fin (a 12) (a 13) (a 14) (a 1) (a 2) (a 3) (a 4) (a 5) (a 7) (a 8) (nI ff) n ns (a 6) nl hg cm fk fs fe fl ft hV h1 h6 (xs (i + 1)) (xs (i + 2)) (xs (i + 3)) (xs (i + 4))) (cwV 4 hts gL_law_X7_year rfl rfl rfl (by decide +kernel) ⟨Nat.le_of_ble_eq_true rfl, Nat.le_of_ble_eq_true rfl⟩) hN hK hP hD [0, 32, 11, 1, 2, 3, 12, 13, 14, 5, 6] rfl (by decide) 7 0 rfl rfl rfl rfl hl.1 rfl (Nat.le_of_ble_eq_true rfl) dL_law_786 ⟨by show k1 + 0 ≤ 600000; omega, by show k2 + 0 ≤ 7302250; omega⟩) hP hD hS hA [0, 32, 11, 1, 2, 3, 12, 13, 14, 5, 6] rfl rfl (fun _ => rfl) (fun r u H locs hw hP hD hS => ?_)
  have hP : va_P D vwCl (WC a cI cJ cG cM n nl ns sc ff fe fl fb fs fw fh fp u.2.2.2.1 ah le lst ln u.2.2.2.2.1 u.2.2.2.2.2.1 u.2.2.2.2.2.2 up lo u.1 u.2.1 u.2.2.1 rs rf nf cr pr wf vf imf ++ (WM d cI cZ n nl ns sc ff fe8 fl8 fb8 fs8 fw8 fp8 la ah8 ri lh by8 cm8 fk8 wn8 oc8 kq8 mf zf ++ (tlI cI ia ++ tlI cI ib))) H := hP
  have hD : va_D (fun q : Nat => s.heap.size ≤ q) (WC a cI cJ cG cM n nl ns sc ff fe fl fb fs fw fh fp u.2.2.2.1 ah le lst ln u.2.2.2.2.1 u.2.2.2.2.2.1 u.2.2.2.2.2.2 up lo u.1 u.2.1 u.2.2.1 rs rf nf cr pr wf vf imf ++ (WM d cI cZ n nl ns sc ff fe8 fl8 fb8 fs8 fw8 fp8 la ah8 ri lh by8 cm8 fk8 wn8 oc8 kq8 mf zf ++ (tlI cI ia ++ tlI cI ib))) := hD
  have hP := pa_m2 hP
  have hD := da_m2 hD
  refine lv_aload_n hx hb dL_law_789 rfl (lv_at hl 2 rfl) ?_
  refine lv_aload_n hx hb dL_law_790 rfl (lv_at hl 0 rfl) ?_
  refine lv_iload_n hx hb dL_law_791 rfl (lv_at hl 3 rfl) ?_
  refine lv_iconst (v := nI 1) hx hb dL_law_792 (by decide) ?_
  refine iadd_n (a := i) (b := 1) hx hb dL_law_793 ?_
  refine sld_n (k := i + 1) hx hb hX hbl hbA hS (by omega) (by omega) dL_law_794 ?_
  refine lv_aload_n hx hb dL_law_795 rfl (lv_at hl 0 rfl) ?_
  refine lv_iload_n hx hb dL_law_796 rfl (lv_at hl 3 rfl) ?_
  refine lv_iconst (v := nI 2) hx hb dL_law_797 (by decide) ?_
  refine iadd_n (a := i) (b := 2) hx hb dL_law_798 ?_
  refine sld_n (k := i + 2) hx hb hX hbl hbA hS (by omega) (by omega) dL_law_799 ?_
  refine lv_aload_n hx hb dL_law_800 rfl (lv_at hl 0 rfl) ?_
  refine lv_iload_n hx hb dL_law_801 rfl (lv_at hl 3 rfl) ?_
  refine lv_iconst (v := nI 3) hx hb dL_law_802 (by decide) ?_
  refine iadd_n (a := i) (b := 3) hx hb dL_law_803 ?_
  refine sld_n (k := i + 3) hx hb hX hbl hbA hS (by omega) (by omega) dL_law_804 ?_
  refine lv_aload_n hx hb dL_law_805 rfl (lv_at hl 0 rfl) ?_
  refine lv_iload_n hx hb dL_law_806 rfl (lv_at hl 3 rfl) ?_
  refine lv_iconst (v := nI 4) hx hb dL_law_807 (by decide) ?_
  refine iadd_n (a := i) (b := 4) hx hb dL_law_808 ?_
  refine sld_n (k := i + 4) hx hb hX hbl hbA hS (by omega) (by omega) dL_law_809 ?_
  refine cal_iT (run_V (As := [.int (xs (i + 1)), .int (xs (i + 2)), .int (xs (i + 3)), .int (xs (i + 4))]) (rest := [.int r]) SF (m_year l D cI cJ cZ cG cM (d 0) (d 1) (d 2) (d 3) (d 4) (d 5) (d 6) (d 7) (d 8) (d 9) (d 10) (d 11) (d 12) (d 13) (d 14) (nI ff) (nI ns) (nI sc) la ah8 ri lh n nl fe8 by8 cm8 fk8 fs8 fl8 hV8 h1 h6 (xs (i + 1)) (xs (i + 2)) (xs (i + 3)) (xs (i + 4))) (cwV 4 hts gL_law_X8_year rfl rfl rfl (by decide +kernel) ⟨Nat.le_of_ble_eq_true rfl, Nat.le_of_ble_eq_true rfl⟩) hN hK hP hD [0, 1, 7, 8, 9, 4, 2] rfl (by decide) 8 0 rfl rfl rfl rfl hl.1 rfl (Nat.le_of_ble_eq_true rfl) dL_law_810 ⟨by show k1 + 0 ≤ 600000; omega, by show k2 + 0 ≤ 7302250; omega⟩) hP hD hS hA [0, 1, 7, 8, 9, 4, 2] rfl rfl (fun _ => rfl) (fun r8 v H locs hw8 hP hD hS => ?_)
  have hq : r = r8 := sm_year g e9 hw hw8
  have hP : va_P D vwCl (WM d cI cZ n nl ns sc ff fe8 fl8 fb8 fs8 fw8 fp8 v.1 ah8 ri lh v.2.1 v.2.2.1 v.2.2.2 wn8 oc8 kq8 mf zf ++ (WC a cI cJ cG cM n nl ns sc ff fe fl fb fs fw fh fp u.2.2.2.1 ah le lst ln u.2.2.2.2.1 u.2.2.2.2.2.1 u.2.2.2.2.2.2 up lo u.1 u.2.1 u.2.2.1 rs rf nf cr pr wf vf imf ++ (tlI cI ia ++ tlI cI ib))) H := hP
  have hD : va_D (fun q : Nat => s.heap.size ≤ q) (WM d cI cZ n nl ns sc ff fe8 fl8 fb8 fs8 fw8 fp8 v.1 ah8 ri lh v.2.1 v.2.2.1 v.2.2.2 wn8 oc8 kq8 mf zf ++ (WC a cI cJ cG cM n nl ns sc ff fe fl fb fs fw fh fp u.2.2.2.1 ah le lst ln u.2.2.2.2.1 u.2.2.2.2.2.1 u.2.2.2.2.2.2 up lo u.1 u.2.1 u.2.2.1 rs rf nf cr pr wf vf imf ++ (tlI cI ia ++ tlI cI ib))) := hD
  have hP := pa_m2 hP
  have hD := da_m2 hD
  refine lv_icmp_eq (tgt := 887) hx hb dL_law_813 (by decide) (fun _ => ?_) (fun c9 => absurd hq c9)
  exact K n nl ns sc ff fe fl fb fs fw fh fp u.2.2.2.1 ah le lst ln u.2.2.2.2.1 u.2.2.2.2.2.1 u.2.2.2.2.2.2 up lo u.1 u.2.1 u.2.2.1 rs rf nf cr pr wf vf imf fe8 fl8 fb8 fs8 fw8 fp8 v.1 ah8 ri lh v.2.1 v.2.2.1 v.2.2.2 wn8 oc8 kq8 mf zf ia ib ⟨g, e9, pr9, ir1, ir2⟩ H locs hP hD hS ls hl

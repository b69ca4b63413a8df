/-! THE LAW, call by call -/
set_option maxHeartbeats 1000000 in
set_option maxRecDepth 100000 in
theorem lc_hour {p : Program} {l : Launch} {e : Env} {s : State} {m : MethodId} {below : List Frame} {meth : Method} {c : Code} {b L : Nat} {xs : Nat → Int32} {D : va_G} {cI cJ cZ cG cM : ClassId} {a d : Nat → Nat} {kk i k1 k2 : Nat} (C0 : FX p s m c b L xs D cI cJ cZ cG cM) (hi : i + 6 ≤ L) (hk : k1 ≤ 599000 ∧ k2 ≤ 7300000) (K : HD p l e s m below meth c b D cI cJ cZ cG cM a d kk 887 i k1 k2) : HD p l e s m below meth c b D cI cJ cZ cG cM a d kk 295 i k1 k2 := by
  obtain ⟨hx, hb, SF, hts, hX, hbl, hbA, hL, hN, hK⟩ := C0
  have hA : ∀ q : Nat, s.heap.size ≤ q → (fun q : Nat => s.heap.size ≤ q) q := fun _ h => h
  intro n nl ns sc ff fe fl fb fs fw fh fp hg ah le lst ln lah lmh fin up lo ft cm fk rs rf nf cr pr wf vf imf fe8 fl8 fb8 fs8 fw8 fp8 la ah8 ri lh by8 cm8 fk8 wn8 oc8 kq8 mf zf ia ib hLI H locs hP hD hS ls hl
  obtain ⟨g, e9, pr9, ir1, ir2⟩ := hLI
  have h1 := g.1.1
  have h6 := g.1.2.1
  have hff := g.1.2.2.1
  have hns := g.1.2.2.2
  have hsc := pr9.1
  have hV := g.2.2.2.2.1
  have hV8 := VL_cong hV e9.2.2.2.1
  have hn20 := hV.1
  have hn1 := VL_pos hV
  have hfb : ∀ j, j < n → ∃ b : Nat, b ≤ 23 ∧ fb j = nI b := RNG_n g.2.2.2.1 h6
  have hfl : ∀ j, j < n → ∃ b : Nat, b ≤ 5 ∧ fl j = nI b := RNG_n g.2.2.1 h6
  have hfb8 : ∀ j, j < n → ∃ b : Nat, b ≤ 23 ∧ fb8 j = nI b := RNG_e hfb (fun j hj => e9.2.2.1 j (by omega))
  have hfl8 : ∀ j, j < n → ∃ b : Nat, b ≤ 5 ∧ fl8 j = nI b := RNG_e hfl (fun j hj => e9.2.1 j (by omega))
  have hsw : ∀ j, j < ns → ∃ k : Nat, k ≤ 30 ∧ fw j = nI k := g.2.2.2.2.2
  have hsw8 : ∀ j, j < ns → ∃ k : Nat, k ≤ 30 ∧ fw8 (2 * j) = nI k := RNG_e hsw (fun j hj => (e9.2.2.2.2 j hj).1)
  refine lv_aload_n hx hb dL_law_295 rfl (lv_at hl 1 rfl) ?_
  refine lv_aload_n hx hb dL_law_296 rfl (lv_at hl 0 rfl) ?_
  refine lv_iload_n hx hb dL_law_297 rfl (lv_at hl 3 rfl) ?_
  refine lv_iconst (v := nI 1) hx hb dL_law_298 (by decide) ?_
  refine iadd_n (a := i) (b := 1) hx hb dL_law_299 ?_
  refine sld_n (k := i + 1) hx hb hX hbl hbA hS (by omega) (by omega) dL_law_300 ?_
  refine lv_aload_n hx hb dL_law_301 rfl (lv_at hl 0 rfl) ?_
  refine lv_iload_n hx hb dL_law_302 rfl (lv_at hl 3 rfl) ?_
  refine lv_iconst (v := nI 2) hx hb dL_law_303 (by decide) ?_
  refine iadd_n (a := i) (b := 2) hx hb dL_law_304 ?_
  refine sld_n (k := i + 2) hx hb hX hbl hbA hS (by omega) (by omega) dL_law_305 ?_
  refine cal_iT (run_V (As := [.int (xs (i + 1)), .int (xs (i + 2))]) (rest := []) SF (o_hour l D cI cJ cZ cG cM (a 0) (a 9) (a 11) (a 15) (a 19) (a 32) (a 35) (a 12) (a 13) (a 14) hg (a 1) (a 2) (a 3) (a 4) (a 5) (a 7) (a 8) (nI ff) n ns (a 6) nl cm fk fs fe fl hV h1 h6 (xs (i + 1)) (xs (i + 2))) (cwV 2 hts gL_law_X7_hour rfl rfl rfl (by decide +kernel) ⟨Nat.le_of_ble_eq_true rfl, Nat.le_of_ble_eq_true rfl⟩) hN hK hP hD [0, 11, 1, 2, 3, 13, 14, 5, 6] rfl (by decide) 7 0 rfl rfl rfl rfl hl.1 rfl (Nat.le_of_ble_eq_true rfl) dL_law_306 ⟨by show k1 + 0 ≤ 600000; omega, by show k2 + 0 ≤ 7302250; omega⟩) hP hD hS hA [0, 11, 1, 2, 3, 13, 14, 5, 6] rfl rfl (fun _ => rfl) (fun r u H locs hw hP hD hS => ?_)
  have hP : va_P D vwCl (WC a cI cJ cG cM n nl ns sc ff fe fl fb fs fw fh fp u.2.2 ah le lst ln lah lmh fin up lo ft u.1 u.2.1 rs rf nf cr pr wf vf imf ++ (WM d cI cZ n nl ns sc ff fe8 fl8 fb8 fs8 fw8 fp8 la ah8 ri lh by8 cm8 fk8 wn8 oc8 kq8 mf zf ++ (tlI cI ia ++ tlI cI ib))) H := hP
  have hD : va_D (fun q : Nat => s.heap.size ≤ q) (WC a cI cJ cG cM n nl ns sc ff fe fl fb fs fw fh fp u.2.2 ah le lst ln lah lmh fin up lo ft u.1 u.2.1 rs rf nf cr pr wf vf imf ++ (WM d cI cZ n nl ns sc ff fe8 fl8 fb8 fs8 fw8 fp8 la ah8 ri lh by8 cm8 fk8 wn8 oc8 kq8 mf zf ++ (tlI cI ia ++ tlI cI ib))) := hD
  have hP := pa_m2 hP
  have hD := da_m2 hD
  refine lv_aload_n hx hb dL_law_309 rfl (lv_at hl 2 rfl) ?_
  refine lv_aload_n hx hb dL_law_310 rfl (lv_at hl 0 rfl) ?_
  refine lv_iload_n hx hb dL_law_311 rfl (lv_at hl 3 rfl) ?_
  refine lv_iconst (v := nI 1) hx hb dL_law_312 (by decide) ?_
  refine iadd_n (a := i) (b := 1) hx hb dL_law_313 ?_
  refine sld_n (k := i + 1) hx hb hX hbl hbA hS (by omega) (by omega) dL_law_314 ?_
  refine lv_aload_n hx hb dL_law_315 rfl (lv_at hl 0 rfl) ?_
  refine lv_iload_n hx hb dL_law_316 rfl (lv_at hl 3 rfl) ?_
  refine lv_iconst (v := nI 2) hx hb dL_law_317 (by decide) ?_
  refine iadd_n (a := i) (b := 2) hx hb dL_law_318 ?_
  refine sld_n (k := i + 2) hx hb hX hbl hbA hS (by omega) (by omega) dL_law_319 ?_
  refine cal_iT (run_V (As := [.int (xs (i + 1)), .int (xs (i + 2))]) (rest := [.int r]) SF (m_hour l D cI cJ cZ cG cM (d 0) (d 1) (d 2) (d 3) (d 4) (d 5) (d 6) (d 7) (d 8) (d 9) (d 10) (d 11) (d 12) (d 13) (d 14) (nI ff) (nI ns) (nI sc) la ah8 ri lh n nl fe8 by8 cm8 fk8 fs8 fl8 hV8 h1 h6 (xs (i + 1)) (xs (i + 2))) (cwV 2 hts gL_law_X8_hour rfl rfl rfl (by decide +kernel) ⟨Nat.le_of_ble_eq_true rfl, Nat.le_of_ble_eq_true rfl⟩) hN hK hP hD [0, 1, 7, 8, 9, 4, 2] rfl (by decide) 8 0 rfl rfl rfl rfl hl.1 rfl (Nat.le_of_ble_eq_true rfl) dL_law_320 ⟨by show k1 + 0 ≤ 600000; omega, by show k2 + 0 ≤ 7302250; omega⟩) hP hD hS hA [0, 1, 7, 8, 9, 4, 2] rfl rfl (fun _ => rfl) (fun r8 v H locs hw8 hP hD hS => ?_)
  have hq : r = r8 := sm_hour g e9 hw hw8
  have hP : va_P D vwCl (WM d cI cZ n nl ns sc ff fe8 fl8 fb8 fs8 fw8 fp8 v.1 ah8 ri lh v.2.1 v.2.2.1 v.2.2.2 wn8 oc8 kq8 mf zf ++ (WC a cI cJ cG cM n nl ns sc ff fe fl fb fs fw fh fp u.2.2 ah le lst ln lah lmh fin up lo ft u.1 u.2.1 rs rf nf cr pr wf vf imf ++ (tlI cI ia ++ tlI cI ib))) H := hP
  have hD : va_D (fun q : Nat => s.heap.size ≤ q) (WM d cI cZ n nl ns sc ff fe8 fl8 fb8 fs8 fw8 fp8 v.1 ah8 ri lh v.2.1 v.2.2.1 v.2.2.2 wn8 oc8 kq8 mf zf ++ (WC a cI cJ cG cM n nl ns sc ff fe fl fb fs fw fh fp u.2.2 ah le lst ln lah lmh fin up lo ft u.1 u.2.1 rs rf nf cr pr wf vf imf ++ (tlI cI ia ++ tlI cI ib))) := hD
  have hP := pa_m2 hP
  have hD := da_m2 hD
  refine lv_icmp_eq (tgt := 887) hx hb dL_law_323 (by decide) (fun _ => ?_) (fun c9 => absurd hq c9)
  exact K n nl ns sc ff fe fl fb fs fw fh fp u.2.2 ah le lst ln lah lmh fin up lo ft u.1 u.2.1 rs rf nf cr pr wf vf imf fe8 fl8 fb8 fs8 fw8 fp8 v.1 ah8 ri lh v.2.1 v.2.2.1 v.2.2.2 wn8 oc8 kq8 mf zf ia ib ⟨g, e9, pr9, ir1, ir2⟩ H locs hP hD hS ls hl

set_option maxHeartbeats 1000000 in
set_option maxRecDepth 100000 in
theorem lc_comes {p : Program} {l : Launch} {e : Env} {s : State} {m : MethodId} {below : List Frame} {meth : Method} {c : Code} {b L : Nat} {xs : Nat → Int32} {D : va_G} {cI cJ cZ cG cM : ClassId} {a d : Nat → Nat} {kk i k1 k2 : Nat} (C0 : FX p s m c b L xs D cI cJ cZ cG cM) (hi : i + 6 ≤ L) (hk : k1 ≤ 599000 ∧ k2 ≤ 7300000) (K : HD p l e s m below meth c b D cI cJ cZ cG cM a d kk 887 i k1 k2) : HD p l e s m below meth c b D cI cJ cZ cG cM a d kk 328 i k1 k2 := by
  obtain ⟨hx, hb, SF, hts, hX, hbl, hbA, hL, hN, hK⟩ := C0
  have hA : ∀ q : Nat, s.heap.size ≤ q → (fun q : Nat => s.heap.size ≤ q) q := fun _ h => h
  intro n nl ns sc ff fe fl fb fs fw fh fp hg ah le lst ln lah lmh fin up lo ft cm fk rs rf nf cr pr wf vf imf fe8 fl8 fb8 fs8 fw8 fp8 la ah8 ri lh by8 cm8 fk8 wn8 oc8 kq8 mf zf ia ib hLI H locs hP hD hS ls hl
  obtain ⟨g, e9, pr9, ir1, ir2⟩ := hLI
  have h1 := g.1.1
  have h6 := g.1.2.1
  have hff := g.1.2.2.1
  have hns := g.1.2.2.2
  have hsc := pr9.1
  have hV := g.2.2.2.2.1
  have hV8 := VL_cong hV e9.2.2.2.1
  have hn20 := hV.1
  have hn1 := VL_pos hV
  have hfb : ∀ j, j < n → ∃ b : Nat, b ≤ 23 ∧ fb j = nI b := RNG_n g.2.2.2.1 h6
  have hfl : ∀ j, j < n → ∃ b : Nat, b ≤ 5 ∧ fl j = nI b := RNG_n g.2.2.1 h6
  have hfb8 : ∀ j, j < n → ∃ b : Nat, b ≤ 23 ∧ fb8 j = nI b := RNG_e hfb (fun j hj => e9.2.2.1 j (by omega))
  have hfl8 : ∀ j, j < n → ∃ b : Nat, b ≤ 5 ∧ fl8 j = nI b := RNG_e hfl (fun j hj => e9.2.1 j (by omega))
  have hsw : ∀ j, j < ns → ∃ k : Nat, k ≤ 30 ∧ fw j = nI k := g.2.2.2.2.2
  have hsw8 : ∀ j, j < ns → ∃ k : Nat, k ≤ 30 ∧ fw8 (2 * j) = nI k := RNG_e hsw (fun j hj => (e9.2.2.2.2 j hj).1)
  refine lv_aload_n hx hb dL_law_328 rfl (lv_at hl 1 rfl) ?_
  refine lv_aload_n hx hb dL_law_329 rfl (lv_at hl 0 rfl) ?_
  refine lv_iload_n hx hb dL_law_330 rfl (lv_at hl 3 rfl) ?_
  refine lv_iconst (v := nI 1) hx hb dL_law_331 (by decide) ?_
  refine iadd_n (a := i) (b := 1) hx hb dL_law_332 ?_
  refine sld_n (k := i + 1) hx hb hX hbl hbA hS (by omega) (by omega) dL_law_333 ?_
  refine lv_aload_n hx hb dL_law_334 rfl (lv_at hl 0 rfl) ?_
  refine lv_iload_n hx hb dL_law_335 rfl (lv_at hl 3 rfl) ?_
  refine lv_iconst (v := nI 2) hx hb dL_law_336 (by decide) ?_
  refine iadd_n (a := i) (b := 2) hx hb dL_law_337 ?_
  refine sld_n (k := i + 2) hx hb hX hbl hbA hS (by omega) (by omega) dL_law_338 ?_
  refine lv_aload_n hx hb dL_law_339 rfl (lv_at hl 0 rfl) ?_
  refine lv_iload_n hx hb dL_law_340 rfl (lv_at hl 3 rfl) ?_
  refine lv_iconst (v := nI 3) hx hb dL_law_341 (by decide) ?_
  refine iadd_n (a := i) (b := 3) hx hb dL_law_342 ?_
  refine sld_n (k := i + 3) hx hb hX hbl hbA hS (by omega) (by omega) dL_law_343 ?_
  refine cal_iT (run_V (As := [.int (xs (i + 1)), .int (xs (i + 2)), .int (xs (i + 3))]) (rest := []) SF (o_comes l D cI cJ cZ cG cM (a 0) (a 9) (a 11) (a 15) (a 19) (a 32) (a 35) (a 12) (a 13) (a 14) hg (a 1) (a 2) (a 3) (a 4) (a 5) (a 7) (a 8) (nI ff) n ns (a 6) nl cm fk fs fe fl hV h1 h6 (xs (i + 1)) (xs (i + 2)) (xs (i + 3))) (cwV 3 hts gL_law_X7_comes rfl rfl rfl (by decide +kernel) ⟨Nat.le_of_ble_eq_true rfl, Nat.le_of_ble_eq_true rfl⟩) hN hK hP hD [0, 11, 1, 2, 3, 13, 14, 5, 6] rfl (by decide) 7 0 rfl rfl rfl rfl hl.1 rfl (Nat.le_of_ble_eq_true rfl) dL_law_344 ⟨by show k1 + 0 ≤ 600000; omega, by show k2 + 0 ≤ 7302250; omega⟩) hP hD hS hA [0, 11, 1, 2, 3, 13, 14, 5, 6] rfl rfl (fun _ => rfl) (fun r u H locs hw hP hD hS => ?_)
  have hP : va_P D vwCl (WC a cI cJ cG cM n nl ns sc ff fe fl fb fs fw fh fp u.2.2 ah le lst ln lah lmh fin up lo ft u.1 u.2.1 rs rf nf cr pr wf vf imf ++ (WM d cI cZ n nl ns sc ff fe8 fl8 fb8 fs8 fw8 fp8 la ah8 ri lh by8 cm8 fk8 wn8 oc8 kq8 mf zf ++ (tlI cI ia ++ tlI cI ib))) H := hP
  have hD : va_D (fun q : Nat => s.heap.size ≤ q) (WC a cI cJ cG cM n nl ns sc ff fe fl fb fs fw fh fp u.2.2 ah le lst ln lah lmh fin up lo ft u.1 u.2.1 rs rf nf cr pr wf vf imf ++ (WM d cI cZ n nl ns sc ff fe8 fl8 fb8 fs8 fw8 fp8 la ah8 ri lh by8 cm8 fk8 wn8 oc8 kq8 mf zf ++ (tlI cI ia ++ tlI cI ib))) := hD
  have hP := pa_m2 hP
  have hD := da_m2 hD
  refine lv_aload_n hx hb dL_law_347 rfl (lv_at hl 2 rfl) ?_
  refine lv_aload_n hx hb dL_law_348 rfl (lv_at hl 0 rfl) ?_
  refine lv_iload_n hx hb dL_law_349 rfl (lv_at hl 3 rfl) ?_
  refine lv_iconst (v := nI 1) hx hb dL_law_350 (by decide) ?_
  refine iadd_n (a := i) (b := 1) hx hb dL_law_351 ?_
  refine sld_n (k := i + 1) hx hb hX hbl hbA hS (by omega) (by omega) dL_law_352 ?_
  refine lv_aload_n hx hb dL_law_353 rfl (lv_at hl 0 rfl) ?_
  refine lv_iload_n hx hb dL_law_354 rfl (lv_at hl 3 rfl) ?_
  refine lv_iconst (v := nI 2) hx hb dL_law_355 (by decide) ?_
  refine iadd_n (a := i) (b := 2) hx hb dL_law_356 ?_
  refine sld_n (k := i + 2) hx hb hX hbl hbA hS (by omega) (by omega) dL_law_357 ?_
  refine lv_aload_n hx hb dL_law_358 rfl (lv_at hl 0 rfl) ?_
  refine lv_iload_n hx hb dL_law_359 rfl (lv_at hl 3 rfl) ?_
  refine lv_iconst (v := nI 3) hx hb dL_law_360 (by decide) ?_
  refine iadd_n (a := i) (b := 3) hx hb dL_law_361 ?_
  refine sld_n (k := i + 3) hx hb hX hbl hbA hS (by omega) (by omega) dL_law_362 ?_
  refine cal_iT (run_V (As := [.int (xs (i + 1)), .int (xs (i + 2)), .int (xs (i + 3))]) (rest := [.int r]) SF (m_comes l D cI cJ cZ cG cM (d 0) (d 1) (d 2) (d 3) (d 4) (d 5) (d 6) (d 7) (d 8) (d 9) (d 10) (d 11) (d 12) (d 13) (d 14) (nI ff) (nI ns) (nI sc) la ah8 ri lh n nl fe8 by8 cm8 fk8 fs8 fl8 hV8 h1 h6 (xs (i + 1)) (xs (i + 2)) (xs (i + 3))) (cwV 3 hts gL_law_X8_comes rfl rfl rfl (by decide +kernel) ⟨Nat.le_of_ble_eq_true rfl, Nat.le_of_ble_eq_true rfl⟩) hN hK hP hD [0, 1, 7, 8, 9, 4, 2] rfl (by decide) 8 0 rfl rfl rfl rfl hl.1 rfl (Nat.le_of_ble_eq_true rfl) dL_law_363 ⟨by show k1 + 0 ≤ 600000; omega, by show k2 + 0 ≤ 7302250; omega⟩) hP hD hS hA [0, 1, 7, 8, 9, 4, 2] rfl rfl (fun _ => rfl) (fun r8 v H locs hw8 hP hD hS => ?_)
  have hq : r = r8 := sm_comes g e9 hw hw8
  have hP : va_P D vwCl (WM d cI cZ n nl ns sc ff fe8 fl8 fb8 fs8 fw8 fp8 v.1 ah8 ri lh v.2.1 v.2.2.1 v.2.2.2 wn8 oc8 kq8 mf zf ++ (WC a cI cJ cG cM n nl ns sc ff fe fl fb fs fw fh fp u.2.2 ah le lst ln lah lmh fin up lo ft u.1 u.2.1 rs rf nf cr pr wf vf imf ++ (tlI cI ia ++ tlI cI ib))) H := hP
  have hD : va_D (fun q : Nat => s.heap.size ≤ q) (WM d cI cZ n nl ns sc ff fe8 fl8 fb8 fs8 fw8 fp8 v.1 ah8 ri lh v.2.1 v.2.2.1 v.2.2.2 wn8 oc8 kq8 mf zf ++ (WC a cI cJ cG cM n nl ns sc ff fe fl fb fs fw fh fp u.2.2 ah le lst ln lah lmh fin up lo ft u.1 u.2.1 rs rf nf cr pr wf vf imf ++ (tlI cI ia ++ tlI cI ib))) := hD
  have hP := pa_m2 hP
  have hD := da_m2 hD
  refine lv_icmp_eq (tgt := 887) hx hb dL_law_366 (by decide) (fun _ => ?_) (fun c9 => absurd hq c9)
  exact K n nl ns sc ff fe fl fb fs fw fh fp u.2.2 ah le lst ln lah lmh fin up lo ft u.1 u.2.1 rs rf nf cr pr wf vf imf fe8 fl8 fb8 fs8 fw8 fp8 v.1 ah8 ri lh v.2.1 v.2.2.1 v.2.2.2 wn8 oc8 kq8 mf zf ia ib ⟨g, e9, pr9, ir1, ir2⟩ H locs hP hD hS ls hl

set_option maxHeartbeats 1000000 in
set_option maxRecDepth 100000 in
theorem lc_paid {p : Program} {l : Launch} {e : Env} {s : State} {m : MethodId} {below : List Frame} {meth : Method} {c : Code} {b L : Nat} {xs : Nat → Int32} {D : va_G} {cI cJ cZ cG cM : ClassId} {a d : Nat → Nat} {kk i k1 k2 : Nat} (C0 : FX p s m c b L xs D cI cJ cZ cG cM) (hi : i + 6 ≤ L) (hk : k1 ≤ 599000 ∧ k2 ≤ 7300000) (K : HD p l e s m below meth c b D cI cJ cZ cG cM a d kk 887 i k1 k2) : HD p l e s m below meth c b D cI cJ cZ cG cM a d kk 404 i k1 k2 := by
  obtain ⟨hx, hb, SF, hts, hX, hbl, hbA, hL, hN, hK⟩ := C0
  have hA : ∀ q : Nat, s.heap.size ≤ q → (fun q : Nat => s.heap.size ≤ q) q := fun _ h => h
  intro n nl ns sc ff fe fl fb fs fw fh fp hg ah le lst ln lah lmh fin up lo ft cm fk rs rf nf cr pr wf vf imf fe8 fl8 fb8 fs8 fw8 fp8 la ah8 ri lh by8 cm8 fk8 wn8 oc8 kq8 mf zf ia ib hLI H locs hP hD hS ls hl
  obtain ⟨g, e9, pr9, ir1, ir2⟩ := hLI
  have h1 := g.1.1
  have h6 := g.1.2.1
  have hff := g.1.2.2.1
  have hns := g.1.2.2.2
  have hsc := pr9.1
  have hV := g.2.2.2.2.1
  have hV8 := VL_cong hV e9.2.2.2.1
  have hn20 := hV.1
  have hn1 := VL_pos hV
  have hfb : ∀ j, j < n → ∃ b : Nat, b ≤ 23 ∧ fb j = nI b := RNG_n g.2.2.2.1 h6
  have hfl : ∀ j, j < n → ∃ b : Nat, b ≤ 5 ∧ fl j = nI b := RNG_n g.2.2.1 h6
  have hfb8 : ∀ j, j < n → ∃ b : Nat, b ≤ 23 ∧ fb8 j = nI b := RNG_e hfb (fun j hj => e9.2.2.1 j (by omega))
  have hfl8 : ∀ j, j < n → ∃ b : Nat, b ≤ 5 ∧ fl8 j = nI b := RNG_e hfl (fun j hj => e9.2.1 j (by omega))
  have hsw : ∀ j, j < ns → ∃ k : Nat, k ≤ 30 ∧ fw j = nI k := g.2.2.2.2.2
  have hsw8 : ∀ j, j < ns → ∃ k : Nat, k ≤ 30 ∧ fw8 (2 * j) = nI k := RNG_e hsw (fun j hj => (e9.2.2.2.2 j hj).1)
  refine lv_aload_n hx hb dL_law_404 rfl (lv_at hl 1 rfl) ?_
  refine lv_aload_n hx hb dL_law_405 rfl (lv_at hl 0 rfl) ?_
  refine lv_iload_n hx hb dL_law_406 rfl (lv_at hl 3 rfl) ?_
  refine lv_iconst (v := nI 1) hx hb dL_law_407 (by decide) ?_
  refine iadd_n (a := i) (b := 1) hx hb dL_law_408 ?_
  refine sld_n (k := i + 1) hx hb hX hbl hbA hS (by omega) (by omega) dL_law_409 ?_
  refine lv_aload_n hx hb dL_law_410 rfl (lv_at hl 0 rfl) ?_
  refine lv_iload_n hx hb dL_law_411 rfl (lv_at hl 3 rfl) ?_
  refine lv_iconst (v := nI 2) hx hb dL_law_412 (by decide) ?_
  refine iadd_n (a := i) (b := 2) hx hb dL_law_413 ?_
  refine sld_n (k := i + 2) hx hb hX hbl hbA hS (by omega) (by omega) dL_law_414 ?_
  refine cal_iT (run_V (As := [.int (xs (i + 1)), .int (xs (i + 2))]) (rest := []) SF (o_paid l D cI cJ cZ cG cM (a 0) (a 9) (a 11) (a 15) (a 19) (a 32) (a 35) (a 1) (a 2) (a 3) (a 4) (a 5) (a 7) (a 8) (nI ff) n ns fl (xs (i + 1)) (xs (i + 2)) h6) (cwV 2 hts gL_law_X7_paid rfl rfl rfl (by decide +kernel) ⟨Nat.le_of_ble_eq_true rfl, Nat.le_of_ble_eq_true rfl⟩) hN hK hP hD [0, 1, 3] rfl (by decide) 7 0 rfl rfl rfl rfl hl.1 rfl (Nat.le_of_ble_eq_true rfl) dL_law_415 ⟨by show k1 + 0 ≤ 600000; omega, by show k2 + 0 ≤ 7302250; omega⟩) hP hD hS hA [0, 1, 3] rfl rfl (fun _ => rfl) (fun r _ H locs hw hP hD hS => ?_)
  have hP : va_P D vwCl (WC a cI cJ cG cM n nl ns sc ff fe fl fb fs fw fh fp hg ah le lst ln lah lmh fin up lo ft cm fk rs rf nf cr pr wf vf imf ++ (WM d cI cZ n nl ns sc ff fe8 fl8 fb8 fs8 fw8 fp8 la ah8 ri lh by8 cm8 fk8 wn8 oc8 kq8 mf zf ++ (tlI cI ia ++ tlI cI ib))) H := hP
  have hD : va_D (fun q : Nat => s.heap.size ≤ q) (WC a cI cJ cG cM n nl ns sc ff fe fl fb fs fw fh fp hg ah le lst ln lah lmh fin up lo ft cm fk rs rf nf cr pr wf vf imf ++ (WM d cI cZ n nl ns sc ff fe8 fl8 fb8 fs8 fw8 fp8 la ah8 ri lh by8 cm8 fk8 wn8 oc8 kq8 mf zf ++ (tlI cI ia ++ tlI cI ib))) := hD
  have hP := pa_m2 hP
  have hD := da_m2 hD
  refine lv_aload_n hx hb dL_law_418 rfl (lv_at hl 2 rfl) ?_
  refine lv_aload_n hx hb dL_law_419 rfl (lv_at hl 0 rfl) ?_
  refine lv_iload_n hx hb dL_law_420 rfl (lv_at hl 3 rfl) ?_
  refine lv_iconst (v := nI 1) hx hb dL_law_421 (by decide) ?_
  refine iadd_n (a := i) (b := 1) hx hb dL_law_422 ?_
  refine sld_n (k := i + 1) hx hb hX hbl hbA hS (by omega) (by omega) dL_law_423 ?_
  refine lv_aload_n hx hb dL_law_424 rfl (lv_at hl 0 rfl) ?_
  refine lv_iload_n hx hb dL_law_425 rfl (lv_at hl 3 rfl) ?_
  refine lv_iconst (v := nI 2) hx hb dL_law_426 (by decide) ?_
  refine iadd_n (a := i) (b := 2) hx hb dL_law_427 ?_
  refine sld_n (k := i + 2) hx hb hX hbl hbA hS (by omega) (by omega) dL_law_428 ?_
  refine cal_iT (run_V (As := [.int (xs (i + 1)), .int (xs (i + 2))]) (rest := [.int r]) SF (m_paid l D cI cJ cZ cG cM (d 0) (d 1) (d 2) (d 3) (d 4) (d 5) (d 6) (d 7) (d 8) (d 9) (d 10) (d 11) (d 12) (d 13) (d 14) (nI ff) (nI ns) (nI sc) la ah8 ri lh n nl fl8 (xs (i + 1)) (xs (i + 2)) h1 h6) (cwV 2 hts gL_law_X8_paid rfl rfl rfl (by decide +kernel) ⟨Nat.le_of_ble_eq_true rfl, Nat.le_of_ble_eq_true rfl⟩) hN hK hP hD [0, 2] rfl (by decide) 8 0 rfl rfl rfl rfl hl.1 rfl (Nat.le_of_ble_eq_true rfl) dL_law_429 ⟨by show k1 + 0 ≤ 600000; omega, by show k2 + 0 ≤ 7302250; omega⟩) hP hD hS hA [0, 2] rfl rfl (fun _ => rfl) (fun r8 _ H locs hw8 hP hD hS => ?_)
  have hq : r = r8 := sm_paid g e9 hw hw8
  have hP : va_P D vwCl (WM d cI cZ n nl ns sc ff fe8 fl8 fb8 fs8 fw8 fp8 la ah8 ri lh by8 cm8 fk8 wn8 oc8 kq8 mf zf ++ (WC a cI cJ cG cM n nl ns sc ff fe fl fb fs fw fh fp hg ah le lst ln lah lmh fin up lo ft cm fk rs rf nf cr pr wf vf imf ++ (tlI cI ia ++ tlI cI ib))) H := hP
  have hD : va_D (fun q : Nat => s.heap.size ≤ q) (WM d cI cZ n nl ns sc ff fe8 fl8 fb8 fs8 fw8 fp8 la ah8 ri lh by8 cm8 fk8 wn8 oc8 kq8 mf zf ++ (WC a cI cJ cG cM n nl ns sc ff fe fl fb fs fw fh fp hg ah le lst ln lah lmh fin up lo ft cm fk rs rf nf cr pr wf vf imf ++ (tlI cI ia ++ tlI cI ib))) := hD
  have hP := pa_m2 hP
  have hD := da_m2 hD
  refine lv_icmp_eq (tgt := 887) hx hb dL_law_432 (by decide) (fun _ => ?_) (fun c9 => absurd hq c9)
  exact K n nl ns sc ff fe fl fb fs fw fh fp hg ah le lst ln lah lmh fin up lo ft cm fk rs rf nf cr pr wf vf imf fe8 fl8 fb8 fs8 fw8 fp8 la ah8 ri lh by8 cm8 fk8 wn8 oc8 kq8 mf zf ia ib ⟨g, e9, pr9, ir1, ir2⟩ H locs hP hD hS ls hl

set_option maxHeartbeats 1000000 in
set_option maxRecDepth 100000 in
theorem lc_content {p : Program} {l : Launch} {e : Env} {s : State} {m : MethodId} {below : List Frame} {meth : Method} {c : Code} {b L : Nat} {xs : Nat → Int32} {D : va_G} {cI cJ cZ cG cM : ClassId} {a d : Nat → Nat} {kk i k1 k2 : Nat} (C0 : FX p s m c b L xs D cI cJ cZ cG cM) (hi : i + 6 ≤ L) (hk : k1 ≤ 599000 ∧ k2 ≤ 7300000) (K : HD p l e s m below meth c b D cI cJ cZ cG cM a d kk 887 i k1 k2) : HD p l e s m below meth c b D cI cJ cZ cG cM a d kk 437 i k1 k2 := by
  obtain ⟨hx, hb, SF, hts, hX, hbl, hbA, hL, hN, hK⟩ := C0
  have hA : ∀ q : Nat, s.heap.size ≤ q → (fun q : Nat => s.heap.size ≤ q) q := fun _ h => h
  intro n nl ns sc ff fe fl fb fs fw fh fp hg ah le lst ln lah lmh fin up lo ft cm fk rs rf nf cr pr wf vf imf fe8 fl8 fb8 fs8 fw8 fp8 la ah8 ri lh by8 cm8 fk8 wn8 oc8 kq8 mf zf ia ib hLI H locs hP hD hS ls hl
  obtain ⟨g, e9, pr9, ir1, ir2⟩ := hLI
  have h1 := g.1.1
  have h6 := g.1.2.1
  have hff := g.1.2.2.1
  have hns := g.1.2.2.2
  have hsc := pr9.1
  have hV := g.2.2.2.2.1
  have hV8 := VL_cong hV e9.2.2.2.1
  have hn20 := hV.1
  have hn1 := VL_pos hV
  have hfb : ∀ j, j < n → ∃ b : Nat, b ≤ 23 ∧ fb j = nI b := RNG_n g.2.2.2.1 h6
  have hfl : ∀ j, j < n → ∃ b : Nat, b ≤ 5 ∧ fl j = nI b := RNG_n g.2.2.1 h6
  have hfb8 : ∀ j, j < n → ∃ b : Nat, b ≤ 23 ∧ fb8 j = nI b := RNG_e hfb (fun j hj => e9.2.2.1 j (by omega))
  have hfl8 : ∀ j, j < n → ∃ b : Nat, b ≤ 5 ∧ fl8 j = nI b := RNG_e hfl (fun j hj => e9.2.1 j (by omega))
  have hsw : ∀ j, j < ns → ∃ k : Nat, k ≤ 30 ∧ fw j = nI k := g.2.2.2.2.2
  have hsw8 : ∀ j, j < ns → ∃ k : Nat, k ≤ 30 ∧ fw8 (2 * j) = nI k := RNG_e hsw (fun j hj => (e9.2.2.2.2 j hj).1)
  refine lv_aload_n hx hb dL_law_437 rfl (lv_at hl 1 rfl) ?_
  refine lv_aload_n hx hb dL_law_438 rfl (lv_at hl 0 rfl) ?_
  refine lv_iload_n hx hb dL_law_439 rfl (lv_at hl 3 rfl) ?_
  refine lv_iconst (v := nI 1) hx hb dL_law_440 (by decide) ?_
  refine iadd_n (a := i) (b := 1) hx hb dL_law_441 ?_
  refine sld_n (k := i + 1) hx hb hX hbl hbA hS (by omega) (by omega) dL_law_442 ?_
  refine cal_iT (run_V (As := [.int (xs (i + 1))]) (rest := []) SF (o_content l D cI cJ cZ cG cM (a 0) (a 9) (a 11) (a 15) (a 19) (a 32) (a 35) (a 1) (a 2) (a 3) (a 4) (a 5) (a 7) (a 8) (nI ff) n ns fb (xs (i + 1)) h6) (cwV 1 hts gL_law_X7_content rfl rfl rfl (by decide +kernel) ⟨Nat.le_of_ble_eq_true rfl, Nat.le_of_ble_eq_true rfl⟩) hN hK hP hD [0, 1, 4] rfl (by decide) 7 0 rfl rfl rfl rfl hl.1 rfl (Nat.le_of_ble_eq_true rfl) dL_law_443 ⟨by show k1 + 0 ≤ 600000; omega, by show k2 + 0 ≤ 7302250; omega⟩) hP hD hS hA [0, 1, 4] rfl rfl (fun _ => rfl) (fun r _ H locs hw hP hD hS => ?_)
  have hP : va_P D vwCl (WC a cI cJ cG cM n nl ns sc ff fe fl fb fs fw fh fp hg ah le lst ln lah lmh fin up lo ft cm fk rs rf nf cr pr wf vf imf ++ (WM d cI cZ n nl ns sc ff fe8 fl8 fb8 fs8 fw8 fp8 la ah8 ri lh by8 cm8 fk8 wn8 oc8 kq8 mf zf ++ (tlI cI ia ++ tlI cI ib))) H := hP
  have hD : va_D (fun q : Nat => s.heap.size ≤ q) (WC a cI cJ cG cM n nl ns sc ff fe fl fb fs fw fh fp hg ah le lst ln lah lmh fin up lo ft cm fk rs rf nf cr pr wf vf imf ++ (WM d cI cZ n nl ns sc ff fe8 fl8 fb8 fs8 fw8 fp8 la ah8 ri lh by8 cm8 fk8 wn8 oc8 kq8 mf zf ++ (tlI cI ia ++ tlI cI ib))) := hD
  have hP := pa_m2 hP
  have hD := da_m2 hD
  refine lv_aload_n hx hb dL_law_446 rfl (lv_at hl 2 rfl) ?_
  refine lv_aload_n hx hb dL_law_447 rfl (lv_at hl 0 rfl) ?_
  refine lv_iload_n hx hb dL_law_448 rfl (lv_at hl 3 rfl) ?_
  refine lv_iconst (v := nI 1) hx hb dL_law_449 (by decide) ?_
  refine iadd_n (a := i) (b := 1) hx hb dL_law_450 ?_
  refine sld_n (k := i + 1) hx hb hX hbl hbA hS (by omega) (by omega) dL_law_451 ?_
  refine cal_iT (run_V (As := [.int (xs (i + 1))]) (rest := [.int r]) SF (m_content l D cI cJ cZ cG cM (d 0) (d 1) (d 2) (d 3) (d 4) (d 5) (d 6) (d 7) (d 8) (d 9) (d 10) (d 11) (d 12) (d 13) (d 14) (nI ff) (nI ns) (nI sc) la ah8 ri lh n nl fb8 (xs (i + 1)) h6) (cwV 1 hts gL_law_X8_content rfl rfl rfl (by decide +kernel) ⟨Nat.le_of_ble_eq_true rfl, Nat.le_of_ble_eq_true rfl⟩) hN hK hP hD [0, 3] rfl (by decide) 8 0 rfl rfl rfl rfl hl.1 rfl (Nat.le_of_ble_eq_true rfl) dL_law_452 ⟨by show k1 + 0 ≤ 600000; omega, by show k2 + 0 ≤ 7302250; omega⟩) hP hD hS hA [0, 3] rfl rfl (fun _ => rfl) (fun r8 _ H locs hw8 hP hD hS => ?_)
  have hq : r = r8 := sm_content g e9 hw hw8
  have hP : va_P D vwCl (WM d cI cZ n nl ns sc ff fe8 fl8 fb8 fs8 fw8 fp8 la ah8 ri lh by8 cm8 fk8 wn8 oc8 kq8 mf zf ++ (WC a cI cJ cG cM n nl ns sc ff fe fl fb fs fw fh fp hg ah le lst ln lah lmh fin up lo ft cm fk rs rf nf cr pr wf vf imf ++ (tlI cI ia ++ tlI cI ib))) H := hP
  have hD : va_D (fun q : Nat => s.heap.size ≤ q) (WM d cI cZ n nl ns sc ff fe8 fl8 fb8 fs8 fw8 fp8 la ah8 ri lh by8 cm8 fk8 wn8 oc8 kq8 mf zf ++ (WC a cI cJ cG cM n nl ns sc ff fe fl fb fs fw fh fp hg ah le lst ln lah lmh fin up lo ft cm fk rs rf nf cr pr wf vf imf ++ (tlI cI ia ++ tlI cI ib))) := hD
  have hP := pa_m2 hP
  have hD := da_m2 hD
  refine lv_icmp_eq (tgt := 887) hx hb dL_law_455 (by decide) (fun _ => ?_) (fun c9 => absurd hq c9)
  exact K n nl ns sc ff fe fl fb fs fw fh fp hg ah le lst ln lah lmh fin up lo ft cm fk rs rf nf cr pr wf vf imf fe8 fl8 fb8 fs8 fw8 fp8 la ah8 ri lh by8 cm8 fk8 wn8 oc8 kq8 mf zf ia ib ⟨g, e9, pr9, ir1, ir2⟩ H locs hP hD hS ls hl

set_option maxHeartbeats 1000000 in
set_option maxRecDepth 100000 in
theorem lc_wipe {p : Program} {l : Launch} {e : Env} {s : State} {m : MethodId} {below : List Frame} {meth : Method} {c : Code} {b L : Nat} {xs : Nat → Int32} {D : va_G} {cI cJ cZ cG cM : ClassId} {a d : Nat → Nat} {kk i k1 k2 : Nat} (C0 : FX p s m c b L xs D cI cJ cZ cG cM) (hi : i + 6 ≤ L) (hk : k1 ≤ 599000 ∧ k2 ≤ 7300000) (K : HD p l e s m below meth c b D cI cJ cZ cG cM a d kk 887 i k1 k2) : HD p l e s m below meth c b D cI cJ cZ cG cM a d kk 256 i k1 k2 := by
  obtain ⟨hx, hb, SF, hts, hX, hbl, hbA, hL, hN, hK⟩ := C0
  have hA : ∀ q : Nat, s.heap.size ≤ q → (fun q : Nat => s.heap.size ≤ q) q := fun _ h => h
  intro n nl ns sc ff fe fl fb fs fw fh fp hg ah le lst ln lah lmh fin up lo ft cm fk rs rf nf cr pr wf vf imf fe8 fl8 fb8 fs8 fw8 fp8 la ah8 ri lh by8 cm8 fk8 wn8 oc8 kq8 mf zf ia ib hLI H locs hP hD hS ls hl
  obtain ⟨g, e9, pr9, ir1, ir2⟩ := hLI
  have h1 := g.1.1
  have h6 := g.1.2.1
  have hff := g.1.2.2.1
  have hns := g.1.2.2.2
  have hsc := pr9.1
  have hV := g.2.2.2.2.1
  have hV8 := VL_cong hV e9.2.2.2.1
  have hn20 := hV.1
  have hn1 := VL_pos hV
  have hfb : ∀ j, j < n → ∃ b : Nat, b ≤ 23 ∧ fb j = nI b := RNG_n g.2.2.2.1 h6
  have hfl : ∀ j, j < n → ∃ b : Nat, b ≤ 5 ∧ fl j = nI b := RNG_n g.2.2.1 h6
  have hfb8 : ∀ j, j < n → ∃ b : Nat, b ≤ 23 ∧ fb8 j = nI b := RNG_e hfb (fun j hj => e9.2.2.1 j (by omega))
  have hfl8 : ∀ j, j < n → ∃ b : Nat, b ≤ 5 ∧ fl8 j = nI b := RNG_e hfl (fun j hj => e9.2.1 j (by omega))
  have hsw : ∀ j, j < ns → ∃ k : Nat, k ≤ 30 ∧ fw j = nI k := g.2.2.2.2.2
  have hsw8 : ∀ j, j < ns → ∃ k : Nat, k ≤ 30 ∧ fw8 (2 * j) = nI k := RNG_e hsw (fun j hj => (e9.2.2.2.2 j hj).1)
  refine lv_aload_n hx hb dL_law_256 rfl (lv_at hl 1 rfl) ?_
  refine cal_iT (run_V (As := []) (rest := []) SF (o_wipe l D cI cJ cZ cG cM (a 0) (a 9) (a 11) (a 15) (a 19) (a 32) (a 35) (a 1) (a 10) sc) (cwV 0 hts gL_law_X7_wipe rfl rfl rfl (by decide +kernel) ⟨Nat.le_of_ble_eq_true rfl, Nat.le_of_ble_eq_true rfl⟩) hN hK hP hD [0, 9] rfl (by decide) 7 0 rfl rfl rfl rfl hl.1 rfl (Nat.le_of_ble_eq_true rfl) dL_law_257 ⟨by show k1 + 0 ≤ 600000; omega, by show k2 + 0 ≤ 7302250; omega⟩) hP hD hS hA [0, 9] rfl rfl (fun _ => rfl) (fun r _ H locs hw hP hD hS => ?_)
  have hP : va_P D vwCl (WC a cI cJ cG cM n nl ns 0 ff fe fl fb fs fw fh fp hg ah le lst ln lah lmh fin up lo ft cm fk rs rf nf cr pr wf vf imf ++ (WM d cI cZ n nl ns sc ff fe8 fl8 fb8 fs8 fw8 fp8 la ah8 ri lh by8 cm8 fk8 wn8 oc8 kq8 mf zf ++ (tlI cI ia ++ tlI cI ib))) H := hP
  have hD : va_D (fun q : Nat => s.heap.size ≤ q) (WC a cI cJ cG cM n nl ns 0 ff fe fl fb fs fw fh fp hg ah le lst ln lah lmh fin up lo ft cm fk rs rf nf cr pr wf vf imf ++ (WM d cI cZ n nl ns sc ff fe8 fl8 fb8 fs8 fw8 fp8 la ah8 ri lh by8 cm8 fk8 wn8 oc8 kq8 mf zf ++ (tlI cI ia ++ tlI cI ib))) := hD
  have hP := pa_m2 hP
  have hD := da_m2 hD
  refine lv_aload_n hx hb dL_law_260 rfl (lv_at hl 2 rfl) ?_
  refine cal_iT (run_V (As := []) (rest := [.int r]) SF (m_wipe l D cI cJ cZ cG cM (d 0) (d 1) (d 2) (d 3) (d 4) (d 5) (d 6) (d 7) (d 8) (d 9) (d 10) (d 11) (d 12) (d 13) (d 14) (nI ff) (nI ns) 0 la ah8 ri lh n nl sc) (cwV 0 hts gL_law_X8_wipe rfl rfl rfl (by decide +kernel) ⟨Nat.le_of_ble_eq_true rfl, Nat.le_of_ble_eq_true rfl⟩) hN hK hP hD [0] rfl (by decide) 8 0 rfl rfl rfl rfl hl.1 rfl (Nat.le_of_ble_eq_true rfl) dL_law_261 ⟨by show k1 + 0 ≤ 600000; omega, by show k2 + 0 ≤ 7302250; omega⟩) hP hD hS hA [0] rfl rfl (fun _ => rfl) (fun r8 _ H locs hw8 hP hD hS => ?_)
  have hq : r = r8 := hw.trans hw8.symm
  have hP : va_P D vwCl (WM d cI cZ n nl ns 0 ff fe8 fl8 fb8 fs8 fw8 fp8 la ah8 ri lh by8 cm8 fk8 wn8 oc8 kq8 mf zf ++ (WC a cI cJ cG cM n nl ns 0 ff fe fl fb fs fw fh fp hg ah le lst ln lah lmh fin up lo ft cm fk rs rf nf cr pr wf vf imf ++ (tlI cI ia ++ tlI cI ib))) H := hP
  have hD : va_D (fun q : Nat => s.heap.size ≤ q) (WM d cI cZ n nl ns 0 ff fe8 fl8 fb8 fs8 fw8 fp8 la ah8 ri lh by8 cm8 fk8 wn8 oc8 kq8 mf zf ++ (WC a cI cJ cG cM n nl ns 0 ff fe fl fb fs fw fh fp hg ah le lst ln lah lmh fin up lo ft cm fk rs rf nf cr pr wf vf imf ++ (tlI cI ia ++ tlI cI ib))) := hD
  have hP := pa_m2 hP
  have hD := da_m2 hD
  refine lv_icmp_eq (tgt := 887) hx hb dL_law_264 (by decide) (fun _ => ?_) (fun c9 => absurd hq c9)
  exact K n nl ns 0 ff fe fl fb fs fw fh fp hg ah le lst ln lah lmh fin up lo ft cm fk rs rf nf cr pr wf vf imf fe8 fl8 fb8 fs8 fw8 fp8 la ah8 ri lh by8 cm8 fk8 wn8 oc8 kq8 mf zf ia ib ⟨g, e9, PR_0, ir1, ir2⟩ H locs hP hD hS ls hl

set_option maxHeartbeats 1000000 in
set_option maxRecDepth 100000 in
theorem lc_forget {p : Program} {l : Launch} {e : Env} {s : State} {m : MethodId} {below : List Frame} {meth : Method} {c : Code} {b L : Nat} {xs : Nat → Int32} {D : va_G} {cI cJ cZ cG cM : ClassId} {a d : Nat → Nat} {kk i k1 k2 : Nat} (C0 : FX p s m c b L xs D cI cJ cZ cG cM) (hi : i + 6 ≤ L) (hk : k1 ≤ 599000 ∧ k2 ≤ 7300000) (K : HD p l e s m below meth c b D cI cJ cZ cG cM a d kk 887 i k1 k2) : HD p l e s m below meth c b D cI cJ cZ cG cM a d kk 655 i k1 k2 := by
  obtain ⟨hx, hb, SF, hts, hX, hbl, hbA, hL, hN, hK⟩ := C0
  have hA : ∀ q : Nat, s.heap.size ≤ q → (fun q : Nat => s.heap.size ≤ q) q := fun _ h => h
  intro n nl ns sc ff fe fl fb fs fw fh fp hg ah le lst ln lah lmh fin up lo ft cm fk rs rf nf cr pr wf vf imf fe8 fl8 fb8 fs8 fw8 fp8 la ah8 ri lh by8 cm8 fk8 wn8 oc8 kq8 mf zf ia ib hLI H locs hP hD hS ls hl
  obtain ⟨g, e9, pr9, ir1, ir2⟩ := hLI
  have h1 := g.1.1
  have h6 := g.1.2.1
  have hff := g.1.2.2.1
  have hns := g.1.2.2.2
  have hsc := pr9.1
  have hV := g.2.2.2.2.1
  have hV8 := VL_cong hV e9.2.2.2.1
  have hn20 := hV.1
  have hn1 := VL_pos hV
  have hfb : ∀ j, j < n → ∃ b : Nat, b ≤ 23 ∧ fb j = nI b := RNG_n g.2.2.2.1 h6
  have hfl : ∀ j, j < n → ∃ b : Nat, b ≤ 5 ∧ fl j = nI b := RNG_n g.2.2.1 h6
  have hfb8 : ∀ j, j < n → ∃ b : Nat, b ≤ 23 ∧ fb8 j = nI b := RNG_e hfb (fun j hj => e9.2.2.1 j (by omega))
  have hfl8 : ∀ j, j < n → ∃ b : Nat, b ≤ 5 ∧ fl8 j = nI b := RNG_e hfl (fun j hj => e9.2.1 j (by omega))
  have hsw : ∀ j, j < ns → ∃ k : Nat, k ≤ 30 ∧ fw j = nI k := g.2.2.2.2.2
  have hsw8 : ∀ j, j < ns → ∃ k : Nat, k ≤ 30 ∧ fw8 (2 * j) = nI k := RNG_e hsw (fun j hj => (e9.2.2.2.2 j hj).1)
  refine lv_aload_n hx hb dL_law_655 rfl (lv_at hl 1 rfl) ?_
  refine cal_iT (run_V (As := []) (rest := []) SF (o_forget l D cI cJ cZ cG cM (a 0) (a 9) (a 11) (a 15) (a 19) (a 32) (a 35) (a 1) (a 2) (a 3) (a 4) (a 5) (a 7) (a 8) (nI ff) n ns) (cwV 0 hts gL_law_X7_forget rfl rfl rfl (by decide +kernel) ⟨Nat.le_of_ble_eq_true rfl, Nat.le_of_ble_eq_true rfl⟩) hN hK hP hD [0, 1] rfl (by decide) 7 0 rfl rfl rfl rfl hl.1 rfl (Nat.le_of_ble_eq_true rfl) dL_law_656 ⟨by show k1 + 0 ≤ 600000; omega, by show k2 + 0 ≤ 7302250; omega⟩) hP hD hS hA [0, 1] rfl rfl (fun _ => rfl) (fun r _ H locs hw hP hD hS => ?_)
  have hP : va_P D vwCl (WC a cI cJ cG cM n nl 0 sc ff fe fl fb fs fw fh fp hg ah le lst ln lah lmh fin up lo ft cm fk rs rf nf cr pr wf vf imf ++ (WM d cI cZ n nl ns sc ff fe8 fl8 fb8 fs8 fw8 fp8 la ah8 ri lh by8 cm8 fk8 wn8 oc8 kq8 mf zf ++ (tlI cI ia ++ tlI cI ib))) H := hP
  have hD : va_D (fun q : Nat => s.heap.size ≤ q) (WC a cI cJ cG cM n nl 0 sc ff fe fl fb fs fw fh fp hg ah le lst ln lah lmh fin up lo ft cm fk rs rf nf cr pr wf vf imf ++ (WM d cI cZ n nl ns sc ff fe8 fl8 fb8 fs8 fw8 fp8 la ah8 ri lh by8 cm8 fk8 wn8 oc8 kq8 mf zf ++ (tlI cI ia ++ tlI cI ib))) := hD
  have hP := pa_m2 hP
  have hD := da_m2 hD
  refine lv_aload_n hx hb dL_law_659 rfl (lv_at hl 2 rfl) ?_
  refine cal_iT (run_V (As := []) (rest := [.int r]) SF (m_forget l D cI cJ cZ cG cM (d 0) (d 1) (d 2) (d 3) (d 4) (d 5) (d 6) (d 7) (d 8) (d 9) (d 10) (d 11) (d 12) (d 13) (d 14) (nI ff) 0 (nI sc) la ah8 ri lh n nl ns) (cwV 0 hts gL_law_X8_forget rfl rfl rfl (by decide +kernel) ⟨Nat.le_of_ble_eq_true rfl, Nat.le_of_ble_eq_true rfl⟩) hN hK hP hD [0] rfl (by decide) 8 0 rfl rfl rfl rfl hl.1 rfl (Nat.le_of_ble_eq_true rfl) dL_law_660 ⟨by show k1 + 0 ≤ 600000; omega, by show k2 + 0 ≤ 7302250; omega⟩) hP hD hS hA [0] rfl rfl (fun _ => rfl) (fun r8 _ H locs hw8 hP hD hS => ?_)
  have hq : r = r8 := hw.trans hw8.symm
  have hP : va_P D vwCl (WM d cI cZ n nl 0 sc ff fe8 fl8 fb8 fs8 fw8 fp8 la ah8 ri lh by8 cm8 fk8 wn8 oc8 kq8 mf zf ++ (WC a cI cJ cG cM n nl 0 sc ff fe fl fb fs fw fh fp hg ah le lst ln lah lmh fin up lo ft cm fk rs rf nf cr pr wf vf imf ++ (tlI cI ia ++ tlI cI ib))) H := hP
  have hD : va_D (fun q : Nat => s.heap.size ≤ q) (WM d cI cZ n nl 0 sc ff fe8 fl8 fb8 fs8 fw8 fp8 la ah8 ri lh by8 cm8 fk8 wn8 oc8 kq8 mf zf ++ (WC a cI cJ cG cM n nl 0 sc ff fe fl fb fs fw fh fp hg ah le lst ln lah lmh fin up lo ft cm fk rs rf nf cr pr wf vf imf ++ (tlI cI ia ++ tlI cI ib))) := hD
  have hP := pa_m2 hP
  have hD := da_m2 hD
  refine lv_icmp_eq (tgt := 887) hx hb dL_law_663 (by decide) (fun _ => ?_) (fun c9 => absurd hq c9)
  exact K n nl 0 sc ff fe fl fb fs fw fh fp hg ah le lst ln lah lmh fin up lo ft cm fk rs rf nf cr pr wf vf imf fe8 fl8 fb8 fs8 fw8 fp8 la ah8 ri lh by8 cm8 fk8 wn8 oc8 kq8 mf zf ia ib ⟨(kp_forget g e9).1, (kp_forget g e9).2, pr9, ir1, ir2⟩ H locs hP hD hS ls hl

set_option maxHeartbeats 1000000 in
set_option maxRecDepth 100000 in
theorem lc_fault {p : Program} {l : Launch} {e : Env} {s : State} {m : MethodId} {below : List Frame} {meth : Method} {c : Code} {b L : Nat} {xs : Nat → Int32} {D : va_G} {cI cJ cZ cG cM : ClassId} {a d : Nat → Nat} {kk i k1 k2 : Nat} (C0 : FX p s m c b L xs D cI cJ cZ cG cM) (hi : i + 6 ≤ L) (hk : k1 ≤ 599000 ∧ k2 ≤ 7300000) (K : HD p l e s m below meth c b D cI cJ cZ cG cM a d kk 887 i k1 k2) : HD p l e s m below meth c b D cI cJ cZ cG cM a d kk 269 i k1 k2 := by
  obtain ⟨hx, hb, SF, hts, hX, hbl, hbA, hL, hN, hK⟩ := C0
  have hA : ∀ q : Nat, s.heap.size ≤ q → (fun q : Nat => s.heap.size ≤ q) q := fun _ h => h
  intro n nl ns sc ff fe fl fb fs fw fh fp hg ah le lst ln lah lmh fin up lo ft cm fk rs rf nf cr pr wf vf imf fe8 fl8 fb8 fs8 fw8 fp8 la ah8 ri lh by8 cm8 fk8 wn8 oc8 kq8 mf zf ia ib hLI H locs hP hD hS ls hl
  obtain ⟨g, e9, pr9, ir1, ir2⟩ := hLI
  have h1 := g.1.1
  have h6 := g.1.2.1
  have hff := g.1.2.2.1
  have hns := g.1.2.2.2
  have hsc := pr9.1
  have hV := g.2.2.2.2.1
  have hV8 := VL_cong hV e9.2.2.2.1
  have hn20 := hV.1
  have hn1 := VL_pos hV
  have hfb : ∀ j, j < n → ∃ b : Nat, b ≤ 23 ∧ fb j = nI b := RNG_n g.2.2.2.1 h6
  have hfl : ∀ j, j < n → ∃ b : Nat, b ≤ 5 ∧ fl j = nI b := RNG_n g.2.2.1 h6
  have hfb8 : ∀ j, j < n → ∃ b : Nat, b ≤ 23 ∧ fb8 j = nI b := RNG_e hfb (fun j hj => e9.2.2.1 j (by omega))
  have hfl8 : ∀ j, j < n → ∃ b : Nat, b ≤ 5 ∧ fl8 j = nI b := RNG_e hfl (fun j hj => e9.2.1 j (by omega))
  have hsw : ∀ j, j < ns → ∃ k : Nat, k ≤ 30 ∧ fw j = nI k := g.2.2.2.2.2
  have hsw8 : ∀ j, j < ns → ∃ k : Nat, k ≤ 30 ∧ fw8 (2 * j) = nI k := RNG_e hsw (fun j hj => (e9.2.2.2.2 j hj).1)
  refine lv_aload_n hx hb dL_law_269 rfl (lv_at hl 1 rfl) ?_
  refine cal_iT (run_V (As := []) (rest := []) SF (o_fault l D cI cJ cZ cG cM (a 0) (a 9) (a 11) (a 15) (a 19) (a 32) (a 35) (a 1) (a 10) sc fp hsc) (cwV 0 hts gL_law_X7_fault rfl rfl rfl (by decide +kernel) ⟨Nat.le_of_ble_eq_true rfl, Nat.le_of_ble_eq_true rfl⟩) hN hK hP hD [0, 9, 10] rfl (by decide) 7 0 rfl rfl rfl rfl hl.1 rfl (Nat.le_of_ble_eq_true rfl) dL_law_270 ⟨by show k1 + 0 ≤ 600000; omega, by show k2 + 0 ≤ 7302250; omega⟩) hP hD hS hA [0, 9, 10] rfl rfl (fun _ => rfl) (fun r _ H locs hw hP hD hS => ?_)
  have hP : va_P D vwCl (WC a cI cJ cG cM n nl ns sc ff fe fl fb fs fw fh fp hg ah le lst ln lah lmh fin up lo ft cm fk rs rf nf cr pr wf vf imf ++ (WM d cI cZ n nl ns sc ff fe8 fl8 fb8 fs8 fw8 fp8 la ah8 ri lh by8 cm8 fk8 wn8 oc8 kq8 mf zf ++ (tlI cI ia ++ tlI cI ib))) H := hP
  have hD : va_D (fun q : Nat => s.heap.size ≤ q) (WC a cI cJ cG cM n nl ns sc ff fe fl fb fs fw fh fp hg ah le lst ln lah lmh fin up lo ft cm fk rs rf nf cr pr wf vf imf ++ (WM d cI cZ n nl ns sc ff fe8 fl8 fb8 fs8 fw8 fp8 la ah8 ri lh by8 cm8 fk8 wn8 oc8 kq8 mf zf ++ (tlI cI ia ++ tlI cI ib))) := hD
  have hP := pa_m2 hP
  have hD := da_m2 hD
  refine lv_aload_n hx hb dL_law_273 rfl (lv_at hl 2 rfl) ?_
  refine cal_iT (run_V (As := []) (rest := [.int r]) SF (m_fault l D cI cJ cZ cG cM (d 0) (d 1) (d 2) (d 3) (d 4) (d 5) (d 6) (d 7) (d 8) (d 9) (d 10) (d 11) (d 12) (d 13) (d 14) (nI ff) (nI ns) 0 la ah8 ri lh n nl sc fp8 hsc) (cwV 0 hts gL_law_X8_fault rfl rfl rfl (by decide +kernel) ⟨Nat.le_of_ble_eq_true rfl, Nat.le_of_ble_eq_true rfl⟩) hN hK hP hD [0, 6] rfl (by decide) 8 0 rfl rfl rfl rfl hl.1 rfl (Nat.le_of_ble_eq_true rfl) dL_law_274 ⟨by show k1 + 0 ≤ 600000; omega, by show k2 + 0 ≤ 7302250; omega⟩) hP hD hS hA [0, 6] rfl rfl (fun _ => rfl) (fun r8 _ H locs hw8 hP hD hS => ?_)
  have hq : r = r8 := sm_fault pr9 hw hw8
  have hP : va_P D vwCl (WM d cI cZ n nl ns sc ff fe8 fl8 fb8 fs8 fw8 fp8 la ah8 ri lh by8 cm8 fk8 wn8 oc8 kq8 mf zf ++ (WC a cI cJ cG cM n nl ns sc ff fe fl fb fs fw fh fp hg ah le lst ln lah lmh fin up lo ft cm fk rs rf nf cr pr wf vf imf ++ (tlI cI ia ++ tlI cI ib))) H := hP
  have hD : va_D (fun q : Nat => s.heap.size ≤ q) (WM d cI cZ n nl ns sc ff fe8 fl8 fb8 fs8 fw8 fp8 la ah8 ri lh by8 cm8 fk8 wn8 oc8 kq8 mf zf ++ (WC a cI cJ cG cM n nl ns sc ff fe fl fb fs fw fh fp hg ah le lst ln lah lmh fin up lo ft cm fk rs rf nf cr pr wf vf imf ++ (tlI cI ia ++ tlI cI ib))) := hD
  have hP := pa_m2 hP
  have hD := da_m2 hD
  refine lv_icmp_eq (tgt := 887) hx hb dL_law_277 (by decide) (fun _ => ?_) (fun c9 => absurd hq c9)
  exact K n nl ns sc ff fe fl fb fs fw fh fp hg ah le lst ln lah lmh fin up lo ft cm fk rs rf nf cr pr wf vf imf fe8 fl8 fb8 fs8 fw8 fp8 la ah8 ri lh by8 cm8 fk8 wn8 oc8 kq8 mf zf ia ib ⟨g, e9, pr9, ir1, ir2⟩ H locs hP hD hS ls hl

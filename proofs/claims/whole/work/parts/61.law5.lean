/-! THE LAW: restore, image -/
set_option maxHeartbeats 1000000 in
set_option maxRecDepth 100000 in
theorem lc_restoreN {p : Program} {l : Launch} {e : Env} {s : State} {m : MethodId} {below : List Frame} {meth : Method} {c : Code} {b L : Nat} {xs : Nat → Int32} {D : va_G} {cI cJ cZ cG cM : ClassId} {a d : Nat → Nat} {kk i k1 k2 : Nat} (C0 : FX p s m c b L xs D cI cJ cZ cG cM) (hi : i + 6 ≤ L) (hk : k1 ≤ 599000 ∧ k2 ≤ 7300000) (hC : ¬ (nI 0 ≤ xs (i + 1) ∧ xs (i + 1) ≤ nI 1)) (K : HD p l e s m below meth c b D cI cJ cZ cG cM a d kk 887 i k1 k2) : HD p l e s m below meth c b D cI cJ cZ cG cM a d kk 841 i k1 k2 := by
  obtain ⟨hx, hb, SF, hts, hX, hbl, hbA, hL, hN, hK⟩ := C0
  have hA : ∀ q : Nat, s.heap.size ≤ q → (fun q : Nat => s.heap.size ≤ q) q := fun _ h => h
  intro n nl ns sc ff fe fl fb fs fw fh fp hg ah le lst ln lah lmh fin up lo ft cm fk rs rf nf cr pr wf vf imf fe8 fl8 fb8 fs8 fw8 fp8 la ah8 ri lh by8 cm8 fk8 wn8 oc8 kq8 mf zf ia ib hLI H locs hP hD hS ls hl
  obtain ⟨g, e9, pr9, ir1, ir2⟩ := hLI
  have h1 := g.1.1
  have h6 := g.1.2.1
  have hff := g.1.2.2.1
  have hns := g.1.2.2.2
  have hsc := pr9.1
  have hV := g.2.2.2.2.1
  have hV8 := VL_cong hV e9.2.2.2.1
  have hn20 := hV.1
  have hn1 := VL_pos hV
  have hfb : ∀ j, j < n → ∃ b : Nat, b ≤ 23 ∧ fb j = nI b := RNG_n g.2.2.2.1 h6
  have hfl : ∀ j, j < n → ∃ b : Nat, b ≤ 5 ∧ fl j = nI b := RNG_n g.2.2.1 h6
  have hfb8 : ∀ j, j < n → ∃ b : Nat, b ≤ 23 ∧ fb8 j = nI b := RNG_e hfb (fun j hj => e9.2.2.1 j (by omega))
  have hfl8 : ∀ j, j < n → ∃ b : Nat, b ≤ 5 ∧ fl8 j = nI b := RNG_e hfl (fun j hj => e9.2.1 j (by omega))
  have hsw : ∀ j, j < ns → ∃ k : Nat, k ≤ 30 ∧ fw j = nI k := g.2.2.2.2.2
  have hsw8 : ∀ j, j < ns → ∃ k : Nat, k ≤ 30 ∧ fw8 (2 * j) = nI k := RNG_e hsw (fun j hj => (e9.2.2.2.2 j hj).1)
  refine lv_aload_n hx hb dL_law_841 rfl (lv_at hl 1 rfl) ?_
  refine lv_aload_n hx hb dL_law_842 rfl (lv_at hl 0 rfl) ?_
  refine lv_iload_n hx hb dL_law_843 rfl (lv_at hl 3 rfl) ?_
  refine lv_iconst (v := nI 1) hx hb dL_law_844 (by decide) ?_
  refine iadd_n (a := i) (b := 1) hx hb dL_law_845 ?_
  refine sld_n (k := i + 1) hx hb hX hbl hbA hS (by omega) (by omega) dL_law_846 ?_
  refine cal_iT (run_V (As := [.int (xs (i + 1))]) (rest := []) SF (o_restoreN l D cI cJ cZ cG cM (a 0) (a 9) (a 11) (a 15) (a 19) (a 32) (a 35) (a 1) (xs (i + 1)) hC) (cwV 1 hts gL_law_X7_restore rfl rfl rfl (by decide +kernel) ⟨Nat.le_of_ble_eq_true rfl, Nat.le_of_ble_eq_true rfl⟩) hN hK hP hD [0] rfl (by decide) 7 0 rfl rfl rfl rfl hl.1 rfl (Nat.le_of_ble_eq_true rfl) dL_law_847 ⟨by show k1 + 0 ≤ 600000; omega, by show k2 + 0 ≤ 7302250; omega⟩) hP hD hS hA [0] rfl rfl (fun _ => rfl) (fun r _ H locs hw hP hD hS => ?_)
  have hP : va_P D vwCl (WC a cI cJ cG cM n nl ns sc ff fe fl fb fs fw fh fp hg ah le lst ln lah lmh fin up lo ft cm fk rs rf nf cr pr wf vf imf ++ (WM d cI cZ n nl ns sc ff fe8 fl8 fb8 fs8 fw8 fp8 la ah8 ri lh by8 cm8 fk8 wn8 oc8 kq8 mf zf ++ (tlI cI ia ++ tlI cI ib))) H := hP
  have hD : va_D (fun q : Nat => s.heap.size ≤ q) (WC a cI cJ cG cM n nl ns sc ff fe fl fb fs fw fh fp hg ah le lst ln lah lmh fin up lo ft cm fk rs rf nf cr pr wf vf imf ++ (WM d cI cZ n nl ns sc ff fe8 fl8 fb8 fs8 fw8 fp8 la ah8 ri lh by8 cm8 fk8 wn8 oc8 kq8 mf zf ++ (tlI cI ia ++ tlI cI ib))) := hD
  have hP := pa_m2 hP
  have hD := da_m2 hD
  refine lv_aload_n hx hb dL_law_850 rfl (lv_at hl 2 rfl) ?_
  refine lv_aload_n hx hb dL_law_851 rfl (lv_at hl 0 rfl) ?_
  refine lv_iload_n hx hb dL_law_852 rfl (lv_at hl 3 rfl) ?_
  refine lv_iconst (v := nI 1) hx hb dL_law_853 (by decide) ?_
  refine iadd_n (a := i) (b := 1) hx hb dL_law_854 ?_
  refine sld_n (k := i + 1) hx hb hX hbl hbA hS (by omega) (by omega) dL_law_855 ?_
  refine cal_iT (run_V (As := [.int (xs (i + 1))]) (rest := [.int r]) SF (m_restoreN l D cI cJ cZ cG cM (d 0) (d 1) (d 2) (d 3) (d 4) (d 5) (d 6) (d 7) (d 8) (d 9) (d 10) (d 11) (d 12) (d 13) (d 14) (nI ff) (nI ns) (nI sc) la ah8 ri lh n nl (xs (i + 1)) hC) (cwV 1 hts gL_law_X8_restore rfl rfl rfl (by decide +kernel) ⟨Nat.le_of_ble_eq_true rfl, Nat.le_of_ble_eq_true rfl⟩) hN hK hP hD [0] rfl (by decide) 8 0 rfl rfl rfl rfl hl.1 rfl (Nat.le_of_ble_eq_true rfl) dL_law_856 ⟨by show k1 + 0 ≤ 600000; omega, by show k2 + 0 ≤ 7302250; omega⟩) hP hD hS hA [0] rfl rfl (fun _ => rfl) (fun r8 _ H locs hw8 hP hD hS => ?_)
  have hq : r = r8 := hw.trans hw8.symm
  have hP : va_P D vwCl (WM d cI cZ n nl ns sc ff fe8 fl8 fb8 fs8 fw8 fp8 la ah8 ri lh by8 cm8 fk8 wn8 oc8 kq8 mf zf ++ (WC a cI cJ cG cM n nl ns sc ff fe fl fb fs fw fh fp hg ah le lst ln lah lmh fin up lo ft cm fk rs rf nf cr pr wf vf imf ++ (tlI cI ia ++ tlI cI ib))) H := hP
  have hD : va_D (fun q : Nat => s.heap.size ≤ q) (WM d cI cZ n nl ns sc ff fe8 fl8 fb8 fs8 fw8 fp8 la ah8 ri lh by8 cm8 fk8 wn8 oc8 kq8 mf zf ++ (WC a cI cJ cG cM n nl ns sc ff fe fl fb fs fw fh fp hg ah le lst ln lah lmh fin up lo ft cm fk rs rf nf cr pr wf vf imf ++ (tlI cI ia ++ tlI cI ib))) := hD
  have hP := pa_m2 hP
  have hD := da_m2 hD
  refine lv_icmp_eq (tgt := 887) hx hb dL_law_859 (by decide) (fun _ => ?_) (fun c9 => absurd hq c9)
  exact K n nl ns sc ff fe fl fb fs fw fh fp hg ah le lst ln lah lmh fin up lo ft cm fk rs rf nf cr pr wf vf imf fe8 fl8 fb8 fs8 fw8 fp8 la ah8 ri lh by8 cm8 fk8 wn8 oc8 kq8 mf zf ia ib ⟨g, e9, pr9, ir1, ir2⟩ H locs hP hD hS ls hl
set_option maxHeartbeats 1000000 in
set_option maxRecDepth 100000 in
theorem lc_restoreA {p : Program} {l : Launch} {e : Env} {s : State} {m : MethodId} {below : List Frame} {meth : Method} {c : Code} {b L : Nat} {xs : Nat → Int32} {D : va_G} {cI cJ cZ cG cM : ClassId} {a d : Nat → Nat} {kk i k1 k2 : Nat} (C0 : FX p s m c b L xs D cI cJ cZ cG cM) (hi : i + 6 ≤ L) (hk : k1 ≤ 599000 ∧ k2 ≤ 7300000) (hkk : kk ≤ 1) (hx1 : xs (i + 1) = nI kk) (K : HD p l e s m below meth c b D cI cJ cZ cG cM a d kk 887 i k1 k2) : HD p l e s m below meth c b D cI cJ cZ cG cM a d kk 841 i k1 k2 := by
  obtain ⟨hx, hb, SF, hts, hX, hbl, hbA, hL, hN, hK⟩ := C0
  have hA : ∀ q : Nat, s.heap.size ≤ q → (fun q : Nat => s.heap.size ≤ q) q := fun _ h => h
  intro n nl ns sc ff fe fl fb fs fw fh fp hg ah le lst ln lah lmh fin up lo ft cm fk rs rf nf cr pr wf vf imf fe8 fl8 fb8 fs8 fw8 fp8 la ah8 ri lh by8 cm8 fk8 wn8 oc8 kq8 mf zf ia ib hLI H locs hP hD hS ls hl
  obtain ⟨g, e9, pr9, ir1, ir2⟩ := hLI
  have h1 := g.1.1
  have h6 := g.1.2.1
  have hff := g.1.2.2.1
  have hns := g.1.2.2.2
  have hsc := pr9.1
  have hV := g.2.2.2.2.1
  have hV8 := VL_cong hV e9.2.2.2.1
  have hn20 := hV.1
  have hn1 := VL_pos hV
  have hfb : ∀ j, j < n → ∃ b : Nat, b ≤ 23 ∧ fb j = nI b := RNG_n g.2.2.2.1 h6
  have hfl : ∀ j, j < n → ∃ b : Nat, b ≤ 5 ∧ fl j = nI b := RNG_n g.2.2.1 h6
  have hfb8 : ∀ j, j < n → ∃ b : Nat, b ≤ 23 ∧ fb8 j = nI b := RNG_e hfb (fun j hj => e9.2.2.1 j (by omega))
  have hfl8 : ∀ j, j < n → ∃ b : Nat, b ≤ 5 ∧ fl8 j = nI b := RNG_e hfl (fun j hj => e9.2.1 j (by omega))
  have hsw : ∀ j, j < ns → ∃ k : Nat, k ≤ 30 ∧ fw j = nI k := g.2.2.2.2.2
  have hsw8 : ∀ j, j < ns → ∃ k : Nat, k ≤ 30 ∧ fw8 (2 * j) = nI k := RNG_e hsw (fun j hj => (e9.2.2.2.2 j hj).1)
  rcases ia with _ | ⟨y0, ye, yl, yb, yw, ys, yv, yz, n2, nl2, ns2, ff2, fe2, fl2, fb2, fs2, fw2, fh2⟩
  · refine lv_aload_n hx hb dL_law_841 rfl (lv_at hl 1 rfl) ?_
    refine lv_aload_n hx hb dL_law_842 rfl (lv_at hl 0 rfl) ?_
    refine lv_iload_n hx hb dL_law_843 rfl (lv_at hl 3 rfl) ?_
    refine lv_iconst (v := nI 1) hx hb dL_law_844 (by decide) ?_
    refine iadd_n (a := i) (b := 1) hx hb dL_law_845 ?_
    refine sld_n (k := i + 1) hx hb hX hbl hbA hS (by omega) (by omega) dL_law_846 ?_
    rw [hx1]
    refine cal_iT (run_V (As := [.int (nI kk)]) (rest := []) SF (o_restoreZ l D cI cJ cZ cG cM (a 0) (a 9) (a 11) (a 15) (a 19) (a 32) (a 35) (a 1) kk imf hkk ir1.1) (cwV 1 hts gL_law_X7_restore rfl rfl rfl (by decide +kernel) ⟨Nat.le_of_ble_eq_true rfl, Nat.le_of_ble_eq_true rfl⟩) hN hK hP hD [0, 35] rfl (by decide) 7 0 rfl rfl rfl rfl hl.1 rfl (Nat.le_of_ble_eq_true rfl) dL_law_847 ⟨by show k1 + 0 ≤ 600000; omega, by show k2 + 0 ≤ 7302250; omega⟩) hP hD hS hA [0, 35] rfl rfl (fun _ => rfl) (fun r _ H locs hw hP hD hS => ?_)
    have hP : va_P D vwCl (WC a cI cJ cG cM n nl ns sc ff fe fl fb fs fw fh fp hg ah le lst ln lah lmh fin up lo ft cm fk rs rf nf cr pr wf vf imf ++ (WM d cI cZ n nl ns sc ff fe8 fl8 fb8 fs8 fw8 fp8 la ah8 ri lh by8 cm8 fk8 wn8 oc8 kq8 mf zf ++ (tlI cI none ++ tlI cI ib))) H := hP
    have hD : va_D (fun q : Nat => s.heap.size ≤ q) (WC a cI cJ cG cM n nl ns sc ff fe fl fb fs fw fh fp hg ah le lst ln lah lmh fin up lo ft cm fk rs rf nf cr pr wf vf imf ++ (WM d cI cZ n nl ns sc ff fe8 fl8 fb8 fs8 fw8 fp8 la ah8 ri lh by8 cm8 fk8 wn8 oc8 kq8 mf zf ++ (tlI cI none ++ tlI cI ib))) := hD
    have hP := pa_m2 hP
    have hD := da_m2 hD
    refine lv_aload_n hx hb dL_law_850 rfl (lv_at hl 2 rfl) ?_
    refine lv_aload_n hx hb dL_law_851 rfl (lv_at hl 0 rfl) ?_
    refine lv_iload_n hx hb dL_law_852 rfl (lv_at hl 3 rfl) ?_
    refine lv_iconst (v := nI 1) hx hb dL_law_853 (by decide) ?_
    refine iadd_n (a := i) (b := 1) hx hb dL_law_854 ?_
    refine sld_n (k := i + 1) hx hb hX hbl hbA hS (by omega) (by omega) dL_law_855 ?_
    rw [hx1]
    refine cal_iT (run_V (As := [.int (nI kk)]) (rest := [.int r]) SF (m_restoreZ l D cI cJ cZ cG cM (d 0) (d 1) (d 2) (d 3) (d 4) (d 5) (d 6) (d 7) (d 8) (d 9) (d 10) (d 11) (d 12) (d 13) (d 14) (nI ff) (nI ns) (nI sc) la ah8 ri lh n nl kk zf hkk ir1.2) (cwV 1 hts gL_law_X8_restore rfl rfl rfl (by decide +kernel) ⟨Nat.le_of_ble_eq_true rfl, Nat.le_of_ble_eq_true rfl⟩) hN hK hP hD [0, 14] rfl (by decide) 8 0 rfl rfl rfl rfl hl.1 rfl (Nat.le_of_ble_eq_true rfl) dL_law_856 ⟨by show k1 + 0 ≤ 600000; omega, by show k2 + 0 ≤ 7302250; omega⟩) hP hD hS hA [0, 14] rfl rfl (fun _ => rfl) (fun r8 _ H locs hw8 hP hD hS => ?_)
    have hq : r = r8 := hw.trans hw8.symm
    have hP : va_P D vwCl (WM d cI cZ n nl ns sc ff fe8 fl8 fb8 fs8 fw8 fp8 la ah8 ri lh by8 cm8 fk8 wn8 oc8 kq8 mf zf ++ (WC a cI cJ cG cM n nl ns sc ff fe fl fb fs fw fh fp hg ah le lst ln lah lmh fin up lo ft cm fk rs rf nf cr pr wf vf imf ++ (tlI cI none ++ tlI cI ib))) H := hP
    have hD : va_D (fun q : Nat => s.heap.size ≤ q) (WM d cI cZ n nl ns sc ff fe8 fl8 fb8 fs8 fw8 fp8 la ah8 ri lh by8 cm8 fk8 wn8 oc8 kq8 mf zf ++ (WC a cI cJ cG cM n nl ns sc ff fe fl fb fs fw fh fp hg ah le lst ln lah lmh fin up lo ft cm fk rs rf nf cr pr wf vf imf ++ (tlI cI none ++ tlI cI ib))) := hD
    have hP := pa_m2 hP
    have hD := da_m2 hD
    refine lv_icmp_eq (tgt := 887) hx hb dL_law_859 (by decide) (fun _ => ?_) (fun c9 => absurd hq c9)
    exact K n nl ns sc ff fe fl fb fs fw fh fp hg ah le lst ln lah lmh fin up lo ft cm fk rs rf nf cr pr wf vf imf fe8 fl8 fb8 fs8 fw8 fp8 la ah8 ri lh by8 cm8 fk8 wn8 oc8 kq8 mf zf none ib ⟨g, e9, pr9, ir1, ir2⟩ H locs hP hD hS ls hl
  · obtain ⟨j1, j2, ⟨b1, b2, b3, b4⟩, g2, e2⟩ := ir1
    have hn2 := g2.2.2.2.2.1.1
    have hP := pa_m3 hP
    have hD := da_m3 hD
    have hP : va_P D vwCl ((WC a cI cJ cG cM n nl ns sc ff fe fl fb fs fw fh fp hg ah le lst ln lah lmh fin up lo ft cm fk rs rf nf cr pr wf vf imf ++ tl8 cI y0 ye yl yb yw ys yv yz n2 nl2 ns2 ff2 fe2 fl2 fb2 fs2 fw2 fh2) ++ (WM d cI cZ n nl ns sc ff fe8 fl8 fb8 fs8 fw8 fp8 la ah8 ri lh by8 cm8 fk8 wn8 oc8 kq8 mf zf ++ tlI cI ib)) H := hP
    have hD : va_D (fun q : Nat => s.heap.size ≤ q) ((WC a cI cJ cG cM n nl ns sc ff fe fl fb fs fw fh fp hg ah le lst ln lah lmh fin up lo ft cm fk rs rf nf cr pr wf vf imf ++ tl8 cI y0 ye yl yb yw ys yv yz n2 nl2 ns2 ff2 fe2 fl2 fb2 fs2 fw2 fh2) ++ (WM d cI cZ n nl ns sc ff fe8 fl8 fb8 fs8 fw8 fp8 la ah8 ri lh by8 cm8 fk8 wn8 oc8 kq8 mf zf ++ tlI cI ib)) := hD
    refine lv_aload_n hx hb dL_law_841 rfl (lv_at hl 1 rfl) ?_
    refine lv_aload_n hx hb dL_law_842 rfl (lv_at hl 0 rfl) ?_
    refine lv_iload_n hx hb dL_law_843 rfl (lv_at hl 3 rfl) ?_
    refine lv_iconst (v := nI 1) hx hb dL_law_844 (by decide) ?_
    refine iadd_n (a := i) (b := 1) hx hb dL_law_845 ?_
    refine sld_n (k := i + 1) hx hb hX hbl hbA hS (by omega) (by omega) dL_law_846 ?_
    rw [hx1]
    refine cal_iT (run_V (As := [.int (nI kk)]) (rest := []) SF (o_restoreS l D cI cJ cZ cG cM (a 0) (a 9) (a 11) (a 15) (a 19) (a 32) (a 35) (a 1) (a 2) (a 3) (a 4) (a 5) (a 6) (a 7) (a 8) y0 ye yl yb yw ys yv yz n ns nl n2 ns2 nl2 (nI ff) (nI ff2) fe fl fb fs fw fh fe2 fl2 fb2 fs2 fw2 fh2 hn2 kk imf hkk j1) (cwV 1 hts gL_law_X7_restore rfl rfl rfl (by decide +kernel) ⟨Nat.le_of_ble_eq_true rfl, Nat.le_of_ble_eq_true rfl⟩) hN hK hP hD [0, 35, 1, 2, 3, 4, 5, 6, 7, 8, 36, 37, 38, 39, 40, 41, 42, 43] rfl (by decide) 7 0 rfl rfl rfl rfl hl.1 rfl (Nat.le_of_ble_eq_true rfl) dL_law_847 ⟨by show k1 + 0 ≤ 600000; omega, by show k2 + 0 ≤ 7302250; omega⟩) hP hD hS hA [0, 35, 1, 2, 3, 4, 5, 6, 7, 8, 36, 37, 38, 39, 40, 41, 42, 43] rfl rfl (fun _ => rfl) (fun r _ H locs hw hP hD hS => ?_)
    have hP : va_P D vwCl ((WC a cI cJ cG cM n2 nl2 ns2 sc ff2 (va_cpy fe2 fe 0 0 6) (va_cpy fl2 fl 0 0 6) (va_cpy fb2 fb 0 0 6) (va_cpy fs2 fs 0 0 nl2) (va_cpy fw2 fw 0 0 6) (va_cpy fh2 fh 0 0 6) fp hg ah le lst ln lah lmh fin up lo ft cm fk rs rf nf cr pr wf vf imf ++ tl8 cI y0 ye yl yb yw ys yv yz n2 nl2 ns2 ff2 fe2 fl2 fb2 fs2 fw2 fh2) ++ (WM d cI cZ n nl ns sc ff fe8 fl8 fb8 fs8 fw8 fp8 la ah8 ri lh by8 cm8 fk8 wn8 oc8 kq8 mf zf ++ tlI cI ib)) H := hP
    have hD : va_D (fun q : Nat => s.heap.size ≤ q) ((WC a cI cJ cG cM n2 nl2 ns2 sc ff2 (va_cpy fe2 fe 0 0 6) (va_cpy fl2 fl 0 0 6) (va_cpy fb2 fb 0 0 6) (va_cpy fs2 fs 0 0 nl2) (va_cpy fw2 fw 0 0 6) (va_cpy fh2 fh 0 0 6) fp hg ah le lst ln lah lmh fin up lo ft cm fk rs rf nf cr pr wf vf imf ++ tl8 cI y0 ye yl yb yw ys yv yz n2 nl2 ns2 ff2 fe2 fl2 fb2 fs2 fw2 fh2) ++ (WM d cI cZ n nl ns sc ff fe8 fl8 fb8 fs8 fw8 fp8 la ah8 ri lh by8 cm8 fk8 wn8 oc8 kq8 mf zf ++ tlI cI ib)) := hD
    have hP := pa_m2 hP
    have hD := da_m2 hD
    refine lv_aload_n hx hb dL_law_850 rfl (lv_at hl 2 rfl) ?_
    refine lv_aload_n hx hb dL_law_851 rfl (lv_at hl 0 rfl) ?_
    refine lv_iload_n hx hb dL_law_852 rfl (lv_at hl 3 rfl) ?_
    refine lv_iconst (v := nI 1) hx hb dL_law_853 (by decide) ?_
    refine iadd_n (a := i) (b := 1) hx hb dL_law_854 ?_
    refine sld_n (k := i + 1) hx hb hX hbl hbA hS (by omega) (by omega) dL_law_855 ?_
    rw [hx1]
    refine cal_iT (run_V (As := [.int (nI kk)]) (rest := [.int r]) SF (m_restoreS l D cI cJ cZ cG cM (d 0) (d 1) (d 2) (d 3) (d 4) (d 5) (d 6) (d 7) (d 8) (d 9) (d 10) (d 11) (d 12) (d 13) (d 14) (nI ff) (nI ns) (nI sc) la ah8 ri lh n nl kk n2 nl2 ns2 (nI ff2) fe8 fl8 fb8 fs8 fw8 mf zf hkk j2 b1 b2 b3 b4) (cwV 1 hts gL_law_X8_restore rfl rfl rfl (by decide +kernel) ⟨Nat.le_of_ble_eq_true rfl, Nat.le_of_ble_eq_true rfl⟩) hN hK hP hD [0, 1, 2, 3, 4, 5, 13, 14] rfl (by decide) 8 0 rfl rfl rfl rfl hl.1 rfl (Nat.le_of_ble_eq_true rfl) dL_law_856 ⟨by show k1 + 0 ≤ 600000; omega, by show k2 + 0 ≤ 7302250; omega⟩) hP hD hS hA [0, 1, 2, 3, 4, 5, 13, 14] rfl rfl (fun _ => rfl) (fun r8 v H locs hw8 hP hD hS => ?_)
    obtain ⟨m1, m2, m3, m4, m5, hw9⟩ := hw8
    have hq : r = r8 := hw.trans hw9.symm
    have hP : va_P D vwCl (WM d cI cZ n2 nl2 ns2 sc ff2 v.1 v.2.1 v.2.2.1 v.2.2.2.1 v.2.2.2.2 fp8 la ah8 ri lh by8 cm8 fk8 wn8 oc8 kq8 mf zf ++ ((WC a cI cJ cG cM n2 nl2 ns2 sc ff2 (va_cpy fe2 fe 0 0 6) (va_cpy fl2 fl 0 0 6) (va_cpy fb2 fb 0 0 6) (va_cpy fs2 fs 0 0 nl2) (va_cpy fw2 fw 0 0 6) (va_cpy fh2 fh 0 0 6) fp hg ah le lst ln lah lmh fin up lo ft cm fk rs rf nf cr pr wf vf imf ++ tl8 cI y0 ye yl yb yw ys yv yz n2 nl2 ns2 ff2 fe2 fl2 fb2 fs2 fw2 fh2) ++ tlI cI ib)) H := hP
    have hD : va_D (fun q : Nat => s.heap.size ≤ q) (WM d cI cZ n2 nl2 ns2 sc ff2 v.1 v.2.1 v.2.2.1 v.2.2.2.1 v.2.2.2.2 fp8 la ah8 ri lh by8 cm8 fk8 wn8 oc8 kq8 mf zf ++ ((WC a cI cJ cG cM n2 nl2 ns2 sc ff2 (va_cpy fe2 fe 0 0 6) (va_cpy fl2 fl 0 0 6) (va_cpy fb2 fb 0 0 6) (va_cpy fs2 fs 0 0 nl2) (va_cpy fw2 fw 0 0 6) (va_cpy fh2 fh 0 0 6) fp hg ah le lst ln lah lmh fin up lo ft cm fk rs rf nf cr pr wf vf imf ++ tl8 cI y0 ye yl yb yw ys yv yz n2 nl2 ns2 ff2 fe2 fl2 fb2 fs2 fw2 fh2) ++ tlI cI ib)) := hD
    have hP := pa_m2 hP
    have hD := da_m2 hD
    have hP := pa_n3 hP
    have hD := da_n3 hD
    have kr := kp_restore g2 e2 cpy6 cpy6 cpy6 cpy6 cpy6 cpy6 m1 m2 m3 m4 m5 (a1 := va_cpy fe2 fe 0 0 6) (b1 := va_cpy fl2 fl 0 0 6) (c1 := va_cpy fb2 fb 0 0 6) (s1 := va_cpy fs2 fs 0 0 nl2) (w1 := va_cpy fw2 fw 0 0 6) (h1 := va_cpy fh2 fh 0 0 6)
    refine lv_icmp_eq (tgt := 887) hx hb dL_law_859 (by decide) (fun _ => ?_) (fun c9 => absurd hq c9)
    exact K n2 nl2 ns2 sc ff2 (va_cpy fe2 fe 0 0 6) (va_cpy fl2 fl 0 0 6) (va_cpy fb2 fb 0 0 6) (va_cpy fs2 fs 0 0 nl2) (va_cpy fw2 fw 0 0 6) (va_cpy fh2 fh 0 0 6) fp hg ah le lst ln lah lmh fin up lo ft cm fk rs rf nf cr pr wf vf imf v.1 v.2.1 v.2.2.1 v.2.2.2.1 v.2.2.2.2 fp8 la ah8 ri lh by8 cm8 fk8 wn8 oc8 kq8 mf zf (some (y0, ye, yl, yb, yw, ys, yv, yz, n2, nl2, ns2, ff2, fe2, fl2, fb2, fs2, fw2, fh2)) ib ⟨kr.1, kr.2, pr9, ⟨j1, j2, ⟨b1, b2, b3, b4⟩, g2, e2⟩, ir2⟩ H locs hP hD hS ls hl
theorem lc_restore {p : Program} {l : Launch} {e : Env} {s : State} {m : MethodId} {below : List Frame} {meth : Method} {c : Code} {b L : Nat} {xs : Nat → Int32} {D : va_G} {cI cJ cZ cG cM : ClassId} {a d : Nat → Nat} {i k1 k2 : Nat} (C0 : FX p s m c b L xs D cI cJ cZ cG cM) (hi : i + 6 ≤ L) (hk : k1 ≤ 599000 ∧ k2 ≤ 7300000) (K : HD p l e s m below meth c b D cI cJ cZ cG cM a d 0 887 i k1 k2) : HD p l e s m below meth c b D cI cJ cZ cG cM a d 0 841 i k1 k2 := by
  by_cases hC : nI 0 ≤ xs (i + 1) ∧ xs (i + 1) ≤ nI 1
  · obtain ⟨q, -, q1, q2⟩ := nI_rng (by omega) (by omega) hC.1 hC.2
    rcases (show q = 0 ∨ q = 1 by omega) with rfl | rfl
    · exact lc_restoreA C0 hi hk (by omega) q2 K
    · exact HD_swap (by omega) (lc_restoreA C0 hi hk (by omega) q2 (HD_swap (by omega) K))
  · exact lc_restoreN C0 hi hk hC K

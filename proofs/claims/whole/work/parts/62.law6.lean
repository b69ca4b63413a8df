/-! THE LAW: image -/
set_option maxHeartbeats 1000000 in
set_option maxRecDepth 100000 in
theorem lc_imageN {p : Program} {l : Launch} {e : Env} {s : State} {m : MethodId} {below : List Frame} {meth : Method} {c : Code} {b L : Nat} {xs : Nat → Int32} {D : va_G} {cI cJ cZ cG cM : ClassId} {a d : Nat → Nat} {kk i k1 k2 : Nat} (C0 : FX p s m c b L xs D cI cJ cZ cG cM) (hi : i + 6 ≤ L) (hk : k1 ≤ 599000 ∧ k2 ≤ 7300000) (hC : ¬ (nI 0 ≤ xs (i + 1) ∧ xs (i + 1) ≤ nI 1)) (K : HD p l e s m below meth c b D cI cJ cZ cG cM a d kk 887 i (k1 + 8) (k2 + 61)) : HD p l e s m below meth c b D cI cJ cZ cG cM a d kk 818 i k1 k2 := by
  obtain ⟨hx, hb, SF, hts, hX, hbl, hbA, hL, hN, hK⟩ := C0
  have hA : ∀ q : Nat, s.heap.size ≤ q → (fun q : Nat => s.heap.size ≤ q) q := fun _ h => h
  intro n nl ns sc ff fe fl fb fs fw fh fp hg ah le lst ln lah lmh fin up lo ft cm fk rs rf nf cr pr wf vf imf fe8 fl8 fb8 fs8 fw8 fp8 la ah8 ri lh by8 cm8 fk8 wn8 oc8 kq8 mf zf ia ib hLI H locs hP hD hS ls hl
  obtain ⟨g, e9, pr9, ir1, ir2⟩ := hLI
  have h1 := g.1.1
  have h6 := g.1.2.1
  have hff := g.1.2.2.1
  have hns := g.1.2.2.2
  have hsc := pr9.1
  have hV := g.2.2.2.2.1
  have hV8 := VL_cong hV e9.2.2.2.1
  have hn20 := hV.1
  have hn1 := VL_pos hV
  have hfb : ∀ j, j < n → ∃ b : Nat, b ≤ 23 ∧ fb j = nI b := RNG_n g.2.2.2.1 h6
  have hfl : ∀ j, j < n → ∃ b : Nat, b ≤ 5 ∧ fl j = nI b := RNG_n g.2.2.1 h6
  have hfb8 : ∀ j, j < n → ∃ b : Nat, b ≤ 23 ∧ fb8 j = nI b := RNG_e hfb (fun j hj => e9.2.2.1 j (by omega))
  have hfl8 : ∀ j, j < n → ∃ b : Nat, b ≤ 5 ∧ fl8 j = nI b := RNG_e hfl (fun j hj => e9.2.1 j (by omega))
  have hsw : ∀ j, j < ns → ∃ k : Nat, k ≤ 30 ∧ fw j = nI k := g.2.2.2.2.2
  have hsw8 : ∀ j, j < ns → ∃ k : Nat, k ≤ 30 ∧ fw8 (2 * j) = nI k := RNG_e hsw (fun j hj => (e9.2.2.2.2 j hj).1)
  refine lv_aload_n hx hb dL_law_818 rfl (lv_at hl 1 rfl) ?_
  refine lv_aload_n hx hb dL_law_819 rfl (lv_at hl 0 rfl) ?_
  refine lv_iload_n hx hb dL_law_820 rfl (lv_at hl 3 rfl) ?_
  refine lv_iconst (v := nI 1) hx hb dL_law_821 (by decide) ?_
  refine iadd_n (a := i) (b := 1) hx hb dL_law_822 ?_
  refine sld_n (k := i + 1) hx hb hX hbl hbA hS (by omega) (by omega) dL_law_823 ?_
  refine cal_iT (run_V (As := [.int (xs (i + 1))]) (rest := []) SF (o_imageN l D cI cJ cZ cG cM (a 0) (a 9) (a 11) (a 15) (a 19) (a 32) (a 35) (a 1) (xs (i + 1)) hC) (cwV 1 hts gL_law_X7_image rfl rfl rfl (by decide +kernel) ⟨Nat.le_of_ble_eq_true rfl, Nat.le_of_ble_eq_true rfl⟩) hN hK hP hD [0] rfl (by decide) 7 0 rfl rfl rfl rfl hl.1 rfl (Nat.le_of_ble_eq_true rfl) dL_law_824 ⟨by show k1 + 8 ≤ 600000; omega, by show k2 + 61 ≤ 7302250; omega⟩) hP hD hS hA [0] rfl rfl (fun _ => rfl) (fun r _ H locs hw hP hD hS => ?_)
  have hP : va_P D vwCl (WC a cI cJ cG cM n nl ns sc ff fe fl fb fs fw fh fp hg ah le lst ln lah lmh fin up lo ft cm fk rs rf nf cr pr wf vf imf ++ (WM d cI cZ n nl ns sc ff fe8 fl8 fb8 fs8 fw8 fp8 la ah8 ri lh by8 cm8 fk8 wn8 oc8 kq8 mf zf ++ (tlI cI ia ++ tlI cI ib))) H := hP
  have hD : va_D (fun q : Nat => s.heap.size ≤ q) (WC a cI cJ cG cM n nl ns sc ff fe fl fb fs fw fh fp hg ah le lst ln lah lmh fin up lo ft cm fk rs rf nf cr pr wf vf imf ++ (WM d cI cZ n nl ns sc ff fe8 fl8 fb8 fs8 fw8 fp8 la ah8 ri lh by8 cm8 fk8 wn8 oc8 kq8 mf zf ++ (tlI cI ia ++ tlI cI ib))) := hD
  have hP := pa_m2 hP
  have hD := da_m2 hD
  refine lv_aload_n hx hb dL_law_827 rfl (lv_at hl 2 rfl) ?_
  refine lv_aload_n hx hb dL_law_828 rfl (lv_at hl 0 rfl) ?_
  refine lv_iload_n hx hb dL_law_829 rfl (lv_at hl 3 rfl) ?_
  refine lv_iconst (v := nI 1) hx hb dL_law_830 (by decide) ?_
  refine iadd_n (a := i) (b := 1) hx hb dL_law_831 ?_
  refine sld_n (k := i + 1) hx hb hX hbl hbA hS (by omega) (by omega) dL_law_832 ?_
  refine cal_iT (run_V (As := [.int (xs (i + 1))]) (rest := [.int r]) SF (m_imageN l D cI cJ cZ cG cM (d 0) (d 1) (d 2) (d 3) (d 4) (d 5) (d 6) (d 7) (d 8) (d 9) (d 10) (d 11) (d 12) (d 13) (d 14) (nI ff) (nI ns) (nI sc) la ah8 ri lh n nl (xs (i + 1)) hC) (cwV 1 hts gL_law_X8_image rfl rfl rfl (by decide +kernel) ⟨Nat.le_of_ble_eq_true rfl, Nat.le_of_ble_eq_true rfl⟩) hN hK hP hD [0] rfl (by decide) 8 0 rfl rfl rfl rfl hl.1 rfl (Nat.le_of_ble_eq_true rfl) dL_law_833 ⟨by show k1 + 8 ≤ 600000; omega, by show k2 + 61 ≤ 7302250; omega⟩) hP hD hS hA [0] rfl rfl (fun _ => rfl) (fun r8 _ H locs hw8 hP hD hS => ?_)
  have hq : r = r8 := hw.trans hw8.symm
  have hP : va_P D vwCl (WM d cI cZ n nl ns sc ff fe8 fl8 fb8 fs8 fw8 fp8 la ah8 ri lh by8 cm8 fk8 wn8 oc8 kq8 mf zf ++ (WC a cI cJ cG cM n nl ns sc ff fe fl fb fs fw fh fp hg ah le lst ln lah lmh fin up lo ft cm fk rs rf nf cr pr wf vf imf ++ (tlI cI ia ++ tlI cI ib))) H := hP
  have hD : va_D (fun q : Nat => s.heap.size ≤ q) (WM d cI cZ n nl ns sc ff fe8 fl8 fb8 fs8 fw8 fp8 la ah8 ri lh by8 cm8 fk8 wn8 oc8 kq8 mf zf ++ (WC a cI cJ cG cM n nl ns sc ff fe fl fb fs fw fh fp hg ah le lst ln lah lmh fin up lo ft cm fk rs rf nf cr pr wf vf imf ++ (tlI cI ia ++ tlI cI ib))) := hD
  have hP := pa_m2 hP
  have hD := da_m2 hD
  refine lv_icmp_eq (tgt := 887) hx hb dL_law_836 (by decide) (fun _ => ?_) (fun c9 => absurd hq c9)
  exact K n nl ns sc ff fe fl fb fs fw fh fp hg ah le lst ln lah lmh fin up lo ft cm fk rs rf nf cr pr wf vf imf fe8 fl8 fb8 fs8 fw8 fp8 la ah8 ri lh by8 cm8 fk8 wn8 oc8 kq8 mf zf ia ib ⟨g, e9, pr9, ir1, ir2⟩ H locs hP hD hS ls hl
set_option maxHeartbeats 1000000 in
set_option maxRecDepth 100000 in
theorem lc_imageA {p : Program} {l : Launch} {e : Env} {s : State} {m : MethodId} {below : List Frame} {meth : Method} {c : Code} {b L : Nat} {xs : Nat → Int32} {D : va_G} {cI cJ cZ cG cM : ClassId} {a d : Nat → Nat} {kk i k1 k2 : Nat} (C0 : FX p s m c b L xs D cI cJ cZ cG cM) (hi : i + 6 ≤ L) (hk : k1 ≤ 599000 ∧ k2 ≤ 7300000) (hkk : kk ≤ 1) (hx1 : xs (i + 1) = nI kk) (K : HD p l e s m below meth c b D cI cJ cZ cG cM a d kk 887 i (k1 + 8) (k2 + 61)) : HD p l e s m below meth c b D cI cJ cZ cG cM a d kk 818 i k1 k2 := by
  obtain ⟨hx, hb, SF, hts, hX, hbl, hbA, hL, hN, hK⟩ := C0
  have hA : ∀ q : Nat, s.heap.size ≤ q → (fun q : Nat => s.heap.size ≤ q) q := fun _ h => h
  intro n nl ns sc ff fe fl fb fs fw fh fp hg ah le lst ln lah lmh fin up lo ft cm fk rs rf nf cr pr wf vf imf fe8 fl8 fb8 fs8 fw8 fp8 la ah8 ri lh by8 cm8 fk8 wn8 oc8 kq8 mf zf ia ib hLI H locs hP hD hS ls hl
  obtain ⟨g, e9, pr9, ir1, ir2⟩ := hLI
  have h1 := g.1.1
  have h6 := g.1.2.1
  have hff := g.1.2.2.1
  have hns := g.1.2.2.2
  have hsc := pr9.1
  have hV := g.2.2.2.2.1
  have hV8 := VL_cong hV e9.2.2.2.1
  have hn20 := hV.1
  have hn1 := VL_pos hV
  have hfb : ∀ j, j < n → ∃ b : Nat, b ≤ 23 ∧ fb j = nI b := RNG_n g.2.2.2.1 h6
  have hfl : ∀ j, j < n → ∃ b : Nat, b ≤ 5 ∧ fl j = nI b := RNG_n g.2.2.1 h6
  have hfb8 : ∀ j, j < n → ∃ b : Nat, b ≤ 23 ∧ fb8 j = nI b := RNG_e hfb (fun j hj => e9.2.2.1 j (by omega))
  have hfl8 : ∀ j, j < n → ∃ b : Nat, b ≤ 5 ∧ fl8 j = nI b := RNG_e hfl (fun j hj => e9.2.1 j (by omega))
  have hsw : ∀ j, j < ns → ∃ k : Nat, k ≤ 30 ∧ fw j = nI k := g.2.2.2.2.2
  have hsw8 : ∀ j, j < ns → ∃ k : Nat, k ≤ 30 ∧ fw8 (2 * j) = nI k := RNG_e hsw (fun j hj => (e9.2.2.2.2 j hj).1)
  rcases ia with _ | ⟨y0, ye, yl, yb, yw, ys, yv, yz, n2, nl2, ns2, ff2, fe2, fl2, fb2, fs2, fw2, fh2⟩
  · have hP : va_P D vwCl (WC a cI cJ cG cM n nl ns sc ff fe fl fb fs fw fh fp hg ah le lst ln lah lmh fin up lo ft cm fk rs rf nf cr pr wf vf imf ++ (WM d cI cZ n nl ns sc ff fe8 fl8 fb8 fs8 fw8 fp8 la ah8 ri lh by8 cm8 fk8 wn8 oc8 kq8 mf zf ++ tlI cI ib)) H := hP
    have hD : va_D (fun q : Nat => s.heap.size ≤ q) (WC a cI cJ cG cM n nl ns sc ff fe fl fb fs fw fh fp hg ah le lst ln lah lmh fin up lo ft cm fk rs rf nf cr pr wf vf imf ++ (WM d cI cZ n nl ns sc ff fe8 fl8 fb8 fs8 fw8 fp8 la ah8 ri lh by8 cm8 fk8 wn8 oc8 kq8 mf zf ++ tlI cI ib)) := hD
    refine lv_aload_n hx hb dL_law_818 rfl (lv_at hl 1 rfl) ?_
    refine lv_aload_n hx hb dL_law_819 rfl (lv_at hl 0 rfl) ?_
    refine lv_iload_n hx hb dL_law_820 rfl (lv_at hl 3 rfl) ?_
    refine lv_iconst (v := nI 1) hx hb dL_law_821 (by decide) ?_
    refine iadd_n (a := i) (b := 1) hx hb dL_law_822 ?_
    refine sld_n (k := i + 1) hx hb hX hbl hbA hS (by omega) (by omega) dL_law_823 ?_
    rw [hx1]
    refine cal_iX (w1 := fun (u : (Nat × Nat × Nat × Nat × Nat × Nat × Nat × Nat)) => [(a 0, .inr (7, [.ref (a 1), .ref (a 9), .ref (a 11), .ref (a 15), .ref (a 19), .ref (a 32), .ref (a 35)])), (a 35, .inl (cG, 2, .inr (.inr (.inr (.inr (va_up imf kk (some u.1))))))), (a 1, .inr (3, [.ref (a 2), .ref (a 3), .ref (a 4), .ref (a 5), .ref (a 7), .ref (a 8), .int (nI ns), .int (nI n), .int (nI ff)])), (a 2, .inl (cI, 6, .inl fe)), (a 3, .inl (cI, 6, .inl fl)), (a 4, .inl (cI, 6, .inl fb)), (a 5, .inr (4, [.ref (a 6), .int (nI nl)])), (a 6, .inl (cI, 20, .inl fs)), (a 7, .inl (cI, 6, .inl fw)), (a 8, .inl (cI, 6, .inl fh))]) (wx := fun (u : (Nat × Nat × Nat × Nat × Nat × Nat × Nat × Nat)) => [(u.1, .inr (3, [.ref u.2.1, .ref u.2.2.1, .ref u.2.2.2.1, .ref u.2.2.2.2.1, .ref u.2.2.2.2.2.2.1, .ref u.2.2.2.2.2.2.2, .int (nI ns), .int (nI n), .int (nI ff)])), (u.2.1, .inl (cI, 6, .inl (va_cpy fe (fun _ => 0) 0 0 6))), (u.2.2.1, .inl (cI, 6, .inl (va_cpy fl (fun _ => 0) 0 0 6))), (u.2.2.2.1, .inl (cI, 6, .inl (va_cpy fb (filI (fun _ => 0) (nI 12) 6) 0 0 6))), (u.2.2.2.2.1, .inr (4, [.ref u.2.2.2.2.2.1, .int (nI nl)])), (u.2.2.2.2.2.1, .inl (cI, 20, .inl (va_cpy fs (upd (fun _ => 0) 0 (nI 108)) 0 0 nl))), (u.2.2.2.2.2.2.1, .inl (cI, 6, .inl (va_cpy fw (fun _ => 0) 0 0 6))), (u.2.2.2.2.2.2.2, .inl (cI, 6, .inl (va_cpy fh (fun _ => 0) 0 0 6)))]) (run_V (As := [.int (nI kk)]) (rest := []) SF (o_imageZ l D cI cJ cZ cG cM (a 0) (a 9) (a 11) (a 15) (a 19) (a 32) (a 35) (a 1) (a 2) (a 3) (a 4) (a 5) (a 6) (a 7) (a 8) n ns nl (nI ff) fe fl fb fs fw fh hn20 kk imf hkk ir1.1) (cwV 1 hts gL_law_X7_image rfl rfl rfl (by decide +kernel) ⟨Nat.le_of_ble_eq_true rfl, Nat.le_of_ble_eq_true rfl⟩) hN hK hP hD [0, 35, 1, 2, 3, 4, 5, 6, 7, 8] rfl (by decide) 7 0 rfl rfl rfl rfl hl.1 rfl (Nat.le_of_ble_eq_true rfl) dL_law_824 ⟨by show k1 + 8 ≤ 600000; omega, by show k2 + 61 ≤ 7302250; omega⟩) hP hD hS hA [0, 35, 1, 2, 3, 4, 5, 6, 7, 8] rfl rfl (fun _ => rfl) (fun r u H locs hw hP hD hS => ?_)
    have hP : va_P D vwCl ((WC a cI cJ cG cM n nl ns sc ff fe fl fb fs fw fh fp hg ah le lst ln lah lmh fin up lo ft cm fk rs rf nf cr pr wf vf (va_up imf kk (some u.1)) ++ (WM d cI cZ n nl ns sc ff fe8 fl8 fb8 fs8 fw8 fp8 la ah8 ri lh by8 cm8 fk8 wn8 oc8 kq8 mf zf ++ tlI cI ib)) ++ tl8 cI u.1 u.2.1 u.2.2.1 u.2.2.2.1 u.2.2.2.2.1 u.2.2.2.2.2.1 u.2.2.2.2.2.2.1 u.2.2.2.2.2.2.2 n nl ns ff (va_cpy fe (fun _ => 0) 0 0 6) (va_cpy fl (fun _ => 0) 0 0 6) (va_cpy fb (filI (fun _ => 0) (nI 12) 6) 0 0 6) (va_cpy fs (upd (fun _ => 0) 0 (nI 108)) 0 0 nl) (va_cpy fw (fun _ => 0) 0 0 6) (va_cpy fh (fun _ => 0) 0 0 6)) H := hP
    have hD : va_D (fun q : Nat => s.heap.size ≤ q) ((WC a cI cJ cG cM n nl ns sc ff fe fl fb fs fw fh fp hg ah le lst ln lah lmh fin up lo ft cm fk rs rf nf cr pr wf vf (va_up imf kk (some u.1)) ++ (WM d cI cZ n nl ns sc ff fe8 fl8 fb8 fs8 fw8 fp8 la ah8 ri lh by8 cm8 fk8 wn8 oc8 kq8 mf zf ++ tlI cI ib)) ++ tl8 cI u.1 u.2.1 u.2.2.1 u.2.2.2.1 u.2.2.2.2.1 u.2.2.2.2.2.1 u.2.2.2.2.2.2.1 u.2.2.2.2.2.2.2 n nl ns ff (va_cpy fe (fun _ => 0) 0 0 6) (va_cpy fl (fun _ => 0) 0 0 6) (va_cpy fb (filI (fun _ => 0) (nI 12) 6) 0 0 6) (va_cpy fs (upd (fun _ => 0) 0 (nI 108)) 0 0 nl) (va_cpy fw (fun _ => 0) 0 0 6) (va_cpy fh (fun _ => 0) 0 0 6)) := hD
    have hP := pa_m4 hP
    have hD := da_m4 hD
    have hP := pa_m2 hP
    have hD := da_m2 hD
    refine lv_aload_n hx hb dL_law_827 rfl (lv_at hl 2 rfl) ?_
    refine lv_aload_n hx hb dL_law_828 rfl (lv_at hl 0 rfl) ?_
    refine lv_iload_n hx hb dL_law_829 rfl (lv_at hl 3 rfl) ?_
    refine lv_iconst (v := nI 1) hx hb dL_law_830 (by decide) ?_
    refine iadd_n (a := i) (b := 1) hx hb dL_law_831 ?_
    refine sld_n (k := i + 1) hx hb hX hbl hbA hS (by omega) (by omega) dL_law_832 ?_
    rw [hx1]
    refine cal_iT (run_V (As := [.int (nI kk)]) (rest := [.int r]) SF (m_imageS l D cI cJ cZ cG cM (d 0) (d 1) (d 2) (d 3) (d 4) (d 5) (d 6) (d 7) (d 8) (d 9) (d 10) (d 11) (d 12) (d 13) (d 14) (nI ff) (nI ns) (nI sc) la ah8 ri lh n nl kk fe8 fl8 fb8 fs8 fw8 mf zf hkk) (cwV 1 hts gL_law_X8_image rfl rfl rfl (by decide +kernel) ⟨Nat.le_of_ble_eq_true rfl, Nat.le_of_ble_eq_true rfl⟩) hN hK hP hD [0, 1, 2, 3, 4, 5, 13, 14] rfl (by decide) 8 0 rfl rfl rfl rfl hl.1 rfl (Nat.le_of_ble_eq_true rfl) dL_law_833 ⟨by show k1 + 8 ≤ 600000; omega, by show k2 + 61 ≤ 7302250; omega⟩) hP hD hS hA [0, 1, 2, 3, 4, 5, 13, 14] rfl rfl (fun _ => rfl) (fun r8 v H locs hw8 hP hD hS => ?_)
    obtain ⟨hB, ho, hz, hw9⟩ := hw8
    have hq : r = r8 := hw.trans hw9.symm
    have hP : va_P D vwCl (WM d cI cZ n nl ns sc ff fe8 fl8 fb8 fs8 fw8 fp8 la ah8 ri lh by8 cm8 fk8 wn8 oc8 kq8 v.1 v.2 ++ ((WC a cI cJ cG cM n nl ns sc ff fe fl fb fs fw fh fp hg ah le lst ln lah lmh fin up lo ft cm fk rs rf nf cr pr wf vf (va_up imf kk (some u.1)) ++ tl8 cI u.1 u.2.1 u.2.2.1 u.2.2.2.1 u.2.2.2.2.1 u.2.2.2.2.2.1 u.2.2.2.2.2.2.1 u.2.2.2.2.2.2.2 n nl ns ff (va_cpy fe (fun _ => 0) 0 0 6) (va_cpy fl (fun _ => 0) 0 0 6) (va_cpy fb (filI (fun _ => 0) (nI 12) 6) 0 0 6) (va_cpy fs (upd (fun _ => 0) 0 (nI 108)) 0 0 nl) (va_cpy fw (fun _ => 0) 0 0 6) (va_cpy fh (fun _ => 0) 0 0 6)) ++ tlI cI ib)) H := hP
    have hD : va_D (fun q : Nat => s.heap.size ≤ q) (WM d cI cZ n nl ns sc ff fe8 fl8 fb8 fs8 fw8 fp8 la ah8 ri lh by8 cm8 fk8 wn8 oc8 kq8 v.1 v.2 ++ ((WC a cI cJ cG cM n nl ns sc ff fe fl fb fs fw fh fp hg ah le lst ln lah lmh fin up lo ft cm fk rs rf nf cr pr wf vf (va_up imf kk (some u.1)) ++ tl8 cI u.1 u.2.1 u.2.2.1 u.2.2.2.1 u.2.2.2.2.1 u.2.2.2.2.2.1 u.2.2.2.2.2.2.1 u.2.2.2.2.2.2.2 n nl ns ff (va_cpy fe (fun _ => 0) 0 0 6) (va_cpy fl (fun _ => 0) 0 0 6) (va_cpy fb (filI (fun _ => 0) (nI 12) 6) 0 0 6) (va_cpy fs (upd (fun _ => 0) 0 (nI 108)) 0 0 nl) (va_cpy fw (fun _ => 0) 0 0 6) (va_cpy fh (fun _ => 0) 0 0 6)) ++ tlI cI ib)) := hD
    have hP := pa_m2 hP
    have hD := da_m2 hD
    have hP := pa_n3 hP
    have hD := da_n3 hD
    have kr := kp_image (ye := u.2.1) (yl := u.2.2.1) (yb := u.2.2.2.1) (yw := u.2.2.2.2.1) (ys := u.2.2.2.2.2.1) (yv := u.2.2.2.2.2.2.1) (yz := u.2.2.2.2.2.2.2) g e9 hkk ir2 (fe2 := va_cpy fe (fun _ => 0) 0 0 6) (fl2 := va_cpy fl (fun _ => 0) 0 0 6) (fb2 := va_cpy fb (filI (fun _ => 0) (nI 12) 6) 0 0 6) (fs2 := va_cpy fs (upd (fun _ => 0) 0 (nI 108)) 0 0 nl) (fw2 := va_cpy fw (fun _ => 0) 0 0 6) (fh2 := va_cpy fh (fun _ => 0) 0 0 6) (im2 := va_up imf kk (some u.1)) cpy6 cpy6 cpy6 cpy6 cpy6 cpy6 (if_pos rfl) (if_neg (by omega)) hz hB ho
    refine lv_icmp_eq (tgt := 887) hx hb dL_law_836 (by decide) (fun _ => ?_) (fun c9 => absurd hq c9)
    exact K n nl ns sc ff fe fl fb fs fw fh fp hg ah le lst ln lah lmh fin up lo ft cm fk rs rf nf cr pr wf vf (va_up imf kk (some u.1)) fe8 fl8 fb8 fs8 fw8 fp8 la ah8 ri lh by8 cm8 fk8 wn8 oc8 kq8 v.1 v.2 (some (u.1, u.2.1, u.2.2.1, u.2.2.2.1, u.2.2.2.2.1, u.2.2.2.2.2.1, u.2.2.2.2.2.2.1, u.2.2.2.2.2.2.2, n, nl, ns, ff, va_cpy fe (fun _ => 0) 0 0 6, va_cpy fl (fun _ => 0) 0 0 6, va_cpy fb (filI (fun _ => 0) (nI 12) 6) 0 0 6, va_cpy fs (upd (fun _ => 0) 0 (nI 108)) 0 0 nl, va_cpy fw (fun _ => 0) 0 0 6, va_cpy fh (fun _ => 0) 0 0 6)) ib ⟨g, e9, pr9, kr.1, kr.2⟩ H locs hP hD hS ls hl
  · obtain ⟨j1, j2, ⟨b1, b2, b3, b4⟩, g2, e2⟩ := ir1
    have hP := pa_m3 hP
    have hD := da_m3 hD
    have hP : va_P D vwCl ((WC a cI cJ cG cM n nl ns sc ff fe fl fb fs fw fh fp hg ah le lst ln lah lmh fin up lo ft cm fk rs rf nf cr pr wf vf imf ++ tl8 cI y0 ye yl yb yw ys yv yz n2 nl2 ns2 ff2 fe2 fl2 fb2 fs2 fw2 fh2) ++ (WM d cI cZ n nl ns sc ff fe8 fl8 fb8 fs8 fw8 fp8 la ah8 ri lh by8 cm8 fk8 wn8 oc8 kq8 mf zf ++ tlI cI ib)) H := hP
    have hD : va_D (fun q : Nat => s.heap.size ≤ q) ((WC a cI cJ cG cM n nl ns sc ff fe fl fb fs fw fh fp hg ah le lst ln lah lmh fin up lo ft cm fk rs rf nf cr pr wf vf imf ++ tl8 cI y0 ye yl yb yw ys yv yz n2 nl2 ns2 ff2 fe2 fl2 fb2 fs2 fw2 fh2) ++ (WM d cI cZ n nl ns sc ff fe8 fl8 fb8 fs8 fw8 fp8 la ah8 ri lh by8 cm8 fk8 wn8 oc8 kq8 mf zf ++ tlI cI ib)) := hD
    refine lv_aload_n hx hb dL_law_818 rfl (lv_at hl 1 rfl) ?_
    refine lv_aload_n hx hb dL_law_819 rfl (lv_at hl 0 rfl) ?_
    refine lv_iload_n hx hb dL_law_820 rfl (lv_at hl 3 rfl) ?_
    refine lv_iconst (v := nI 1) hx hb dL_law_821 (by decide) ?_
    refine iadd_n (a := i) (b := 1) hx hb dL_law_822 ?_
    refine sld_n (k := i + 1) hx hb hX hbl hbA hS (by omega) (by omega) dL_law_823 ?_
    rw [hx1]
    refine cal_iT (run_V (As := [.int (nI kk)]) (rest := []) SF (o_imageS l D cI cJ cZ cG cM (a 0) (a 9) (a 11) (a 15) (a 19) (a 32) (a 35) (a 1) (a 2) (a 3) (a 4) (a 5) (a 6) (a 7) (a 8) y0 ye yl yb yw ys yv yz n ns nl n2 ns2 nl2 (nI ff) (nI ff2) fe fl fb fs fw fh fe2 fl2 fb2 fs2 fw2 fh2 hn20 kk imf hkk j1) (cwV 1 hts gL_law_X7_image rfl rfl rfl (by decide +kernel) ⟨Nat.le_of_ble_eq_true rfl, Nat.le_of_ble_eq_true rfl⟩) hN hK hP hD [0, 35, 1, 2, 3, 4, 5, 6, 7, 8, 36, 37, 38, 39, 40, 41, 42, 43] rfl (by decide) 7 0 rfl rfl rfl rfl hl.1 rfl (Nat.le_of_ble_eq_true rfl) dL_law_824 ⟨by show k1 + 8 ≤ 600000; omega, by show k2 + 61 ≤ 7302250; omega⟩) hP hD hS hA [0, 35, 1, 2, 3, 4, 5, 6, 7, 8, 36, 37, 38, 39, 40, 41, 42, 43] rfl rfl (fun _ => rfl) (fun r _ H locs hw hP hD hS => ?_)
    have hP : va_P D vwCl ((WC a cI cJ cG cM n nl ns sc ff fe fl fb fs fw fh fp hg ah le lst ln lah lmh fin up lo ft cm fk rs rf nf cr pr wf vf imf ++ tl8 cI y0 ye yl yb yw ys yv yz n nl ns ff (va_cpy fe fe2 0 0 6) (va_cpy fl fl2 0 0 6) (va_cpy fb fb2 0 0 6) (va_cpy fs fs2 0 0 nl) (va_cpy fw fw2 0 0 6) (va_cpy fh fh2 0 0 6)) ++ (WM d cI cZ n nl ns sc ff fe8 fl8 fb8 fs8 fw8 fp8 la ah8 ri lh by8 cm8 fk8 wn8 oc8 kq8 mf zf ++ tlI cI ib)) H := hP
    have hD : va_D (fun q : Nat => s.heap.size ≤ q) ((WC a cI cJ cG cM n nl ns sc ff fe fl fb fs fw fh fp hg ah le lst ln lah lmh fin up lo ft cm fk rs rf nf cr pr wf vf imf ++ tl8 cI y0 ye yl yb yw ys yv yz n nl ns ff (va_cpy fe fe2 0 0 6) (va_cpy fl fl2 0 0 6) (va_cpy fb fb2 0 0 6) (va_cpy fs fs2 0 0 nl) (va_cpy fw fw2 0 0 6) (va_cpy fh fh2 0 0 6)) ++ (WM d cI cZ n nl ns sc ff fe8 fl8 fb8 fs8 fw8 fp8 la ah8 ri lh by8 cm8 fk8 wn8 oc8 kq8 mf zf ++ tlI cI ib)) := hD
    have hP := pa_m2 hP
    have hD := da_m2 hD
    refine lv_aload_n hx hb dL_law_827 rfl (lv_at hl 2 rfl) ?_
    refine lv_aload_n hx hb dL_law_828 rfl (lv_at hl 0 rfl) ?_
    refine lv_iload_n hx hb dL_law_829 rfl (lv_at hl 3 rfl) ?_
    refine lv_iconst (v := nI 1) hx hb dL_law_830 (by decide) ?_
    refine iadd_n (a := i) (b := 1) hx hb dL_law_831 ?_
    refine sld_n (k := i + 1) hx hb hX hbl hbA hS (by omega) (by omega) dL_law_832 ?_
    rw [hx1]
    refine cal_iT (run_V (As := [.int (nI kk)]) (rest := [.int r]) SF (m_imageS l D cI cJ cZ cG cM (d 0) (d 1) (d 2) (d 3) (d 4) (d 5) (d 6) (d 7) (d 8) (d 9) (d 10) (d 11) (d 12) (d 13) (d 14) (nI ff) (nI ns) (nI sc) la ah8 ri lh n nl kk fe8 fl8 fb8 fs8 fw8 mf zf hkk) (cwV 1 hts gL_law_X8_image rfl rfl rfl (by decide +kernel) ⟨Nat.le_of_ble_eq_true rfl, Nat.le_of_ble_eq_true rfl⟩) hN hK hP hD [0, 1, 2, 3, 4, 5, 13, 14] rfl (by decide) 8 0 rfl rfl rfl rfl hl.1 rfl (Nat.le_of_ble_eq_true rfl) dL_law_833 ⟨by show k1 + 8 ≤ 600000; omega, by show k2 + 61 ≤ 7302250; omega⟩) hP hD hS hA [0, 1, 2, 3, 4, 5, 13, 14] rfl rfl (fun _ => rfl) (fun r8 v H locs hw8 hP hD hS => ?_)
    obtain ⟨hB, ho, hz, hw9⟩ := hw8
    have hq : r = r8 := hw.trans hw9.symm
    have hP : va_P D vwCl (WM d cI cZ n nl ns sc ff fe8 fl8 fb8 fs8 fw8 fp8 la ah8 ri lh by8 cm8 fk8 wn8 oc8 kq8 v.1 v.2 ++ ((WC a cI cJ cG cM n nl ns sc ff fe fl fb fs fw fh fp hg ah le lst ln lah lmh fin up lo ft cm fk rs rf nf cr pr wf vf imf ++ tl8 cI y0 ye yl yb yw ys yv yz n nl ns ff (va_cpy fe fe2 0 0 6) (va_cpy fl fl2 0 0 6) (va_cpy fb fb2 0 0 6) (va_cpy fs fs2 0 0 nl) (va_cpy fw fw2 0 0 6) (va_cpy fh fh2 0 0 6)) ++ tlI cI ib)) H := hP
    have hD : va_D (fun q : Nat => s.heap.size ≤ q) (WM d cI cZ n nl ns sc ff fe8 fl8 fb8 fs8 fw8 fp8 la ah8 ri lh by8 cm8 fk8 wn8 oc8 kq8 v.1 v.2 ++ ((WC a cI cJ cG cM n nl ns sc ff fe fl fb fs fw fh fp hg ah le lst ln lah lmh fin up lo ft cm fk rs rf nf cr pr wf vf imf ++ tl8 cI y0 ye yl yb yw ys yv yz n nl ns ff (va_cpy fe fe2 0 0 6) (va_cpy fl fl2 0 0 6) (va_cpy fb fb2 0 0 6) (va_cpy fs fs2 0 0 nl) (va_cpy fw fw2 0 0 6) (va_cpy fh fh2 0 0 6)) ++ tlI cI ib)) := hD
    have hP := pa_m2 hP
    have hD := da_m2 hD
    have hP := pa_n3 hP
    have hD := da_n3 hD
    have kr := kp_image (ye := ye) (yl := yl) (yb := yb) (yw := yw) (ys := ys) (yv := yv) (yz := yz) g e9 hkk ir2 (fe2 := va_cpy fe fe2 0 0 6) (fl2 := va_cpy fl fl2 0 0 6) (fb2 := va_cpy fb fb2 0 0 6) (fs2 := va_cpy fs fs2 0 0 nl) (fw2 := va_cpy fw fw2 0 0 6) (fh2 := va_cpy fh fh2 0 0 6) cpy6 cpy6 cpy6 cpy6 cpy6 cpy6 j1 rfl hz hB ho
    refine lv_icmp_eq (tgt := 887) hx hb dL_law_836 (by decide) (fun _ => ?_) (fun c9 => absurd hq c9)
    exact K n nl ns sc ff fe fl fb fs fw fh fp hg ah le lst ln lah lmh fin up lo ft cm fk rs rf nf cr pr wf vf imf fe8 fl8 fb8 fs8 fw8 fp8 la ah8 ri lh by8 cm8 fk8 wn8 oc8 kq8 v.1 v.2 (some (y0, ye, yl, yb, yw, ys, yv, yz, n, nl, ns, ff, va_cpy fe fe2 0 0 6, va_cpy fl fl2 0 0 6, va_cpy fb fb2 0 0 6, va_cpy fs fs2 0 0 nl, va_cpy fw fw2 0 0 6, va_cpy fh fh2 0 0 6)) ib ⟨g, e9, pr9, kr.1, kr.2⟩ H locs hP hD hS ls hl
theorem lc_image {p : Program} {l : Launch} {e : Env} {s : State} {m : MethodId} {below : List Frame} {meth : Method} {c : Code} {b L : Nat} {xs : Nat → Int32} {D : va_G} {cI cJ cZ cG cM : ClassId} {a d : Nat → Nat} {i k1 k2 : Nat} (C0 : FX p s m c b L xs D cI cJ cZ cG cM) (hi : i + 6 ≤ L) (hk : k1 ≤ 599000 ∧ k2 ≤ 7300000) (K : HD p l e s m below meth c b D cI cJ cZ cG cM a d 0 887 i (k1 + 8) (k2 + 61)) : HD p l e s m below meth c b D cI cJ cZ cG cM a d 0 818 i k1 k2 := by
  by_cases hC : nI 0 ≤ xs (i + 1) ∧ xs (i + 1) ≤ nI 1
  · obtain ⟨q, -, q1, q2⟩ := nI_rng (by omega) (by omega) hC.1 hC.2
    rcases (show q = 0 ∨ q = 1 by omega) with rfl | rfl
    · exact lc_imageA C0 hi hk (by omega) q2 K
    · exact HD_swap (by omega) (lc_imageA C0 hi hk (by omega) q2 (HD_swap (by omega) K))
  · exact lc_imageN C0 hi hk hC K

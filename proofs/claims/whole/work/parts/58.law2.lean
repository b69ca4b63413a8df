/-! THE LAW, call by call -/
theorem kp_fine1 {ff : Nat} {u x : Int32} (hff : ff ≤ 9) (h : u = (if nI 0 ≤ x ∧ x ≤ nI 9 then x else nI ff)) : ∃ f1 : Nat, f1 ≤ 9 ∧ u = nI f1 := by
  by_cases c : nI 0 ≤ x ∧ x ≤ nI 9
  · rw [if_pos c] at h
    obtain ⟨a, -, a2, e⟩ := nI_rng (by omega) (by omega) c.1 c.2
    exact ⟨a, a2, h.trans e⟩
  · rw [if_neg c] at h
    exact ⟨ff, hff, h⟩
set_option maxHeartbeats 1000000 in
set_option maxRecDepth 100000 in
theorem lc_members {p : Program} {l : Launch} {e : Env} {s : State} {m : MethodId} {below : List Frame} {meth : Method} {c : Code} {b L : Nat} {xs : Nat → Int32} {D : va_G} {cI cJ cZ cG cM : ClassId} {a d : Nat → Nat} {kk i k1 k2 : Nat} (C0 : FX p s m c b L xs D cI cJ cZ cG cM) (hi : i + 6 ≤ L) (hk : k1 ≤ 599000 ∧ k2 ≤ 7300000) (K : HD p l e s m below meth c b D cI cJ cZ cG cM a d kk 887 i k1 k2) : HD p l e s m below meth c b D cI cJ cZ cG cM a d kk 144 i k1 k2 := by
  obtain ⟨hx, hb, SF, hts, hX, hbl, hbA, hL, hN, hK⟩ := C0
  have hA : ∀ q : Nat, s.heap.size ≤ q → (fun q : Nat => s.heap.size ≤ q) q := fun _ h => h
  intro n nl ns sc ff fe fl fb fs fw fh fp hg ah le lst ln lah lmh fin up lo ft cm fk rs rf nf cr pr wf vf imf fe8 fl8 fb8 fs8 fw8 fp8 la ah8 ri lh by8 cm8 fk8 wn8 oc8 kq8 mf zf ia ib hLI H locs hP hD hS ls hl
  obtain ⟨g, e9, pr9, ir1, ir2⟩ := hLI
  have h1 := g.1.1
  have h6 := g.1.2.1
  have hff := g.1.2.2.1
  have hns := g.1.2.2.2
  have hsc := pr9.1
  have hV := g.2.2.2.2.1
  have hV8 := VL_cong hV e9.2.2.2.1
  have hn20 := hV.1
  have hn1 := VL_pos hV
  have hfb : ∀ j, j < n → ∃ b : Nat, b ≤ 23 ∧ fb j = nI b := RNG_n g.2.2.2.1 h6
  have hfl : ∀ j, j < n → ∃ b : Nat, b ≤ 5 ∧ fl j = nI b := RNG_n g.2.2.1 h6
  have hfb8 : ∀ j, j < n → ∃ b : Nat, b ≤ 23 ∧ fb8 j = nI b := RNG_e hfb (fun j hj => e9.2.2.1 j (by omega))
  have hfl8 : ∀ j, j < n → ∃ b : Nat, b ≤ 5 ∧ fl8 j = nI b := RNG_e hfl (fun j hj => e9.2.1 j (by omega))
  have hsw : ∀ j, j < ns → ∃ k : Nat, k ≤ 30 ∧ fw j = nI k := g.2.2.2.2.2
  have hsw8 : ∀ j, j < ns → ∃ k : Nat, k ≤ 30 ∧ fw8 (2 * j) = nI k := RNG_e hsw (fun j hj => (e9.2.2.2.2 j hj).1)
  refine lv_aload_n hx hb dL_law_144 rfl (lv_at hl 1 rfl) ?_
  refine lv_aload_n hx hb dL_law_145 rfl (lv_at hl 0 rfl) ?_
  refine lv_iload_n hx hb dL_law_146 rfl (lv_at hl 3 rfl) ?_
  refine lv_iconst (v := nI 1) hx hb dL_law_147 (by decide) ?_
  refine iadd_n (a := i) (b := 1) hx hb dL_law_148 ?_
  refine sld_n (k := i + 1) hx hb hX hbl hbA hS (by omega) (by omega) dL_law_149 ?_
  refine cal_iT (run_V (As := [.int (xs (i + 1))]) (rest := []) SF (o_members l D cI cJ cZ cG cM (a 0) (a 9) (a 11) (a 15) (a 19) (a 32) (a 35) (a 1) (a 2) (a 3) (a 4) (a 5) (a 7) (a 8) (nI ff) n ns fe fl fb (xs (i + 1)) h6) (cwV 1 hts gL_law_X7_members rfl rfl rfl (by decide +kernel) ⟨Nat.le_of_ble_eq_true rfl, Nat.le_of_ble_eq_true rfl⟩) hN hK hP hD [0, 1, 2, 3, 4] rfl (by decide) 7 0 rfl rfl rfl rfl hl.1 rfl (Nat.le_of_ble_eq_true rfl) dL_law_150 ⟨by show k1 + 0 ≤ 600000; omega, by show k2 + 0 ≤ 7302250; omega⟩) hP hD hS hA [0, 1, 2, 3, 4] rfl rfl (fun _ => rfl) (fun r u H locs hw hP hD hS => ?_)
  have hP : va_P D vwCl (WC a cI cJ cG cM u.1 nl u.2.1 sc ff u.2.2.1 u.2.2.2.1 u.2.2.2.2 fs fw fh fp hg ah le lst ln lah lmh fin up lo ft cm fk rs rf nf cr pr wf vf imf ++ (WM d cI cZ n nl ns sc ff fe8 fl8 fb8 fs8 fw8 fp8 la ah8 ri lh by8 cm8 fk8 wn8 oc8 kq8 mf zf ++ (tlI cI ia ++ tlI cI ib))) H := hP
  have hD : va_D (fun q : Nat => s.heap.size ≤ q) (WC a cI cJ cG cM u.1 nl u.2.1 sc ff u.2.2.1 u.2.2.2.1 u.2.2.2.2 fs fw fh fp hg ah le lst ln lah lmh fin up lo ft cm fk rs rf nf cr pr wf vf imf ++ (WM d cI cZ n nl ns sc ff fe8 fl8 fb8 fs8 fw8 fp8 la ah8 ri lh by8 cm8 fk8 wn8 oc8 kq8 mf zf ++ (tlI cI ia ++ tlI cI ib))) := hD
  have hP := pa_m2 hP
  have hD := da_m2 hD
  refine lv_aload_n hx hb dL_law_153 rfl (lv_at hl 2 rfl) ?_
  refine lv_aload_n hx hb dL_law_154 rfl (lv_at hl 0 rfl) ?_
  refine lv_iload_n hx hb dL_law_155 rfl (lv_at hl 3 rfl) ?_
  refine lv_iconst (v := nI 1) hx hb dL_law_156 (by decide) ?_
  refine iadd_n (a := i) (b := 1) hx hb dL_law_157 ?_
  refine sld_n (k := i + 1) hx hb hX hbl hbA hS (by omega) (by omega) dL_law_158 ?_
  refine cal_iT (run_V (As := [.int (xs (i + 1))]) (rest := [.int r]) SF (m_members l D cI cJ cZ cG cM (d 0) (d 1) (d 2) (d 3) (d 4) (d 5) (d 6) (d 7) (d 8) (d 9) (d 10) (d 11) (d 12) (d 13) (d 14) (nI ff) 0 (nI sc) la ah8 ri lh n nl fe8 fl8 fb8 (xs (i + 1)) ns h6) (cwV 1 hts gL_law_X8_members rfl rfl rfl (by decide +kernel) ⟨Nat.le_of_ble_eq_true rfl, Nat.le_of_ble_eq_true rfl⟩) hN hK hP hD [0, 1, 2, 3] rfl (by decide) 8 0 rfl rfl rfl rfl hl.1 rfl (Nat.le_of_ble_eq_true rfl) dL_law_159 ⟨by show k1 + 0 ≤ 600000; omega, by show k2 + 0 ≤ 7302250; omega⟩) hP hD hS hA [0, 1, 2, 3] rfl rfl (fun _ => rfl) (fun r8 v H locs hw8 hP hD hS => ?_)
  obtain ⟨hq, n2, ns2, a1, b1, c1, a2, b2, c2, rfl, rfl, g2, e2⟩ := kp_members g e9 hw hw8
  have hP : va_P D vwCl (WM d cI cZ n2 nl ns2 sc ff a2 b2 c2 fs8 fw8 fp8 la ah8 ri lh by8 cm8 fk8 wn8 oc8 kq8 mf zf ++ (WC a cI cJ cG cM n2 nl ns2 sc ff a1 b1 c1 fs fw fh fp hg ah le lst ln lah lmh fin up lo ft cm fk rs rf nf cr pr wf vf imf ++ (tlI cI ia ++ tlI cI ib))) H := hP
  have hD : va_D (fun q : Nat => s.heap.size ≤ q) (WM d cI cZ n2 nl ns2 sc ff a2 b2 c2 fs8 fw8 fp8 la ah8 ri lh by8 cm8 fk8 wn8 oc8 kq8 mf zf ++ (WC a cI cJ cG cM n2 nl ns2 sc ff a1 b1 c1 fs fw fh fp hg ah le lst ln lah lmh fin up lo ft cm fk rs rf nf cr pr wf vf imf ++ (tlI cI ia ++ tlI cI ib))) := hD
  have hP := pa_m2 hP
  have hD := da_m2 hD
  refine lv_icmp_eq (tgt := 887) hx hb dL_law_162 (by decide) (fun _ => ?_) (fun c9 => absurd hq c9)
  exact K n2 nl ns2 sc ff a1 b1 c1 fs fw fh fp hg ah le lst ln lah lmh fin up lo ft cm fk rs rf nf cr pr wf vf imf a2 b2 c2 fs8 fw8 fp8 la ah8 ri lh by8 cm8 fk8 wn8 oc8 kq8 mf zf ia ib ⟨g2, e2, pr9, ir1, ir2⟩ H locs hP hD hS ls hl

set_option maxHeartbeats 1000000 in
set_option maxRecDepth 100000 in
theorem lc_member {p : Program} {l : Launch} {e : Env} {s : State} {m : MethodId} {below : List Frame} {meth : Method} {c : Code} {b L : Nat} {xs : Nat → Int32} {D : va_G} {cI cJ cZ cG cM : ClassId} {a d : Nat → Nat} {kk i k1 k2 : Nat} (C0 : FX p s m c b L xs D cI cJ cZ cG cM) (hi : i + 6 ≤ L) (hk : k1 ≤ 599000 ∧ k2 ≤ 7300000) (K : HD p l e s m below meth c b D cI cJ cZ cG cM a d kk 887 i k1 k2) : HD p l e s m below meth c b D cI cJ cZ cG cM a d kk 167 i k1 k2 := by
  obtain ⟨hx, hb, SF, hts, hX, hbl, hbA, hL, hN, hK⟩ := C0
  have hA : ∀ q : Nat, s.heap.size ≤ q → (fun q : Nat => s.heap.size ≤ q) q := fun _ h => h
  intro n nl ns sc ff fe fl fb fs fw fh fp hg ah le lst ln lah lmh fin up lo ft cm fk rs rf nf cr pr wf vf imf fe8 fl8 fb8 fs8 fw8 fp8 la ah8 ri lh by8 cm8 fk8 wn8 oc8 kq8 mf zf ia ib hLI H locs hP hD hS ls hl
  obtain ⟨g, e9, pr9, ir1, ir2⟩ := hLI
  have h1 := g.1.1
  have h6 := g.1.2.1
  have hff := g.1.2.2.1
  have hns := g.1.2.2.2
  have hsc := pr9.1
  have hV := g.2.2.2.2.1
  have hV8 := VL_cong hV e9.2.2.2.1
  have hn20 := hV.1
  have hn1 := VL_pos hV
  have hfb : ∀ j, j < n → ∃ b : Nat, b ≤ 23 ∧ fb j = nI b := RNG_n g.2.2.2.1 h6
  have hfl : ∀ j, j < n → ∃ b : Nat, b ≤ 5 ∧ fl j = nI b := RNG_n g.2.2.1 h6
  have hfb8 : ∀ j, j < n → ∃ b : Nat, b ≤ 23 ∧ fb8 j = nI b := RNG_e hfb (fun j hj => e9.2.2.1 j (by omega))
  have hfl8 : ∀ j, j < n → ∃ b : Nat, b ≤ 5 ∧ fl8 j = nI b := RNG_e hfl (fun j hj => e9.2.1 j (by omega))
  have hsw : ∀ j, j < ns → ∃ k : Nat, k ≤ 30 ∧ fw j = nI k := g.2.2.2.2.2
  have hsw8 : ∀ j, j < ns → ∃ k : Nat, k ≤ 30 ∧ fw8 (2 * j) = nI k := RNG_e hsw (fun j hj => (e9.2.2.2.2 j hj).1)
  refine lv_aload_n hx hb dL_law_167 rfl (lv_at hl 1 rfl) ?_
  refine lv_aload_n hx hb dL_law_168 rfl (lv_at hl 0 rfl) ?_
  refine lv_iload_n hx hb dL_law_169 rfl (lv_at hl 3 rfl) ?_
  refine lv_iconst (v := nI 1) hx hb dL_law_170 (by decide) ?_
  refine iadd_n (a := i) (b := 1) hx hb dL_law_171 ?_
  refine sld_n (k := i + 1) hx hb hX hbl hbA hS (by omega) (by omega) dL_law_172 ?_
  refine lv_aload_n hx hb dL_law_173 rfl (lv_at hl 0 rfl) ?_
  refine lv_iload_n hx hb dL_law_174 rfl (lv_at hl 3 rfl) ?_
  refine lv_iconst (v := nI 2) hx hb dL_law_175 (by decide) ?_
  refine iadd_n (a := i) (b := 2) hx hb dL_law_176 ?_
  refine sld_n (k := i + 2) hx hb hX hbl hbA hS (by omega) (by omega) dL_law_177 ?_
  refine lv_aload_n hx hb dL_law_178 rfl (lv_at hl 0 rfl) ?_
  refine lv_iload_n hx hb dL_law_179 rfl (lv_at hl 3 rfl) ?_
  refine lv_iconst (v := nI 3) hx hb dL_law_180 (by decide) ?_
  refine iadd_n (a := i) (b := 3) hx hb dL_law_181 ?_
  refine sld_n (k := i + 3) hx hb hX hbl hbA hS (by omega) (by omega) dL_law_182 ?_
  refine cal_iT (run_V (As := [.int (xs (i + 1)), .int (xs (i + 2)), .int (xs (i + 3))]) (rest := []) SF (o_member l D cI cJ cZ cG cM (a 0) (a 9) (a 11) (a 15) (a 19) (a 32) (a 35) (a 1) (a 2) (a 3) (a 4) (a 5) (a 7) (a 8) (nI ff) n ns fe fl fb (xs (i + 1)) (xs (i + 2)) (xs (i + 3)) h6) (cwV 3 hts gL_law_X7_member rfl rfl rfl (by decide +kernel) ⟨Nat.le_of_ble_eq_true rfl, Nat.le_of_ble_eq_true rfl⟩) hN hK hP hD [0, 1, 2, 3, 4] rfl (by decide) 7 0 rfl rfl rfl rfl hl.1 rfl (Nat.le_of_ble_eq_true rfl) dL_law_183 ⟨by show k1 + 0 ≤ 600000; omega, by show k2 + 0 ≤ 7302250; omega⟩) hP hD hS hA [0, 1, 2, 3, 4] rfl rfl (fun _ => rfl) (fun r u H locs hw hP hD hS => ?_)
  have hP : va_P D vwCl (WC a cI cJ cG cM n nl ns sc ff u.1 u.2.1 u.2.2 fs fw fh fp hg ah le lst ln lah lmh fin up lo ft cm fk rs rf nf cr pr wf vf imf ++ (WM d cI cZ n nl ns sc ff fe8 fl8 fb8 fs8 fw8 fp8 la ah8 ri lh by8 cm8 fk8 wn8 oc8 kq8 mf zf ++ (tlI cI ia ++ tlI cI ib))) H := hP
  have hD : va_D (fun q : Nat => s.heap.size ≤ q) (WC a cI cJ cG cM n nl ns sc ff u.1 u.2.1 u.2.2 fs fw fh fp hg ah le lst ln lah lmh fin up lo ft cm fk rs rf nf cr pr wf vf imf ++ (WM d cI cZ n nl ns sc ff fe8 fl8 fb8 fs8 fw8 fp8 la ah8 ri lh by8 cm8 fk8 wn8 oc8 kq8 mf zf ++ (tlI cI ia ++ tlI cI ib))) := hD
  have hP := pa_m2 hP
  have hD := da_m2 hD
  refine lv_aload_n hx hb dL_law_186 rfl (lv_at hl 2 rfl) ?_
  refine lv_aload_n hx hb dL_law_187 rfl (lv_at hl 0 rfl) ?_
  refine lv_iload_n hx hb dL_law_188 rfl (lv_at hl 3 rfl) ?_
  refine lv_iconst (v := nI 1) hx hb dL_law_189 (by decide) ?_
  refine iadd_n (a := i) (b := 1) hx hb dL_law_190 ?_
  refine sld_n (k := i + 1) hx hb hX hbl hbA hS (by omega) (by omega) dL_law_191 ?_
  refine lv_aload_n hx hb dL_law_192 rfl (lv_at hl 0 rfl) ?_
  refine lv_iload_n hx hb dL_law_193 rfl (lv_at hl 3 rfl) ?_
  refine lv_iconst (v := nI 2) hx hb dL_law_194 (by decide) ?_
  refine iadd_n (a := i) (b := 2) hx hb dL_law_195 ?_
  refine sld_n (k := i + 2) hx hb hX hbl hbA hS (by omega) (by omega) dL_law_196 ?_
  refine lv_aload_n hx hb dL_law_197 rfl (lv_at hl 0 rfl) ?_
  refine lv_iload_n hx hb dL_law_198 rfl (lv_at hl 3 rfl) ?_
  refine lv_iconst (v := nI 3) hx hb dL_law_199 (by decide) ?_
  refine iadd_n (a := i) (b := 3) hx hb dL_law_200 ?_
  refine sld_n (k := i + 3) hx hb hX hbl hbA hS (by omega) (by omega) dL_law_201 ?_
  refine cal_iT (run_V (As := [.int (xs (i + 1)), .int (xs (i + 2)), .int (xs (i + 3))]) (rest := [.int r]) SF (m_member l D cI cJ cZ cG cM (d 0) (d 1) (d 2) (d 3) (d 4) (d 5) (d 6) (d 7) (d 8) (d 9) (d 10) (d 11) (d 12) (d 13) (d 14) (nI ff) (nI ns) (nI sc) la ah8 ri lh n nl fe8 fl8 fb8 (xs (i + 1)) (xs (i + 2)) (xs (i + 3)) h1 h6) (cwV 3 hts gL_law_X8_member rfl rfl rfl (by decide +kernel) ⟨Nat.le_of_ble_eq_true rfl, Nat.le_of_ble_eq_true rfl⟩) hN hK hP hD [0, 1, 2, 3] rfl (by decide) 8 0 rfl rfl rfl rfl hl.1 rfl (Nat.le_of_ble_eq_true rfl) dL_law_202 ⟨by show k1 + 0 ≤ 600000; omega, by show k2 + 0 ≤ 7302250; omega⟩) hP hD hS hA [0, 1, 2, 3] rfl rfl (fun _ => rfl) (fun r8 v H locs hw8 hP hD hS => ?_)
  obtain ⟨hq, a1, b1, c1, a2, b2, c2, rfl, rfl, g2, e2⟩ := kp_member g e9 hw hw8
  have hP : va_P D vwCl (WM d cI cZ n nl ns sc ff a2 b2 c2 fs8 fw8 fp8 la ah8 ri lh by8 cm8 fk8 wn8 oc8 kq8 mf zf ++ (WC a cI cJ cG cM n nl ns sc ff a1 b1 c1 fs fw fh fp hg ah le lst ln lah lmh fin up lo ft cm fk rs rf nf cr pr wf vf imf ++ (tlI cI ia ++ tlI cI ib))) H := hP
  have hD : va_D (fun q : Nat => s.heap.size ≤ q) (WM d cI cZ n nl ns sc ff a2 b2 c2 fs8 fw8 fp8 la ah8 ri lh by8 cm8 fk8 wn8 oc8 kq8 mf zf ++ (WC a cI cJ cG cM n nl ns sc ff a1 b1 c1 fs fw fh fp hg ah le lst ln lah lmh fin up lo ft cm fk rs rf nf cr pr wf vf imf ++ (tlI cI ia ++ tlI cI ib))) := hD
  have hP := pa_m2 hP
  have hD := da_m2 hD
  refine lv_icmp_eq (tgt := 887) hx hb dL_law_205 (by decide) (fun _ => ?_) (fun c9 => absurd hq c9)
  exact K n nl ns sc ff a1 b1 c1 fs fw fh fp hg ah le lst ln lah lmh fin up lo ft cm fk rs rf nf cr pr wf vf imf a2 b2 c2 fs8 fw8 fp8 la ah8 ri lh by8 cm8 fk8 wn8 oc8 kq8 mf zf ia ib ⟨g2, e2, pr9, ir1, ir2⟩ H locs hP hD hS ls hl

set_option maxHeartbeats 1000000 in
set_option maxRecDepth 100000 in
theorem lc_fine {p : Program} {l : Launch} {e : Env} {s : State} {m : MethodId} {below : List Frame} {meth : Method} {c : Code} {b L : Nat} {xs : Nat → Int32} {D : va_G} {cI cJ cZ cG cM : ClassId} {a d : Nat → Nat} {kk i k1 k2 : Nat} (C0 : FX p s m c b L xs D cI cJ cZ cG cM) (hi : i + 6 ≤ L) (hk : k1 ≤ 599000 ∧ k2 ≤ 7300000) (K : HD p l e s m below meth c b D cI cJ cZ cG cM a d kk 887 i k1 k2) : HD p l e s m below meth c b D cI cJ cZ cG cM a d kk 210 i k1 k2 := by
  obtain ⟨hx, hb, SF, hts, hX, hbl, hbA, hL, hN, hK⟩ := C0
  have hA : ∀ q : Nat, s.heap.size ≤ q → (fun q : Nat => s.heap.size ≤ q) q := fun _ h => h
  intro n nl ns sc ff fe fl fb fs fw fh fp hg ah le lst ln lah lmh fin up lo ft cm fk rs rf nf cr pr wf vf imf fe8 fl8 fb8 fs8 fw8 fp8 la ah8 ri lh by8 cm8 fk8 wn8 oc8 kq8 mf zf ia ib hLI H locs hP hD hS ls hl
  obtain ⟨g, e9, pr9, ir1, ir2⟩ := hLI
  have h1 := g.1.1
  have h6 := g.1.2.1
  have hff := g.1.2.2.1
  have hns := g.1.2.2.2
  have hsc := pr9.1
  have hV := g.2.2.2.2.1
  have hV8 := VL_cong hV e9.2.2.2.1
  have hn20 := hV.1
  have hn1 := VL_pos hV
  have hfb : ∀ j, j < n → ∃ b : Nat, b ≤ 23 ∧ fb j = nI b := RNG_n g.2.2.2.1 h6
  have hfl : ∀ j, j < n → ∃ b : Nat, b ≤ 5 ∧ fl j = nI b := RNG_n g.2.2.1 h6
  have hfb8 : ∀ j, j < n → ∃ b : Nat, b ≤ 23 ∧ fb8 j = nI b := RNG_e hfb (fun j hj => e9.2.2.1 j (by omega))
  have hfl8 : ∀ j, j < n → ∃ b : Nat, b ≤ 5 ∧ fl8 j = nI b := RNG_e hfl (fun j hj => e9.2.1 j (by omega))
  have hsw : ∀ j, j < ns → ∃ k : Nat, k ≤ 30 ∧ fw j = nI k := g.2.2.2.2.2
  have hsw8 : ∀ j, j < ns → ∃ k : Nat, k ≤ 30 ∧ fw8 (2 * j) = nI k := RNG_e hsw (fun j hj => (e9.2.2.2.2 j hj).1)
  refine lv_aload_n hx hb dL_law_210 rfl (lv_at hl 1 rfl) ?_
  refine lv_aload_n hx hb dL_law_211 rfl (lv_at hl 0 rfl) ?_
  refine lv_iload_n hx hb dL_law_212 rfl (lv_at hl 3 rfl) ?_
  refine lv_iconst (v := nI 1) hx hb dL_law_213 (by decide) ?_
  refine iadd_n (a := i) (b := 1) hx hb dL_law_214 ?_
  refine sld_n (k := i + 1) hx hb hX hbl hbA hS (by omega) (by omega) dL_law_215 ?_
  refine cal_iT (run_V (As := [.int (xs (i + 1))]) (rest := []) SF (o_fine l D cI cJ cZ cG cM (a 0) (a 9) (a 11) (a 15) (a 19) (a 32) (a 35) (a 1) (a 2) (a 3) (a 4) (a 5) (a 7) (a 8) (nI ff) n ns (xs (i + 1))) (cwV 1 hts gL_law_X7_fine rfl rfl rfl (by decide +kernel) ⟨Nat.le_of_ble_eq_true rfl, Nat.le_of_ble_eq_true rfl⟩) hN hK hP hD [0, 1] rfl (by decide) 7 0 rfl rfl rfl rfl hl.1 rfl (Nat.le_of_ble_eq_true rfl) dL_law_216 ⟨by show k1 + 0 ≤ 600000; omega, by show k2 + 0 ≤ 7302250; omega⟩) hP hD hS hA [0, 1] rfl rfl (fun _ => rfl) (fun r u H locs hw hP hD hS => ?_)
  obtain ⟨f1, hf1, rfl⟩ := kp_fine1 hff hw.2
  have hP : va_P D vwCl (WC a cI cJ cG cM n nl ns sc f1 fe fl fb fs fw fh fp hg ah le lst ln lah lmh fin up lo ft cm fk rs rf nf cr pr wf vf imf ++ (WM d cI cZ n nl ns sc ff fe8 fl8 fb8 fs8 fw8 fp8 la ah8 ri lh by8 cm8 fk8 wn8 oc8 kq8 mf zf ++ (tlI cI ia ++ tlI cI ib))) H := hP
  have hD : va_D (fun q : Nat => s.heap.size ≤ q) (WC a cI cJ cG cM n nl ns sc f1 fe fl fb fs fw fh fp hg ah le lst ln lah lmh fin up lo ft cm fk rs rf nf cr pr wf vf imf ++ (WM d cI cZ n nl ns sc ff fe8 fl8 fb8 fs8 fw8 fp8 la ah8 ri lh by8 cm8 fk8 wn8 oc8 kq8 mf zf ++ (tlI cI ia ++ tlI cI ib))) := hD
  have hP := pa_m2 hP
  have hD := da_m2 hD
  refine lv_aload_n hx hb dL_law_219 rfl (lv_at hl 2 rfl) ?_
  refine lv_aload_n hx hb dL_law_220 rfl (lv_at hl 0 rfl) ?_
  refine lv_iload_n hx hb dL_law_221 rfl (lv_at hl 3 rfl) ?_
  refine lv_iconst (v := nI 1) hx hb dL_law_222 (by decide) ?_
  refine iadd_n (a := i) (b := 1) hx hb dL_law_223 ?_
  refine sld_n (k := i + 1) hx hb hX hbl hbA hS (by omega) (by omega) dL_law_224 ?_
  refine cal_iT (run_V (As := [.int (xs (i + 1))]) (rest := [.int r]) SF (m_fine l D cI cJ cZ cG cM (d 0) (d 1) (d 2) (d 3) (d 4) (d 5) (d 6) (d 7) (d 8) (d 9) (d 10) (d 11) (d 12) (d 13) (d 14) (nI ff) (nI ns) (nI sc) la ah8 ri lh n nl (xs (i + 1))) (cwV 1 hts gL_law_X8_fine rfl rfl rfl (by decide +kernel) ⟨Nat.le_of_ble_eq_true rfl, Nat.le_of_ble_eq_true rfl⟩) hN hK hP hD [0] rfl (by decide) 8 0 rfl rfl rfl rfl hl.1 rfl (Nat.le_of_ble_eq_true rfl) dL_law_225 ⟨by show k1 + 0 ≤ 600000; omega, by show k2 + 0 ≤ 7302250; omega⟩) hP hD hS hA [0] rfl rfl (fun _ => rfl) (fun r8 v H locs hw8 hP hD hS => ?_)
  obtain ⟨f3, hf3, rfl⟩ := kp_fine1 hff hw8.2
  have hq : r = r8 := hw.1.trans hw8.1.symm
  have hf : f1 = f3 := (nI_eq (by omega) (by omega)).mp (hw.2.trans hw8.2.symm)
  subst hf
  have hP : va_P D vwCl (WM d cI cZ n nl ns sc f1 fe8 fl8 fb8 fs8 fw8 fp8 la ah8 ri lh by8 cm8 fk8 wn8 oc8 kq8 mf zf ++ (WC a cI cJ cG cM n nl ns sc f1 fe fl fb fs fw fh fp hg ah le lst ln lah lmh fin up lo ft cm fk rs rf nf cr pr wf vf imf ++ (tlI cI ia ++ tlI cI ib))) H := hP
  have hD : va_D (fun q : Nat => s.heap.size ≤ q) (WM d cI cZ n nl ns sc f1 fe8 fl8 fb8 fs8 fw8 fp8 la ah8 ri lh by8 cm8 fk8 wn8 oc8 kq8 mf zf ++ (WC a cI cJ cG cM n nl ns sc f1 fe fl fb fs fw fh fp hg ah le lst ln lah lmh fin up lo ft cm fk rs rf nf cr pr wf vf imf ++ (tlI cI ia ++ tlI cI ib))) := hD
  have hP := pa_m2 hP
  have hD := da_m2 hD
  refine lv_icmp_eq (tgt := 887) hx hb dL_law_228 (by decide) (fun _ => ?_) (fun c9 => absurd hq c9)
  exact K n nl ns sc f1 fe fl fb fs fw fh fp hg ah le lst ln lah lmh fin up lo ft cm fk rs rf nf cr pr wf vf imf fe8 fl8 fb8 fs8 fw8 fp8 la ah8 ri lh by8 cm8 fk8 wn8 oc8 kq8 mf zf ia ib ⟨⟨⟨g.1.1, g.1.2.1, hf1, g.1.2.2.2⟩, g.2⟩, e9, pr9, ir1, ir2⟩ H locs hP hD hS ls hl

set_option maxHeartbeats 1000000 in
set_option maxRecDepth 100000 in
theorem lc_say {p : Program} {l : Launch} {e : Env} {s : State} {m : MethodId} {below : List Frame} {meth : Method} {c : Code} {b L : Nat} {xs : Nat → Int32} {D : va_G} {cI cJ cZ cG cM : ClassId} {a d : Nat → Nat} {kk i k1 k2 : Nat} (C0 : FX p s m c b L xs D cI cJ cZ cG cM) (hi : i + 6 ≤ L) (hk : k1 ≤ 599000 ∧ k2 ≤ 7300000) (K : HD p l e s m below meth c b D cI cJ cZ cG cM a d kk 887 i k1 k2) : HD p l e s m below meth c b D cI cJ cZ cG cM a d kk 233 i k1 k2 := by
  obtain ⟨hx, hb, SF, hts, hX, hbl, hbA, hL, hN, hK⟩ := C0
  have hA : ∀ q : Nat, s.heap.size ≤ q → (fun q : Nat => s.heap.size ≤ q) q := fun _ h => h
  intro n nl ns sc ff fe fl fb fs fw fh fp hg ah le lst ln lah lmh fin up lo ft cm fk rs rf nf cr pr wf vf imf fe8 fl8 fb8 fs8 fw8 fp8 la ah8 ri lh by8 cm8 fk8 wn8 oc8 kq8 mf zf ia ib hLI H locs hP hD hS ls hl
  obtain ⟨g, e9, pr9, ir1, ir2⟩ := hLI
  have h1 := g.1.1
  have h6 := g.1.2.1
  have hff := g.1.2.2.1
  have hns := g.1.2.2.2
  have hsc := pr9.1
  have hV := g.2.2.2.2.1
  have hV8 := VL_cong hV e9.2.2.2.1
  have hn20 := hV.1
  have hn1 := VL_pos hV
  have hfb : ∀ j, j < n → ∃ b : Nat, b ≤ 23 ∧ fb j = nI b := RNG_n g.2.2.2.1 h6
  have hfl : ∀ j, j < n → ∃ b : Nat, b ≤ 5 ∧ fl j = nI b := RNG_n g.2.2.1 h6
  have hfb8 : ∀ j, j < n → ∃ b : Nat, b ≤ 23 ∧ fb8 j = nI b := RNG_e hfb (fun j hj => e9.2.2.1 j (by omega))
  have hfl8 : ∀ j, j < n → ∃ b : Nat, b ≤ 5 ∧ fl8 j = nI b := RNG_e hfl (fun j hj => e9.2.1 j (by omega))
  have hsw : ∀ j, j < ns → ∃ k : Nat, k ≤ 30 ∧ fw j = nI k := g.2.2.2.2.2
  have hsw8 : ∀ j, j < ns → ∃ k : Nat, k ≤ 30 ∧ fw8 (2 * j) = nI k := RNG_e hsw (fun j hj => (e9.2.2.2.2 j hj).1)
  refine lv_aload_n hx hb dL_law_233 rfl (lv_at hl 1 rfl) ?_
  refine lv_aload_n hx hb dL_law_234 rfl (lv_at hl 0 rfl) ?_
  refine lv_iload_n hx hb dL_law_235 rfl (lv_at hl 3 rfl) ?_
  refine lv_iconst (v := nI 1) hx hb dL_law_236 (by decide) ?_
  refine iadd_n (a := i) (b := 1) hx hb dL_law_237 ?_
  refine sld_n (k := i + 1) hx hb hX hbl hbA hS (by omega) (by omega) dL_law_238 ?_
  refine cal_iT (run_V (As := [.int (xs (i + 1))]) (rest := []) SF (o_say l D cI cJ cZ cG cM (a 0) (a 9) (a 11) (a 15) (a 19) (a 32) (a 35) (a 1) (a 10) sc fp (xs (i + 1)) hsc) (cwV 1 hts gL_law_X7_say rfl rfl rfl (by decide +kernel) ⟨Nat.le_of_ble_eq_true rfl, Nat.le_of_ble_eq_true rfl⟩) hN hK hP hD [0, 9, 10] rfl (by decide) 7 0 rfl rfl rfl rfl hl.1 rfl (Nat.le_of_ble_eq_true rfl) dL_law_239 ⟨by show k1 + 0 ≤ 600000; omega, by show k2 + 0 ≤ 7302250; omega⟩) hP hD hS hA [0, 9, 10] rfl rfl (fun _ => rfl) (fun r u H locs hw hP hD hS => ?_)
  have hP : va_P D vwCl (WC a cI cJ cG cM n nl ns u.1 ff fe fl fb fs fw fh u.2 hg ah le lst ln lah lmh fin up lo ft cm fk rs rf nf cr pr wf vf imf ++ (WM d cI cZ n nl ns sc ff fe8 fl8 fb8 fs8 fw8 fp8 la ah8 ri lh by8 cm8 fk8 wn8 oc8 kq8 mf zf ++ (tlI cI ia ++ tlI cI ib))) H := hP
  have hD : va_D (fun q : Nat => s.heap.size ≤ q) (WC a cI cJ cG cM n nl ns u.1 ff fe fl fb fs fw fh u.2 hg ah le lst ln lah lmh fin up lo ft cm fk rs rf nf cr pr wf vf imf ++ (WM d cI cZ n nl ns sc ff fe8 fl8 fb8 fs8 fw8 fp8 la ah8 ri lh by8 cm8 fk8 wn8 oc8 kq8 mf zf ++ (tlI cI ia ++ tlI cI ib))) := hD
  have hP := pa_m2 hP
  have hD := da_m2 hD
  refine lv_aload_n hx hb dL_law_242 rfl (lv_at hl 2 rfl) ?_
  refine lv_aload_n hx hb dL_law_243 rfl (lv_at hl 0 rfl) ?_
  refine lv_iload_n hx hb dL_law_244 rfl (lv_at hl 3 rfl) ?_
  refine lv_iconst (v := nI 1) hx hb dL_law_245 (by decide) ?_
  refine iadd_n (a := i) (b := 1) hx hb dL_law_246 ?_
  refine sld_n (k := i + 1) hx hb hX hbl hbA hS (by omega) (by omega) dL_law_247 ?_
  refine cal_iT (run_V (As := [.int (xs (i + 1))]) (rest := [.int r]) SF (m_say l D cI cJ cZ cG cM (d 0) (d 1) (d 2) (d 3) (d 4) (d 5) (d 6) (d 7) (d 8) (d 9) (d 10) (d 11) (d 12) (d 13) (d 14) (nI ff) (nI ns) 0 la ah8 ri lh n nl sc fp8 (xs (i + 1)) hsc) (cwV 1 hts gL_law_X8_say rfl rfl rfl (by decide +kernel) ⟨Nat.le_of_ble_eq_true rfl, Nat.le_of_ble_eq_true rfl⟩) hN hK hP hD [0, 6] rfl (by decide) 8 0 rfl rfl rfl rfl hl.1 rfl (Nat.le_of_ble_eq_true rfl) dL_law_248 ⟨by show k1 + 0 ≤ 600000; omega, by show k2 + 0 ≤ 7302250; omega⟩) hP hD hS hA [0, 6] rfl rfl (fun _ => rfl) (fun r8 v H locs hw8 hP hD hS => ?_)
  obtain ⟨hq, s2, p1, p2, rfl, rfl, pr2⟩ := kp_say pr9 hw hw8
  have hP : va_P D vwCl (WM d cI cZ n nl ns s2 ff fe8 fl8 fb8 fs8 fw8 p2 la ah8 ri lh by8 cm8 fk8 wn8 oc8 kq8 mf zf ++ (WC a cI cJ cG cM n nl ns s2 ff fe fl fb fs fw fh p1 hg ah le lst ln lah lmh fin up lo ft cm fk rs rf nf cr pr wf vf imf ++ (tlI cI ia ++ tlI cI ib))) H := hP
  have hD : va_D (fun q : Nat => s.heap.size ≤ q) (WM d cI cZ n nl ns s2 ff fe8 fl8 fb8 fs8 fw8 p2 la ah8 ri lh by8 cm8 fk8 wn8 oc8 kq8 mf zf ++ (WC a cI cJ cG cM n nl ns s2 ff fe fl fb fs fw fh p1 hg ah le lst ln lah lmh fin up lo ft cm fk rs rf nf cr pr wf vf imf ++ (tlI cI ia ++ tlI cI ib))) := hD
  have hP := pa_m2 hP
  have hD := da_m2 hD
  refine lv_icmp_eq (tgt := 887) hx hb dL_law_251 (by decide) (fun _ => ?_) (fun c9 => absurd hq c9)
  exact K n nl ns s2 ff fe fl fb fs fw fh p1 hg ah le lst ln lah lmh fin up lo ft cm fk rs rf nf cr pr wf vf imf fe8 fl8 fb8 fs8 fw8 p2 la ah8 ri lh by8 cm8 fk8 wn8 oc8 kq8 mf zf ia ib ⟨g, e9, pr2, ir1, ir2⟩ H locs hP hD hS ls hl

set_option maxHeartbeats 1000000 in
set_option maxRecDepth 100000 in
theorem lc_enact {p : Program} {l : Launch} {e : Env} {s : State} {m : MethodId} {below : List Frame} {meth : Method} {c : Code} {b L : Nat} {xs : Nat → Int32} {D : va_G} {cI cJ cZ cG cM : ClassId} {a d : Nat → Nat} {kk i k1 k2 : Nat} (C0 : FX p s m c b L xs D cI cJ cZ cG cM) (hi : i + 6 ≤ L) (hk : k1 ≤ 599000 ∧ k2 ≤ 7300000) (K : HD p l e s m below meth c b D cI cJ cZ cG cM a d kk 887 i k1 k2) : HD p l e s m below meth c b D cI cJ cZ cG cM a d kk 282 i k1 k2 := by
  obtain ⟨hx, hb, SF, hts, hX, hbl, hbA, hL, hN, hK⟩ := C0
  have hA : ∀ q : Nat, s.heap.size ≤ q → (fun q : Nat => s.heap.size ≤ q) q := fun _ h => h
  intro n nl ns sc ff fe fl fb fs fw fh fp hg ah le lst ln lah lmh fin up lo ft cm fk rs rf nf cr pr wf vf imf fe8 fl8 fb8 fs8 fw8 fp8 la ah8 ri lh by8 cm8 fk8 wn8 oc8 kq8 mf zf ia ib hLI H locs hP hD hS ls hl
  obtain ⟨g, e9, pr9, ir1, ir2⟩ := hLI
  have h1 := g.1.1
  have h6 := g.1.2.1
  have hff := g.1.2.2.1
  have hns := g.1.2.2.2
  have hsc := pr9.1
  have hV := g.2.2.2.2.1
  have hV8 := VL_cong hV e9.2.2.2.1
  have hn20 := hV.1
  have hn1 := VL_pos hV
  have hfb : ∀ j, j < n → ∃ b : Nat, b ≤ 23 ∧ fb j = nI b := RNG_n g.2.2.2.1 h6
  have hfl : ∀ j, j < n → ∃ b : Nat, b ≤ 5 ∧ fl j = nI b := RNG_n g.2.2.1 h6
  have hfb8 : ∀ j, j < n → ∃ b : Nat, b ≤ 23 ∧ fb8 j = nI b := RNG_e hfb (fun j hj => e9.2.2.1 j (by omega))
  have hfl8 : ∀ j, j < n → ∃ b : Nat, b ≤ 5 ∧ fl8 j = nI b := RNG_e hfl (fun j hj => e9.2.1 j (by omega))
  have hsw : ∀ j, j < ns → ∃ k : Nat, k ≤ 30 ∧ fw j = nI k := g.2.2.2.2.2
  have hsw8 : ∀ j, j < ns → ∃ k : Nat, k ≤ 30 ∧ fw8 (2 * j) = nI k := RNG_e hsw (fun j hj => (e9.2.2.2.2 j hj).1)
  refine lv_aload_n hx hb dL_law_282 rfl (lv_at hl 1 rfl) ?_
  refine cal_iT (run_V (As := []) (rest := []) SF (o_enact l D cI cJ cZ cG cM (a 0) (a 9) (a 11) (a 15) (a 19) (a 32) (a 35) (a 1) (a 2) (a 3) (a 4) (a 5) (a 7) (a 8) (nI ff) n ns (a 10) sc (a 6) nl fp fs hsc) (cwV 0 hts gL_law_X7_enact rfl rfl rfl (by decide +kernel) ⟨Nat.le_of_ble_eq_true rfl, Nat.le_of_ble_eq_true rfl⟩) hN hK hP hD [0, 1, 9, 10, 5, 6] rfl (by decide) 7 0 rfl rfl rfl rfl hl.1 rfl (Nat.le_of_ble_eq_true rfl) dL_law_283 ⟨by show k1 + 0 ≤ 600000; omega, by show k2 + 0 ≤ 7302250; omega⟩) hP hD hS hA [0, 1, 9, 10, 5, 6] rfl rfl (fun _ => rfl) (fun r u H locs hw hP hD hS => ?_)
  have hP : va_P D vwCl (WC a cI cJ cG cM n u.1 ns u.2.2 ff fe fl fb u.2.1 fw fh fp hg ah le lst ln lah lmh fin up lo ft cm fk rs rf nf cr pr wf vf imf ++ (WM d cI cZ n nl ns sc ff fe8 fl8 fb8 fs8 fw8 fp8 la ah8 ri lh by8 cm8 fk8 wn8 oc8 kq8 mf zf ++ (tlI cI ia ++ tlI cI ib))) H := hP
  have hD : va_D (fun q : Nat => s.heap.size ≤ q) (WC a cI cJ cG cM n u.1 ns u.2.2 ff fe fl fb u.2.1 fw fh fp hg ah le lst ln lah lmh fin up lo ft cm fk rs rf nf cr pr wf vf imf ++ (WM d cI cZ n nl ns sc ff fe8 fl8 fb8 fs8 fw8 fp8 la ah8 ri lh by8 cm8 fk8 wn8 oc8 kq8 mf zf ++ (tlI cI ia ++ tlI cI ib))) := hD
  have hP := pa_m2 hP
  have hD := da_m2 hD
  refine lv_aload_n hx hb dL_law_286 rfl (lv_at hl 2 rfl) ?_
  refine cal_iT (run_V (As := []) (rest := [.int r]) SF (m_enact l D cI cJ cZ cG cM (d 0) (d 1) (d 2) (d 3) (d 4) (d 5) (d 6) (d 7) (d 8) (d 9) (d 10) (d 11) (d 12) (d 13) (d 14) (nI ff) (nI ns) 0 la ah8 ri lh n nl sc fp8 fs8 hsc) (cwV 0 hts gL_law_X8_enact rfl rfl rfl (by decide +kernel) ⟨Nat.le_of_ble_eq_true rfl, Nat.le_of_ble_eq_true rfl⟩) hN hK hP hD [0, 6, 4] rfl (by decide) 8 0 rfl rfl rfl rfl hl.1 rfl (Nat.le_of_ble_eq_true rfl) dL_law_287 ⟨by show k1 + 0 ≤ 600000; omega, by show k2 + 0 ≤ 7302250; omega⟩) hP hD hS hA [0, 6, 4] rfl rfl (fun _ => rfl) (fun r8 v H locs hw8 hP hD hS => ?_)
  obtain ⟨hq, nl2, sc2, s1, s2, rfl, rfl, g2, e2, pr2⟩ := kp_enact g e9 pr9 hw hw8
  have hP : va_P D vwCl (WM d cI cZ n nl2 ns sc2 ff fe8 fl8 fb8 s2 fw8 fp8 la ah8 ri lh by8 cm8 fk8 wn8 oc8 kq8 mf zf ++ (WC a cI cJ cG cM n nl2 ns sc2 ff fe fl fb s1 fw fh fp hg ah le lst ln lah lmh fin up lo ft cm fk rs rf nf cr pr wf vf imf ++ (tlI cI ia ++ tlI cI ib))) H := hP
  have hD : va_D (fun q : Nat => s.heap.size ≤ q) (WM d cI cZ n nl2 ns sc2 ff fe8 fl8 fb8 s2 fw8 fp8 la ah8 ri lh by8 cm8 fk8 wn8 oc8 kq8 mf zf ++ (WC a cI cJ cG cM n nl2 ns sc2 ff fe fl fb s1 fw fh fp hg ah le lst ln lah lmh fin up lo ft cm fk rs rf nf cr pr wf vf imf ++ (tlI cI ia ++ tlI cI ib))) := hD
  have hP := pa_m2 hP
  have hD := da_m2 hD
  refine lv_icmp_eq (tgt := 887) hx hb dL_law_290 (by decide) (fun _ => ?_) (fun c9 => absurd hq c9)
  exact K n nl2 ns sc2 ff fe fl fb s1 fw fh fp hg ah le lst ln lah lmh fin up lo ft cm fk rs rf nf cr pr wf vf imf fe8 fl8 fb8 s2 fw8 fp8 la ah8 ri lh by8 cm8 fk8 wn8 oc8 kq8 mf zf ia ib ⟨g2, e2, pr2, ir1, ir2⟩ H locs hP hD hS ls hl

set_option maxHeartbeats 1000000 in
set_option maxRecDepth 100000 in
theorem lc_seen {p : Program} {l : Launch} {e : Env} {s : State} {m : MethodId} {below : List Frame} {meth : Method} {c : Code} {b L : Nat} {xs : Nat → Int32} {D : va_G} {cI cJ cZ cG cM : ClassId} {a d : Nat → Nat} {kk i k1 k2 : Nat} (C0 : FX p s m c b L xs D cI cJ cZ cG cM) (hi : i + 6 ≤ L) (hk : k1 ≤ 599000 ∧ k2 ≤ 7300000) (K : HD p l e s m below meth c b D cI cJ cZ cG cM a d kk 887 i k1 k2) : HD p l e s m below meth c b D cI cJ cZ cG cM a d kk 622 i k1 k2 := by
  obtain ⟨hx, hb, SF, hts, hX, hbl, hbA, hL, hN, hK⟩ := C0
  have hA : ∀ q : Nat, s.heap.size ≤ q → (fun q : Nat => s.heap.size ≤ q) q := fun _ h => h
  intro n nl ns sc ff fe fl fb fs fw fh fp hg ah le lst ln lah lmh fin up lo ft cm fk rs rf nf cr pr wf vf imf fe8 fl8 fb8 fs8 fw8 fp8 la ah8 ri lh by8 cm8 fk8 wn8 oc8 kq8 mf zf ia ib hLI H locs hP hD hS ls hl
  obtain ⟨g, e9, pr9, ir1, ir2⟩ := hLI
  have h1 := g.1.1
  have h6 := g.1.2.1
  have hff := g.1.2.2.1
  have hns := g.1.2.2.2
  have hsc := pr9.1
  have hV := g.2.2.2.2.1
  have hV8 := VL_cong hV e9.2.2.2.1
  have hn20 := hV.1
  have hn1 := VL_pos hV
  have hfb : ∀ j, j < n → ∃ b : Nat, b ≤ 23 ∧ fb j = nI b := RNG_n g.2.2.2.1 h6
  have hfl : ∀ j, j < n → ∃ b : Nat, b ≤ 5 ∧ fl j = nI b := RNG_n g.2.2.1 h6
  have hfb8 : ∀ j, j < n → ∃ b : Nat, b ≤ 23 ∧ fb8 j = nI b := RNG_e hfb (fun j hj => e9.2.2.1 j (by omega))
  have hfl8 : ∀ j, j < n → ∃ b : Nat, b ≤ 5 ∧ fl8 j = nI b := RNG_e hfl (fun j hj => e9.2.1 j (by omega))
  have hsw : ∀ j, j < ns → ∃ k : Nat, k ≤ 30 ∧ fw j = nI k := g.2.2.2.2.2
  have hsw8 : ∀ j, j < ns → ∃ k : Nat, k ≤ 30 ∧ fw8 (2 * j) = nI k := RNG_e hsw (fun j hj => (e9.2.2.2.2 j hj).1)
  refine lv_aload_n hx hb dL_law_622 rfl (lv_at hl 1 rfl) ?_
  refine lv_aload_n hx hb dL_law_623 rfl (lv_at hl 0 rfl) ?_
  refine lv_iload_n hx hb dL_law_624 rfl (lv_at hl 3 rfl) ?_
  refine lv_iconst (v := nI 1) hx hb dL_law_625 (by decide) ?_
  refine iadd_n (a := i) (b := 1) hx hb dL_law_626 ?_
  refine sld_n (k := i + 1) hx hb hX hbl hbA hS (by omega) (by omega) dL_law_627 ?_
  refine lv_aload_n hx hb dL_law_628 rfl (lv_at hl 0 rfl) ?_
  refine lv_iload_n hx hb dL_law_629 rfl (lv_at hl 3 rfl) ?_
  refine lv_iconst (v := nI 2) hx hb dL_law_630 (by decide) ?_
  refine iadd_n (a := i) (b := 2) hx hb dL_law_631 ?_
  refine sld_n (k := i + 2) hx hb hX hbl hbA hS (by omega) (by omega) dL_law_632 ?_
  refine cal_iT (run_V (As := [.int (xs (i + 1)), .int (xs (i + 2))]) (rest := []) SF (o_seen l D cI cJ cZ cG cM (a 0) (a 9) (a 11) (a 15) (a 19) (a 32) (a 35) (a 1) (a 2) (a 3) (a 4) (a 5) (a 7) (a 8) (nI ff) n ns fw fh (xs (i + 1)) (xs (i + 2)) hns) (cwV 2 hts gL_law_X7_seen rfl rfl rfl (by decide +kernel) ⟨Nat.le_of_ble_eq_true rfl, Nat.le_of_ble_eq_true rfl⟩) hN hK hP hD [0, 1, 7, 8] rfl (by decide) 7 0 rfl rfl rfl rfl hl.1 rfl (Nat.le_of_ble_eq_true rfl) dL_law_633 ⟨by show k1 + 0 ≤ 600000; omega, by show k2 + 0 ≤ 7302250; omega⟩) hP hD hS hA [0, 1, 7, 8] rfl rfl (fun _ => rfl) (fun r u H locs hw hP hD hS => ?_)
  have hP : va_P D vwCl (WC a cI cJ cG cM n nl u.1 sc ff fe fl fb fs u.2.1 u.2.2 fp hg ah le lst ln lah lmh fin up lo ft cm fk rs rf nf cr pr wf vf imf ++ (WM d cI cZ n nl ns sc ff fe8 fl8 fb8 fs8 fw8 fp8 la ah8 ri lh by8 cm8 fk8 wn8 oc8 kq8 mf zf ++ (tlI cI ia ++ tlI cI ib))) H := hP
  have hD : va_D (fun q : Nat => s.heap.size ≤ q) (WC a cI cJ cG cM n nl u.1 sc ff fe fl fb fs u.2.1 u.2.2 fp hg ah le lst ln lah lmh fin up lo ft cm fk rs rf nf cr pr wf vf imf ++ (WM d cI cZ n nl ns sc ff fe8 fl8 fb8 fs8 fw8 fp8 la ah8 ri lh by8 cm8 fk8 wn8 oc8 kq8 mf zf ++ (tlI cI ia ++ tlI cI ib))) := hD
  have hP := pa_m2 hP
  have hD := da_m2 hD
  refine lv_aload_n hx hb dL_law_636 rfl (lv_at hl 2 rfl) ?_
  refine lv_aload_n hx hb dL_law_637 rfl (lv_at hl 0 rfl) ?_
  refine lv_iload_n hx hb dL_law_638 rfl (lv_at hl 3 rfl) ?_
  refine lv_iconst (v := nI 1) hx hb dL_law_639 (by decide) ?_
  refine iadd_n (a := i) (b := 1) hx hb dL_law_640 ?_
  refine sld_n (k := i + 1) hx hb hX hbl hbA hS (by omega) (by omega) dL_law_641 ?_
  refine lv_aload_n hx hb dL_law_642 rfl (lv_at hl 0 rfl) ?_
  refine lv_iload_n hx hb dL_law_643 rfl (lv_at hl 3 rfl) ?_
  refine lv_iconst (v := nI 2) hx hb dL_law_644 (by decide) ?_
  refine iadd_n (a := i) (b := 2) hx hb dL_law_645 ?_
  refine sld_n (k := i + 2) hx hb hX hbl hbA hS (by omega) (by omega) dL_law_646 ?_
  refine cal_iT (run_V (As := [.int (xs (i + 1)), .int (xs (i + 2))]) (rest := [.int r]) SF (m_seen l D cI cJ cZ cG cM (d 0) (d 1) (d 2) (d 3) (d 4) (d 5) (d 6) (d 7) (d 8) (d 9) (d 10) (d 11) (d 12) (d 13) (d 14) (nI ff) 0 (nI sc) la ah8 ri lh n nl ns fw8 (xs (i + 1)) (xs (i + 2)) hns) (cwV 2 hts gL_law_X8_seen rfl rfl rfl (by decide +kernel) ⟨Nat.le_of_ble_eq_true rfl, Nat.le_of_ble_eq_true rfl⟩) hN hK hP hD [0, 5] rfl (by decide) 8 0 rfl rfl rfl rfl hl.1 rfl (Nat.le_of_ble_eq_true rfl) dL_law_647 ⟨by show k1 + 0 ≤ 600000; omega, by show k2 + 0 ≤ 7302250; omega⟩) hP hD hS hA [0, 5] rfl rfl (fun _ => rfl) (fun r8 v H locs hw8 hP hD hS => ?_)
  obtain ⟨hq, n2, w1, h2, w2, rfl, rfl, g2, e2⟩ := kp_seen g e9 hw hw8
  have hP : va_P D vwCl (WM d cI cZ n nl n2 sc ff fe8 fl8 fb8 fs8 w2 fp8 la ah8 ri lh by8 cm8 fk8 wn8 oc8 kq8 mf zf ++ (WC a cI cJ cG cM n nl n2 sc ff fe fl fb fs w1 h2 fp hg ah le lst ln lah lmh fin up lo ft cm fk rs rf nf cr pr wf vf imf ++ (tlI cI ia ++ tlI cI ib))) H := hP
  have hD : va_D (fun q : Nat => s.heap.size ≤ q) (WM d cI cZ n nl n2 sc ff fe8 fl8 fb8 fs8 w2 fp8 la ah8 ri lh by8 cm8 fk8 wn8 oc8 kq8 mf zf ++ (WC a cI cJ cG cM n nl n2 sc ff fe fl fb fs w1 h2 fp hg ah le lst ln lah lmh fin up lo ft cm fk rs rf nf cr pr wf vf imf ++ (tlI cI ia ++ tlI cI ib))) := hD
  have hP := pa_m2 hP
  have hD := da_m2 hD
  refine lv_icmp_eq (tgt := 887) hx hb dL_law_650 (by decide) (fun _ => ?_) (fun c9 => absurd hq c9)
  exact K n nl n2 sc ff fe fl fb fs w1 h2 fp hg ah le lst ln lah lmh fin up lo ft cm fk rs rf nf cr pr wf vf imf fe8 fl8 fb8 fs8 w2 fp8 la ah8 ri lh by8 cm8 fk8 wn8 oc8 kq8 mf zf ia ib ⟨g2, e2, pr9, ir1, ir2⟩ H locs hP hD hS ls hl

set_option maxHeartbeats 1000000 in
set_option maxRecDepth 100000 in
theorem lc_told {p : Program} {l : Launch} {e : Env} {s : State} {m : MethodId} {below : List Frame} {meth : Method} {c : Code} {b L : Nat} {xs : Nat → Int32} {D : va_G} {cI cJ cZ cG cM : ClassId} {a d : Nat → Nat} {kk i k1 k2 : Nat} (C0 : FX p s m c b L xs D cI cJ cZ cG cM) (hi : i + 6 ≤ L) (hk : k1 ≤ 599000 ∧ k2 ≤ 7300000) (K : HD p l e s m below meth c b D cI cJ cZ cG cM a d kk 887 i k1 k2) : HD p l e s m below meth c b D cI cJ cZ cG cM a d kk 864 i k1 k2 := by
  obtain ⟨hx, hb, SF, hts, hX, hbl, hbA, hL, hN, hK⟩ := C0
  have hA : ∀ q : Nat, s.heap.size ≤ q → (fun q : Nat => s.heap.size ≤ q) q := fun _ h => h
  intro n nl ns sc ff fe fl fb fs fw fh fp hg ah le lst ln lah lmh fin up lo ft cm fk rs rf nf cr pr wf vf imf fe8 fl8 fb8 fs8 fw8 fp8 la ah8 ri lh by8 cm8 fk8 wn8 oc8 kq8 mf zf ia ib hLI H locs hP hD hS ls hl
  obtain ⟨g, e9, pr9, ir1, ir2⟩ := hLI
  have h1 := g.1.1
  have h6 := g.1.2.1
  have hff := g.1.2.2.1
  have hns := g.1.2.2.2
  have hsc := pr9.1
  have hV := g.2.2.2.2.1
  have hV8 := VL_cong hV e9.2.2.2.1
  have hn20 := hV.1
  have hn1 := VL_pos hV
  have hfb : ∀ j, j < n → ∃ b : Nat, b ≤ 23 ∧ fb j = nI b := RNG_n g.2.2.2.1 h6
  have hfl : ∀ j, j < n → ∃ b : Nat, b ≤ 5 ∧ fl j = nI b := RNG_n g.2.2.1 h6
  have hfb8 : ∀ j, j < n → ∃ b : Nat, b ≤ 23 ∧ fb8 j = nI b := RNG_e hfb (fun j hj => e9.2.2.1 j (by omega))
  have hfl8 : ∀ j, j < n → ∃ b : Nat, b ≤ 5 ∧ fl8 j = nI b := RNG_e hfl (fun j hj => e9.2.1 j (by omega))
  have hsw : ∀ j, j < ns → ∃ k : Nat, k ≤ 30 ∧ fw j = nI k := g.2.2.2.2.2
  have hsw8 : ∀ j, j < ns → ∃ k : Nat, k ≤ 30 ∧ fw8 (2 * j) = nI k := RNG_e hsw (fun j hj => (e9.2.2.2.2 j hj).1)
  refine lv_aload_n hx hb dL_law_864 rfl (lv_at hl 1 rfl) ?_
  refine lv_aload_n hx hb dL_law_865 rfl (lv_at hl 0 rfl) ?_
  refine lv_iload_n hx hb dL_law_866 rfl (lv_at hl 3 rfl) ?_
  refine lv_iconst (v := nI 1) hx hb dL_law_867 (by decide) ?_
  refine iadd_n (a := i) (b := 1) hx hb dL_law_868 ?_
  refine sld_n (k := i + 1) hx hb hX hbl hbA hS (by omega) (by omega) dL_law_869 ?_
  refine cal_iT (run_V (As := [.int (xs (i + 1))]) (rest := []) SF (o_told l D cI cJ cZ cG cM (a 0) (a 9) (a 11) (a 15) (a 19) (a 32) (a 35) (a 1) (a 2) (a 3) (a 4) (a 5) (a 7) (a 8) (nI ff) n ns (a 10) sc (a 6) nl fe fl fb fs (xs (i + 1)) hn20 h6) (cwV 1 hts gL_law_X7_told rfl rfl rfl (by decide +kernel) ⟨Nat.le_of_ble_eq_true rfl, Nat.le_of_ble_eq_true rfl⟩) hN hK hP hD [0, 1, 2, 3, 4, 5, 6, 9] rfl (by decide) 7 0 rfl rfl rfl rfl hl.1 rfl (Nat.le_of_ble_eq_true rfl) dL_law_870 ⟨by show k1 + 0 ≤ 600000; omega, by show k2 + 0 ≤ 7302250; omega⟩) hP hD hS hA [0, 1, 2, 3, 4, 5, 6, 9] rfl rfl (fun _ => rfl) (fun r _ H locs hw hP hD hS => ?_)
  have hP : va_P D vwCl (WC a cI cJ cG cM n nl ns sc ff fe fl fb fs fw fh fp hg ah le lst ln lah lmh fin up lo ft cm fk rs rf nf cr pr wf vf imf ++ (WM d cI cZ n nl ns sc ff fe8 fl8 fb8 fs8 fw8 fp8 la ah8 ri lh by8 cm8 fk8 wn8 oc8 kq8 mf zf ++ (tlI cI ia ++ tlI cI ib))) H := hP
  have hD : va_D (fun q : Nat => s.heap.size ≤ q) (WC a cI cJ cG cM n nl ns sc ff fe fl fb fs fw fh fp hg ah le lst ln lah lmh fin up lo ft cm fk rs rf nf cr pr wf vf imf ++ (WM d cI cZ n nl ns sc ff fe8 fl8 fb8 fs8 fw8 fp8 la ah8 ri lh by8 cm8 fk8 wn8 oc8 kq8 mf zf ++ (tlI cI ia ++ tlI cI ib))) := hD
  have hP := pa_m2 hP
  have hD := da_m2 hD
  refine lv_aload_n hx hb dL_law_873 rfl (lv_at hl 2 rfl) ?_
  refine lv_aload_n hx hb dL_law_874 rfl (lv_at hl 0 rfl) ?_
  refine lv_iload_n hx hb dL_law_875 rfl (lv_at hl 3 rfl) ?_
  refine lv_iconst (v := nI 1) hx hb dL_law_876 (by decide) ?_
  refine iadd_n (a := i) (b := 1) hx hb dL_law_877 ?_
  refine sld_n (k := i + 1) hx hb hX hbl hbA hS (by omega) (by omega) dL_law_878 ?_
  refine cal_iT (run_V (As := [.int (xs (i + 1))]) (rest := [.int r]) SF (m_told l D cI cJ cZ cG cM (d 0) (d 1) (d 2) (d 3) (d 4) (d 5) (d 6) (d 7) (d 8) (d 9) (d 10) (d 11) (d 12) (d 13) (d 14) (nI ff) 0 0 la ah8 ri lh n nl fe8 fl8 fb8 fs8 ns sc (xs (i + 1)) hn1 hn20 h1 h6) (cwV 1 hts gL_law_X8_told rfl rfl rfl (by decide +kernel) ⟨Nat.le_of_ble_eq_true rfl, Nat.le_of_ble_eq_true rfl⟩) hN hK hP hD [0, 1, 2, 3, 4] rfl (by decide) 8 0 rfl rfl rfl rfl hl.1 rfl (Nat.le_of_ble_eq_true rfl) dL_law_879 ⟨by show k1 + 0 ≤ 600000; omega, by show k2 + 0 ≤ 7302250; omega⟩) hP hD hS hA [0, 1, 2, 3, 4] rfl rfl (fun _ => rfl) (fun r8 _ H locs hw8 hP hD hS => ?_)
  have hq : r = r8 := sm_told g e9 hw hw8
  have hP : va_P D vwCl (WM d cI cZ n nl ns sc ff fe8 fl8 fb8 fs8 fw8 fp8 la ah8 ri lh by8 cm8 fk8 wn8 oc8 kq8 mf zf ++ (WC a cI cJ cG cM n nl ns sc ff fe fl fb fs fw fh fp hg ah le lst ln lah lmh fin up lo ft cm fk rs rf nf cr pr wf vf imf ++ (tlI cI ia ++ tlI cI ib))) H := hP
  have hD : va_D (fun q : Nat => s.heap.size ≤ q) (WM d cI cZ n nl ns sc ff fe8 fl8 fb8 fs8 fw8 fp8 la ah8 ri lh by8 cm8 fk8 wn8 oc8 kq8 mf zf ++ (WC a cI cJ cG cM n nl ns sc ff fe fl fb fs fw fh fp hg ah le lst ln lah lmh fin up lo ft cm fk rs rf nf cr pr wf vf imf ++ (tlI cI ia ++ tlI cI ib))) := hD
  have hP := pa_m2 hP
  have hD := da_m2 hD
  refine lv_icmp_eq (tgt := 887) hx hb dL_law_882 (by decide) (fun _ => ?_) (fun c9 => absurd hq c9)
  exact K n nl ns sc ff fe fl fb fs fw fh fp hg ah le lst ln lah lmh fin up lo ft cm fk rs rf nf cr pr wf vf imf fe8 fl8 fb8 fs8 fw8 fp8 la ah8 ri lh by8 cm8 fk8 wn8 oc8 kq8 mf zf ia ib ⟨g, e9, pr9, ir1, ir2⟩ H locs hP hD hS ls hl

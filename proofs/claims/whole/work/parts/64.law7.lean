/-! THE LAW: its loop, its start -/
set_option maxHeartbeats 4000000 in
set_option maxRecDepth 100000 in
theorem law_case {p : Program} {l : Launch} {e : Env} {s : State} {m : MethodId} {below : List Frame} {meth : Method} {c : Code} {b L : Nat} {xs : Nat → Int32} {D : va_G} {cI cJ cZ cG cM : ClassId} {a d : Nat → Nat} {i k1 k2 : Nat} (C0 : FX p s m c b L xs D cI cJ cZ cG cM) (hi : i + 6 ≤ L) (hk : k1 ≤ 599000 ∧ k2 ≤ 7300000) (K : HD p l e s m below meth c b D cI cJ cZ cG cM a d 0 887 i (k1 + 8) (k2 + 61)) : HD p l e s m below meth c b D cI cJ cZ cG cM a d 0 27 i k1 k2 := by
  have K0 : HD p l e s m below meth c b D cI cJ cZ cG cM a d 0 887 i k1 k2 := HD_widen (by omega) (by omega) K
  have C9 := C0
  obtain ⟨hx, hb, SF, hts, hX, hbl, hbA, hL, hN, hK⟩ := C0
  intro n nl ns sc ff fe fl fb fs fw fh fp hg ah le lst ln lah lmh fin up lo ft cm fk rs rf nf cr pr wf vf imf fe8 fl8 fb8 fs8 fw8 fp8 la ah8 ri lh by8 cm8 fk8 wn8 oc8 kq8 mf zf ia ib hLI H locs hP hD hS ls hl
  refine lv_aload_n hx hb dL_law_27 rfl (lv_at hl 0 rfl) ?_
  refine lv_iload_n hx hb dL_law_28 rfl (lv_at hl 3 rfl) ?_
  refine sld_n (k := i) hx hb hX hbl hbA hS (by omega) (by omega) dL_law_29 ?_
  refine lv_bipush (v := nI 31) hx hb dL_law_30 (by decide) ?_
  refine lv_iand hx hb dL_law_32 ?_
  refine lv_topi (fun x9 _ => ?_)
  by_cases e0 : x9 = nI 0
  · refine lv_tableIn (off := 111) (tgt := 144) hx hb dL_law_33 (by rw [e0]; decide) (by rw [e0]; decide) (by rw [e0]; decide +kernel) (by decide) ?_
    exact lc_members C9 hi hk K0 n nl ns sc ff fe fl fb fs fw fh fp hg ah le lst ln lah lmh fin up lo ft cm fk rs rf nf cr pr wf vf imf fe8 fl8 fb8 fs8 fw8 fp8 la ah8 ri lh by8 cm8 fk8 wn8 oc8 kq8 mf zf ia ib hLI H locs hP hD hS ls hl
  by_cases e1 : x9 = nI 1
  · refine lv_tableIn (off := 134) (tgt := 167) hx hb dL_law_33 (by rw [e1]; decide) (by rw [e1]; decide) (by rw [e1]; decide +kernel) (by decide) ?_
    exact lc_member C9 hi hk K0 n nl ns sc ff fe fl fb fs fw fh fp hg ah le lst ln lah lmh fin up lo ft cm fk rs rf nf cr pr wf vf imf fe8 fl8 fb8 fs8 fw8 fp8 la ah8 ri lh by8 cm8 fk8 wn8 oc8 kq8 mf zf ia ib hLI H locs hP hD hS ls hl
  by_cases e2 : x9 = nI 2
  · refine lv_tableIn (off := 177) (tgt := 210) hx hb dL_law_33 (by rw [e2]; decide) (by rw [e2]; decide) (by rw [e2]; decide +kernel) (by decide) ?_
    exact lc_fine C9 hi hk K0 n nl ns sc ff fe fl fb fs fw fh fp hg ah le lst ln lah lmh fin up lo ft cm fk rs rf nf cr pr wf vf imf fe8 fl8 fb8 fs8 fw8 fp8 la ah8 ri lh by8 cm8 fk8 wn8 oc8 kq8 mf zf ia ib hLI H locs hP hD hS ls hl
  by_cases e3 : x9 = nI 3
  · refine lv_tableIn (off := 200) (tgt := 233) hx hb dL_law_33 (by rw [e3]; decide) (by rw [e3]; decide) (by rw [e3]; decide +kernel) (by decide) ?_
    exact lc_say C9 hi hk K0 n nl ns sc ff fe fl fb fs fw fh fp hg ah le lst ln lah lmh fin up lo ft cm fk rs rf nf cr pr wf vf imf fe8 fl8 fb8 fs8 fw8 fp8 la ah8 ri lh by8 cm8 fk8 wn8 oc8 kq8 mf zf ia ib hLI H locs hP hD hS ls hl
  by_cases e4 : x9 = nI 4
  · refine lv_tableIn (off := 223) (tgt := 256) hx hb dL_law_33 (by rw [e4]; decide) (by rw [e4]; decide) (by rw [e4]; decide +kernel) (by decide) ?_
    exact lc_wipe C9 hi hk K0 n nl ns sc ff fe fl fb fs fw fh fp hg ah le lst ln lah lmh fin up lo ft cm fk rs rf nf cr pr wf vf imf fe8 fl8 fb8 fs8 fw8 fp8 la ah8 ri lh by8 cm8 fk8 wn8 oc8 kq8 mf zf ia ib hLI H locs hP hD hS ls hl
  by_cases e5 : x9 = nI 5
  · refine lv_tableIn (off := 236) (tgt := 269) hx hb dL_law_33 (by rw [e5]; decide) (by rw [e5]; decide) (by rw [e5]; decide +kernel) (by decide) ?_
    exact lc_fault C9 hi hk K0 n nl ns sc ff fe fl fb fs fw fh fp hg ah le lst ln lah lmh fin up lo ft cm fk rs rf nf cr pr wf vf imf fe8 fl8 fb8 fs8 fw8 fp8 la ah8 ri lh by8 cm8 fk8 wn8 oc8 kq8 mf zf ia ib hLI H locs hP hD hS ls hl
  by_cases e6 : x9 = nI 6
  · refine lv_tableIn (off := 249) (tgt := 282) hx hb dL_law_33 (by rw [e6]; decide) (by rw [e6]; decide) (by rw [e6]; decide +kernel) (by decide) ?_
    exact lc_enact C9 hi hk K0 n nl ns sc ff fe fl fb fs fw fh fp hg ah le lst ln lah lmh fin up lo ft cm fk rs rf nf cr pr wf vf imf fe8 fl8 fb8 fs8 fw8 fp8 la ah8 ri lh by8 cm8 fk8 wn8 oc8 kq8 mf zf ia ib hLI H locs hP hD hS ls hl
  by_cases e7 : x9 = nI 7
  · refine lv_tableIn (off := 262) (tgt := 295) hx hb dL_law_33 (by rw [e7]; decide) (by rw [e7]; decide) (by rw [e7]; decide +kernel) (by decide) ?_
    exact lc_hour C9 hi hk K0 n nl ns sc ff fe fl fb fs fw fh fp hg ah le lst ln lah lmh fin up lo ft cm fk rs rf nf cr pr wf vf imf fe8 fl8 fb8 fs8 fw8 fp8 la ah8 ri lh by8 cm8 fk8 wn8 oc8 kq8 mf zf ia ib hLI H locs hP hD hS ls hl
  by_cases e8 : x9 = nI 8
  · refine lv_tableIn (off := 295) (tgt := 328) hx hb dL_law_33 (by rw [e8]; decide) (by rw [e8]; decide) (by rw [e8]; decide +kernel) (by decide) ?_
    exact lc_comes C9 hi hk K0 n nl ns sc ff fe fl fb fs fw fh fp hg ah le lst ln lah lmh fin up lo ft cm fk rs rf nf cr pr wf vf imf fe8 fl8 fb8 fs8 fw8 fp8 la ah8 ri lh by8 cm8 fk8 wn8 oc8 kq8 mf zf ia ib hLI H locs hP hD hS ls hl
  by_cases e9 : x9 = nI 9
  · refine lv_tableIn (off := 338) (tgt := 371) hx hb dL_law_33 (by rw [e9]; decide) (by rw [e9]; decide) (by rw [e9]; decide +kernel) (by decide) ?_
    exact lc_tends C9 hi hk K0 n nl ns sc ff fe fl fb fs fw fh fp hg ah le lst ln lah lmh fin up lo ft cm fk rs rf nf cr pr wf vf imf fe8 fl8 fb8 fs8 fw8 fp8 la ah8 ri lh by8 cm8 fk8 wn8 oc8 kq8 mf zf ia ib hLI H locs hP hD hS ls hl
  by_cases e10 : x9 = nI 10
  · refine lv_tableIn (off := 371) (tgt := 404) hx hb dL_law_33 (by rw [e10]; decide) (by rw [e10]; decide) (by rw [e10]; decide +kernel) (by decide) ?_
    exact lc_paid C9 hi hk K0 n nl ns sc ff fe fl fb fs fw fh fp hg ah le lst ln lah lmh fin up lo ft cm fk rs rf nf cr pr wf vf imf fe8 fl8 fb8 fs8 fw8 fp8 la ah8 ri lh by8 cm8 fk8 wn8 oc8 kq8 mf zf ia ib hLI H locs hP hD hS ls hl
  by_cases e11 : x9 = nI 11
  · refine lv_tableIn (off := 404) (tgt := 437) hx hb dL_law_33 (by rw [e11]; decide) (by rw [e11]; decide) (by rw [e11]; decide +kernel) (by decide) ?_
    exact lc_content C9 hi hk K0 n nl ns sc ff fe fl fb fs fw fh fp hg ah le lst ln lah lmh fin up lo ft cm fk rs rf nf cr pr wf vf imf fe8 fl8 fb8 fs8 fw8 fp8 la ah8 ri lh by8 cm8 fk8 wn8 oc8 kq8 mf zf ia ib hLI H locs hP hD hS ls hl
  by_cases e12 : x9 = nI 12
  · refine lv_tableIn (off := 427) (tgt := 460) hx hb dL_law_33 (by rw [e12]; decide) (by rw [e12]; decide) (by rw [e12]; decide +kernel) (by decide) ?_
    exact lc_choice C9 hi hk K0 n nl ns sc ff fe fl fb fs fw fh fp hg ah le lst ln lah lmh fin up lo ft cm fk rs rf nf cr pr wf vf imf fe8 fl8 fb8 fs8 fw8 fp8 la ah8 ri lh by8 cm8 fk8 wn8 oc8 kq8 mf zf ia ib hLI H locs hP hD hS ls hl
  by_cases e13 : x9 = nI 13
  · refine lv_tableIn (off := 480) (tgt := 513) hx hb dL_law_33 (by rw [e13]; decide) (by rw [e13]; decide) (by rw [e13]; decide +kernel) (by decide) ?_
    exact lc_rests C9 hi hk K0 n nl ns sc ff fe fl fb fs fw fh fp hg ah le lst ln lah lmh fin up lo ft cm fk rs rf nf cr pr wf vf imf fe8 fl8 fb8 fs8 fw8 fp8 la ah8 ri lh by8 cm8 fk8 wn8 oc8 kq8 mf zf ia ib hLI H locs hP hD hS ls hl
  by_cases e14 : x9 = nI 14
  · refine lv_tableIn (off := 513) (tgt := 546) hx hb dL_law_33 (by rw [e14]; decide) (by rw [e14]; decide) (by rw [e14]; decide +kernel) (by decide) ?_
    exact lc_laws C9 hi hk K0 n nl ns sc ff fe fl fb fs fw fh fp hg ah le lst ln lah lmh fin up lo ft cm fk rs rf nf cr pr wf vf imf fe8 fl8 fb8 fs8 fw8 fp8 la ah8 ri lh by8 cm8 fk8 wn8 oc8 kq8 mf zf ia ib hLI H locs hP hD hS ls hl
  by_cases e15 : x9 = nI 15
  · refine lv_tableIn (off := 546) (tgt := 579) hx hb dL_law_33 (by rw [e15]; decide) (by rw [e15]; decide) (by rw [e15]; decide +kernel) (by decide) ?_
    exact lc_move C9 hi hk K0 n nl ns sc ff fe fl fb fs fw fh fp hg ah le lst ln lah lmh fin up lo ft cm fk rs rf nf cr pr wf vf imf fe8 fl8 fb8 fs8 fw8 fp8 la ah8 ri lh by8 cm8 fk8 wn8 oc8 kq8 mf zf ia ib hLI H locs hP hD hS ls hl
  by_cases e16 : x9 = nI 16
  · refine lv_tableIn (off := 589) (tgt := 622) hx hb dL_law_33 (by rw [e16]; decide) (by rw [e16]; decide) (by rw [e16]; decide +kernel) (by decide) ?_
    exact lc_seen C9 hi hk K0 n nl ns sc ff fe fl fb fs fw fh fp hg ah le lst ln lah lmh fin up lo ft cm fk rs rf nf cr pr wf vf imf fe8 fl8 fb8 fs8 fw8 fp8 la ah8 ri lh by8 cm8 fk8 wn8 oc8 kq8 mf zf ia ib hLI H locs hP hD hS ls hl
  by_cases e17 : x9 = nI 17
  · refine lv_tableIn (off := 622) (tgt := 655) hx hb dL_law_33 (by rw [e17]; decide) (by rw [e17]; decide) (by rw [e17]; decide +kernel) (by decide) ?_
    exact lc_forget C9 hi hk K0 n nl ns sc ff fe fl fb fs fw fh fp hg ah le lst ln lah lmh fin up lo ft cm fk rs rf nf cr pr wf vf imf fe8 fl8 fb8 fs8 fw8 fp8 la ah8 ri lh by8 cm8 fk8 wn8 oc8 kq8 mf zf ia ib hLI H locs hP hD hS ls hl
  by_cases e18 : x9 = nI 18
  · refine lv_tableIn (off := 635) (tgt := 668) hx hb dL_law_33 (by rw [e18]; decide) (by rw [e18]; decide) (by rw [e18]; decide +kernel) (by decide) ?_
    exact lc_could C9 hi hk K0 n nl ns sc ff fe fl fb fs fw fh fp hg ah le lst ln lah lmh fin up lo ft cm fk rs rf nf cr pr wf vf imf fe8 fl8 fb8 fs8 fw8 fp8 la ah8 ri lh by8 cm8 fk8 wn8 oc8 kq8 mf zf ia ib hLI H locs hP hD hS ls hl
  by_cases e19 : x9 = nI 19
  · refine lv_tableIn (off := 668) (tgt := 701) hx hb dL_law_33 (by rw [e19]; decide) (by rw [e19]; decide) (by rw [e19]; decide +kernel) (by decide) ?_
    exact lc_rain C9 hi hk K0 n nl ns sc ff fe fl fb fs fw fh fp hg ah le lst ln lah lmh fin up lo ft cm fk rs rf nf cr pr wf vf imf fe8 fl8 fb8 fs8 fw8 fp8 la ah8 ri lh by8 cm8 fk8 wn8 oc8 kq8 mf zf ia ib hLI H locs hP hD hS ls hl
  by_cases e20 : x9 = nI 20
  · refine lv_tableIn (off := 732) (tgt := 765) hx hb dL_law_33 (by rw [e20]; decide) (by rw [e20]; decide) (by rw [e20]; decide +kernel) (by decide) ?_
    exact lc_year C9 hi hk K0 n nl ns sc ff fe fl fb fs fw fh fp hg ah le lst ln lah lmh fin up lo ft cm fk rs rf nf cr pr wf vf imf fe8 fl8 fb8 fs8 fw8 fp8 la ah8 ri lh by8 cm8 fk8 wn8 oc8 kq8 mf zf ia ib hLI H locs hP hD hS ls hl
  by_cases e21 : x9 = nI 21
  · refine lv_tableIn (off := 785) (tgt := 818) hx hb dL_law_33 (by rw [e21]; decide) (by rw [e21]; decide) (by rw [e21]; decide +kernel) (by decide) ?_
    exact lc_image C9 hi hk K n nl ns sc ff fe fl fb fs fw fh fp hg ah le lst ln lah lmh fin up lo ft cm fk rs rf nf cr pr wf vf imf fe8 fl8 fb8 fs8 fw8 fp8 la ah8 ri lh by8 cm8 fk8 wn8 oc8 kq8 mf zf ia ib hLI H locs hP hD hS ls hl
  by_cases e22 : x9 = nI 22
  · refine lv_tableIn (off := 808) (tgt := 841) hx hb dL_law_33 (by rw [e22]; decide) (by rw [e22]; decide) (by rw [e22]; decide +kernel) (by decide) ?_
    exact lc_restore C9 hi hk K0 n nl ns sc ff fe fl fb fs fw fh fp hg ah le lst ln lah lmh fin up lo ft cm fk rs rf nf cr pr wf vf imf fe8 fl8 fb8 fs8 fw8 fp8 la ah8 ri lh by8 cm8 fk8 wn8 oc8 kq8 mf zf ia ib hLI H locs hP hD hS ls hl
  by_cases e23 : x9 = nI 23
  · refine lv_tableIn (off := 831) (tgt := 864) hx hb dL_law_33 (by rw [e23]; decide) (by rw [e23]; decide) (by rw [e23]; decide +kernel) (by decide) ?_
    exact lc_told C9 hi hk K0 n nl ns sc ff fe fl fb fs fw fh fp hg ah le lst ln lah lmh fin up lo ft cm fk rs rf nf cr pr wf vf imf fe8 fl8 fb8 fs8 fw8 fp8 la ah8 ri lh by8 cm8 fk8 wn8 oc8 kq8 mf zf ia ib hLI H locs hP hD hS ls hl
  refine lv_tableOut (tgt := 887) hx hb dL_law_33 (by have z0 := ne_toI (c := 0) (by decide) e0; have z1 := ne_toI (c := 1) (by decide) e1; have z2 := ne_toI (c := 2) (by decide) e2; have z3 := ne_toI (c := 3) (by decide) e3; have z4 := ne_toI (c := 4) (by decide) e4; have z5 := ne_toI (c := 5) (by decide) e5; have z6 := ne_toI (c := 6) (by decide) e6; have z7 := ne_toI (c := 7) (by decide) e7; have z8 := ne_toI (c := 8) (by decide) e8; have z9 := ne_toI (c := 9) (by decide) e9; have z10 := ne_toI (c := 10) (by decide) e10; have z11 := ne_toI (c := 11) (by decide) e11; have z12 := ne_toI (c := 12) (by decide) e12; have z13 := ne_toI (c := 13) (by decide) e13; have z14 := ne_toI (c := 14) (by decide) e14; have z15 := ne_toI (c := 15) (by decide) e15; have z16 := ne_toI (c := 16) (by decide) e16; have z17 := ne_toI (c := 17) (by decide) e17; have z18 := ne_toI (c := 18) (by decide) e18; have z19 := ne_toI (c := 19) (by decide) e19; have z20 := ne_toI (c := 20) (by decide) e20; have z21 := ne_toI (c := 21) (by decide) e21; have z22 := ne_toI (c := 22) (by decide) e22; have z23 := ne_toI (c := 23) (by decide) e23; omega) (by decide) ?_
  exact K0 n nl ns sc ff fe fl fb fs fw fh fp hg ah le lst ln lah lmh fin up lo ft cm fk rs rf nf cr pr wf vf imf fe8 fl8 fb8 fs8 fw8 fp8 la ah8 ri lh by8 cm8 fk8 wn8 oc8 kq8 mf zf ia ib hLI H locs hP hD hS ls hl
theorem sub6 {L i : Nat} (hL : L ≤ 3072) (hi : i ≤ 3100) (h : ¬ Int32.ofNat L - nI 6 < nI i) : i + 6 ≤ L := by
  rcases Nat.lt_or_ge L 6 with q | q
  · refine absurd ?_ h
    have key : ∀ n : Fin 6, (Int32.ofNat n.1 - nI 6).toInt < 0 := by decide +kernel
    have k9 := key ⟨L, q⟩
    rw [Int32.lt_iff_toInt_lt, nI_toInt (by omega)]
    have k8 : (Int32.ofNat L - nI 6).toInt < 0 := k9
    omega
  · have e : Int32.ofNat L - nI 6 = nI (L - 6) := pk_sub (a := L) (b := 6) q
    rw [e] at h
    have := Nat.le_of_not_lt (fun z => h ((nI_ltI (by omega) (by omega)).mpr z))
    omega
set_option maxHeartbeats 4000000 in
set_option maxRecDepth 100000 in
theorem law_loop {p : Program} {l : Launch} {e : Env} {s : State} {m : MethodId} {below : List Frame} {meth : Method} {c : Code} {b L : Nat} {xs : Nat → Int32} {D : va_G} {cI cJ cZ cG cM : ClassId} {a d : Nat → Nat} (C0 : FX p s m c b L xs D cI cJ cZ cG cM) (hr : meth.sig.returnType = ret) (hlocks : meth.locks = false) : ∀ (n9 i k1 k2 : Nat), i ≤ L → L + 1 ≤ i + n9 → k1 + 8 * n9 ≤ 500000 → k2 + 61 * n9 ≤ 7000000 → HD p l e s m below meth c b D cI cJ cZ cG cM a d 0 18 i k1 k2 := by
  have C9 := C0
  obtain ⟨hx, hb, SF, hts, hX, hbl, hbA, hL, hN, hK⟩ := C0
  intro n9
  induction n9 with
  | zero =>
    intro i k1 k2 h1 h2
    exact absurd h2 (by omega)
  | succ n9 ih =>
    intro i k1 k2 h1 h2 h3 h4 n nl ns sc ff fe fl fb fs fw fh fp hg ah le lst ln lah lmh fin up lo ft cm fk rs rf nf cr pr wf vf imf fe8 fl8 fb8 fs8 fw8 fp8 la ah8 ri lh by8 cm8 fk8 wn8 oc8 kq8 mf zf ia ib hLI H locs hP hD hS ls hl
    refine lv_iload_n hx hb dL_law_18 rfl (lv_at hl 3 rfl) ?_
    refine lv_aload_n hx hb dL_law_19 rfl (lv_at hl 0 rfl) ?_
    refine va_slen hx hb hX hbl hbA hS dL_law_20 ?_
    refine lv_bipush (v := nI 6) hx hb dL_law_21 (by decide) ?_
    refine lv_isub hx hb dL_law_23 ?_
    refine lv_icmp_gt (tgt := 893) hx hb dL_law_24 (by decide) (fun _ => ?_) (fun c9 => ?_)
    · refine lv_iconst (v := 1) hx hb dL_law_893 (by decide) ?_
      refine va_forget (fun q hq => hS.2.2 q hq) ?_
      refine W.widen (k := 600000) (n := 7302250) (by omega) (by omega) ?_
      exact lw_ret hx hb hr hlocks dL_law_894
    · have hi := sub6 hL (by omega) c9
      refine law_case C9 hi ⟨by omega, by omega⟩ ?_ n nl ns sc ff fe fl fb fs fw fh fp hg ah le lst ln lah lmh fin up lo ft cm fk rs rf nf cr pr wf vf imf fe8 fl8 fb8 fs8 fw8 fp8 la ah8 ri lh by8 cm8 fk8 wn8 oc8 kq8 mf zf ia ib hLI H locs hP hD hS ls hl
      intro n nl ns sc ff fe fl fb fs fw fh fp hg ah le lst ln lah lmh fin up lo ft cm fk rs rf nf cr pr wf vf imf fe8 fl8 fb8 fs8 fw8 fp8 la ah8 ri lh by8 cm8 fk8 wn8 oc8 kq8 mf zf ia ib hLI H locs hP hD hS ls hl
      refine lv_iinc (v := nI (i + 6)) (lv' := [(3, .int (nI (i + 6))), (0, .ref b), (1, .ref (a 0)), (2, .ref (d 0))]) hx hb dL_law_887 hl (k := 3) rfl (by rw [← nI_add]; rfl) (by decide) rfl (fun ls hl => ?_)
      refine lv_goto (tgt := 18) hx hb dL_law_890 (by decide) ?_
      exact ih (i + 6) (k1 + 8) (k2 + 61) (by omega) (by omega) (by omega) (by omega) n nl ns sc ff fe fl fb fs fw fh fp hg ah le lst ln lah lmh fin up lo ft cm fk rs rf nf cr pr wf vf imf fe8 fl8 fb8 fs8 fw8 fp8 la ah8 ri lh by8 cm8 fk8 wn8 oc8 kq8 mf zf ia ib hLI H locs hP hD hS ls (lv_sub hl [1, 2, 3, 0] rfl)

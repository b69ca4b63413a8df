
abbrev rm_X0_madeBy : Room := { frames := 2, cells := 0, slots := 0, locals := 43 }
set_option maxHeartbeats 4000000 in
set_option maxRecDepth 100000 in
theorem c_madeBy (l : Launch) (D : va_G) (cI cJ cZ cG cM : ClassId) (b bt bc bs : Nat) (g ge gl gb gw gsw gsh : Nat) (si fi : Int32) (n : Nat) (w sg nl : Nat) (hg h : Int32) (cm fk fs : Nat → Int32) (hV : VL fs nl) (h1 : 1 ≤ n) (h6 : n ≤ 6) :
    CI l yX0_madeBy wsX0_madeBy rm_X0_madeBy D [(cI, .int), (cJ, .long), (cZ, .boolean), (cG, .object "LatestSets$Guild"), (cM, .array .int)] [(b, .inr (0, [.ref g, .ref bt, .ref bc, .ref bs, .int hg])), (g, .inr (3, [.ref ge, .ref gl, .ref gb, .ref gw, .ref gsw, .ref gsh, .int si, .int (nI n), .int fi])), (bc, .inl (cI, 6, .inl cm)), (bs, .inl (cI, 20, .inl fk)), (w, .inr (4, [.ref sg, .int (nI nl)])), (sg, .inl (cI, 20, .inl fs))] [.ref b, .ref w, .int h] (S := ((Nat → Int32) × Int32)) (fun r u => r = mdB fs nl cm n h) (fun u => [(b, .inr (0, [.ref g, .ref bt, .ref bc, .ref bs, .int u.2])), (g, .inr (3, [.ref ge, .ref gl, .ref gb, .ref gw, .ref gsw, .ref gsh, .int si, .int (nI n), .int fi])), (bc, .inl (cI, 6, .inl cm)), (bs, .inl (cI, 20, .inl u.1)), (w, .inr (4, [.ref sg, .int (nI nl)])), (sg, .inl (cI, 20, .inl fs))]) := by
  refine si_of (cc := cX0_madeBy) (maxL := 6) (by decide) rfl (Nat.le_of_ble_eq_true rfl) ?_
  intro p e s m args below meth c A ls Q E hret
  obtain ⟨hx, hb, -, hml, hown, hts, -, hin, hA, hK, hP, hD, hS, hl, hN⟩ := E
  have hown : s.vm.findClass RX0 = some m.cls := hown
  have hl : lv_has ls 6 [(0, .ref b), (1, .ref w), (2, .int h)] := hl
  have SF : CallFix p m c cX0_madeBy 6 s args wsX0_madeBy RX0 := ⟨hx, hb, hml, hown, hts⟩
  have hw0 := hts (.fieldLink RX0 92 "LatestSets$Board" "height" "I") (by decide +kernel)
  have hi0 : ∀ x ∈ wsX00, x ∈ wsX0_madeBy := by decide +kernel
  have hw2 := hts (.fieldLink RX0 95 "LatestSets$Law" "length" "I") (by decide +kernel)
  have hi4 : ∀ x ∈ wsX40, x ∈ wsX0_madeBy := by decide +kernel
  have hw4 := hts (.fieldLink RX0 100 "LatestSets$Law" "signs" "[I") (by decide +kernel)
  have hw5 := hts (.methodLink RX0 55 Lib.Math.min.name) (by decide +kernel)
  have hw6 := hts (.static Lib.Math.min.name) (by decide +kernel)
  have hw7 := hts (.initialized "java/lang/Math") (by decide +kernel)
  have hw8 := hts (.code Lib.Math.min.name Lib.Math.min.code 2 (some .int)) (by decide +kernel)
  have hw9 := hts (.methodLink RX0 61 Lib.Math.max.name) (by decide +kernel)
  have hw10 := hts (.static Lib.Math.max.name) (by decide +kernel)
  have hw11 := hts (.code Lib.Math.max.name Lib.Math.max.code 2 (some .int)) (by decide +kernel)
  have hw12 := hts (.fieldLink RX0 15 "LatestSets$Board" "came" "[I") (by decide +kernel)
  refine lv_aload_n hx hb dX0_madeBy_0 rfl (lv_at hl 0 rfl) ?_
  refine lv_iconst (v := nI 0) hx hb dX0_madeBy_1 (by decide) ?_
  refine va_put (D := D) (ci := 0) (v := .int (nI 0)) (ty := .int) (C := RX0) (T := TX0) (N := 5) hx hb hts hi0 tyX0 tyX0_ok nmX0 hown hK hP hD hS 0 rfl rfl 4 (by decide) hw0 (fun _ h9 => h9) rfl (by decide +kernel) rfl rfl (Nat.le_of_ble_eq_true rfl) dX0_madeBy_2 (fun H locs hP hD hS => ?_)
  have hP : va_P D vwCl [(b, .inr (0, [.ref g, .ref bt, .ref bc, .ref bs, .int (nI 0)])), (g, .inr (3, [.ref ge, .ref gl, .ref gb, .ref gw, .ref gsw, .ref gsh, .int si, .int (nI n), .int fi])), (bc, .inl (cI, 6, .inl cm)), (bs, .inl (cI, 20, .inl fk)), (w, .inr (4, [.ref sg, .int (nI nl)])), (sg, .inl (cI, 20, .inl fs))] H := hP
  have hD : va_D A [(b, .inr (0, [.ref g, .ref bt, .ref bc, .ref bs, .int (nI 0)])), (g, .inr (3, [.ref ge, .ref gl, .ref gb, .ref gw, .ref gsw, .ref gsh, .int si, .int (nI n), .int fi])), (bc, .inl (cI, 6, .inl cm)), (bs, .inl (cI, 20, .inl fk)), (w, .inr (4, [.ref sg, .int (nI nl)])), (sg, .inl (cI, 20, .inl fs))] := hD
  refine lv_iconst (v := nI 0) hx hb dX0_madeBy_5 (by decide) ?_
  refine lv_istore_n (lv' := [(3, .int (nI 0)), (0, .ref b), (1, .ref w), (2, .int h)]) hx hb dX0_madeBy_6 rfl hl (by decide) rfl (fun ls hl => ?_)
  have hn20 := hV.1
  have hnp := VL_pos hV
  refine lv_aload_n hx hb dX0_madeBy_7 rfl (lv_at hl 2 rfl) ?_
  refine va_get (D := D) (ci := 4) (v := .int (nI nl)) (C := RX4) (T := TX4) (N := 2) hx hb hts hi4 hown hK hP 4 rfl rfl 1 (by decide) hw2 (fun _ h9 => h9) rfl dX0_madeBy_8 ?_
  refine lv_iconst (v := nI 1) hx hb dX0_madeBy_11 (by decide) ?_
  refine lv_isub hx hb dX0_madeBy_12 ?_
  refine lv_topi (fun y9 e9 => ?_)
  have e9 : nI nl + (-1) = y9 := (e9.trans (i_sub1 _)).symm
  subst e9
  refine lv_istore (lv' := [(4, .int (nI nl + (-1))), (3, .int (nI 0)), (0, .ref b), (1, .ref w), (2, .int h)]) hx hb dX0_madeBy_13 hl (by decide) rfl (fun ls hl => ?_)
  have L15 : ∀ (n9 : Nat) (q r : Nat) (L : List Int32) (f : Nat → Int32) (dg : Int32) (hq : q + r = nl) (hL : L = ev fs (lfC cm n h) r q) (hs : stk f L) (hd : (ps fs q).2 = true → dg = fs q - nI 48), q < n9 → ∀ (H : Heap) (locs : List Loc), va_P D vwCl [(b, .inr (0, [.ref g, .ref bt, .ref bc, .ref bs, .int (nI L.length)])), (g, .inr (3, [.ref ge, .ref gl, .ref gb, .ref gw, .ref gsw, .ref gsh, .int si, .int (nI n), .int fi])), (bc, .inl (cI, 6, .inl cm)), (bs, .inl (cI, 20, .inl f)), (w, .inr (4, [.ref sg, .int (nI nl)])), (sg, .inl (cI, 20, .inl fs))] H → va_D A [(b, .inr (0, [.ref g, .ref bt, .ref bc, .ref bs, .int (nI L.length)])), (g, .inr (3, [.ref ge, .ref gl, .ref gb, .ref gw, .ref gsw, .ref gsh, .int si, .int (nI n), .int fi])), (bc, .inl (cI, 6, .inl cm)), (bs, .inl (cI, 20, .inl f)), (w, .inr (4, [.ref sg, .int (nI nl)])), (sg, .inl (cI, 20, .inl fs))] → va_S A s.heap H locs → ∀ (ls : Array Slot), lv_has ls 6 [(0, .ref b), (1, .ref w), (2, .int h), (3, .int dg), (4, .int (nI q + (-1)))] → W p l e rm_X0_madeBy s m args below meth c H locs 0 0 Q (F0 m 15 ls []) := by
    intro n9
    induction n9 with
    | zero => intro q r L f dg hq hL hs hd hm; exact absurd hm (Nat.not_lt_zero _)
    | succ n9 ih15 =>
      intro q r L f dg hq hL hs hd hm15 H locs hP hD hS ls hl
      rcases Nat.eq_zero_or_pos q with e9 | e9
      · subst e9
        have e8 : nI 0 + (-1) = (-1 : Int32) := by decide
        rw [e8] at hl
        refine lv_iload hx hb dX0_madeBy_15 (lv_at hl 4 rfl) ?_
        refine lv_if_lt (tgt := 260) hx hb dX0_madeBy_17 (by decide) (fun _ => ?_) (fun c9 => absurd (by decide) c9)
        refine lv_aload_n hx hb dX0_madeBy_260 rfl (lv_at hl 0 rfl) ?_
        have hlen := ev_len (lf := lfC cm n h) hV r 0 (by omega)
        rw [← hL] at hlen
        have hle := ev_le (sg := fs) (lf := lfC cm n h) r 0
        rw [← hL] at hle
        obtain ⟨a1, t1, rfl⟩ := len1 (L := L) (by rw [hlen]; exact Nat.le_of_eq rfl)
        simp only [List.length_cons] at hle
        refine cal_i (run_V (As := []) (rest := []) SF (c_pop l D cI cJ cZ cG cM b bt bc bs g t1.length f (by omega)) (cwV 0 hts gX0_madeBy_X0_pop rfl rfl rfl (by decide +kernel) ⟨Nat.le_of_ble_eq_true rfl, Nat.le_of_ble_eq_true rfl⟩) hN hK hP hD [0, 3] rfl (by decide) 0 0 rfl rfl rfl rfl hl.1 rfl (Nat.le_of_ble_eq_true rfl) dX0_madeBy_261 ⟨Nat.le_of_ble_eq_true rfl, Nat.le_of_ble_eq_true rfl⟩) ⟨rfl, rfl⟩ hP hD hS hA [0, 3] rfl (fun _ => rfl) (fun r9 _ H locs hw hP hD hS => ?_)
        have hP : va_P D vwCl [(b, .inr (0, [.ref g, .ref bt, .ref bc, .ref bs, .int (nI t1.length)])), (g, .inr (3, [.ref ge, .ref gl, .ref gb, .ref gw, .ref gsw, .ref gsh, .int si, .int (nI n), .int fi])), (bc, .inl (cI, 6, .inl cm)), (bs, .inl (cI, 20, .inl f)), (w, .inr (4, [.ref sg, .int (nI nl)])), (sg, .inl (cI, 20, .inl fs))] H := hP
        have hD : va_D A [(b, .inr (0, [.ref g, .ref bt, .ref bc, .ref bs, .int (nI t1.length)])), (g, .inr (3, [.ref ge, .ref gl, .ref gb, .ref gw, .ref gsw, .ref gsh, .int si, .int (nI n), .int fi])), (bc, .inl (cI, 6, .inl cm)), (bs, .inl (cI, 20, .inl f)), (w, .inr (4, [.ref sg, .int (nI nl)])), (sg, .inl (cI, 20, .inl fs))] := hD
        have hw := (hw.trans hs.1).symm
        subst hw
        have hs261 := hs.2
        have e8 : r = nl := by omega
        subst e8
        exact hret a1 ((f, nI t1.length)) _ _ _ _ dX0_madeBy_264 (by show a1 = (ev fs (lfC cm n h) _ 0).headD 0; rw [← hL]; rfl) hP hD hS
      · obtain ⟨q, rfl⟩ : ∃ i, q = i + 1 := ⟨q - 1, by omega⟩
        rw [pk_m1] at hl
        obtain ⟨v1, v2, v3⟩ := hV.2.1 q (by omega)
        have hlen := ev_len (lf := lfC cm n h) hV r (q + 1) (by omega)
        have hle := ev_le (sg := fs) (lf := lfC cm n h) r (q + 1)
        rw [← hL] at hlen hle
        refine lv_iload hx hb dX0_madeBy_15 (lv_at hl 4 rfl) ?_
        refine lv_if_lt (tgt := 260) hx hb dX0_madeBy_17 (by decide) (fun c17 => ?_) (fun c17 => ?_)
        · exact absurd c17 (nI_pos (by omega))
        · refine lv_aload_n hx hb dX0_madeBy_20 rfl (lv_at hl 1 rfl) ?_
          refine va_get (D := D) (ci := 4) (v := .ref sg) (C := RX4) (T := TX4) (N := 2) hx hb hts hi4 hown hK hP 4 rfl rfl 0 (by decide) hw4 (fun _ h9 => h9) rfl dX0_madeBy_21 ?_
          refine lv_iload hx hb dX0_madeBy_24 (lv_at hl 4 rfl) ?_
          refine iald_n (k := q) hx hb hK hP 5 0 rfl rfl (by omega) (by omega) dX0_madeBy_26 ?_
          refine lv_istore (lv' := [(5, .int (fs q)), (0, .ref b), (1, .ref w), (2, .int h), (3, .int dg), (4, .int (nI q))]) hx hb dX0_madeBy_27 hl (by decide) rfl (fun ls hl => ?_)
          refine lv_iload hx hb dX0_madeBy_29 (lv_at hl 0 rfl) ?_
          by_cases e43 : fs q = nI 43
          · refine lv_lookup (off := 178) (tgt := 209) hx hb dX0_madeBy_31 (by decide +kernel) (by rw [e43]; decide +kernel) (by decide) ?_
            have hf : (ps fs q).2 = false := by cases e9 : (ps fs q).2 with | false => rfl | true => exact absurd e43 (dgt_ne (v2 e9) (by omega))
            rw [ps_f hf] at hlen
            have hp : pN (fs q) = 1 := by rw [e43]; decide
            simp only [hp] at hlen
            obtain ⟨a1, t1, rfl⟩ := len1 (L := L) (by omega)
            simp only [List.length_cons] at hlen hle
            have hdg := hd (VL_sh hV (by omega) (by rw [e43]; decide))
            subst hdg
            refine lv_aload_n hx hb dX0_madeBy_209 rfl (lv_at hl 1 rfl) ?_
            refine lv_aload_n hx hb dX0_madeBy_210 rfl (lv_at hl 1 rfl) ?_
            refine cal_i (run_V (As := []) (rest := [.ref b]) SF (c_pop l D cI cJ cZ cG cM b bt bc bs g t1.length f (by omega)) (cwV 0 hts gX0_madeBy_X0_pop rfl rfl rfl (by decide +kernel) ⟨Nat.le_of_ble_eq_true rfl, Nat.le_of_ble_eq_true rfl⟩) hN hK hP hD [0, 3] rfl (by decide) 0 0 rfl rfl rfl rfl hl.1 rfl (Nat.le_of_ble_eq_true rfl) dX0_madeBy_211 ⟨Nat.le_of_ble_eq_true rfl, Nat.le_of_ble_eq_true rfl⟩) ⟨rfl, rfl⟩ hP hD hS hA [0, 3] rfl (fun _ => rfl) (fun r9 _ H locs hw hP hD hS => ?_)
            have hP : va_P D vwCl [(b, .inr (0, [.ref g, .ref bt, .ref bc, .ref bs, .int (nI t1.length)])), (g, .inr (3, [.ref ge, .ref gl, .ref gb, .ref gw, .ref gsw, .ref gsh, .int si, .int (nI n), .int fi])), (bc, .inl (cI, 6, .inl cm)), (bs, .inl (cI, 20, .inl f)), (w, .inr (4, [.ref sg, .int (nI nl)])), (sg, .inl (cI, 20, .inl fs))] H := hP
            have hD : va_D A [(b, .inr (0, [.ref g, .ref bt, .ref bc, .ref bs, .int (nI t1.length)])), (g, .inr (3, [.ref ge, .ref gl, .ref gb, .ref gw, .ref gsw, .ref gsh, .int si, .int (nI n), .int fi])), (bc, .inl (cI, 6, .inl cm)), (bs, .inl (cI, 20, .inl f)), (w, .inr (4, [.ref sg, .int (nI nl)])), (sg, .inl (cI, 20, .inl fs))] := hD
            have hw := (hw.trans hs.1).symm
            subst hw
            have hs211 := hs.2
            refine lv_iload_n hx hb dX0_madeBy_214 rfl (lv_at hl 4 rfl) ?_
            refine lv_iadd hx hb dX0_madeBy_215 ?_
            refine cal_v (run_V (As := [.int (a1 + (fs (q + 1) - nI 48))]) (rest := []) SF (c_push l D cI cJ cZ cG cM b bt bc bs g t1.length f (a1 + (fs (q + 1) - nI 48)) (by omega)) (cwV 1 hts gX0_madeBy_X0_push rfl rfl rfl (by decide +kernel) ⟨Nat.le_of_ble_eq_true rfl, Nat.le_of_ble_eq_true rfl⟩) hN hK hP hD [0, 3] rfl (by decide) 0 0 rfl rfl rfl rfl hl.1 rfl (Nat.le_of_ble_eq_true rfl) dX0_madeBy_216 ⟨Nat.le_of_ble_eq_true rfl, Nat.le_of_ble_eq_true rfl⟩) ⟨rfl, rfl⟩ hP hD hS hA [0, 3] rfl (fun _ => rfl) (fun _ H locs hw hP hD hS => ?_)
            have hP : va_P D vwCl [(b, .inr (0, [.ref g, .ref bt, .ref bc, .ref bs, .int (nI (t1.length + 1))])), (g, .inr (3, [.ref ge, .ref gl, .ref gb, .ref gw, .ref gsw, .ref gsh, .int si, .int (nI n), .int fi])), (bc, .inl (cI, 6, .inl cm)), (bs, .inl (cI, 20, .inl (upd f t1.length (a1 + (fs (q + 1) - nI 48))))), (w, .inr (4, [.ref sg, .int (nI nl)])), (sg, .inl (cI, 20, .inl fs))] H := hP
            have hD : va_D A [(b, .inr (0, [.ref g, .ref bt, .ref bc, .ref bs, .int (nI (t1.length + 1))])), (g, .inr (3, [.ref ge, .ref gl, .ref gb, .ref gw, .ref gsw, .ref gsh, .int si, .int (nI n), .int fi])), (bc, .inl (cI, 6, .inl cm)), (bs, .inl (cI, 20, .inl (upd f t1.length (a1 + (fs (q + 1) - nI 48))))), (w, .inr (4, [.ref sg, .int (nI nl)])), (sg, .inl (cI, 20, .inl fs))] := hD
            have hs216 := stk_push (x := a1 + (fs (q + 1) - nI 48)) hs211
            refine lv_goto (tgt := 254) hx hb dX0_madeBy_219 (by decide) ?_
            refine lv_iinc (v := nI q + (-1)) (lv' := [(4, .int (nI q + (-1))), (5, .int (fs q)), (0, .ref b), (1, .ref w), (2, .int h), (3, .int (fs (q + 1) - nI 48))]) hx hb dX0_madeBy_254 hl (k := 5) rfl rfl (by decide) rfl (fun ls hl => ?_)
            refine lv_goto (tgt := 15) hx hb dX0_madeBy_257 (by decide) ?_
            exact ih15 q (r + 1) ((a1 + (fs (q + 1) - nI 48)) :: t1) (upd f t1.length (a1 + (fs (q + 1) - nI 48))) (fs (q + 1) - nI 48) ((by omega)) ((by show _ = stp _ (fs q) (fs (q + 1)) (ev fs _ r (q + 1)); rw [← hL, stp_pl e43])) hs216 ((fun e9 => absurd e9 (by rw [hf]; decide))) (by omega) _ _ hP hD hS _ (lv_sub hl [2, 3, 4, 5, 0] rfl)
          · skip
            by_cases e45 : fs q = nI 45
            · refine lv_lookup (off := 165) (tgt := 196) hx hb dX0_madeBy_31 (by decide +kernel) (by rw [e45]; decide +kernel) (by decide) ?_
              have hf : (ps fs q).2 = false := by cases e9 : (ps fs q).2 with | false => rfl | true => exact absurd e45 (dgt_ne (v2 e9) (by omega))
              rw [ps_f hf] at hlen
              have hp : pN (fs q) = 1 := by rw [e45]; decide
              simp only [hp] at hlen
              obtain ⟨a1, t1, rfl⟩ := len1 (L := L) (by omega)
              simp only [List.length_cons] at hlen hle
              have hdg := hd (VL_sh hV (by omega) (by rw [e45]; decide))
              subst hdg
              refine lv_aload_n hx hb dX0_madeBy_196 rfl (lv_at hl 1 rfl) ?_
              refine lv_aload_n hx hb dX0_madeBy_197 rfl (lv_at hl 1 rfl) ?_
              refine cal_i (run_V (As := []) (rest := [.ref b]) SF (c_pop l D cI cJ cZ cG cM b bt bc bs g t1.length f (by omega)) (cwV 0 hts gX0_madeBy_X0_pop rfl rfl rfl (by decide +kernel) ⟨Nat.le_of_ble_eq_true rfl, Nat.le_of_ble_eq_true rfl⟩) hN hK hP hD [0, 3] rfl (by decide) 0 0 rfl rfl rfl rfl hl.1 rfl (Nat.le_of_ble_eq_true rfl) dX0_madeBy_198 ⟨Nat.le_of_ble_eq_true rfl, Nat.le_of_ble_eq_true rfl⟩) ⟨rfl, rfl⟩ hP hD hS hA [0, 3] rfl (fun _ => rfl) (fun r9 _ H locs hw hP hD hS => ?_)
              have hP : va_P D vwCl [(b, .inr (0, [.ref g, .ref bt, .ref bc, .ref bs, .int (nI t1.length)])), (g, .inr (3, [.ref ge, .ref gl, .ref gb, .ref gw, .ref gsw, .ref gsh, .int si, .int (nI n), .int fi])), (bc, .inl (cI, 6, .inl cm)), (bs, .inl (cI, 20, .inl f)), (w, .inr (4, [.ref sg, .int (nI nl)])), (sg, .inl (cI, 20, .inl fs))] H := hP
              have hD : va_D A [(b, .inr (0, [.ref g, .ref bt, .ref bc, .ref bs, .int (nI t1.length)])), (g, .inr (3, [.ref ge, .ref gl, .ref gb, .ref gw, .ref gsw, .ref gsh, .int si, .int (nI n), .int fi])), (bc, .inl (cI, 6, .inl cm)), (bs, .inl (cI, 20, .inl f)), (w, .inr (4, [.ref sg, .int (nI nl)])), (sg, .inl (cI, 20, .inl fs))] := hD
              have hw := (hw.trans hs.1).symm
              subst hw
              have hs198 := hs.2
              refine lv_iload_n hx hb dX0_madeBy_201 rfl (lv_at hl 4 rfl) ?_
              refine lv_isub hx hb dX0_madeBy_202 ?_
              refine cal_v (run_V (As := [.int (a1 - (fs (q + 1) - nI 48))]) (rest := []) SF (c_push l D cI cJ cZ cG cM b bt bc bs g t1.length f (a1 - (fs (q + 1) - nI 48)) (by omega)) (cwV 1 hts gX0_madeBy_X0_push rfl rfl rfl (by decide +kernel) ⟨Nat.le_of_ble_eq_true rfl, Nat.le_of_ble_eq_true rfl⟩) hN hK hP hD [0, 3] rfl (by decide) 0 0 rfl rfl rfl rfl hl.1 rfl (Nat.le_of_ble_eq_true rfl) dX0_madeBy_203 ⟨Nat.le_of_ble_eq_true rfl, Nat.le_of_ble_eq_true rfl⟩) ⟨rfl, rfl⟩ hP hD hS hA [0, 3] rfl (fun _ => rfl) (fun _ H locs hw hP hD hS => ?_)
              have hP : va_P D vwCl [(b, .inr (0, [.ref g, .ref bt, .ref bc, .ref bs, .int (nI (t1.length + 1))])), (g, .inr (3, [.ref ge, .ref gl, .ref gb, .ref gw, .ref gsw, .ref gsh, .int si, .int (nI n), .int fi])), (bc, .inl (cI, 6, .inl cm)), (bs, .inl (cI, 20, .inl (upd f t1.length (a1 - (fs (q + 1) - nI 48))))), (w, .inr (4, [.ref sg, .int (nI nl)])), (sg, .inl (cI, 20, .inl fs))] H := hP
              have hD : va_D A [(b, .inr (0, [.ref g, .ref bt, .ref bc, .ref bs, .int (nI (t1.length + 1))])), (g, .inr (3, [.ref ge, .ref gl, .ref gb, .ref gw, .ref gsw, .ref gsh, .int si, .int (nI n), .int fi])), (bc, .inl (cI, 6, .inl cm)), (bs, .inl (cI, 20, .inl (upd f t1.length (a1 - (fs (q + 1) - nI 48))))), (w, .inr (4, [.ref sg, .int (nI nl)])), (sg, .inl (cI, 20, .inl fs))] := hD
              have hs203 := stk_push (x := a1 - (fs (q + 1) - nI 48)) hs198
              refine lv_goto (tgt := 254) hx hb dX0_madeBy_206 (by decide) ?_
              refine lv_iinc (v := nI q + (-1)) (lv' := [(4, .int (nI q + (-1))), (5, .int (fs q)), (0, .ref b), (1, .ref w), (2, .int h), (3, .int (fs (q + 1) - nI 48))]) hx hb dX0_madeBy_254 hl (k := 5) rfl rfl (by decide) rfl (fun ls hl => ?_)
              refine lv_goto (tgt := 15) hx hb dX0_madeBy_257 (by decide) ?_
              exact ih15 q (r + 1) ((a1 - (fs (q + 1) - nI 48)) :: t1) (upd f t1.length (a1 - (fs (q + 1) - nI 48))) (fs (q + 1) - nI 48) ((by omega)) ((by show _ = stp _ (fs q) (fs (q + 1)) (ev fs _ r (q + 1)); rw [← hL, stp_mi e45])) hs203 ((fun e9 => absurd e9 (by rw [hf]; decide))) (by omega) _ _ hP hD hS _ (lv_sub hl [2, 3, 4, 5, 0] rfl)
            · skip
              by_cases e47 : fs q = nI 47
              · refine lv_lookup (off := 133) (tgt := 164) hx hb dX0_madeBy_31 (by decide +kernel) (by rw [e47]; decide +kernel) (by decide) ?_
                have hf : (ps fs q).2 = false := by cases e9 : (ps fs q).2 with | false => rfl | true => exact absurd e47 (dgt_ne (v2 e9) (by omega))
                rw [ps_f hf] at hlen
                have hp : pN (fs q) = 2 := by rw [e47]; decide
                simp only [hp] at hlen
                obtain ⟨a1, a2, t1, rfl⟩ := len2 (L := L) (by omega)
                simp only [List.length_cons] at hlen hle
                refine lv_aload_n hx hb dX0_madeBy_164 rfl (lv_at hl 1 rfl) ?_
                refine lv_aload_n hx hb dX0_madeBy_165 rfl (lv_at hl 1 rfl) ?_
                refine cal_i (run_V (As := []) (rest := [.ref b]) SF (c_pop l D cI cJ cZ cG cM b bt bc bs g (t1.length + 1) f (by omega)) (cwV 0 hts gX0_madeBy_X0_pop rfl rfl rfl (by decide +kernel) ⟨Nat.le_of_ble_eq_true rfl, Nat.le_of_ble_eq_true rfl⟩) hN hK hP hD [0, 3] rfl (by decide) 0 0 rfl rfl rfl rfl hl.1 rfl (Nat.le_of_ble_eq_true rfl) dX0_madeBy_166 ⟨Nat.le_of_ble_eq_true rfl, Nat.le_of_ble_eq_true rfl⟩) ⟨rfl, rfl⟩ hP hD hS hA [0, 3] rfl (fun _ => rfl) (fun r9 _ H locs hw hP hD hS => ?_)
                have hP : va_P D vwCl [(b, .inr (0, [.ref g, .ref bt, .ref bc, .ref bs, .int (nI (t1.length + 1))])), (g, .inr (3, [.ref ge, .ref gl, .ref gb, .ref gw, .ref gsw, .ref gsh, .int si, .int (nI n), .int fi])), (bc, .inl (cI, 6, .inl cm)), (bs, .inl (cI, 20, .inl f)), (w, .inr (4, [.ref sg, .int (nI nl)])), (sg, .inl (cI, 20, .inl fs))] H := hP
                have hD : va_D A [(b, .inr (0, [.ref g, .ref bt, .ref bc, .ref bs, .int (nI (t1.length + 1))])), (g, .inr (3, [.ref ge, .ref gl, .ref gb, .ref gw, .ref gsw, .ref gsh, .int si, .int (nI n), .int fi])), (bc, .inl (cI, 6, .inl cm)), (bs, .inl (cI, 20, .inl f)), (w, .inr (4, [.ref sg, .int (nI nl)])), (sg, .inl (cI, 20, .inl fs))] := hD
                have hw := (hw.trans hs.1).symm
                subst hw
                have hs166 := hs.2
                refine lv_aload_n hx hb dX0_madeBy_169 rfl (lv_at hl 1 rfl) ?_
                refine cal_i (run_V (As := []) (rest := [.int a1, .ref b]) SF (c_pop l D cI cJ cZ cG cM b bt bc bs g t1.length f (by omega)) (cwV 0 hts gX0_madeBy_X0_pop rfl rfl rfl (by decide +kernel) ⟨Nat.le_of_ble_eq_true rfl, Nat.le_of_ble_eq_true rfl⟩) hN hK hP hD [0, 3] rfl (by decide) 0 0 rfl rfl rfl rfl hl.1 rfl (Nat.le_of_ble_eq_true rfl) dX0_madeBy_170 ⟨Nat.le_of_ble_eq_true rfl, Nat.le_of_ble_eq_true rfl⟩) ⟨rfl, rfl⟩ hP hD hS hA [0, 3] rfl (fun _ => rfl) (fun r9 _ H locs hw hP hD hS => ?_)
                have hP : va_P D vwCl [(b, .inr (0, [.ref g, .ref bt, .ref bc, .ref bs, .int (nI t1.length)])), (g, .inr (3, [.ref ge, .ref gl, .ref gb, .ref gw, .ref gsw, .ref gsh, .int si, .int (nI n), .int fi])), (bc, .inl (cI, 6, .inl cm)), (bs, .inl (cI, 20, .inl f)), (w, .inr (4, [.ref sg, .int (nI nl)])), (sg, .inl (cI, 20, .inl fs))] H := hP
                have hD : va_D A [(b, .inr (0, [.ref g, .ref bt, .ref bc, .ref bs, .int (nI t1.length)])), (g, .inr (3, [.ref ge, .ref gl, .ref gb, .ref gw, .ref gsw, .ref gsh, .int si, .int (nI n), .int fi])), (bc, .inl (cI, 6, .inl cm)), (bs, .inl (cI, 20, .inl f)), (w, .inr (4, [.ref sg, .int (nI nl)])), (sg, .inl (cI, 20, .inl fs))] := hD
                have hw := (hw.trans hs166.1).symm
                subst hw
                have hs170 := hs166.2
                refine lv_iadd hx hb dX0_madeBy_173 ?_
                refine lv_iconst (v := nI 2) hx hb dX0_madeBy_174 (by decide) ?_
                refine lv_idiv hx hb dX0_madeBy_175 (by decide) ?_
                refine cal_v (run_V (As := [.int ((a1 + a2) / (nI 2))]) (rest := []) SF (c_push l D cI cJ cZ cG cM b bt bc bs g t1.length f ((a1 + a2) / (nI 2)) (by omega)) (cwV 1 hts gX0_madeBy_X0_push rfl rfl rfl (by decide +kernel) ⟨Nat.le_of_ble_eq_true rfl, Nat.le_of_ble_eq_true rfl⟩) hN hK hP hD [0, 3] rfl (by decide) 0 0 rfl rfl rfl rfl hl.1 rfl (Nat.le_of_ble_eq_true rfl) dX0_madeBy_176 ⟨Nat.le_of_ble_eq_true rfl, Nat.le_of_ble_eq_true rfl⟩) ⟨rfl, rfl⟩ hP hD hS hA [0, 3] rfl (fun _ => rfl) (fun _ H locs hw hP hD hS => ?_)
                have hP : va_P D vwCl [(b, .inr (0, [.ref g, .ref bt, .ref bc, .ref bs, .int (nI (t1.length + 1))])), (g, .inr (3, [.ref ge, .ref gl, .ref gb, .ref gw, .ref gsw, .ref gsh, .int si, .int (nI n), .int fi])), (bc, .inl (cI, 6, .inl cm)), (bs, .inl (cI, 20, .inl (upd f t1.length ((a1 + a2) / (nI 2))))), (w, .inr (4, [.ref sg, .int (nI nl)])), (sg, .inl (cI, 20, .inl fs))] H := hP
                have hD : va_D A [(b, .inr (0, [.ref g, .ref bt, .ref bc, .ref bs, .int (nI (t1.length + 1))])), (g, .inr (3, [.ref ge, .ref gl, .ref gb, .ref gw, .ref gsw, .ref gsh, .int si, .int (nI n), .int fi])), (bc, .inl (cI, 6, .inl cm)), (bs, .inl (cI, 20, .inl (upd f t1.length ((a1 + a2) / (nI 2))))), (w, .inr (4, [.ref sg, .int (nI nl)])), (sg, .inl (cI, 20, .inl fs))] := hD
                have hs176 := stk_push (x := (a1 + a2) / (nI 2)) hs170
                refine lv_goto (tgt := 254) hx hb dX0_madeBy_179 (by decide) ?_
                refine lv_iinc (v := nI q + (-1)) (lv' := [(4, .int (nI q + (-1))), (5, .int (fs q)), (0, .ref b), (1, .ref w), (2, .int h), (3, .int dg)]) hx hb dX0_madeBy_254 hl (k := 5) rfl rfl (by decide) rfl (fun ls hl => ?_)
                refine lv_goto (tgt := 15) hx hb dX0_madeBy_257 (by decide) ?_
                exact ih15 q (r + 1) (((a1 + a2) / (nI 2)) :: t1) (upd f t1.length ((a1 + a2) / (nI 2))) dg ((by omega)) ((by show _ = stp _ (fs q) (fs (q + 1)) (ev fs _ r (q + 1)); rw [← hL, stp_dv e47])) hs176 ((fun e9 => absurd e9 (by rw [hf]; decide))) (by omega) _ _ hP hD hS _ (lv_sub hl [2, 3, 4, 5, 0] rfl)
              · skip
                by_cases e60 : fs q = nI 60
                · refine lv_lookup (off := 97) (tgt := 128) hx hb dX0_madeBy_31 (by decide +kernel) (by rw [e60]; decide +kernel) (by decide) ?_
                  have hf : (ps fs q).2 = false := by cases e9 : (ps fs q).2 with | false => rfl | true => exact absurd e60 (dgt_ne (v2 e9) (by omega))
                  rw [ps_f hf] at hlen
                  have hp : pN (fs q) = 2 := by rw [e60]; decide
                  simp only [hp] at hlen
                  obtain ⟨a1, a2, t1, rfl⟩ := len2 (L := L) (by omega)
                  simp only [List.length_cons] at hlen hle
                  refine lv_aload_n hx hb dX0_madeBy_128 rfl (lv_at hl 1 rfl) ?_
                  refine lv_aload_n hx hb dX0_madeBy_129 rfl (lv_at hl 1 rfl) ?_
                  refine cal_i (run_V (As := []) (rest := [.ref b]) SF (c_pop l D cI cJ cZ cG cM b bt bc bs g (t1.length + 1) f (by omega)) (cwV 0 hts gX0_madeBy_X0_pop rfl rfl rfl (by decide +kernel) ⟨Nat.le_of_ble_eq_true rfl, Nat.le_of_ble_eq_true rfl⟩) hN hK hP hD [0, 3] rfl (by decide) 0 0 rfl rfl rfl rfl hl.1 rfl (Nat.le_of_ble_eq_true rfl) dX0_madeBy_130 ⟨Nat.le_of_ble_eq_true rfl, Nat.le_of_ble_eq_true rfl⟩) ⟨rfl, rfl⟩ hP hD hS hA [0, 3] rfl (fun _ => rfl) (fun r9 _ H locs hw hP hD hS => ?_)
                  have hP : va_P D vwCl [(b, .inr (0, [.ref g, .ref bt, .ref bc, .ref bs, .int (nI (t1.length + 1))])), (g, .inr (3, [.ref ge, .ref gl, .ref gb, .ref gw, .ref gsw, .ref gsh, .int si, .int (nI n), .int fi])), (bc, .inl (cI, 6, .inl cm)), (bs, .inl (cI, 20, .inl f)), (w, .inr (4, [.ref sg, .int (nI nl)])), (sg, .inl (cI, 20, .inl fs))] H := hP
                  have hD : va_D A [(b, .inr (0, [.ref g, .ref bt, .ref bc, .ref bs, .int (nI (t1.length + 1))])), (g, .inr (3, [.ref ge, .ref gl, .ref gb, .ref gw, .ref gsw, .ref gsh, .int si, .int (nI n), .int fi])), (bc, .inl (cI, 6, .inl cm)), (bs, .inl (cI, 20, .inl f)), (w, .inr (4, [.ref sg, .int (nI nl)])), (sg, .inl (cI, 20, .inl fs))] := hD
                  have hw := (hw.trans hs.1).symm
                  subst hw
                  have hs130 := hs.2
                  refine lv_aload_n hx hb dX0_madeBy_133 rfl (lv_at hl 1 rfl) ?_
                  refine cal_i (run_V (As := []) (rest := [.int a1, .ref b]) SF (c_pop l D cI cJ cZ cG cM b bt bc bs g t1.length f (by omega)) (cwV 0 hts gX0_madeBy_X0_pop rfl rfl rfl (by decide +kernel) ⟨Nat.le_of_ble_eq_true rfl, Nat.le_of_ble_eq_true rfl⟩) hN hK hP hD [0, 3] rfl (by decide) 0 0 rfl rfl rfl rfl hl.1 rfl (Nat.le_of_ble_eq_true rfl) dX0_madeBy_134 ⟨Nat.le_of_ble_eq_true rfl, Nat.le_of_ble_eq_true rfl⟩) ⟨rfl, rfl⟩ hP hD hS hA [0, 3] rfl (fun _ => rfl) (fun r9 _ H locs hw hP hD hS => ?_)
                  have hP : va_P D vwCl [(b, .inr (0, [.ref g, .ref bt, .ref bc, .ref bs, .int (nI t1.length)])), (g, .inr (3, [.ref ge, .ref gl, .ref gb, .ref gw, .ref gsw, .ref gsh, .int si, .int (nI n), .int fi])), (bc, .inl (cI, 6, .inl cm)), (bs, .inl (cI, 20, .inl f)), (w, .inr (4, [.ref sg, .int (nI nl)])), (sg, .inl (cI, 20, .inl fs))] H := hP
                  have hD : va_D A [(b, .inr (0, [.ref g, .ref bt, .ref bc, .ref bs, .int (nI t1.length)])), (g, .inr (3, [.ref ge, .ref gl, .ref gb, .ref gw, .ref gsw, .ref gsh, .int si, .int (nI n), .int fi])), (bc, .inl (cI, 6, .inl cm)), (bs, .inl (cI, 20, .inl f)), (w, .inr (4, [.ref sg, .int (nI nl)])), (sg, .inl (cI, 20, .inl fs))] := hD
                  have hw := (hw.trans hs130.1).symm
                  subst hw
                  have hs134 := hs130.2
                  refine va_mmin hx hb (by rw [hml]; exact hl.1.symm) hown hw5 hw6 hw7 hw8 (Nat.le_of_ble_eq_true rfl) (Nat.le_of_ble_eq_true rfl) (Nat.zero_le _) (Nat.zero_le _) dX0_madeBy_137 ?_
                  refine cal_v (run_V (As := [.int (mnI a1 a2)]) (rest := []) SF (c_push l D cI cJ cZ cG cM b bt bc bs g t1.length f (mnI a1 a2) (by omega)) (cwV 1 hts gX0_madeBy_X0_push rfl rfl rfl (by decide +kernel) ⟨Nat.le_of_ble_eq_true rfl, Nat.le_of_ble_eq_true rfl⟩) hN hK hP hD [0, 3] rfl (by decide) 0 0 rfl rfl rfl rfl hl.1 rfl (Nat.le_of_ble_eq_true rfl) dX0_madeBy_140 ⟨Nat.le_of_ble_eq_true rfl, Nat.le_of_ble_eq_true rfl⟩) ⟨rfl, rfl⟩ hP hD hS hA [0, 3] rfl (fun _ => rfl) (fun _ H locs hw hP hD hS => ?_)
                  have hP : va_P D vwCl [(b, .inr (0, [.ref g, .ref bt, .ref bc, .ref bs, .int (nI (t1.length + 1))])), (g, .inr (3, [.ref ge, .ref gl, .ref gb, .ref gw, .ref gsw, .ref gsh, .int si, .int (nI n), .int fi])), (bc, .inl (cI, 6, .inl cm)), (bs, .inl (cI, 20, .inl (upd f t1.length (mnI a1 a2)))), (w, .inr (4, [.ref sg, .int (nI nl)])), (sg, .inl (cI, 20, .inl fs))] H := hP
                  have hD : va_D A [(b, .inr (0, [.ref g, .ref bt, .ref bc, .ref bs, .int (nI (t1.length + 1))])), (g, .inr (3, [.ref ge, .ref gl, .ref gb, .ref gw, .ref gsw, .ref gsh, .int si, .int (nI n), .int fi])), (bc, .inl (cI, 6, .inl cm)), (bs, .inl (cI, 20, .inl (upd f t1.length (mnI a1 a2)))), (w, .inr (4, [.ref sg, .int (nI nl)])), (sg, .inl (cI, 20, .inl fs))] := hD
                  have hs140 := stk_push (x := mnI a1 a2) hs134
                  refine lv_goto (tgt := 254) hx hb dX0_madeBy_143 (by decide) ?_
                  refine lv_iinc (v := nI q + (-1)) (lv' := [(4, .int (nI q + (-1))), (5, .int (fs q)), (0, .ref b), (1, .ref w), (2, .int h), (3, .int dg)]) hx hb dX0_madeBy_254 hl (k := 5) rfl rfl (by decide) rfl (fun ls hl => ?_)
                  refine lv_goto (tgt := 15) hx hb dX0_madeBy_257 (by decide) ?_
                  exact ih15 q (r + 1) ((mnI a1 a2) :: t1) (upd f t1.length (mnI a1 a2)) dg ((by omega)) ((by show _ = stp _ (fs q) (fs (q + 1)) (ev fs _ r (q + 1)); rw [← hL, stp_lt e60])) hs140 ((fun e9 => absurd e9 (by rw [hf]; decide))) (by omega) _ _ hP hD hS _ (lv_sub hl [2, 3, 4, 5, 0] rfl)
                · skip
                  by_cases e62 : fs q = nI 62
                  · refine lv_lookup (off := 115) (tgt := 146) hx hb dX0_madeBy_31 (by decide +kernel) (by rw [e62]; decide +kernel) (by decide) ?_
                    have hf : (ps fs q).2 = false := by cases e9 : (ps fs q).2 with | false => rfl | true => exact absurd e62 (dgt_ne (v2 e9) (by omega))
                    rw [ps_f hf] at hlen
                    have hp : pN (fs q) = 2 := by rw [e62]; decide
                    simp only [hp] at hlen
                    obtain ⟨a1, a2, t1, rfl⟩ := len2 (L := L) (by omega)
                    simp only [List.length_cons] at hlen hle
                    refine lv_aload_n hx hb dX0_madeBy_146 rfl (lv_at hl 1 rfl) ?_
                    refine lv_aload_n hx hb dX0_madeBy_147 rfl (lv_at hl 1 rfl) ?_
                    refine cal_i (run_V (As := []) (rest := [.ref b]) SF (c_pop l D cI cJ cZ cG cM b bt bc bs g (t1.length + 1) f (by omega)) (cwV 0 hts gX0_madeBy_X0_pop rfl rfl rfl (by decide +kernel) ⟨Nat.le_of_ble_eq_true rfl, Nat.le_of_ble_eq_true rfl⟩) hN hK hP hD [0, 3] rfl (by decide) 0 0 rfl rfl rfl rfl hl.1 rfl (Nat.le_of_ble_eq_true rfl) dX0_madeBy_148 ⟨Nat.le_of_ble_eq_true rfl, Nat.le_of_ble_eq_true rfl⟩) ⟨rfl, rfl⟩ hP hD hS hA [0, 3] rfl (fun _ => rfl) (fun r9 _ H locs hw hP hD hS => ?_)
                    have hP : va_P D vwCl [(b, .inr (0, [.ref g, .ref bt, .ref bc, .ref bs, .int (nI (t1.length + 1))])), (g, .inr (3, [.ref ge, .ref gl, .ref gb, .ref gw, .ref gsw, .ref gsh, .int si, .int (nI n), .int fi])), (bc, .inl (cI, 6, .inl cm)), (bs, .inl (cI, 20, .inl f)), (w, .inr (4, [.ref sg, .int (nI nl)])), (sg, .inl (cI, 20, .inl fs))] H := hP
                    have hD : va_D A [(b, .inr (0, [.ref g, .ref bt, .ref bc, .ref bs, .int (nI (t1.length + 1))])), (g, .inr (3, [.ref ge, .ref gl, .ref gb, .ref gw, .ref gsw, .ref gsh, .int si, .int (nI n), .int fi])), (bc, .inl (cI, 6, .inl cm)), (bs, .inl (cI, 20, .inl f)), (w, .inr (4, [.ref sg, .int (nI nl)])), (sg, .inl (cI, 20, .inl fs))] := hD
                    have hw := (hw.trans hs.1).symm
                    subst hw
                    have hs148 := hs.2
                    refine lv_aload_n hx hb dX0_madeBy_151 rfl (lv_at hl 1 rfl) ?_
                    refine cal_i (run_V (As := []) (rest := [.int a1, .ref b]) SF (c_pop l D cI cJ cZ cG cM b bt bc bs g t1.length f (by omega)) (cwV 0 hts gX0_madeBy_X0_pop rfl rfl rfl (by decide +kernel) ⟨Nat.le_of_ble_eq_true rfl, Nat.le_of_ble_eq_true rfl⟩) hN hK hP hD [0, 3] rfl (by decide) 0 0 rfl rfl rfl rfl hl.1 rfl (Nat.le_of_ble_eq_true rfl) dX0_madeBy_152 ⟨Nat.le_of_ble_eq_true rfl, Nat.le_of_ble_eq_true rfl⟩) ⟨rfl, rfl⟩ hP hD hS hA [0, 3] rfl (fun _ => rfl) (fun r9 _ H locs hw hP hD hS => ?_)
                    have hP : va_P D vwCl [(b, .inr (0, [.ref g, .ref bt, .ref bc, .ref bs, .int (nI t1.length)])), (g, .inr (3, [.ref ge, .ref gl, .ref gb, .ref gw, .ref gsw, .ref gsh, .int si, .int (nI n), .int fi])), (bc, .inl (cI, 6, .inl cm)), (bs, .inl (cI, 20, .inl f)), (w, .inr (4, [.ref sg, .int (nI nl)])), (sg, .inl (cI, 20, .inl fs))] H := hP
                    have hD : va_D A [(b, .inr (0, [.ref g, .ref bt, .ref bc, .ref bs, .int (nI t1.length)])), (g, .inr (3, [.ref ge, .ref gl, .ref gb, .ref gw, .ref gsw, .ref gsh, .int si, .int (nI n), .int fi])), (bc, .inl (cI, 6, .inl cm)), (bs, .inl (cI, 20, .inl f)), (w, .inr (4, [.ref sg, .int (nI nl)])), (sg, .inl (cI, 20, .inl fs))] := hD
                    have hw := (hw.trans hs148.1).symm
                    subst hw
                    have hs152 := hs148.2
                    refine va_mmax hx hb (by rw [hml]; exact hl.1.symm) hown hw9 hw10 hw7 hw11 (Nat.le_of_ble_eq_true rfl) (Nat.le_of_ble_eq_true rfl) (Nat.zero_le _) (Nat.zero_le _) dX0_madeBy_155 ?_
                    refine cal_v (run_V (As := [.int (mxI a1 a2)]) (rest := []) SF (c_push l D cI cJ cZ cG cM b bt bc bs g t1.length f (mxI a1 a2) (by omega)) (cwV 1 hts gX0_madeBy_X0_push rfl rfl rfl (by decide +kernel) ⟨Nat.le_of_ble_eq_true rfl, Nat.le_of_ble_eq_true rfl⟩) hN hK hP hD [0, 3] rfl (by decide) 0 0 rfl rfl rfl rfl hl.1 rfl (Nat.le_of_ble_eq_true rfl) dX0_madeBy_158 ⟨Nat.le_of_ble_eq_true rfl, Nat.le_of_ble_eq_true rfl⟩) ⟨rfl, rfl⟩ hP hD hS hA [0, 3] rfl (fun _ => rfl) (fun _ H locs hw hP hD hS => ?_)
                    have hP : va_P D vwCl [(b, .inr (0, [.ref g, .ref bt, .ref bc, .ref bs, .int (nI (t1.length + 1))])), (g, .inr (3, [.ref ge, .ref gl, .ref gb, .ref gw, .ref gsw, .ref gsh, .int si, .int (nI n), .int fi])), (bc, .inl (cI, 6, .inl cm)), (bs, .inl (cI, 20, .inl (upd f t1.length (mxI a1 a2)))), (w, .inr (4, [.ref sg, .int (nI nl)])), (sg, .inl (cI, 20, .inl fs))] H := hP
                    have hD : va_D A [(b, .inr (0, [.ref g, .ref bt, .ref bc, .ref bs, .int (nI (t1.length + 1))])), (g, .inr (3, [.ref ge, .ref gl, .ref gb, .ref gw, .ref gsw, .ref gsh, .int si, .int (nI n), .int fi])), (bc, .inl (cI, 6, .inl cm)), (bs, .inl (cI, 20, .inl (upd f t1.length (mxI a1 a2)))), (w, .inr (4, [.ref sg, .int (nI nl)])), (sg, .inl (cI, 20, .inl fs))] := hD
                    have hs158 := stk_push (x := mxI a1 a2) hs152
                    refine lv_goto (tgt := 254) hx hb dX0_madeBy_161 (by decide) ?_
                    refine lv_iinc (v := nI q + (-1)) (lv' := [(4, .int (nI q + (-1))), (5, .int (fs q)), (0, .ref b), (1, .ref w), (2, .int h), (3, .int dg)]) hx hb dX0_madeBy_254 hl (k := 5) rfl rfl (by decide) rfl (fun ls hl => ?_)
                    refine lv_goto (tgt := 15) hx hb dX0_madeBy_257 (by decide) ?_
                    exact ih15 q (r + 1) ((mxI a1 a2) :: t1) (upd f t1.length (mxI a1 a2)) dg ((by omega)) ((by show _ = stp _ (fs q) (fs (q + 1)) (ev fs _ r (q + 1)); rw [← hL, stp_gt e62])) hs158 ((fun e9 => absurd e9 (by rw [hf]; decide))) (by omega) _ _ hP hD hS _ (lv_sub hl [2, 3, 4, 5, 0] rfl)
                  · skip
                    by_cases e102 : fs q = nI 102
                    · refine lv_lookup (off := 199) (tgt := 230) hx hb dX0_madeBy_31 (by decide +kernel) (by rw [e102]; decide +kernel) (by decide) ?_
                      have hf : (ps fs q).2 = false := by cases e9 : (ps fs q).2 with | false => rfl | true => exact absurd e102 (dgt_ne (v2 e9) (by omega))
                      rw [ps_f hf] at hlen
                      refine lv_aload_n hx hb dX0_madeBy_230 rfl (lv_at hl 1 rfl) ?_
                      refine lv_aload_n hx hb dX0_madeBy_231 rfl (lv_at hl 1 rfl) ?_
                      refine va_get (D := D) (ci := 0) (v := .ref bc) (C := RX0) (T := TX0) (N := 5) hx hb hts hi0 hown hK hP 0 rfl rfl 2 (by decide) hw12 (fun _ h9 => h9) rfl dX0_madeBy_232 ?_
                      refine lv_aload_n hx hb dX0_madeBy_235 rfl (lv_at hl 1 rfl) ?_
                      refine lv_iload hx hb dX0_madeBy_236 (lv_at hl 0 rfl) ?_
                      refine cal_i (run_V (As := [.int (fs q)]) (rest := [.ref bc, .ref b]) SF (c_placeOf l D cI cJ cZ cG cM b bt bc bs g ge gl gb gw gsw gsh si fi n (nI L.length) (fs q) h1 h6) (cwV 1 hts gX0_madeBy_X0_placeOf rfl rfl rfl (by decide +kernel) ⟨Nat.le_of_ble_eq_true rfl, Nat.le_of_ble_eq_true rfl⟩) hN hK hP hD [0, 1] rfl (by decide) 0 0 rfl rfl rfl rfl hl.1 rfl (Nat.le_of_ble_eq_true rfl) dX0_madeBy_238 ⟨Nat.le_of_ble_eq_true rfl, Nat.le_of_ble_eq_true rfl⟩) ⟨rfl, rfl⟩ hP hD hS hA [0, 1] rfl (fun _ => rfl) (fun r9 _ H locs hw hP hD hS => ?_)
                      have hP : va_P D vwCl [(b, .inr (0, [.ref g, .ref bt, .ref bc, .ref bs, .int (nI L.length)])), (g, .inr (3, [.ref ge, .ref gl, .ref gb, .ref gw, .ref gsw, .ref gsh, .int si, .int (nI n), .int fi])), (bc, .inl (cI, 6, .inl cm)), (bs, .inl (cI, 20, .inl f)), (w, .inr (4, [.ref sg, .int (nI nl)])), (sg, .inl (cI, 20, .inl fs))] H := hP
                      have hD : va_D A [(b, .inr (0, [.ref g, .ref bt, .ref bc, .ref bs, .int (nI L.length)])), (g, .inr (3, [.ref ge, .ref gl, .ref gb, .ref gw, .ref gsw, .ref gsh, .int si, .int (nI n), .int fi])), (bc, .inl (cI, 6, .inl cm)), (bs, .inl (cI, 20, .inl f)), (w, .inr (4, [.ref sg, .int (nI nl)])), (sg, .inl (cI, 20, .inl fs))] := hD
                      subst hw
                      have hpl := plc_lt (fs q) h1
                      refine iald_n (k := plc (fs q) n) hx hb hK hP 2 0 rfl rfl (by omega) (by omega) dX0_madeBy_241 ?_
                      refine cal_v (run_V (As := [.int (cm (plc (fs q) n))]) (rest := []) SF (c_push l D cI cJ cZ cG cM b bt bc bs g L.length f (cm (plc (fs q) n)) (by omega)) (cwV 1 hts gX0_madeBy_X0_push rfl rfl rfl (by decide +kernel) ⟨Nat.le_of_ble_eq_true rfl, Nat.le_of_ble_eq_true rfl⟩) hN hK hP hD [0, 3] rfl (by decide) 0 0 rfl rfl rfl rfl hl.1 rfl (Nat.le_of_ble_eq_true rfl) dX0_madeBy_242 ⟨Nat.le_of_ble_eq_true rfl, Nat.le_of_ble_eq_true rfl⟩) ⟨rfl, rfl⟩ hP hD hS hA [0, 3] rfl (fun _ => rfl) (fun _ H locs hw hP hD hS => ?_)
                      have hP : va_P D vwCl [(b, .inr (0, [.ref g, .ref bt, .ref bc, .ref bs, .int (nI (L.length + 1))])), (g, .inr (3, [.ref ge, .ref gl, .ref gb, .ref gw, .ref gsw, .ref gsh, .int si, .int (nI n), .int fi])), (bc, .inl (cI, 6, .inl cm)), (bs, .inl (cI, 20, .inl (upd f L.length (cm (plc (fs q) n))))), (w, .inr (4, [.ref sg, .int (nI nl)])), (sg, .inl (cI, 20, .inl fs))] H := hP
                      have hD : va_D A [(b, .inr (0, [.ref g, .ref bt, .ref bc, .ref bs, .int (nI (L.length + 1))])), (g, .inr (3, [.ref ge, .ref gl, .ref gb, .ref gw, .ref gsw, .ref gsh, .int si, .int (nI n), .int fi])), (bc, .inl (cI, 6, .inl cm)), (bs, .inl (cI, 20, .inl (upd f L.length (cm (plc (fs q) n))))), (w, .inr (4, [.ref sg, .int (nI nl)])), (sg, .inl (cI, 20, .inl fs))] := hD
                      have hs242 := stk_push (x := cm (plc (fs q) n)) hs
                      refine lv_goto (tgt := 254) hx hb dX0_madeBy_245 (by decide) ?_
                      refine lv_iinc (v := nI q + (-1)) (lv' := [(4, .int (nI q + (-1))), (5, .int (fs q)), (0, .ref b), (1, .ref w), (2, .int h), (3, .int dg)]) hx hb dX0_madeBy_254 hl (k := 5) rfl rfl (by decide) rfl (fun ls hl => ?_)
                      refine lv_goto (tgt := 15) hx hb dX0_madeBy_257 (by decide) ?_
                      exact ih15 q (r + 1) ((cm (plc (fs q) n)) :: L) (upd f L.length (cm (plc (fs q) n))) dg ((by omega)) ((by show _ = stp _ (fs q) (fs (q + 1)) (ev fs _ r (q + 1)); rw [← hL, stp_lf (by rw [e102]; decide), e102]; rfl)) hs242 ((fun e9 => absurd e9 (by rw [hf]; decide))) (by omega) _ _ hP hD hS _ (lv_sub hl [2, 3, 4, 5, 0] rfl)
                    · skip
                      by_cases e104 : fs q = nI 104
                      · refine lv_lookup (off := 191) (tgt := 222) hx hb dX0_madeBy_31 (by decide +kernel) (by rw [e104]; decide +kernel) (by decide) ?_
                        have hf : (ps fs q).2 = false := by cases e9 : (ps fs q).2 with | false => rfl | true => exact absurd e104 (dgt_ne (v2 e9) (by omega))
                        rw [ps_f hf] at hlen
                        refine lv_aload_n hx hb dX0_madeBy_222 rfl (lv_at hl 1 rfl) ?_
                        refine lv_iload_n hx hb dX0_madeBy_223 rfl (lv_at hl 3 rfl) ?_
                        refine cal_v (run_V (As := [.int h]) (rest := []) SF (c_push l D cI cJ cZ cG cM b bt bc bs g L.length f h (by omega)) (cwV 1 hts gX0_madeBy_X0_push rfl rfl rfl (by decide +kernel) ⟨Nat.le_of_ble_eq_true rfl, Nat.le_of_ble_eq_true rfl⟩) hN hK hP hD [0, 3] rfl (by decide) 0 0 rfl rfl rfl rfl hl.1 rfl (Nat.le_of_ble_eq_true rfl) dX0_madeBy_224 ⟨Nat.le_of_ble_eq_true rfl, Nat.le_of_ble_eq_true rfl⟩) ⟨rfl, rfl⟩ hP hD hS hA [0, 3] rfl (fun _ => rfl) (fun _ H locs hw hP hD hS => ?_)
                        have hP : va_P D vwCl [(b, .inr (0, [.ref g, .ref bt, .ref bc, .ref bs, .int (nI (L.length + 1))])), (g, .inr (3, [.ref ge, .ref gl, .ref gb, .ref gw, .ref gsw, .ref gsh, .int si, .int (nI n), .int fi])), (bc, .inl (cI, 6, .inl cm)), (bs, .inl (cI, 20, .inl (upd f L.length h))), (w, .inr (4, [.ref sg, .int (nI nl)])), (sg, .inl (cI, 20, .inl fs))] H := hP
                        have hD : va_D A [(b, .inr (0, [.ref g, .ref bt, .ref bc, .ref bs, .int (nI (L.length + 1))])), (g, .inr (3, [.ref ge, .ref gl, .ref gb, .ref gw, .ref gsw, .ref gsh, .int si, .int (nI n), .int fi])), (bc, .inl (cI, 6, .inl cm)), (bs, .inl (cI, 20, .inl (upd f L.length h))), (w, .inr (4, [.ref sg, .int (nI nl)])), (sg, .inl (cI, 20, .inl fs))] := hD
                        have hs224 := stk_push (x := h) hs
                        refine lv_goto (tgt := 254) hx hb dX0_madeBy_227 (by decide) ?_
                        refine lv_iinc (v := nI q + (-1)) (lv' := [(4, .int (nI q + (-1))), (5, .int (fs q)), (0, .ref b), (1, .ref w), (2, .int h), (3, .int dg)]) hx hb dX0_madeBy_254 hl (k := 5) rfl rfl (by decide) rfl (fun ls hl => ?_)
                        refine lv_goto (tgt := 15) hx hb dX0_madeBy_257 (by decide) ?_
                        exact ih15 q (r + 1) (h :: L) (upd f L.length h) dg ((by omega)) ((by show _ = stp _ (fs q) (fs (q + 1)) (ev fs _ r (q + 1)); rw [← hL, stp_lf (by rw [e104]; decide), e104]; rfl)) hs224 ((fun e9 => absurd e9 (by rw [hf]; decide))) (by omega) _ _ hP hD hS _ (lv_sub hl [2, 3, 4, 5, 0] rfl)
                      · skip
                        by_cases e108 : fs q = nI 108
                        · refine lv_lookup (off := 199) (tgt := 230) hx hb dX0_madeBy_31 (by decide +kernel) (by rw [e108]; decide +kernel) (by decide) ?_
                          have hf : (ps fs q).2 = false := by cases e9 : (ps fs q).2 with | false => rfl | true => exact absurd e108 (dgt_ne (v2 e9) (by omega))
                          rw [ps_f hf] at hlen
                          refine lv_aload_n hx hb dX0_madeBy_230 rfl (lv_at hl 1 rfl) ?_
                          refine lv_aload_n hx hb dX0_madeBy_231 rfl (lv_at hl 1 rfl) ?_
                          refine va_get (D := D) (ci := 0) (v := .ref bc) (C := RX0) (T := TX0) (N := 5) hx hb hts hi0 hown hK hP 0 rfl rfl 2 (by decide) hw12 (fun _ h9 => h9) rfl dX0_madeBy_232 ?_
                          refine lv_aload_n hx hb dX0_madeBy_235 rfl (lv_at hl 1 rfl) ?_
                          refine lv_iload hx hb dX0_madeBy_236 (lv_at hl 0 rfl) ?_
                          refine cal_i (run_V (As := [.int (fs q)]) (rest := [.ref bc, .ref b]) SF (c_placeOf l D cI cJ cZ cG cM b bt bc bs g ge gl gb gw gsw gsh si fi n (nI L.length) (fs q) h1 h6) (cwV 1 hts gX0_madeBy_X0_placeOf rfl rfl rfl (by decide +kernel) ⟨Nat.le_of_ble_eq_true rfl, Nat.le_of_ble_eq_true rfl⟩) hN hK hP hD [0, 1] rfl (by decide) 0 0 rfl rfl rfl rfl hl.1 rfl (Nat.le_of_ble_eq_true rfl) dX0_madeBy_238 ⟨Nat.le_of_ble_eq_true rfl, Nat.le_of_ble_eq_true rfl⟩) ⟨rfl, rfl⟩ hP hD hS hA [0, 1] rfl (fun _ => rfl) (fun r9 _ H locs hw hP hD hS => ?_)
                          have hP : va_P D vwCl [(b, .inr (0, [.ref g, .ref bt, .ref bc, .ref bs, .int (nI L.length)])), (g, .inr (3, [.ref ge, .ref gl, .ref gb, .ref gw, .ref gsw, .ref gsh, .int si, .int (nI n), .int fi])), (bc, .inl (cI, 6, .inl cm)), (bs, .inl (cI, 20, .inl f)), (w, .inr (4, [.ref sg, .int (nI nl)])), (sg, .inl (cI, 20, .inl fs))] H := hP
                          have hD : va_D A [(b, .inr (0, [.ref g, .ref bt, .ref bc, .ref bs, .int (nI L.length)])), (g, .inr (3, [.ref ge, .ref gl, .ref gb, .ref gw, .ref gsw, .ref gsh, .int si, .int (nI n), .int fi])), (bc, .inl (cI, 6, .inl cm)), (bs, .inl (cI, 20, .inl f)), (w, .inr (4, [.ref sg, .int (nI nl)])), (sg, .inl (cI, 20, .inl fs))] := hD
                          subst hw
                          have hpl := plc_lt (fs q) h1
                          refine iald_n (k := plc (fs q) n) hx hb hK hP 2 0 rfl rfl (by omega) (by omega) dX0_madeBy_241 ?_
                          refine cal_v (run_V (As := [.int (cm (plc (fs q) n))]) (rest := []) SF (c_push l D cI cJ cZ cG cM b bt bc bs g L.length f (cm (plc (fs q) n)) (by omega)) (cwV 1 hts gX0_madeBy_X0_push rfl rfl rfl (by decide +kernel) ⟨Nat.le_of_ble_eq_true rfl, Nat.le_of_ble_eq_true rfl⟩) hN hK hP hD [0, 3] rfl (by decide) 0 0 rfl rfl rfl rfl hl.1 rfl (Nat.le_of_ble_eq_true rfl) dX0_madeBy_242 ⟨Nat.le_of_ble_eq_true rfl, Nat.le_of_ble_eq_true rfl⟩) ⟨rfl, rfl⟩ hP hD hS hA [0, 3] rfl (fun _ => rfl) (fun _ H locs hw hP hD hS => ?_)
                          have hP : va_P D vwCl [(b, .inr (0, [.ref g, .ref bt, .ref bc, .ref bs, .int (nI (L.length + 1))])), (g, .inr (3, [.ref ge, .ref gl, .ref gb, .ref gw, .ref gsw, .ref gsh, .int si, .int (nI n), .int fi])), (bc, .inl (cI, 6, .inl cm)), (bs, .inl (cI, 20, .inl (upd f L.length (cm (plc (fs q) n))))), (w, .inr (4, [.ref sg, .int (nI nl)])), (sg, .inl (cI, 20, .inl fs))] H := hP
                          have hD : va_D A [(b, .inr (0, [.ref g, .ref bt, .ref bc, .ref bs, .int (nI (L.length + 1))])), (g, .inr (3, [.ref ge, .ref gl, .ref gb, .ref gw, .ref gsw, .ref gsh, .int si, .int (nI n), .int fi])), (bc, .inl (cI, 6, .inl cm)), (bs, .inl (cI, 20, .inl (upd f L.length (cm (plc (fs q) n))))), (w, .inr (4, [.ref sg, .int (nI nl)])), (sg, .inl (cI, 20, .inl fs))] := hD
                          have hs242 := stk_push (x := cm (plc (fs q) n)) hs
                          refine lv_goto (tgt := 254) hx hb dX0_madeBy_245 (by decide) ?_
                          refine lv_iinc (v := nI q + (-1)) (lv' := [(4, .int (nI q + (-1))), (5, .int (fs q)), (0, .ref b), (1, .ref w), (2, .int h), (3, .int dg)]) hx hb dX0_madeBy_254 hl (k := 5) rfl rfl (by decide) rfl (fun ls hl => ?_)
                          refine lv_goto (tgt := 15) hx hb dX0_madeBy_257 (by decide) ?_
                          exact ih15 q (r + 1) ((cm (plc (fs q) n)) :: L) (upd f L.length (cm (plc (fs q) n))) dg ((by omega)) ((by show _ = stp _ (fs q) (fs (q + 1)) (ev fs _ r (q + 1)); rw [← hL, stp_lf (by rw [e108]; decide), e108]; rfl)) hs242 ((fun e9 => absurd e9 (by rw [hf]; decide))) (by omega) _ _ hP hD hS _ (lv_sub hl [2, 3, 4, 5, 0] rfl)
                        · skip
                          by_cases e109 : fs q = nI 109
                          · refine lv_lookup (off := 199) (tgt := 230) hx hb dX0_madeBy_31 (by decide +kernel) (by rw [e109]; decide +kernel) (by decide) ?_
                            have hf : (ps fs q).2 = false := by cases e9 : (ps fs q).2 with | false => rfl | true => exact absurd e109 (dgt_ne (v2 e9) (by omega))
                            rw [ps_f hf] at hlen
                            refine lv_aload_n hx hb dX0_madeBy_230 rfl (lv_at hl 1 rfl) ?_
                            refine lv_aload_n hx hb dX0_madeBy_231 rfl (lv_at hl 1 rfl) ?_
                            refine va_get (D := D) (ci := 0) (v := .ref bc) (C := RX0) (T := TX0) (N := 5) hx hb hts hi0 hown hK hP 0 rfl rfl 2 (by decide) hw12 (fun _ h9 => h9) rfl dX0_madeBy_232 ?_
                            refine lv_aload_n hx hb dX0_madeBy_235 rfl (lv_at hl 1 rfl) ?_
                            refine lv_iload hx hb dX0_madeBy_236 (lv_at hl 0 rfl) ?_
                            refine cal_i (run_V (As := [.int (fs q)]) (rest := [.ref bc, .ref b]) SF (c_placeOf l D cI cJ cZ cG cM b bt bc bs g ge gl gb gw gsw gsh si fi n (nI L.length) (fs q) h1 h6) (cwV 1 hts gX0_madeBy_X0_placeOf rfl rfl rfl (by decide +kernel) ⟨Nat.le_of_ble_eq_true rfl, Nat.le_of_ble_eq_true rfl⟩) hN hK hP hD [0, 1] rfl (by decide) 0 0 rfl rfl rfl rfl hl.1 rfl (Nat.le_of_ble_eq_true rfl) dX0_madeBy_238 ⟨Nat.le_of_ble_eq_true rfl, Nat.le_of_ble_eq_true rfl⟩) ⟨rfl, rfl⟩ hP hD hS hA [0, 1] rfl (fun _ => rfl) (fun r9 _ H locs hw hP hD hS => ?_)
                            have hP : va_P D vwCl [(b, .inr (0, [.ref g, .ref bt, .ref bc, .ref bs, .int (nI L.length)])), (g, .inr (3, [.ref ge, .ref gl, .ref gb, .ref gw, .ref gsw, .ref gsh, .int si, .int (nI n), .int fi])), (bc, .inl (cI, 6, .inl cm)), (bs, .inl (cI, 20, .inl f)), (w, .inr (4, [.ref sg, .int (nI nl)])), (sg, .inl (cI, 20, .inl fs))] H := hP
                            have hD : va_D A [(b, .inr (0, [.ref g, .ref bt, .ref bc, .ref bs, .int (nI L.length)])), (g, .inr (3, [.ref ge, .ref gl, .ref gb, .ref gw, .ref gsw, .ref gsh, .int si, .int (nI n), .int fi])), (bc, .inl (cI, 6, .inl cm)), (bs, .inl (cI, 20, .inl f)), (w, .inr (4, [.ref sg, .int (nI nl)])), (sg, .inl (cI, 20, .inl fs))] := hD
                            subst hw
                            have hpl := plc_lt (fs q) h1
                            refine iald_n (k := plc (fs q) n) hx hb hK hP 2 0 rfl rfl (by omega) (by omega) dX0_madeBy_241 ?_
                            refine cal_v (run_V (As := [.int (cm (plc (fs q) n))]) (rest := []) SF (c_push l D cI cJ cZ cG cM b bt bc bs g L.length f (cm (plc (fs q) n)) (by omega)) (cwV 1 hts gX0_madeBy_X0_push rfl rfl rfl (by decide +kernel) ⟨Nat.le_of_ble_eq_true rfl, Nat.le_of_ble_eq_true rfl⟩) hN hK hP hD [0, 3] rfl (by decide) 0 0 rfl rfl rfl rfl hl.1 rfl (Nat.le_of_ble_eq_true rfl) dX0_madeBy_242 ⟨Nat.le_of_ble_eq_true rfl, Nat.le_of_ble_eq_true rfl⟩) ⟨rfl, rfl⟩ hP hD hS hA [0, 3] rfl (fun _ => rfl) (fun _ H locs hw hP hD hS => ?_)
                            have hP : va_P D vwCl [(b, .inr (0, [.ref g, .ref bt, .ref bc, .ref bs, .int (nI (L.length + 1))])), (g, .inr (3, [.ref ge, .ref gl, .ref gb, .ref gw, .ref gsw, .ref gsh, .int si, .int (nI n), .int fi])), (bc, .inl (cI, 6, .inl cm)), (bs, .inl (cI, 20, .inl (upd f L.length (cm (plc (fs q) n))))), (w, .inr (4, [.ref sg, .int (nI nl)])), (sg, .inl (cI, 20, .inl fs))] H := hP
                            have hD : va_D A [(b, .inr (0, [.ref g, .ref bt, .ref bc, .ref bs, .int (nI (L.length + 1))])), (g, .inr (3, [.ref ge, .ref gl, .ref gb, .ref gw, .ref gsw, .ref gsh, .int si, .int (nI n), .int fi])), (bc, .inl (cI, 6, .inl cm)), (bs, .inl (cI, 20, .inl (upd f L.length (cm (plc (fs q) n))))), (w, .inr (4, [.ref sg, .int (nI nl)])), (sg, .inl (cI, 20, .inl fs))] := hD
                            have hs242 := stk_push (x := cm (plc (fs q) n)) hs
                            refine lv_goto (tgt := 254) hx hb dX0_madeBy_245 (by decide) ?_
                            refine lv_iinc (v := nI q + (-1)) (lv' := [(4, .int (nI q + (-1))), (5, .int (fs q)), (0, .ref b), (1, .ref w), (2, .int h), (3, .int dg)]) hx hb dX0_madeBy_254 hl (k := 5) rfl rfl (by decide) rfl (fun ls hl => ?_)
                            refine lv_goto (tgt := 15) hx hb dX0_madeBy_257 (by decide) ?_
                            exact ih15 q (r + 1) ((cm (plc (fs q) n)) :: L) (upd f L.length (cm (plc (fs q) n))) dg ((by omega)) ((by show _ = stp _ (fs q) (fs (q + 1)) (ev fs _ r (q + 1)); rw [← hL, stp_lf (by rw [e109]; decide), e109]; rfl)) hs242 ((fun e9 => absurd e9 (by rw [hf]; decide))) (by omega) _ _ hP hD hS _ (lv_sub hl [2, 3, 4, 5, 0] rfl)
                          · skip
                            by_cases e112 : fs q = nI 112
                            · refine lv_lookup (off := 199) (tgt := 230) hx hb dX0_madeBy_31 (by decide +kernel) (by rw [e112]; decide +kernel) (by decide) ?_
                              have hf : (ps fs q).2 = false := by cases e9 : (ps fs q).2 with | false => rfl | true => exact absurd e112 (dgt_ne (v2 e9) (by omega))
                              rw [ps_f hf] at hlen
                              refine lv_aload_n hx hb dX0_madeBy_230 rfl (lv_at hl 1 rfl) ?_
                              refine lv_aload_n hx hb dX0_madeBy_231 rfl (lv_at hl 1 rfl) ?_
                              refine va_get (D := D) (ci := 0) (v := .ref bc) (C := RX0) (T := TX0) (N := 5) hx hb hts hi0 hown hK hP 0 rfl rfl 2 (by decide) hw12 (fun _ h9 => h9) rfl dX0_madeBy_232 ?_
                              refine lv_aload_n hx hb dX0_madeBy_235 rfl (lv_at hl 1 rfl) ?_
                              refine lv_iload hx hb dX0_madeBy_236 (lv_at hl 0 rfl) ?_
                              refine cal_i (run_V (As := [.int (fs q)]) (rest := [.ref bc, .ref b]) SF (c_placeOf l D cI cJ cZ cG cM b bt bc bs g ge gl gb gw gsw gsh si fi n (nI L.length) (fs q) h1 h6) (cwV 1 hts gX0_madeBy_X0_placeOf rfl rfl rfl (by decide +kernel) ⟨Nat.le_of_ble_eq_true rfl, Nat.le_of_ble_eq_true rfl⟩) hN hK hP hD [0, 1] rfl (by decide) 0 0 rfl rfl rfl rfl hl.1 rfl (Nat.le_of_ble_eq_true rfl) dX0_madeBy_238 ⟨Nat.le_of_ble_eq_true rfl, Nat.le_of_ble_eq_true rfl⟩) ⟨rfl, rfl⟩ hP hD hS hA [0, 1] rfl (fun _ => rfl) (fun r9 _ H locs hw hP hD hS => ?_)
                              have hP : va_P D vwCl [(b, .inr (0, [.ref g, .ref bt, .ref bc, .ref bs, .int (nI L.length)])), (g, .inr (3, [.ref ge, .ref gl, .ref gb, .ref gw, .ref gsw, .ref gsh, .int si, .int (nI n), .int fi])), (bc, .inl (cI, 6, .inl cm)), (bs, .inl (cI, 20, .inl f)), (w, .inr (4, [.ref sg, .int (nI nl)])), (sg, .inl (cI, 20, .inl fs))] H := hP
                              have hD : va_D A [(b, .inr (0, [.ref g, .ref bt, .ref bc, .ref bs, .int (nI L.length)])), (g, .inr (3, [.ref ge, .ref gl, .ref gb, .ref gw, .ref gsw, .ref gsh, .int si, .int (nI n), .int fi])), (bc, .inl (cI, 6, .inl cm)), (bs, .inl (cI, 20, .inl f)), (w, .inr (4, [.ref sg, .int (nI nl)])), (sg, .inl (cI, 20, .inl fs))] := hD
                              subst hw
                              have hpl := plc_lt (fs q) h1
                              refine iald_n (k := plc (fs q) n) hx hb hK hP 2 0 rfl rfl (by omega) (by omega) dX0_madeBy_241 ?_
                              refine cal_v (run_V (As := [.int (cm (plc (fs q) n))]) (rest := []) SF (c_push l D cI cJ cZ cG cM b bt bc bs g L.length f (cm (plc (fs q) n)) (by omega)) (cwV 1 hts gX0_madeBy_X0_push rfl rfl rfl (by decide +kernel) ⟨Nat.le_of_ble_eq_true rfl, Nat.le_of_ble_eq_true rfl⟩) hN hK hP hD [0, 3] rfl (by decide) 0 0 rfl rfl rfl rfl hl.1 rfl (Nat.le_of_ble_eq_true rfl) dX0_madeBy_242 ⟨Nat.le_of_ble_eq_true rfl, Nat.le_of_ble_eq_true rfl⟩) ⟨rfl, rfl⟩ hP hD hS hA [0, 3] rfl (fun _ => rfl) (fun _ H locs hw hP hD hS => ?_)
                              have hP : va_P D vwCl [(b, .inr (0, [.ref g, .ref bt, .ref bc, .ref bs, .int (nI (L.length + 1))])), (g, .inr (3, [.ref ge, .ref gl, .ref gb, .ref gw, .ref gsw, .ref gsh, .int si, .int (nI n), .int fi])), (bc, .inl (cI, 6, .inl cm)), (bs, .inl (cI, 20, .inl (upd f L.length (cm (plc (fs q) n))))), (w, .inr (4, [.ref sg, .int (nI nl)])), (sg, .inl (cI, 20, .inl fs))] H := hP
                              have hD : va_D A [(b, .inr (0, [.ref g, .ref bt, .ref bc, .ref bs, .int (nI (L.length + 1))])), (g, .inr (3, [.ref ge, .ref gl, .ref gb, .ref gw, .ref gsw, .ref gsh, .int si, .int (nI n), .int fi])), (bc, .inl (cI, 6, .inl cm)), (bs, .inl (cI, 20, .inl (upd f L.length (cm (plc (fs q) n))))), (w, .inr (4, [.ref sg, .int (nI nl)])), (sg, .inl (cI, 20, .inl fs))] := hD
                              have hs242 := stk_push (x := cm (plc (fs q) n)) hs
                              refine lv_goto (tgt := 254) hx hb dX0_madeBy_245 (by decide) ?_
                              refine lv_iinc (v := nI q + (-1)) (lv' := [(4, .int (nI q + (-1))), (5, .int (fs q)), (0, .ref b), (1, .ref w), (2, .int h), (3, .int dg)]) hx hb dX0_madeBy_254 hl (k := 5) rfl rfl (by decide) rfl (fun ls hl => ?_)
                              refine lv_goto (tgt := 15) hx hb dX0_madeBy_257 (by decide) ?_
                              exact ih15 q (r + 1) ((cm (plc (fs q) n)) :: L) (upd f L.length (cm (plc (fs q) n))) dg ((by omega)) ((by show _ = stp _ (fs q) (fs (q + 1)) (ev fs _ r (q + 1)); rw [← hL, stp_lf (by rw [e112]; decide), e112]; rfl)) hs242 ((fun e9 => absurd e9 (by rw [hf]; decide))) (by omega) _ _ hP hD hS _ (lv_sub hl [2, 3, 4, 5, 0] rfl)
                            · skip
                              by_cases e126 : fs q = nI 126
                              · refine lv_lookup (off := 151) (tgt := 182) hx hb dX0_madeBy_31 (by decide +kernel) (by rw [e126]; decide +kernel) (by decide) ?_
                                have hf : (ps fs q).2 = false := by cases e9 : (ps fs q).2 with | false => rfl | true => exact absurd e126 (dgt_ne (v2 e9) (by omega))
                                rw [ps_f hf] at hlen
                                have hp : pN (fs q) = 1 := by rw [e126]; decide
                                simp only [hp] at hlen
                                obtain ⟨a1, t1, rfl⟩ := len1 (L := L) (by omega)
                                simp only [List.length_cons] at hlen hle
                                refine lv_aload_n hx hb dX0_madeBy_182 rfl (lv_at hl 1 rfl) ?_
                                refine lv_bipush (v := nI 23) hx hb dX0_madeBy_183 (by decide) ?_
                                refine lv_aload_n hx hb dX0_madeBy_185 rfl (lv_at hl 1 rfl) ?_
                                refine cal_i (run_V (As := []) (rest := [.int (nI 23), .ref b]) SF (c_pop l D cI cJ cZ cG cM b bt bc bs g t1.length f (by omega)) (cwV 0 hts gX0_madeBy_X0_pop rfl rfl rfl (by decide +kernel) ⟨Nat.le_of_ble_eq_true rfl, Nat.le_of_ble_eq_true rfl⟩) hN hK hP hD [0, 3] rfl (by decide) 0 0 rfl rfl rfl rfl hl.1 rfl (Nat.le_of_ble_eq_true rfl) dX0_madeBy_186 ⟨Nat.le_of_ble_eq_true rfl, Nat.le_of_ble_eq_true rfl⟩) ⟨rfl, rfl⟩ hP hD hS hA [0, 3] rfl (fun _ => rfl) (fun r9 _ H locs hw hP hD hS => ?_)
                                have hP : va_P D vwCl [(b, .inr (0, [.ref g, .ref bt, .ref bc, .ref bs, .int (nI t1.length)])), (g, .inr (3, [.ref ge, .ref gl, .ref gb, .ref gw, .ref gsw, .ref gsh, .int si, .int (nI n), .int fi])), (bc, .inl (cI, 6, .inl cm)), (bs, .inl (cI, 20, .inl f)), (w, .inr (4, [.ref sg, .int (nI nl)])), (sg, .inl (cI, 20, .inl fs))] H := hP
                                have hD : va_D A [(b, .inr (0, [.ref g, .ref bt, .ref bc, .ref bs, .int (nI t1.length)])), (g, .inr (3, [.ref ge, .ref gl, .ref gb, .ref gw, .ref gsw, .ref gsh, .int si, .int (nI n), .int fi])), (bc, .inl (cI, 6, .inl cm)), (bs, .inl (cI, 20, .inl f)), (w, .inr (4, [.ref sg, .int (nI nl)])), (sg, .inl (cI, 20, .inl fs))] := hD
                                have hw := (hw.trans hs.1).symm
                                subst hw
                                have hs186 := hs.2
                                refine lv_isub hx hb dX0_madeBy_189 ?_
                                refine cal_v (run_V (As := [.int ((nI 23) - a1)]) (rest := []) SF (c_push l D cI cJ cZ cG cM b bt bc bs g t1.length f ((nI 23) - a1) (by omega)) (cwV 1 hts gX0_madeBy_X0_push rfl rfl rfl (by decide +kernel) ⟨Nat.le_of_ble_eq_true rfl, Nat.le_of_ble_eq_true rfl⟩) hN hK hP hD [0, 3] rfl (by decide) 0 0 rfl rfl rfl rfl hl.1 rfl (Nat.le_of_ble_eq_true rfl) dX0_madeBy_190 ⟨Nat.le_of_ble_eq_true rfl, Nat.le_of_ble_eq_true rfl⟩) ⟨rfl, rfl⟩ hP hD hS hA [0, 3] rfl (fun _ => rfl) (fun _ H locs hw hP hD hS => ?_)
                                have hP : va_P D vwCl [(b, .inr (0, [.ref g, .ref bt, .ref bc, .ref bs, .int (nI (t1.length + 1))])), (g, .inr (3, [.ref ge, .ref gl, .ref gb, .ref gw, .ref gsw, .ref gsh, .int si, .int (nI n), .int fi])), (bc, .inl (cI, 6, .inl cm)), (bs, .inl (cI, 20, .inl (upd f t1.length ((nI 23) - a1)))), (w, .inr (4, [.ref sg, .int (nI nl)])), (sg, .inl (cI, 20, .inl fs))] H := hP
                                have hD : va_D A [(b, .inr (0, [.ref g, .ref bt, .ref bc, .ref bs, .int (nI (t1.length + 1))])), (g, .inr (3, [.ref ge, .ref gl, .ref gb, .ref gw, .ref gsw, .ref gsh, .int si, .int (nI n), .int fi])), (bc, .inl (cI, 6, .inl cm)), (bs, .inl (cI, 20, .inl (upd f t1.length ((nI 23) - a1)))), (w, .inr (4, [.ref sg, .int (nI nl)])), (sg, .inl (cI, 20, .inl fs))] := hD
                                have hs190 := stk_push (x := (nI 23) - a1) hs186
                                refine lv_goto (tgt := 254) hx hb dX0_madeBy_193 (by decide) ?_
                                refine lv_iinc (v := nI q + (-1)) (lv' := [(4, .int (nI q + (-1))), (5, .int (fs q)), (0, .ref b), (1, .ref w), (2, .int h), (3, .int dg)]) hx hb dX0_madeBy_254 hl (k := 5) rfl rfl (by decide) rfl (fun ls hl => ?_)
                                refine lv_goto (tgt := 15) hx hb dX0_madeBy_257 (by decide) ?_
                                exact ih15 q (r + 1) (((nI 23) - a1) :: t1) (upd f t1.length ((nI 23) - a1)) dg ((by omega)) ((by show _ = stp _ (fs q) (fs (q + 1)) (ev fs _ r (q + 1)); rw [← hL, stp_tl e126])) hs190 ((fun e9 => absurd e9 (by rw [hf]; decide))) (by omega) _ _ hP hD hS _ (lv_sub hl [2, 3, 4, 5, 0] rfl)
                              · skip
                                refine lv_lookup (off := 217) (tgt := 248) hx hb dX0_madeBy_31 (by decide +kernel) (by show Op.lookupswitch.offset [(43, 178), (45, 165), (47, 133), (60, 97), (62, 115), (102, 199), (104, 191), (108, 199), (109, 199), (112, 199), (126, 151)] (217) _ = _; rw [Op.lookupswitch.offset_cons, if_neg (show ¬ ((43 : Int) = _) from ne_toI (c := 43) (by decide) e43), Op.lookupswitch.offset_cons, if_neg (show ¬ ((45 : Int) = _) from ne_toI (c := 45) (by decide) e45), Op.lookupswitch.offset_cons, if_neg (show ¬ ((47 : Int) = _) from ne_toI (c := 47) (by decide) e47), Op.lookupswitch.offset_cons, if_neg (show ¬ ((60 : Int) = _) from ne_toI (c := 60) (by decide) e60), Op.lookupswitch.offset_cons, if_neg (show ¬ ((62 : Int) = _) from ne_toI (c := 62) (by decide) e62), Op.lookupswitch.offset_cons, if_neg (show ¬ ((102 : Int) = _) from ne_toI (c := 102) (by decide) e102), Op.lookupswitch.offset_cons, if_neg (show ¬ ((104 : Int) = _) from ne_toI (c := 104) (by decide) e104), Op.lookupswitch.offset_cons, if_neg (show ¬ ((108 : Int) = _) from ne_toI (c := 108) (by decide) e108), Op.lookupswitch.offset_cons, if_neg (show ¬ ((109 : Int) = _) from ne_toI (c := 109) (by decide) e109), Op.lookupswitch.offset_cons, if_neg (show ¬ ((112 : Int) = _) from ne_toI (c := 112) (by decide) e112), Op.lookupswitch.offset_cons, if_neg (show ¬ ((126 : Int) = _) from ne_toI (c := 126) (by decide) e126), Op.lookupswitch.offset_nil]) (by decide) ?_
                                have hdq : dgt (fs q) := by
                                  cases e9 : (ps fs q).2 with
                                  | true => exact v2 e9
                                  | false => exact absurd (v3 e9) (by rintro ((z | z | z | z | z) | (z | z | z) | (z | z) | z) <;> first | exact e108 z | exact e102 z | exact e109 z | exact e112 z | exact e104 z | exact e60 z | exact e62 z | exact e47 z | exact e45 z | exact e43 z | exact e126 z)
                                refine lv_iload hx hb dX0_madeBy_248 (lv_at hl 0 rfl) ?_
                                refine lv_bipush (v := nI 48) hx hb dX0_madeBy_250 (by decide) ?_
                                refine lv_isub hx hb dX0_madeBy_252 ?_
                                refine lv_istore_n (lv' := [(3, .int ((fs q) - (nI 48))), (5, .int (fs q)), (0, .ref b), (1, .ref w), (2, .int h), (4, .int (nI q))]) hx hb dX0_madeBy_253 rfl hl (by decide) rfl (fun ls hl => ?_)
                                refine lv_iinc (v := nI q + (-1)) (lv' := [(4, .int (nI q + (-1))), (3, .int ((fs q) - (nI 48))), (5, .int (fs q)), (0, .ref b), (1, .ref w), (2, .int h)]) hx hb dX0_madeBy_254 hl (k := 5) rfl rfl (by decide) rfl (fun ls hl => ?_)
                                refine lv_goto (tgt := 15) hx hb dX0_madeBy_257 (by decide) ?_
                                exact ih15 q (r + 1) L f (fs q - nI 48) ((by omega)) ((by show L = stp _ (fs q) (fs (q + 1)) (ev fs _ r (q + 1)); rw [stp_dg hdq, ← hL])) hs ((fun _ => rfl)) (by omega) _ _ hP hD hS _ (lv_sub hl [3, 4, 5, 1, 0] rfl)
  exact L15 _ nl 0 ([]) fk (nI 0) ((by omega)) rfl trivial ((fun e9 => absurd e9 (by rw [VL_end hV]; decide))) (Nat.lt_succ_self _) _ _ hP hD hS _ (lv_sub hl [2, 3, 4, 1, 0] rfl)

abbrev rm_X0_nextHour : Room := { frames := 3, cells := 0, slots := 0, locals := 68 }
set_option maxHeartbeats 4000000 in
set_option maxRecDepth 100000 in
theorem c_nextHour (l : Launch) (D : va_G) (cI cJ cZ cG cM : ClassId) (b bt bc bs : Nat) (g ge gl gb gw gsw gsh : Nat) (si fi : Int32) (n : Nat) (w sg nl lt : Nat) (hg h la : Int32) (cm fk fs fe fl : Nat → Int32) (hV : VL fs nl) (h1 : 1 ≤ n) (h6 : n ≤ 6) :
    CI l yX0_nextHour wsX0_nextHour rm_X0_nextHour D [(cI, .int), (cJ, .long), (cZ, .boolean), (cG, .object "LatestSets$Guild"), (cM, .array .int)] [(b, .inr (0, [.ref g, .ref bt, .ref bc, .ref bs, .int hg])), (g, .inr (3, [.ref ge, .ref gl, .ref gb, .ref gw, .ref gsw, .ref gsh, .int si, .int (nI n), .int fi])), (ge, .inl (cI, 6, .inl fe)), (lt, .inl (cI, 6, .inl fl)), (bc, .inl (cI, 6, .inl cm)), (bs, .inl (cI, 20, .inl fk)), (w, .inr (4, [.ref sg, .int (nI nl)])), (sg, .inl (cI, 20, .inl fs))] [.ref b, .ref w, .int h, .ref lt, .int la] (S := ((Nat → Int32) × (Nat → Int32) × Int32)) (fun r u => r = nxH fs nl n (fun m9 => cmA h (fe m9 + la) (fl m9)) h) (fun u => [(b, .inr (0, [.ref g, .ref bt, .ref bc, .ref bs, .int u.2.2])), (g, .inr (3, [.ref ge, .ref gl, .ref gb, .ref gw, .ref gsw, .ref gsh, .int si, .int (nI n), .int fi])), (ge, .inl (cI, 6, .inl fe)), (lt, .inl (cI, 6, .inl fl)), (bc, .inl (cI, 6, .inl u.1)), (bs, .inl (cI, 20, .inl u.2.1)), (w, .inr (4, [.ref sg, .int (nI nl)])), (sg, .inl (cI, 20, .inl fs))]) := by
  refine si_of (cc := cX0_nextHour) (maxL := 6) (by decide) rfl (Nat.le_of_ble_eq_true rfl) ?_
  intro p e s m args below meth c A ls Q E hret
  obtain ⟨hx, hb, -, hml, hown, hts, -, hin, hA, hK, hP, hD, hS, hl, hN⟩ := E
  have hown : s.vm.findClass RX0 = some m.cls := hown
  have hl : lv_has ls 6 [(0, .ref b), (1, .ref w), (2, .int h), (3, .ref lt), (4, .int la)] := hl
  have SF : CallFix p m c cX0_nextHour 6 s args wsX0_nextHour RX0 := ⟨hx, hb, hml, hown, hts⟩
  have hw0 := hts (.fieldLink RX0 21 "LatestSets$Board" "guild" "LLatestSets$Guild;") (by decide +kernel)
  have hi0 : ∀ x ∈ wsX00, x ∈ wsX0_nextHour := by decide +kernel
  have hw2 := hts (.fieldLink RX0 36 "LatestSets$Guild" "count" "I") (by decide +kernel)
  have hi3 : ∀ x ∈ wsX30, x ∈ wsX0_nextHour := by decide +kernel
  have hw4 := hts (.methodLink RX0 55 Lib.Math.min.name) (by decide +kernel)
  have hw5 := hts (.static Lib.Math.min.name) (by decide +kernel)
  have hw6 := hts (.initialized "java/lang/Math") (by decide +kernel)
  have hw7 := hts (.code Lib.Math.min.name Lib.Math.min.code 2 (some .int)) (by decide +kernel)
  have hw8 := hts (.methodLink RX0 61 Lib.Math.max.name) (by decide +kernel)
  have hw9 := hts (.static Lib.Math.max.name) (by decide +kernel)
  have hw10 := hts (.code Lib.Math.max.name Lib.Math.max.code 2 (some .int)) (by decide +kernel)
  have hw11 := hts (.fieldLink RX0 40 "LatestSets$Guild" "early" "[I") (by decide +kernel)
  have hw12 := hts (.initialized RX7) (by decide +kernel)
  have hw13 := hts (.static yX7_comingAt) (by decide +kernel)
  refine lv_iconst (v := nI 0) hx hb dX0_nextHour_0 (by decide) ?_
  refine lv_istore (lv' := [(5, .int (nI 0)), (0, .ref b), (1, .ref w), (2, .int h), (3, .ref lt), (4, .int la)]) hx hb dX0_nextHour_1 hl (by decide) rfl (fun ls hl => ?_)
  have L3 : ∀ (n9 : Nat) (k : Nat) (hk : k ≤ n), n - k < n9 → ∀ (H : Heap) (locs : List Loc), va_P D vwCl [(b, .inr (0, [.ref g, .ref bt, .ref bc, .ref bs, .int hg])), (g, .inr (3, [.ref ge, .ref gl, .ref gb, .ref gw, .ref gsw, .ref gsh, .int si, .int (nI n), .int fi])), (ge, .inl (cI, 6, .inl fe)), (lt, .inl (cI, 6, .inl fl)), (bc, .inl (cI, 6, .inl (arrS cm (fun m9 => cmA h (fe m9 + la) (fl m9)) k))), (bs, .inl (cI, 20, .inl fk)), (w, .inr (4, [.ref sg, .int (nI nl)])), (sg, .inl (cI, 20, .inl fs))] H → va_D A [(b, .inr (0, [.ref g, .ref bt, .ref bc, .ref bs, .int hg])), (g, .inr (3, [.ref ge, .ref gl, .ref gb, .ref gw, .ref gsw, .ref gsh, .int si, .int (nI n), .int fi])), (ge, .inl (cI, 6, .inl fe)), (lt, .inl (cI, 6, .inl fl)), (bc, .inl (cI, 6, .inl (arrS cm (fun m9 => cmA h (fe m9 + la) (fl m9)) k))), (bs, .inl (cI, 20, .inl fk)), (w, .inr (4, [.ref sg, .int (nI nl)])), (sg, .inl (cI, 20, .inl fs))] → va_S A s.heap H locs → ∀ (ls : Array Slot), lv_has ls 6 [(0, .ref b), (1, .ref w), (2, .int h), (3, .ref lt), (4, .int la), (5, .int (nI k))] → W p l e rm_X0_nextHour s m args below meth c H locs 0 0 Q (F0 m 3 ls []) := by
    intro n9
    induction n9 with
    | zero => intro k hk hm; exact absurd hm (Nat.not_lt_zero _)
    | succ n9 ih3 =>
      intro k hk hm3 H locs hP hD hS ls hl
      refine lv_iload hx hb dX0_nextHour_3 (lv_at hl 5 rfl) ?_
      refine lv_aload_n hx hb dX0_nextHour_5 rfl (lv_at hl 0 rfl) ?_
      refine va_get (D := D) (ci := 0) (v := .ref g) (C := RX0) (T := TX0) (N := 5) hx hb hts hi0 hown hK hP 0 rfl rfl 0 (by decide) hw0 (fun _ h9 => h9) rfl dX0_nextHour_6 ?_
      refine va_get (D := D) (ci := 3) (v := .int (nI n)) (C := RX3) (T := TX3) (N := 9) hx hb hts hi3 hown hK hP 1 rfl rfl 7 (by decide) hw2 (fun _ h9 => h9) rfl dX0_nextHour_9 ?_
      refine icmp_ge_n (a := k) (b := n) (tgt := 48) hx hb dX0_nextHour_12 (by decide) (by omega) (by omega) (fun c12 => ?_) (fun c12 => ?_)
      · refine lv_aload_n hx hb dX0_nextHour_48 rfl (lv_at hl 0 rfl) ?_
        refine lv_aload_n hx hb dX0_nextHour_49 rfl (lv_at hl 1 rfl) ?_
        refine lv_iload_n hx hb dX0_nextHour_50 rfl (lv_at hl 2 rfl) ?_
        refine cal_i (run_V (As := [.ref w, .int h]) (rest := []) SF (c_madeBy l D cI cJ cZ cG cM b bt bc bs g ge gl gb gw gsw gsh si fi n w sg nl hg h (arrS cm (fun m9 => cmA h (fe m9 + la) (fl m9)) k) fk fs hV h1 h6) (cwV 2 hts gX0_nextHour_X0_madeBy rfl rfl rfl (by decide +kernel) ⟨Nat.le_of_ble_eq_true rfl, Nat.le_of_ble_eq_true rfl⟩) hN hK hP hD [0, 1, 4, 5, 6, 7] rfl (by decide) 0 0 rfl rfl rfl rfl hl.1 rfl (Nat.le_of_ble_eq_true rfl) dX0_nextHour_51 ⟨Nat.le_of_ble_eq_true rfl, Nat.le_of_ble_eq_true rfl⟩) ⟨rfl, rfl⟩ hP hD hS hA [0, 1, 4, 5, 6, 7] rfl (fun _ => rfl) (fun r51 u51 H locs hw hP hD hS => ?_)
        have hP : va_P D vwCl [(b, .inr (0, [.ref g, .ref bt, .ref bc, .ref bs, .int u51.2])), (g, .inr (3, [.ref ge, .ref gl, .ref gb, .ref gw, .ref gsw, .ref gsh, .int si, .int (nI n), .int fi])), (ge, .inl (cI, 6, .inl fe)), (lt, .inl (cI, 6, .inl fl)), (bc, .inl (cI, 6, .inl (arrS cm (fun m9 => cmA h (fe m9 + la) (fl m9)) k))), (bs, .inl (cI, 20, .inl u51.1)), (w, .inr (4, [.ref sg, .int (nI nl)])), (sg, .inl (cI, 20, .inl fs))] H := hP
        have hD : va_D A [(b, .inr (0, [.ref g, .ref bt, .ref bc, .ref bs, .int u51.2])), (g, .inr (3, [.ref ge, .ref gl, .ref gb, .ref gw, .ref gsw, .ref gsh, .int si, .int (nI n), .int fi])), (ge, .inl (cI, 6, .inl fe)), (lt, .inl (cI, 6, .inl fl)), (bc, .inl (cI, 6, .inl (arrS cm (fun m9 => cmA h (fe m9 + la) (fl m9)) k))), (bs, .inl (cI, 20, .inl u51.1)), (w, .inr (4, [.ref sg, .int (nI nl)])), (sg, .inl (cI, 20, .inl fs))] := hD
        refine lv_istore (lv' := [(5, .int r51), (0, .ref b), (1, .ref w), (2, .int h), (3, .ref lt), (4, .int la)]) hx hb dX0_nextHour_54 hl (by decide) rfl (fun ls hl => ?_)
        refine lv_iconst (v := nI 0) hx hb dX0_nextHour_56 (by decide) ?_
        refine lv_bipush (v := nI 23) hx hb dX0_nextHour_57 (by decide) ?_
        refine lv_iload hx hb dX0_nextHour_59 (lv_at hl 0 rfl) ?_
        refine va_mmin hx hb (by rw [hml]; exact hl.1.symm) hown hw4 hw5 hw6 hw7 (Nat.le_of_ble_eq_true rfl) (Nat.le_of_ble_eq_true rfl) (Nat.zero_le _) (Nat.zero_le _) dX0_nextHour_61 ?_
        refine va_mmax hx hb (by rw [hml]; exact hl.1.symm) hown hw8 hw9 hw6 hw10 (Nat.le_of_ble_eq_true rfl) (Nat.le_of_ble_eq_true rfl) (Nat.zero_le _) (Nat.zero_le _) dX0_nextHour_64 ?_
        have e9 : k = n := by omega
        subst e9
        exact hret (mxI (nI 0) (mnI (nI 23) r51)) ((arrS cm (fun m9 => cmA h (fe m9 + la) (fl m9)) k, u51.1, u51.2)) _ _ _ _ dX0_nextHour_67 (by rw [hw]; exact nxH_of cm h1 h) hP hD hS
      · refine lv_aload_n hx hb dX0_nextHour_15 rfl (lv_at hl 0 rfl) ?_
        refine lv_iload hx hb dX0_nextHour_16 (lv_at hl 5 rfl) ?_
        refine lv_iload_n hx hb dX0_nextHour_18 rfl (lv_at hl 2 rfl) ?_
        refine lv_aload_n hx hb dX0_nextHour_19 rfl (lv_at hl 0 rfl) ?_
        refine va_get (D := D) (ci := 0) (v := .ref g) (C := RX0) (T := TX0) (N := 5) hx hb hts hi0 hown hK hP 0 rfl rfl 0 (by decide) hw0 (fun _ h9 => h9) rfl dX0_nextHour_20 ?_
        refine va_get (D := D) (ci := 3) (v := .ref ge) (C := RX3) (T := TX3) (N := 9) hx hb hts hi3 hown hK hP 1 rfl rfl 0 (by decide) hw11 (fun _ h9 => h9) rfl dX0_nextHour_23 ?_
        refine lv_iload hx hb dX0_nextHour_26 (lv_at hl 5 rfl) ?_
        refine iald_n (k := k) hx hb hK hP 2 0 rfl rfl (by omega) (by omega) dX0_nextHour_28 ?_
        refine lv_iload hx hb dX0_nextHour_29 (lv_at hl 4 rfl) ?_
        refine lv_iadd hx hb dX0_nextHour_31 ?_
        refine lv_aload_n hx hb dX0_nextHour_32 rfl (lv_at hl 3 rfl) ?_
        refine lv_iload hx hb dX0_nextHour_33 (lv_at hl 5 rfl) ?_
        refine iald_n (k := k) hx hb hK hP 3 0 rfl rfl (by omega) (by omega) dX0_nextHour_35 ?_
        refine cal_i (run_SN (As := [.int h, .int ((fe k) + la), .int (fl k)]) (rest := [.int (nI k), .ref b]) SF (c_comingAt l D cI cJ cZ cG cM h ((fe k) + la) (fl k)) ⟨(va_cnB 3 hts gX0_nextHour_X7_comingAt_n43 rfl rfl rfl hN hw12 (by decide +kernel) ⟨Nat.le_of_ble_eq_true rfl, Nat.le_of_ble_eq_true rfl⟩), hw13, trivial⟩ hN hK hP hD [] rfl (by decide) rfl hl.1 rfl (Nat.le_of_ble_eq_true rfl) dX0_nextHour_36 ⟨Nat.le_of_ble_eq_true rfl, Nat.le_of_ble_eq_true rfl⟩) ⟨rfl, rfl⟩ hP hD hS hA [] rfl (fun _ => rfl) (fun r9 _ H locs hw hP hD hS => ?_)
        have hP : va_P D vwCl [(b, .inr (0, [.ref g, .ref bt, .ref bc, .ref bs, .int hg])), (g, .inr (3, [.ref ge, .ref gl, .ref gb, .ref gw, .ref gsw, .ref gsh, .int si, .int (nI n), .int fi])), (ge, .inl (cI, 6, .inl fe)), (lt, .inl (cI, 6, .inl fl)), (bc, .inl (cI, 6, .inl (arrS cm (fun m9 => cmA h (fe m9 + la) (fl m9)) k))), (bs, .inl (cI, 20, .inl fk)), (w, .inr (4, [.ref sg, .int (nI nl)])), (sg, .inl (cI, 20, .inl fs))] H := hP
        have hD : va_D A [(b, .inr (0, [.ref g, .ref bt, .ref bc, .ref bs, .int hg])), (g, .inr (3, [.ref ge, .ref gl, .ref gb, .ref gw, .ref gsw, .ref gsh, .int si, .int (nI n), .int fi])), (ge, .inl (cI, 6, .inl fe)), (lt, .inl (cI, 6, .inl fl)), (bc, .inl (cI, 6, .inl (arrS cm (fun m9 => cmA h (fe m9 + la) (fl m9)) k))), (bs, .inl (cI, 20, .inl fk)), (w, .inr (4, [.ref sg, .int (nI nl)])), (sg, .inl (cI, 20, .inl fs))] := hD
        subst hw
        refine cal_v (run_V (As := [.int (nI k), .int (cmA h ((fe k) + la) (fl k))]) (rest := []) SF (c_insert l D cI cJ cZ cG cM b bt bc bs g hg k (arrS cm (fun m9 => cmA h (fe m9 + la) (fl m9)) k) (cmA h ((fe k) + la) (fl k)) (by omega)) (cwV 2 hts gX0_nextHour_X0_insert rfl rfl rfl (by decide +kernel) ⟨Nat.le_of_ble_eq_true rfl, Nat.le_of_ble_eq_true rfl⟩) hN hK hP hD [0, 4] rfl (by decide) 0 0 rfl rfl rfl rfl hl.1 rfl (Nat.le_of_ble_eq_true rfl) dX0_nextHour_39 ⟨Nat.le_of_ble_eq_true rfl, Nat.le_of_ble_eq_true rfl⟩) ⟨rfl, rfl⟩ hP hD hS hA [0, 4] rfl (fun _ => rfl) (fun _ H locs hw hP hD hS => ?_)
        have hP : va_P D vwCl [(b, .inr (0, [.ref g, .ref bt, .ref bc, .ref bs, .int hg])), (g, .inr (3, [.ref ge, .ref gl, .ref gb, .ref gw, .ref gsw, .ref gsh, .int si, .int (nI n), .int fi])), (ge, .inl (cI, 6, .inl fe)), (lt, .inl (cI, 6, .inl fl)), (bc, .inl (cI, 6, .inl (insG (arrS cm (fun m9 => cmA h (fe m9 + la) (fl m9)) k) (cmA h ((fe k) + la) (fl k)) k))), (bs, .inl (cI, 20, .inl fk)), (w, .inr (4, [.ref sg, .int (nI nl)])), (sg, .inl (cI, 20, .inl fs))] H := hP
        have hD : va_D A [(b, .inr (0, [.ref g, .ref bt, .ref bc, .ref bs, .int hg])), (g, .inr (3, [.ref ge, .ref gl, .ref gb, .ref gw, .ref gsw, .ref gsh, .int si, .int (nI n), .int fi])), (ge, .inl (cI, 6, .inl fe)), (lt, .inl (cI, 6, .inl fl)), (bc, .inl (cI, 6, .inl (insG (arrS cm (fun m9 => cmA h (fe m9 + la) (fl m9)) k) (cmA h ((fe k) + la) (fl k)) k))), (bs, .inl (cI, 20, .inl fk)), (w, .inr (4, [.ref sg, .int (nI nl)])), (sg, .inl (cI, 20, .inl fs))] := hD
        refine lv_iinc (v := nI (k + 1)) (lv' := [(5, .int (nI (k + 1))), (0, .ref b), (1, .ref w), (2, .int h), (3, .ref lt), (4, .int la)]) hx hb dX0_nextHour_42 hl (k := 5) rfl (nI_1 k) (by decide) rfl (fun ls hl => ?_)
        refine lv_goto (tgt := 3) hx hb dX0_nextHour_45 (by decide) ?_
        exact ih3 (k + 1) ((by omega)) (by omega) _ _ hP hD hS _ (lv_sub hl [1, 2, 3, 4, 5, 0] rfl)
  exact L3 _ 0 ((Nat.zero_le _)) (Nat.lt_succ_self _) _ _ hP hD hS _ (lv_sub hl [1, 2, 3, 4, 5, 0] rfl)

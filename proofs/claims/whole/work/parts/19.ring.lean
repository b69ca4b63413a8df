abbrev rm_X6_follow : Room := { frames := 4, cells := 0, slots := 0, locals := 93 }
set_option maxHeartbeats 1000000 in
set_option maxRecDepth 100000 in
theorem c_follow (l : Launch) (D : va_G) (cI cJ cZ cG cM : ClassId) (rg rl rf : Nat) (ah le lst : Int32) (b bt bc bs : Nat) (g ge gl gb gw gsw gsh : Nat) (fi : Int32) (n ns : Nat) (w sg nl : Nat) (hg : Int32) (fw cm fk fs fe fl : Nat → Int32) (hV : VL fs nl) (h1 : 1 ≤ n) (h6 : n ≤ 6) (h0 : Nat) (hh : h0 ≤ 23) :
    CV l yX6_follow wsX6_follow rm_X6_follow D [(cI, .int), (cJ, .long), (cZ, .boolean), (cG, .object "LatestSets$Guild"), (cM, .array .int)] [(rg, .inr (6, [.ref b, .ref rl, .ref rf, .int ah, .int le, .int lst])), (rf, .inl (cI, 24, .inl fw)), (b, .inr (0, [.ref g, .ref bt, .ref bc, .ref bs, .int hg])), (g, .inr (3, [.ref ge, .ref gl, .ref gb, .ref gw, .ref gsw, .ref gsh, .int (nI ns), .int (nI n), .int fi])), (ge, .inl (cI, 6, .inl fe)), (gl, .inl (cI, 6, .inl fl)), (bc, .inl (cI, 6, .inl cm)), (bs, .inl (cI, 20, .inl fk)), (w, .inr (4, [.ref sg, .int (nI nl)])), (sg, .inl (cI, 20, .inl fs))] [.ref rg, .ref w, .int (nI h0)] (S := ((Nat → Int32) × (Nat → Int32) × (Nat → Int32) × Int32 × Int32 × Int32 × Int32)) (fun u => ∃ w a m, TDM (hsq (nxF fs nl n fe fl (nI 0)) h0) w a m ∧ u.2.2.2.2.1 = nI a ∧ u.2.2.2.2.2.1 = nI (w - a) ∧ u.2.2.2.2.2.2 = nI m) (fun u => [(rg, .inr (6, [.ref b, .ref rl, .ref rf, .int u.2.2.2.2.1, .int u.2.2.2.2.2.1, .int u.2.2.2.2.2.2])), (rf, .inl (cI, 24, .inl u.1)), (b, .inr (0, [.ref g, .ref bt, .ref bc, .ref bs, .int u.2.2.2.1])), (g, .inr (3, [.ref ge, .ref gl, .ref gb, .ref gw, .ref gsw, .ref gsh, .int (nI ns), .int (nI n), .int fi])), (ge, .inl (cI, 6, .inl fe)), (gl, .inl (cI, 6, .inl fl)), (bc, .inl (cI, 6, .inl u.2.1)), (bs, .inl (cI, 20, .inl u.2.2.1)), (w, .inr (4, [.ref sg, .int (nI nl)])), (sg, .inl (cI, 20, .inl fs))]) := by
  refine sv_of (cc := cX6_follow) (maxL := 6) (by decide) rfl (Nat.le_of_ble_eq_true rfl) ?_
  intro p e s m args below meth c A ls Q E hret
  obtain ⟨hx, hb, -, hml, hown, hts, -, hin, hA, hK, hP, hD, hS, hl, hN⟩ := E
  have hown : s.vm.findClass RX6 = some m.cls := hown
  have hl : lv_has ls 6 [(0, .ref rg), (1, .ref w), (2, .int (nI h0))] := hl
  have SF : CallFix p m c cX6_follow 6 s args wsX6_follow RX6 := ⟨hx, hb, hml, hown, hts⟩
  have hw0 := hts (.fieldLink RX6 18 "LatestSets$Ring" "firstWeek" "[I") (by decide +kernel)
  have hi6 : ∀ x ∈ wsX60, x ∈ wsX6_follow := by decide +kernel
  have hw2 := hts (.fieldLink RX6 47 "LatestSets$Ring" "ahead" "I") (by decide +kernel)
  have hw3 := hts (.fieldLink RX6 51 "LatestSets$Ring" "length" "I") (by decide +kernel)
  have hw4 := hts (.fieldLink RX6 54 "LatestSets$Ring" "least" "I") (by decide +kernel)
  have hw5 := hts (.fieldLink RX6 22 "LatestSets$Ring" "board" "LLatestSets$Board;") (by decide +kernel)
  have hw6 := hts (.fieldLink RX6 32 "LatestSets$Board" "guild" "LLatestSets$Guild;") (by decide +kernel)
  have hi0 : ∀ x ∈ wsX00, x ∈ wsX6_follow := by decide +kernel
  have hw8 := hts (.fieldLink RX6 38 "LatestSets$Guild" "late" "[I") (by decide +kernel)
  have hi3 : ∀ x ∈ wsX30, x ∈ wsX6_follow := by decide +kernel
  refine lv_aload_n hx hb dX6_follow_0 rfl (lv_at hl 0 rfl) ?_
  refine va_get (D := D) (ci := 6) (v := .ref rf) (C := RX6) (T := TX6) (N := 6) hx hb hts hi6 hown hK hP 0 rfl rfl 2 (by decide) hw0 (fun _ h9 => h9) rfl dX6_follow_1 ?_
  refine lv_iconst (v := (-1)) hx hb dX6_follow_4 (by decide) ?_
  refine cal_v (run_S (As := [.ref rf, .int ((-1))]) (rest := []) SF (c_fillI l D cI cJ cZ cG cM rf 24 fw (-1) (by omega)) (va_cwS 2 hts gX6_follow_J7_fill_53178 rfl rfl rfl (by decide +kernel) ⟨Nat.le_of_ble_eq_true rfl, Nat.le_of_ble_eq_true rfl⟩) hN hK hP hD [1] rfl (by decide) rfl hl.1 rfl (Nat.le_of_ble_eq_true rfl) dX6_follow_5 ⟨Nat.le_of_ble_eq_true rfl, Nat.le_of_ble_eq_true rfl⟩) ⟨rfl, rfl⟩ hP hD hS hA [1] rfl (fun _ => rfl) (fun _ H locs hw hP hD hS => ?_)
  have hP : va_P D vwCl [(rg, .inr (6, [.ref b, .ref rl, .ref rf, .int ah, .int le, .int lst])), (rf, .inl (cI, 24, .inl (filI fw ((-1)) 24))), (b, .inr (0, [.ref g, .ref bt, .ref bc, .ref bs, .int hg])), (g, .inr (3, [.ref ge, .ref gl, .ref gb, .ref gw, .ref gsw, .ref gsh, .int (nI ns), .int (nI n), .int fi])), (ge, .inl (cI, 6, .inl fe)), (gl, .inl (cI, 6, .inl fl)), (bc, .inl (cI, 6, .inl cm)), (bs, .inl (cI, 20, .inl fk)), (w, .inr (4, [.ref sg, .int (nI nl)])), (sg, .inl (cI, 20, .inl fs))] H := hP
  have hD : va_D A [(rg, .inr (6, [.ref b, .ref rl, .ref rf, .int ah, .int le, .int lst])), (rf, .inl (cI, 24, .inl (filI fw ((-1)) 24))), (b, .inr (0, [.ref g, .ref bt, .ref bc, .ref bs, .int hg])), (g, .inr (3, [.ref ge, .ref gl, .ref gb, .ref gw, .ref gsw, .ref gsh, .int (nI ns), .int (nI n), .int fi])), (ge, .inl (cI, 6, .inl fe)), (gl, .inl (cI, 6, .inl fl)), (bc, .inl (cI, 6, .inl cm)), (bs, .inl (cI, 20, .inl fk)), (w, .inr (4, [.ref sg, .int (nI nl)])), (sg, .inl (cI, 20, .inl fs))] := hD
  refine lv_iload_n hx hb dX6_follow_8 rfl (lv_at hl 2 rfl) ?_
  refine lv_istore_n (lv' := [(3, .int (nI h0)), (0, .ref rg), (1, .ref w), (2, .int (nI h0))]) hx hb dX6_follow_9 rfl hl (by decide) rfl (fun ls hl => ?_)
  refine lv_iconst (v := nI 0) hx hb dX6_follow_10 (by decide) ?_
  refine lv_istore (lv' := [(4, .int (nI 0)), (3, .int (nI h0)), (0, .ref rg), (1, .ref w), (2, .int (nI h0))]) hx hb dX6_follow_11 hl (by decide) rfl (fun ls hl => ?_)
  have L13 : ∀ (n9 : Nat) (k : Nat) (cm fk : Nat → Int32) (hg : Int32) (hk : k ≤ 24) (hi : inj (hsq (nxF fs nl n fe fl (nI 0)) h0) k), 24 - k < n9 → ∀ (H : Heap) (locs : List Loc), va_P D vwCl [(rg, .inr (6, [.ref b, .ref rl, .ref rf, .int ah, .int le, .int lst])), (rf, .inl (cI, 24, .inl (visA (filI fw (-1) 24) (hsq (nxF fs nl n fe fl (nI 0)) h0) k))), (b, .inr (0, [.ref g, .ref bt, .ref bc, .ref bs, .int hg])), (g, .inr (3, [.ref ge, .ref gl, .ref gb, .ref gw, .ref gsw, .ref gsh, .int (nI ns), .int (nI n), .int fi])), (ge, .inl (cI, 6, .inl fe)), (gl, .inl (cI, 6, .inl fl)), (bc, .inl (cI, 6, .inl cm)), (bs, .inl (cI, 20, .inl fk)), (w, .inr (4, [.ref sg, .int (nI nl)])), (sg, .inl (cI, 20, .inl fs))] H → va_D A [(rg, .inr (6, [.ref b, .ref rl, .ref rf, .int ah, .int le, .int lst])), (rf, .inl (cI, 24, .inl (visA (filI fw (-1) 24) (hsq (nxF fs nl n fe fl (nI 0)) h0) k))), (b, .inr (0, [.ref g, .ref bt, .ref bc, .ref bs, .int hg])), (g, .inr (3, [.ref ge, .ref gl, .ref gb, .ref gw, .ref gsw, .ref gsh, .int (nI ns), .int (nI n), .int fi])), (ge, .inl (cI, 6, .inl fe)), (gl, .inl (cI, 6, .inl fl)), (bc, .inl (cI, 6, .inl cm)), (bs, .inl (cI, 20, .inl fk)), (w, .inr (4, [.ref sg, .int (nI nl)])), (sg, .inl (cI, 20, .inl fs))] → va_S A s.heap H locs → ∀ (ls : Array Slot), lv_has ls 6 [(0, .ref rg), (1, .ref w), (2, .int (nI h0)), (3, .int (nI (hsq (nxF fs nl n fe fl (nI 0)) h0 k))), (4, .int (nI k))] → W p l e rm_X6_follow s m args below meth c H locs 0 0 Q (F0 m 13 ls []) := by
    intro n9
    induction n9 with
    | zero => intro k cm fk hg hk hi hm; exact absurd hm (Nat.not_lt_zero _)
    | succ n9 ih13 =>
      intro k cm fk hg hk hi hm13 H locs hP hD hS ls hl
      refine lv_iload hx hb dX6_follow_13 (lv_at hl 4 rfl) ?_
      refine lv_bipush (v := nI 24) hx hb dX6_follow_15 (by decide) ?_
      refine icmp_ge_n (a := k) (b := 24) (tgt := 64) hx hb dX6_follow_17 (by decide) (by omega) (by omega) (fun c17 => ?_) (fun c17 => ?_)
      · have hx9 := hsq_le (F := (nxF fs nl n fe fl (nI 0))) (FR_F _ _ _ _ _ _) hh k
        have e9 : k = 24 := by omega
        obtain ⟨a, ha, hxa⟩ : ∃ a, a < k ∧ (hsq (nxF fs nl n fe fl (nI 0)) h0) a = (hsq (nxF fs nl n fe fl (nI 0)) h0) k := by rw [e9] at hi ⊢; exact inj_full hi (hsq_le (FR_F _ _ _ _ _ _) hh)
        have hva : visA (filI fw (-1) 24) (hsq (nxF fs nl n fe fl (nI 0)) h0) k ((hsq (nxF fs nl n fe fl (nI 0)) h0) k) = nI a := by
          rcases vis_cases (filI fw (-1) 24) (hsq (nxF fs nl n fe fl (nI 0)) h0) k ((hsq (nxF fs nl n fe fl (nI 0)) h0) k) hi with ⟨b9, z1, z2, z3⟩ | ⟨z1, z2⟩
          · rw [z3]; rcases Nat.lt_trichotomy a b9 with q | q | q
            · exact absurd (hxa.trans z2.symm) (hi a b9 q z1)
            · rw [q]
            · exact absurd (z2.trans hxa.symm) (hi b9 a q ha)
          · exact absurd hxa (z1 a ha)
        refine lv_aload_n hx hb dX6_follow_64 rfl (lv_at hl 0 rfl) ?_
        refine lv_aload_n hx hb dX6_follow_65 rfl (lv_at hl 0 rfl) ?_
        refine va_get (D := D) (ci := 6) (v := .ref rf) (C := RX6) (T := TX6) (N := 6) hx hb hts hi6 hown hK hP 0 rfl rfl 2 (by decide) hw0 (fun _ h9 => h9) rfl dX6_follow_66 ?_
        refine lv_iload_n hx hb dX6_follow_69 rfl (lv_at hl 3 rfl) ?_
        refine iald_n (k := hsq (nxF fs nl n fe fl (nI 0)) h0 k) hx hb hK hP 1 0 rfl rfl (by omega) (by omega) dX6_follow_70 ?_
        refine lv_topi (fun y9 e9 => ?_)
        have e9 : nI a = y9 := (e9.trans (hva)).symm
        subst e9
        refine va_put (D := D) (ci := 6) (v := .int (nI a)) (ty := .int) (C := RX6) (T := TX6) (N := 6) hx hb hts hi6 tyX6 tyX6_ok nmX6 hown hK hP hD hS 0 rfl rfl 3 (by decide) hw2 (fun _ h9 => h9) rfl (by decide +kernel) rfl rfl (Nat.le_of_ble_eq_true rfl) dX6_follow_71 (fun H locs hP hD hS => ?_)
        have hP : va_P D vwCl [(rg, .inr (6, [.ref b, .ref rl, .ref rf, .int (nI a), .int le, .int lst])), (rf, .inl (cI, 24, .inl (visA (filI fw (-1) 24) (hsq (nxF fs nl n fe fl (nI 0)) h0) k))), (b, .inr (0, [.ref g, .ref bt, .ref bc, .ref bs, .int hg])), (g, .inr (3, [.ref ge, .ref gl, .ref gb, .ref gw, .ref gsw, .ref gsh, .int (nI ns), .int (nI n), .int fi])), (ge, .inl (cI, 6, .inl fe)), (gl, .inl (cI, 6, .inl fl)), (bc, .inl (cI, 6, .inl cm)), (bs, .inl (cI, 20, .inl fk)), (w, .inr (4, [.ref sg, .int (nI nl)])), (sg, .inl (cI, 20, .inl fs))] H := hP
        have hD : va_D A [(rg, .inr (6, [.ref b, .ref rl, .ref rf, .int (nI a), .int le, .int lst])), (rf, .inl (cI, 24, .inl (visA (filI fw (-1) 24) (hsq (nxF fs nl n fe fl (nI 0)) h0) k))), (b, .inr (0, [.ref g, .ref bt, .ref bc, .ref bs, .int hg])), (g, .inr (3, [.ref ge, .ref gl, .ref gb, .ref gw, .ref gsw, .ref gsh, .int (nI ns), .int (nI n), .int fi])), (ge, .inl (cI, 6, .inl fe)), (gl, .inl (cI, 6, .inl fl)), (bc, .inl (cI, 6, .inl cm)), (bs, .inl (cI, 20, .inl fk)), (w, .inr (4, [.ref sg, .int (nI nl)])), (sg, .inl (cI, 20, .inl fs))] := hD
        refine lv_aload_n hx hb dX6_follow_74 rfl (lv_at hl 0 rfl) ?_
        refine lv_iload hx hb dX6_follow_75 (lv_at hl 4 rfl) ?_
        refine lv_aload_n hx hb dX6_follow_77 rfl (lv_at hl 0 rfl) ?_
        refine va_get (D := D) (ci := 6) (v := .int (nI a)) (C := RX6) (T := TX6) (N := 6) hx hb hts hi6 hown hK hP 0 rfl rfl 3 (by decide) hw2 (fun _ h9 => h9) rfl dX6_follow_78 ?_
        refine isub_n (a := k) (b := a) hx hb dX6_follow_81 (by omega) ?_
        refine va_put (D := D) (ci := 6) (v := .int (nI (k - a))) (ty := .int) (C := RX6) (T := TX6) (N := 6) hx hb hts hi6 tyX6 tyX6_ok nmX6 hown hK hP hD hS 0 rfl rfl 4 (by decide) hw3 (fun _ h9 => h9) rfl (by decide +kernel) rfl rfl (Nat.le_of_ble_eq_true rfl) dX6_follow_82 (fun H locs hP hD hS => ?_)
        have hP : va_P D vwCl [(rg, .inr (6, [.ref b, .ref rl, .ref rf, .int (nI a), .int (nI (k - a)), .int lst])), (rf, .inl (cI, 24, .inl (visA (filI fw (-1) 24) (hsq (nxF fs nl n fe fl (nI 0)) h0) k))), (b, .inr (0, [.ref g, .ref bt, .ref bc, .ref bs, .int hg])), (g, .inr (3, [.ref ge, .ref gl, .ref gb, .ref gw, .ref gsw, .ref gsh, .int (nI ns), .int (nI n), .int fi])), (ge, .inl (cI, 6, .inl fe)), (gl, .inl (cI, 6, .inl fl)), (bc, .inl (cI, 6, .inl cm)), (bs, .inl (cI, 20, .inl fk)), (w, .inr (4, [.ref sg, .int (nI nl)])), (sg, .inl (cI, 20, .inl fs))] H := hP
        have hD : va_D A [(rg, .inr (6, [.ref b, .ref rl, .ref rf, .int (nI a), .int (nI (k - a)), .int lst])), (rf, .inl (cI, 24, .inl (visA (filI fw (-1) 24) (hsq (nxF fs nl n fe fl (nI 0)) h0) k))), (b, .inr (0, [.ref g, .ref bt, .ref bc, .ref bs, .int hg])), (g, .inr (3, [.ref ge, .ref gl, .ref gb, .ref gw, .ref gsw, .ref gsh, .int (nI ns), .int (nI n), .int fi])), (ge, .inl (cI, 6, .inl fe)), (gl, .inl (cI, 6, .inl fl)), (bc, .inl (cI, 6, .inl cm)), (bs, .inl (cI, 20, .inl fk)), (w, .inr (4, [.ref sg, .int (nI nl)])), (sg, .inl (cI, 20, .inl fs))] := hD
        refine lv_aload_n hx hb dX6_follow_85 rfl (lv_at hl 0 rfl) ?_
        refine lv_iload_n hx hb dX6_follow_86 rfl (lv_at hl 3 rfl) ?_
        refine va_put (D := D) (ci := 6) (v := .int (nI (hsq (nxF fs nl n fe fl (nI 0)) h0 k))) (ty := .int) (C := RX6) (T := TX6) (N := 6) hx hb hts hi6 tyX6 tyX6_ok nmX6 hown hK hP hD hS 0 rfl rfl 5 (by decide) hw4 (fun _ h9 => h9) rfl (by decide +kernel) rfl rfl (Nat.le_of_ble_eq_true rfl) dX6_follow_87 (fun H locs hP hD hS => ?_)
        have hP : va_P D vwCl [(rg, .inr (6, [.ref b, .ref rl, .ref rf, .int (nI a), .int (nI (k - a)), .int (nI (hsq (nxF fs nl n fe fl (nI 0)) h0 k))])), (rf, .inl (cI, 24, .inl (visA (filI fw (-1) 24) (hsq (nxF fs nl n fe fl (nI 0)) h0) k))), (b, .inr (0, [.ref g, .ref bt, .ref bc, .ref bs, .int hg])), (g, .inr (3, [.ref ge, .ref gl, .ref gb, .ref gw, .ref gsw, .ref gsh, .int (nI ns), .int (nI n), .int fi])), (ge, .inl (cI, 6, .inl fe)), (gl, .inl (cI, 6, .inl fl)), (bc, .inl (cI, 6, .inl cm)), (bs, .inl (cI, 20, .inl fk)), (w, .inr (4, [.ref sg, .int (nI nl)])), (sg, .inl (cI, 20, .inl fs))] H := hP
        have hD : va_D A [(rg, .inr (6, [.ref b, .ref rl, .ref rf, .int (nI a), .int (nI (k - a)), .int (nI (hsq (nxF fs nl n fe fl (nI 0)) h0 k))])), (rf, .inl (cI, 24, .inl (visA (filI fw (-1) 24) (hsq (nxF fs nl n fe fl (nI 0)) h0) k))), (b, .inr (0, [.ref g, .ref bt, .ref bc, .ref bs, .int hg])), (g, .inr (3, [.ref ge, .ref gl, .ref gb, .ref gw, .ref gsw, .ref gsh, .int (nI ns), .int (nI n), .int fi])), (ge, .inl (cI, 6, .inl fe)), (gl, .inl (cI, 6, .inl fl)), (bc, .inl (cI, 6, .inl cm)), (bs, .inl (cI, 20, .inl fk)), (w, .inr (4, [.ref sg, .int (nI nl)])), (sg, .inl (cI, 20, .inl fs))] := hD
        refine lv_iconst (v := nI 0) hx hb dX6_follow_90 (by decide) ?_
        refine lv_istore (lv' := [(5, .int (nI 0)), (0, .ref rg), (1, .ref w), (2, .int (nI h0)), (3, .int (nI (hsq (nxF fs nl n fe fl (nI 0)) h0 k))), (4, .int (nI k))]) hx hb dX6_follow_91 hl (by decide) rfl (fun ls hl => ?_)
        have L93 : ∀ (n9 : Nat) (i m9 : Nat) (hi9 : i ≤ 24) (hin9 : ∃ k9, a ≤ k9 ∧ k9 < k ∧ (hsq (nxF fs nl n fe fl (nI 0)) h0) k9 = m9) (hno : ∀ j, j < i → j < m9 → ∀ k9, a ≤ k9 → k9 < k → (hsq (nxF fs nl n fe fl (nI 0)) h0) k9 ≠ j) (hm23 : m9 ≤ 23), 24 - i < n9 → ∀ (H : Heap) (locs : List Loc), va_P D vwCl [(rg, .inr (6, [.ref b, .ref rl, .ref rf, .int (nI a), .int (nI (k - a)), .int (nI m9)])), (rf, .inl (cI, 24, .inl (visA (filI fw (-1) 24) (hsq (nxF fs nl n fe fl (nI 0)) h0) k))), (b, .inr (0, [.ref g, .ref bt, .ref bc, .ref bs, .int hg])), (g, .inr (3, [.ref ge, .ref gl, .ref gb, .ref gw, .ref gsw, .ref gsh, .int (nI ns), .int (nI n), .int fi])), (ge, .inl (cI, 6, .inl fe)), (gl, .inl (cI, 6, .inl fl)), (bc, .inl (cI, 6, .inl cm)), (bs, .inl (cI, 20, .inl fk)), (w, .inr (4, [.ref sg, .int (nI nl)])), (sg, .inl (cI, 20, .inl fs))] H → va_D A [(rg, .inr (6, [.ref b, .ref rl, .ref rf, .int (nI a), .int (nI (k - a)), .int (nI m9)])), (rf, .inl (cI, 24, .inl (visA (filI fw (-1) 24) (hsq (nxF fs nl n fe fl (nI 0)) h0) k))), (b, .inr (0, [.ref g, .ref bt, .ref bc, .ref bs, .int hg])), (g, .inr (3, [.ref ge, .ref gl, .ref gb, .ref gw, .ref gsw, .ref gsh, .int (nI ns), .int (nI n), .int fi])), (ge, .inl (cI, 6, .inl fe)), (gl, .inl (cI, 6, .inl fl)), (bc, .inl (cI, 6, .inl cm)), (bs, .inl (cI, 20, .inl fk)), (w, .inr (4, [.ref sg, .int (nI nl)])), (sg, .inl (cI, 20, .inl fs))] → va_S A s.heap H locs → ∀ (ls : Array Slot), lv_has ls 6 [(0, .ref rg), (5, .int (nI i))] → W p l e rm_X6_follow s m args below meth c H locs 0 0 Q (F0 m 93 ls []) := by
          intro n9
          induction n9 with
          | zero => intro i m9 hi9 hin9 hno hm23 hm; exact absurd hm (Nat.not_lt_zero _)
          | succ n9 ih93 =>
            intro i m9 hi9 hin9 hno hm23 hm93 H locs hP hD hS ls hl
            refine lv_iload hx hb dX6_follow_93 (lv_at hl 1 rfl) ?_
            refine lv_aload_n hx hb dX6_follow_95 rfl (lv_at hl 0 rfl) ?_
            refine va_get (D := D) (ci := 6) (v := .int (nI m9)) (C := RX6) (T := TX6) (N := 6) hx hb hts hi6 hown hK hP 0 rfl rfl 5 (by decide) hw4 (fun _ h9 => h9) rfl dX6_follow_96 ?_
            refine icmp_ge_n (a := i) (b := m9) (tgt := 128) hx hb dX6_follow_99 (by decide) (by omega) (by omega) (fun c99 => ?_) (fun c99 => ?_)
            · exact hret ((visA (filI fw (-1) 24) (hsq (nxF fs nl n fe fl (nI 0)) h0) k, cm, fk, hg, nI a, nI (k - a), nI m9)) _ _ _ _ dX6_follow_128 ⟨k, a, m9, ⟨⟨ha, hxa, hi⟩, hin9, fun k9 y1 y2 => by rcases Nat.lt_or_ge ((hsq (nxF fs nl n fe fl (nI 0)) h0) k9) m9 with q | q; (exact absurd rfl (hno ((hsq (nxF fs nl n fe fl (nI 0)) h0) k9) (by omega) q k9 y1 y2)); (exact q)⟩, rfl, rfl, rfl⟩ hP hD hS
            · refine lv_aload_n hx hb dX6_follow_102 rfl (lv_at hl 0 rfl) ?_
              refine va_get (D := D) (ci := 6) (v := .ref rf) (C := RX6) (T := TX6) (N := 6) hx hb hts hi6 hown hK hP 0 rfl rfl 2 (by decide) hw0 (fun _ h9 => h9) rfl dX6_follow_103 ?_
              refine lv_iload hx hb dX6_follow_106 (lv_at hl 1 rfl) ?_
              refine iald_n (k := i) hx hb hK hP 1 0 rfl rfl (by omega) (by omega) dX6_follow_108 ?_
              rcases vis_cases (filI fw (-1) 24) (hsq (nxF fs nl n fe fl (nI 0)) h0) k i hi with ⟨b9, z1, z2, z3⟩ | ⟨z1, z2⟩
              · refine lv_topi (fun y9 e9 => ?_)
                have e9 : nI b9 = y9 := (e9.trans (z3)).symm
                subst e9
                refine lv_aload_n hx hb dX6_follow_109 rfl (lv_at hl 0 rfl) ?_
                refine va_get (D := D) (ci := 6) (v := .int (nI a)) (C := RX6) (T := TX6) (N := 6) hx hb hts hi6 hown hK hP 0 rfl rfl 3 (by decide) hw2 (fun _ h9 => h9) rfl dX6_follow_110 ?_
                refine icmp_lt_n (a := b9) (b := a) (tgt := 122) hx hb dX6_follow_113 (by decide) (by omega) (by omega) (fun c113 => ?_) (fun c113 => ?_)
                · refine lv_iinc (v := nI (i + 1)) (lv' := [(5, .int (nI (i + 1))), (0, .ref rg)]) hx hb dX6_follow_122 hl (k := 1) rfl (nI_1 i) (by decide) rfl (fun ls hl => ?_)
                  refine lv_goto (tgt := 93) hx hb dX6_follow_125 (by decide) ?_
                  exact ih93 (i + 1) m9 ((by omega)) hin9 ((fun j hj hj2 => by rcases Nat.lt_or_ge j i with q | q; (exact hno j q hj2); (rw [show j = i by omega]; exact (fun k9 y1 y2 y3 => by have e9 : b9 = k9 := by { rcases Nat.lt_trichotomy b9 k9 with q | q | q; exact absurd (z2.trans y3.symm) (hi b9 k9 q y2); exact q; exact absurd (y3.trans z2.symm) (hi k9 b9 q z1) }; omega)))) hm23 (by omega) _ _ hP hD hS _ (lv_sub hl [1, 0] rfl)
                · refine lv_aload_n hx hb dX6_follow_116 rfl (lv_at hl 0 rfl) ?_
                  refine lv_iload hx hb dX6_follow_117 (lv_at hl 1 rfl) ?_
                  refine va_put (D := D) (ci := 6) (v := .int (nI i)) (ty := .int) (C := RX6) (T := TX6) (N := 6) hx hb hts hi6 tyX6 tyX6_ok nmX6 hown hK hP hD hS 0 rfl rfl 5 (by decide) hw4 (fun _ h9 => h9) rfl (by decide +kernel) rfl rfl (Nat.le_of_ble_eq_true rfl) dX6_follow_119 (fun H locs hP hD hS => ?_)
                  have hP : va_P D vwCl [(rg, .inr (6, [.ref b, .ref rl, .ref rf, .int (nI a), .int (nI (k - a)), .int (nI i)])), (rf, .inl (cI, 24, .inl (visA (filI fw (-1) 24) (hsq (nxF fs nl n fe fl (nI 0)) h0) k))), (b, .inr (0, [.ref g, .ref bt, .ref bc, .ref bs, .int hg])), (g, .inr (3, [.ref ge, .ref gl, .ref gb, .ref gw, .ref gsw, .ref gsh, .int (nI ns), .int (nI n), .int fi])), (ge, .inl (cI, 6, .inl fe)), (gl, .inl (cI, 6, .inl fl)), (bc, .inl (cI, 6, .inl cm)), (bs, .inl (cI, 20, .inl fk)), (w, .inr (4, [.ref sg, .int (nI nl)])), (sg, .inl (cI, 20, .inl fs))] H := hP
                  have hD : va_D A [(rg, .inr (6, [.ref b, .ref rl, .ref rf, .int (nI a), .int (nI (k - a)), .int (nI i)])), (rf, .inl (cI, 24, .inl (visA (filI fw (-1) 24) (hsq (nxF fs nl n fe fl (nI 0)) h0) k))), (b, .inr (0, [.ref g, .ref bt, .ref bc, .ref bs, .int hg])), (g, .inr (3, [.ref ge, .ref gl, .ref gb, .ref gw, .ref gsw, .ref gsh, .int (nI ns), .int (nI n), .int fi])), (ge, .inl (cI, 6, .inl fe)), (gl, .inl (cI, 6, .inl fl)), (bc, .inl (cI, 6, .inl cm)), (bs, .inl (cI, 20, .inl fk)), (w, .inr (4, [.ref sg, .int (nI nl)])), (sg, .inl (cI, 20, .inl fs))] := hD
                  refine lv_iinc (v := nI (i + 1)) (lv' := [(5, .int (nI (i + 1))), (0, .ref rg)]) hx hb dX6_follow_122 hl (k := 1) rfl (nI_1 i) (by decide) rfl (fun ls hl => ?_)
                  refine lv_goto (tgt := 93) hx hb dX6_follow_125 (by decide) ?_
                  exact ih93 (i + 1) i ((by omega)) (⟨b9, by omega, z1, z2⟩) ((fun j hj hj2 => hno j (by omega) (by omega))) ((by omega)) (by omega) _ _ hP hD hS _ (lv_sub hl [1, 0] rfl)
              · refine lv_topi (fun y9 e9 => ?_)
                have e9 : (-1) = y9 := (e9.trans (z2.trans (filI_in _ _ 24 i (by omega)))).symm
                subst e9
                refine lv_aload_n hx hb dX6_follow_109 rfl (lv_at hl 0 rfl) ?_
                refine va_get (D := D) (ci := 6) (v := .int (nI a)) (C := RX6) (T := TX6) (N := 6) hx hb hts hi6 hown hK hP 0 rfl rfl 3 (by decide) hw2 (fun _ h9 => h9) rfl dX6_follow_110 ?_
                refine lv_icmp_lt (tgt := 122) hx hb dX6_follow_113 (by decide) (fun c113 => ?_) (fun c113 => ?_)
                · refine lv_iinc (v := nI (i + 1)) (lv' := [(5, .int (nI (i + 1))), (0, .ref rg)]) hx hb dX6_follow_122 hl (k := 1) rfl (nI_1 i) (by decide) rfl (fun ls hl => ?_)
                  refine lv_goto (tgt := 93) hx hb dX6_follow_125 (by decide) ?_
                  exact ih93 (i + 1) m9 ((by omega)) hin9 ((fun j hj hj2 => by rcases Nat.lt_or_ge j i with q | q; (exact hno j q hj2); (rw [show j = i by omega]; exact (fun k9 y1 y2 y3 => z1 k9 y2 y3)))) hm23 (by omega) _ _ hP hD hS _ (lv_sub hl [1, 0] rfl)
                · exact absurd (show (-1 : Int32) < nI a from neg_lt a (by omega)) c113
        exact L93 _ 0 (hsq (nxF fs nl n fe fl (nI 0)) h0 k) ((by omega)) (⟨a, Nat.le_refl a, ha, hxa⟩) ((fun j hj => absurd hj (Nat.not_lt_zero j))) ((by omega)) (Nat.lt_succ_self _) _ _ hP hD hS _ (lv_sub hl [1, 0] rfl)
      · have hx9 := hsq_le (F := (nxF fs nl n fe fl (nI 0))) (FR_F _ _ _ _ _ _) hh k
        refine lv_aload_n hx hb dX6_follow_20 rfl (lv_at hl 0 rfl) ?_
        refine va_get (D := D) (ci := 6) (v := .ref rf) (C := RX6) (T := TX6) (N := 6) hx hb hts hi6 hown hK hP 0 rfl rfl 2 (by decide) hw0 (fun _ h9 => h9) rfl dX6_follow_21 ?_
        refine lv_iload_n hx hb dX6_follow_24 rfl (lv_at hl 3 rfl) ?_
        refine iald_n (k := hsq (nxF fs nl n fe fl (nI 0)) h0 k) hx hb hK hP 1 0 rfl rfl (by omega) (by omega) dX6_follow_25 ?_
        refine lv_if_ge (tgt := 64) hx hb dX6_follow_26 (by decide) (fun c26 => ?_) (fun c26 => ?_)
        · have hx9 := hsq_le (F := (nxF fs nl n fe fl (nI 0))) (FR_F _ _ _ _ _ _) hh k
          obtain ⟨a, ha, hxa⟩ : ∃ a, a < k ∧ (hsq (nxF fs nl n fe fl (nI 0)) h0) a = (hsq (nxF fs nl n fe fl (nI 0)) h0) k := by
            rcases vis_cases (filI fw (-1) 24) (hsq (nxF fs nl n fe fl (nI 0)) h0) k ((hsq (nxF fs nl n fe fl (nI 0)) h0) k) hi with ⟨a, z1, z2, -⟩ | ⟨z1, z2⟩
            · exact ⟨a, z1, z2⟩
            · rw [z2, filI_in _ _ 24 _ (by omega)] at c26; exact absurd c26 (by decide)
          have hva : visA (filI fw (-1) 24) (hsq (nxF fs nl n fe fl (nI 0)) h0) k ((hsq (nxF fs nl n fe fl (nI 0)) h0) k) = nI a := by
            rcases vis_cases (filI fw (-1) 24) (hsq (nxF fs nl n fe fl (nI 0)) h0) k ((hsq (nxF fs nl n fe fl (nI 0)) h0) k) hi with ⟨b9, z1, z2, z3⟩ | ⟨z1, z2⟩
            · rw [z3]; rcases Nat.lt_trichotomy a b9 with q | q | q
              · exact absurd (hxa.trans z2.symm) (hi a b9 q z1)
              · rw [q]
              · exact absurd (z2.trans hxa.symm) (hi b9 a q ha)
            · exact absurd hxa (z1 a ha)
          refine lv_aload_n hx hb dX6_follow_64 rfl (lv_at hl 0 rfl) ?_
          refine lv_aload_n hx hb dX6_follow_65 rfl (lv_at hl 0 rfl) ?_
          refine va_get (D := D) (ci := 6) (v := .ref rf) (C := RX6) (T := TX6) (N := 6) hx hb hts hi6 hown hK hP 0 rfl rfl 2 (by decide) hw0 (fun _ h9 => h9) rfl dX6_follow_66 ?_
          refine lv_iload_n hx hb dX6_follow_69 rfl (lv_at hl 3 rfl) ?_
          refine iald_n (k := hsq (nxF fs nl n fe fl (nI 0)) h0 k) hx hb hK hP 1 0 rfl rfl (by omega) (by omega) dX6_follow_70 ?_
          refine lv_topi (fun y9 e9 => ?_)
          have e9 : nI a = y9 := (e9.trans (hva)).symm
          subst e9
          refine va_put (D := D) (ci := 6) (v := .int (nI a)) (ty := .int) (C := RX6) (T := TX6) (N := 6) hx hb hts hi6 tyX6 tyX6_ok nmX6 hown hK hP hD hS 0 rfl rfl 3 (by decide) hw2 (fun _ h9 => h9) rfl (by decide +kernel) rfl rfl (Nat.le_of_ble_eq_true rfl) dX6_follow_71 (fun H locs hP hD hS => ?_)
          have hP : va_P D vwCl [(rg, .inr (6, [.ref b, .ref rl, .ref rf, .int (nI a), .int le, .int lst])), (rf, .inl (cI, 24, .inl (visA (filI fw (-1) 24) (hsq (nxF fs nl n fe fl (nI 0)) h0) k))), (b, .inr (0, [.ref g, .ref bt, .ref bc, .ref bs, .int hg])), (g, .inr (3, [.ref ge, .ref gl, .ref gb, .ref gw, .ref gsw, .ref gsh, .int (nI ns), .int (nI n), .int fi])), (ge, .inl (cI, 6, .inl fe)), (gl, .inl (cI, 6, .inl fl)), (bc, .inl (cI, 6, .inl cm)), (bs, .inl (cI, 20, .inl fk)), (w, .inr (4, [.ref sg, .int (nI nl)])), (sg, .inl (cI, 20, .inl fs))] H := hP
          have hD : va_D A [(rg, .inr (6, [.ref b, .ref rl, .ref rf, .int (nI a), .int le, .int lst])), (rf, .inl (cI, 24, .inl (visA (filI fw (-1) 24) (hsq (nxF fs nl n fe fl (nI 0)) h0) k))), (b, .inr (0, [.ref g, .ref bt, .ref bc, .ref bs, .int hg])), (g, .inr (3, [.ref ge, .ref gl, .ref gb, .ref gw, .ref gsw, .ref gsh, .int (nI ns), .int (nI n), .int fi])), (ge, .inl (cI, 6, .inl fe)), (gl, .inl (cI, 6, .inl fl)), (bc, .inl (cI, 6, .inl cm)), (bs, .inl (cI, 20, .inl fk)), (w, .inr (4, [.ref sg, .int (nI nl)])), (sg, .inl (cI, 20, .inl fs))] := hD
          refine lv_aload_n hx hb dX6_follow_74 rfl (lv_at hl 0 rfl) ?_
          refine lv_iload hx hb dX6_follow_75 (lv_at hl 4 rfl) ?_
          refine lv_aload_n hx hb dX6_follow_77 rfl (lv_at hl 0 rfl) ?_
          refine va_get (D := D) (ci := 6) (v := .int (nI a)) (C := RX6) (T := TX6) (N := 6) hx hb hts hi6 hown hK hP 0 rfl rfl 3 (by decide) hw2 (fun _ h9 => h9) rfl dX6_follow_78 ?_
          refine isub_n (a := k) (b := a) hx hb dX6_follow_81 (by omega) ?_
          refine va_put (D := D) (ci := 6) (v := .int (nI (k - a))) (ty := .int) (C := RX6) (T := TX6) (N := 6) hx hb hts hi6 tyX6 tyX6_ok nmX6 hown hK hP hD hS 0 rfl rfl 4 (by decide) hw3 (fun _ h9 => h9) rfl (by decide +kernel) rfl rfl (Nat.le_of_ble_eq_true rfl) dX6_follow_82 (fun H locs hP hD hS => ?_)
          have hP : va_P D vwCl [(rg, .inr (6, [.ref b, .ref rl, .ref rf, .int (nI a), .int (nI (k - a)), .int lst])), (rf, .inl (cI, 24, .inl (visA (filI fw (-1) 24) (hsq (nxF fs nl n fe fl (nI 0)) h0) k))), (b, .inr (0, [.ref g, .ref bt, .ref bc, .ref bs, .int hg])), (g, .inr (3, [.ref ge, .ref gl, .ref gb, .ref gw, .ref gsw, .ref gsh, .int (nI ns), .int (nI n), .int fi])), (ge, .inl (cI, 6, .inl fe)), (gl, .inl (cI, 6, .inl fl)), (bc, .inl (cI, 6, .inl cm)), (bs, .inl (cI, 20, .inl fk)), (w, .inr (4, [.ref sg, .int (nI nl)])), (sg, .inl (cI, 20, .inl fs))] H := hP
          have hD : va_D A [(rg, .inr (6, [.ref b, .ref rl, .ref rf, .int (nI a), .int (nI (k - a)), .int lst])), (rf, .inl (cI, 24, .inl (visA (filI fw (-1) 24) (hsq (nxF fs nl n fe fl (nI 0)) h0) k))), (b, .inr (0, [.ref g, .ref bt, .ref bc, .ref bs, .int hg])), (g, .inr (3, [.ref ge, .ref gl, .ref gb, .ref gw, .ref gsw, .ref gsh, .int (nI ns), .int (nI n), .int fi])), (ge, .inl (cI, 6, .inl fe)), (gl, .inl (cI, 6, .inl fl)), (bc, .inl (cI, 6, .inl cm)), (bs, .inl (cI, 20, .inl fk)), (w, .inr (4, [.ref sg, .int (nI nl)])), (sg, .inl (cI, 20, .inl fs))] := hD
          refine lv_aload_n hx hb dX6_follow_85 rfl (lv_at hl 0 rfl) ?_
          refine lv_iload_n hx hb dX6_follow_86 rfl (lv_at hl 3 rfl) ?_
          refine va_put (D := D) (ci := 6) (v := .int (nI (hsq (nxF fs nl n fe fl (nI 0)) h0 k))) (ty := .int) (C := RX6) (T := TX6) (N := 6) hx hb hts hi6 tyX6 tyX6_ok nmX6 hown hK hP hD hS 0 rfl rfl 5 (by decide) hw4 (fun _ h9 => h9) rfl (by decide +kernel) rfl rfl (Nat.le_of_ble_eq_true rfl) dX6_follow_87 (fun H locs hP hD hS => ?_)
          have hP : va_P D vwCl [(rg, .inr (6, [.ref b, .ref rl, .ref rf, .int (nI a), .int (nI (k - a)), .int (nI (hsq (nxF fs nl n fe fl (nI 0)) h0 k))])), (rf, .inl (cI, 24, .inl (visA (filI fw (-1) 24) (hsq (nxF fs nl n fe fl (nI 0)) h0) k))), (b, .inr (0, [.ref g, .ref bt, .ref bc, .ref bs, .int hg])), (g, .inr (3, [.ref ge, .ref gl, .ref gb, .ref gw, .ref gsw, .ref gsh, .int (nI ns), .int (nI n), .int fi])), (ge, .inl (cI, 6, .inl fe)), (gl, .inl (cI, 6, .inl fl)), (bc, .inl (cI, 6, .inl cm)), (bs, .inl (cI, 20, .inl fk)), (w, .inr (4, [.ref sg, .int (nI nl)])), (sg, .inl (cI, 20, .inl fs))] H := hP
          have hD : va_D A [(rg, .inr (6, [.ref b, .ref rl, .ref rf, .int (nI a), .int (nI (k - a)), .int (nI (hsq (nxF fs nl n fe fl (nI 0)) h0 k))])), (rf, .inl (cI, 24, .inl (visA (filI fw (-1) 24) (hsq (nxF fs nl n fe fl (nI 0)) h0) k))), (b, .inr (0, [.ref g, .ref bt, .ref bc, .ref bs, .int hg])), (g, .inr (3, [.ref ge, .ref gl, .ref gb, .ref gw, .ref gsw, .ref gsh, .int (nI ns), .int (nI n), .int fi])), (ge, .inl (cI, 6, .inl fe)), (gl, .inl (cI, 6, .inl fl)), (bc, .inl (cI, 6, .inl cm)), (bs, .inl (cI, 20, .inl fk)), (w, .inr (4, [.ref sg, .int (nI nl)])), (sg, .inl (cI, 20, .inl fs))] := hD
          refine lv_iconst (v := nI 0) hx hb dX6_follow_90 (by decide) ?_
          refine lv_istore (lv' := [(5, .int (nI 0)), (0, .ref rg), (1, .ref w), (2, .int (nI h0)), (3, .int (nI (hsq (nxF fs nl n fe fl (nI 0)) h0 k))), (4, .int (nI k))]) hx hb dX6_follow_91 hl (by decide) rfl (fun ls hl => ?_)
          have L93 : ∀ (n9 : Nat) (i m9 : Nat) (hi9 : i ≤ 24) (hin9 : ∃ k9, a ≤ k9 ∧ k9 < k ∧ (hsq (nxF fs nl n fe fl (nI 0)) h0) k9 = m9) (hno : ∀ j, j < i → j < m9 → ∀ k9, a ≤ k9 → k9 < k → (hsq (nxF fs nl n fe fl (nI 0)) h0) k9 ≠ j) (hm23 : m9 ≤ 23), 24 - i < n9 → ∀ (H : Heap) (locs : List Loc), va_P D vwCl [(rg, .inr (6, [.ref b, .ref rl, .ref rf, .int (nI a), .int (nI (k - a)), .int (nI m9)])), (rf, .inl (cI, 24, .inl (visA (filI fw (-1) 24) (hsq (nxF fs nl n fe fl (nI 0)) h0) k))), (b, .inr (0, [.ref g, .ref bt, .ref bc, .ref bs, .int hg])), (g, .inr (3, [.ref ge, .ref gl, .ref gb, .ref gw, .ref gsw, .ref gsh, .int (nI ns), .int (nI n), .int fi])), (ge, .inl (cI, 6, .inl fe)), (gl, .inl (cI, 6, .inl fl)), (bc, .inl (cI, 6, .inl cm)), (bs, .inl (cI, 20, .inl fk)), (w, .inr (4, [.ref sg, .int (nI nl)])), (sg, .inl (cI, 20, .inl fs))] H → va_D A [(rg, .inr (6, [.ref b, .ref rl, .ref rf, .int (nI a), .int (nI (k - a)), .int (nI m9)])), (rf, .inl (cI, 24, .inl (visA (filI fw (-1) 24) (hsq (nxF fs nl n fe fl (nI 0)) h0) k))), (b, .inr (0, [.ref g, .ref bt, .ref bc, .ref bs, .int hg])), (g, .inr (3, [.ref ge, .ref gl, .ref gb, .ref gw, .ref gsw, .ref gsh, .int (nI ns), .int (nI n), .int fi])), (ge, .inl (cI, 6, .inl fe)), (gl, .inl (cI, 6, .inl fl)), (bc, .inl (cI, 6, .inl cm)), (bs, .inl (cI, 20, .inl fk)), (w, .inr (4, [.ref sg, .int (nI nl)])), (sg, .inl (cI, 20, .inl fs))] → va_S A s.heap H locs → ∀ (ls : Array Slot), lv_has ls 6 [(0, .ref rg), (5, .int (nI i))] → W p l e rm_X6_follow s m args below meth c H locs 0 0 Q (F0 m 93 ls []) := by
            intro n9
            induction n9 with
            | zero => intro i m9 hi9 hin9 hno hm23 hm; exact absurd hm (Nat.not_lt_zero _)
            | succ n9 ih93 =>
              intro i m9 hi9 hin9 hno hm23 hm93 H locs hP hD hS ls hl
              refine lv_iload hx hb dX6_follow_93 (lv_at hl 1 rfl) ?_
              refine lv_aload_n hx hb dX6_follow_95 rfl (lv_at hl 0 rfl) ?_
              refine va_get (D := D) (ci := 6) (v := .int (nI m9)) (C := RX6) (T := TX6) (N := 6) hx hb hts hi6 hown hK hP 0 rfl rfl 5 (by decide) hw4 (fun _ h9 => h9) rfl dX6_follow_96 ?_
              refine icmp_ge_n (a := i) (b := m9) (tgt := 128) hx hb dX6_follow_99 (by decide) (by omega) (by omega) (fun c99 => ?_) (fun c99 => ?_)
              · exact hret ((visA (filI fw (-1) 24) (hsq (nxF fs nl n fe fl (nI 0)) h0) k, cm, fk, hg, nI a, nI (k - a), nI m9)) _ _ _ _ dX6_follow_128 ⟨k, a, m9, ⟨⟨ha, hxa, hi⟩, hin9, fun k9 y1 y2 => by rcases Nat.lt_or_ge ((hsq (nxF fs nl n fe fl (nI 0)) h0) k9) m9 with q | q; (exact absurd rfl (hno ((hsq (nxF fs nl n fe fl (nI 0)) h0) k9) (by omega) q k9 y1 y2)); (exact q)⟩, rfl, rfl, rfl⟩ hP hD hS
              · refine lv_aload_n hx hb dX6_follow_102 rfl (lv_at hl 0 rfl) ?_
                refine va_get (D := D) (ci := 6) (v := .ref rf) (C := RX6) (T := TX6) (N := 6) hx hb hts hi6 hown hK hP 0 rfl rfl 2 (by decide) hw0 (fun _ h9 => h9) rfl dX6_follow_103 ?_
                refine lv_iload hx hb dX6_follow_106 (lv_at hl 1 rfl) ?_
                refine iald_n (k := i) hx hb hK hP 1 0 rfl rfl (by omega) (by omega) dX6_follow_108 ?_
                rcases vis_cases (filI fw (-1) 24) (hsq (nxF fs nl n fe fl (nI 0)) h0) k i hi with ⟨b9, z1, z2, z3⟩ | ⟨z1, z2⟩
                · refine lv_topi (fun y9 e9 => ?_)
                  have e9 : nI b9 = y9 := (e9.trans (z3)).symm
                  subst e9
                  refine lv_aload_n hx hb dX6_follow_109 rfl (lv_at hl 0 rfl) ?_
                  refine va_get (D := D) (ci := 6) (v := .int (nI a)) (C := RX6) (T := TX6) (N := 6) hx hb hts hi6 hown hK hP 0 rfl rfl 3 (by decide) hw2 (fun _ h9 => h9) rfl dX6_follow_110 ?_
                  refine icmp_lt_n (a := b9) (b := a) (tgt := 122) hx hb dX6_follow_113 (by decide) (by omega) (by omega) (fun c113 => ?_) (fun c113 => ?_)
                  · refine lv_iinc (v := nI (i + 1)) (lv' := [(5, .int (nI (i + 1))), (0, .ref rg)]) hx hb dX6_follow_122 hl (k := 1) rfl (nI_1 i) (by decide) rfl (fun ls hl => ?_)
                    refine lv_goto (tgt := 93) hx hb dX6_follow_125 (by decide) ?_
                    exact ih93 (i + 1) m9 ((by omega)) hin9 ((fun j hj hj2 => by rcases Nat.lt_or_ge j i with q | q; (exact hno j q hj2); (rw [show j = i by omega]; exact (fun k9 y1 y2 y3 => by have e9 : b9 = k9 := by { rcases Nat.lt_trichotomy b9 k9 with q | q | q; exact absurd (z2.trans y3.symm) (hi b9 k9 q y2); exact q; exact absurd (y3.trans z2.symm) (hi k9 b9 q z1) }; omega)))) hm23 (by omega) _ _ hP hD hS _ (lv_sub hl [1, 0] rfl)
                  · refine lv_aload_n hx hb dX6_follow_116 rfl (lv_at hl 0 rfl) ?_
                    refine lv_iload hx hb dX6_follow_117 (lv_at hl 1 rfl) ?_
                    refine va_put (D := D) (ci := 6) (v := .int (nI i)) (ty := .int) (C := RX6) (T := TX6) (N := 6) hx hb hts hi6 tyX6 tyX6_ok nmX6 hown hK hP hD hS 0 rfl rfl 5 (by decide) hw4 (fun _ h9 => h9) rfl (by decide +kernel) rfl rfl (Nat.le_of_ble_eq_true rfl) dX6_follow_119 (fun H locs hP hD hS => ?_)
                    have hP : va_P D vwCl [(rg, .inr (6, [.ref b, .ref rl, .ref rf, .int (nI a), .int (nI (k - a)), .int (nI i)])), (rf, .inl (cI, 24, .inl (visA (filI fw (-1) 24) (hsq (nxF fs nl n fe fl (nI 0)) h0) k))), (b, .inr (0, [.ref g, .ref bt, .ref bc, .ref bs, .int hg])), (g, .inr (3, [.ref ge, .ref gl, .ref gb, .ref gw, .ref gsw, .ref gsh, .int (nI ns), .int (nI n), .int fi])), (ge, .inl (cI, 6, .inl fe)), (gl, .inl (cI, 6, .inl fl)), (bc, .inl (cI, 6, .inl cm)), (bs, .inl (cI, 20, .inl fk)), (w, .inr (4, [.ref sg, .int (nI nl)])), (sg, .inl (cI, 20, .inl fs))] H := hP
                    have hD : va_D A [(rg, .inr (6, [.ref b, .ref rl, .ref rf, .int (nI a), .int (nI (k - a)), .int (nI i)])), (rf, .inl (cI, 24, .inl (visA (filI fw (-1) 24) (hsq (nxF fs nl n fe fl (nI 0)) h0) k))), (b, .inr (0, [.ref g, .ref bt, .ref bc, .ref bs, .int hg])), (g, .inr (3, [.ref ge, .ref gl, .ref gb, .ref gw, .ref gsw, .ref gsh, .int (nI ns), .int (nI n), .int fi])), (ge, .inl (cI, 6, .inl fe)), (gl, .inl (cI, 6, .inl fl)), (bc, .inl (cI, 6, .inl cm)), (bs, .inl (cI, 20, .inl fk)), (w, .inr (4, [.ref sg, .int (nI nl)])), (sg, .inl (cI, 20, .inl fs))] := hD
                    refine lv_iinc (v := nI (i + 1)) (lv' := [(5, .int (nI (i + 1))), (0, .ref rg)]) hx hb dX6_follow_122 hl (k := 1) rfl (nI_1 i) (by decide) rfl (fun ls hl => ?_)
                    refine lv_goto (tgt := 93) hx hb dX6_follow_125 (by decide) ?_
                    exact ih93 (i + 1) i ((by omega)) (⟨b9, by omega, z1, z2⟩) ((fun j hj hj2 => hno j (by omega) (by omega))) ((by omega)) (by omega) _ _ hP hD hS _ (lv_sub hl [1, 0] rfl)
                · refine lv_topi (fun y9 e9 => ?_)
                  have e9 : (-1) = y9 := (e9.trans (z2.trans (filI_in _ _ 24 i (by omega)))).symm
                  subst e9
                  refine lv_aload_n hx hb dX6_follow_109 rfl (lv_at hl 0 rfl) ?_
                  refine va_get (D := D) (ci := 6) (v := .int (nI a)) (C := RX6) (T := TX6) (N := 6) hx hb hts hi6 hown hK hP 0 rfl rfl 3 (by decide) hw2 (fun _ h9 => h9) rfl dX6_follow_110 ?_
                  refine lv_icmp_lt (tgt := 122) hx hb dX6_follow_113 (by decide) (fun c113 => ?_) (fun c113 => ?_)
                  · refine lv_iinc (v := nI (i + 1)) (lv' := [(5, .int (nI (i + 1))), (0, .ref rg)]) hx hb dX6_follow_122 hl (k := 1) rfl (nI_1 i) (by decide) rfl (fun ls hl => ?_)
                    refine lv_goto (tgt := 93) hx hb dX6_follow_125 (by decide) ?_
                    exact ih93 (i + 1) m9 ((by omega)) hin9 ((fun j hj hj2 => by rcases Nat.lt_or_ge j i with q | q; (exact hno j q hj2); (rw [show j = i by omega]; exact (fun k9 y1 y2 y3 => z1 k9 y2 y3)))) hm23 (by omega) _ _ hP hD hS _ (lv_sub hl [1, 0] rfl)
                  · exact absurd (show (-1 : Int32) < nI a from neg_lt a (by omega)) c113
          exact L93 _ 0 (hsq (nxF fs nl n fe fl (nI 0)) h0 k) ((by omega)) (⟨a, Nat.le_refl a, ha, hxa⟩) ((fun j hj => absurd hj (Nat.not_lt_zero j))) ((by omega)) (Nat.lt_succ_self _) _ _ hP hD hS _ (lv_sub hl [1, 0] rfl)
        · refine lv_aload_n hx hb dX6_follow_29 rfl (lv_at hl 0 rfl) ?_
          refine va_get (D := D) (ci := 6) (v := .ref rf) (C := RX6) (T := TX6) (N := 6) hx hb hts hi6 hown hK hP 0 rfl rfl 2 (by decide) hw0 (fun _ h9 => h9) rfl dX6_follow_30 ?_
          refine lv_iload_n hx hb dX6_follow_33 rfl (lv_at hl 3 rfl) ?_
          refine lv_iload hx hb dX6_follow_34 (lv_at hl 4 rfl) ?_
          refine iast_n (k := hsq (nxF fs nl n fe fl (nI 0)) h0 k) hx hb hK hP hD hS 1 0 rfl rfl (by omega) (by omega) dX6_follow_36 (fun H locs hP hD hS => ?_)
          have hP : va_P D vwCl [(rg, .inr (6, [.ref b, .ref rl, .ref rf, .int ah, .int le, .int lst])), (rf, .inl (cI, 24, .inl (upd (visA (filI fw (-1) 24) (hsq (nxF fs nl n fe fl (nI 0)) h0) k) (hsq (nxF fs nl n fe fl (nI 0)) h0 k) (nI k)))), (b, .inr (0, [.ref g, .ref bt, .ref bc, .ref bs, .int hg])), (g, .inr (3, [.ref ge, .ref gl, .ref gb, .ref gw, .ref gsw, .ref gsh, .int (nI ns), .int (nI n), .int fi])), (ge, .inl (cI, 6, .inl fe)), (gl, .inl (cI, 6, .inl fl)), (bc, .inl (cI, 6, .inl cm)), (bs, .inl (cI, 20, .inl fk)), (w, .inr (4, [.ref sg, .int (nI nl)])), (sg, .inl (cI, 20, .inl fs))] H := hP
          have hD : va_D A [(rg, .inr (6, [.ref b, .ref rl, .ref rf, .int ah, .int le, .int lst])), (rf, .inl (cI, 24, .inl (upd (visA (filI fw (-1) 24) (hsq (nxF fs nl n fe fl (nI 0)) h0) k) (hsq (nxF fs nl n fe fl (nI 0)) h0 k) (nI k)))), (b, .inr (0, [.ref g, .ref bt, .ref bc, .ref bs, .int hg])), (g, .inr (3, [.ref ge, .ref gl, .ref gb, .ref gw, .ref gsw, .ref gsh, .int (nI ns), .int (nI n), .int fi])), (ge, .inl (cI, 6, .inl fe)), (gl, .inl (cI, 6, .inl fl)), (bc, .inl (cI, 6, .inl cm)), (bs, .inl (cI, 20, .inl fk)), (w, .inr (4, [.ref sg, .int (nI nl)])), (sg, .inl (cI, 20, .inl fs))] := hD
          refine lv_iinc (v := nI (k + 1)) (lv' := [(4, .int (nI (k + 1))), (0, .ref rg), (1, .ref w), (2, .int (nI h0)), (3, .int (nI (hsq (nxF fs nl n fe fl (nI 0)) h0 k)))]) hx hb dX6_follow_37 hl (k := 4) rfl (nI_1 k) (by decide) rfl (fun ls hl => ?_)
          refine lv_aload_n hx hb dX6_follow_40 rfl (lv_at hl 1 rfl) ?_
          refine va_get (D := D) (ci := 6) (v := .ref b) (C := RX6) (T := TX6) (N := 6) hx hb hts hi6 hown hK hP 0 rfl rfl 0 (by decide) hw5 (fun _ h9 => h9) rfl dX6_follow_41 ?_
          refine lv_aload_n hx hb dX6_follow_44 rfl (lv_at hl 2 rfl) ?_
          refine lv_iload_n hx hb dX6_follow_45 rfl (lv_at hl 4 rfl) ?_
          refine lv_aload_n hx hb dX6_follow_46 rfl (lv_at hl 1 rfl) ?_
          refine va_get (D := D) (ci := 6) (v := .ref b) (C := RX6) (T := TX6) (N := 6) hx hb hts hi6 hown hK hP 0 rfl rfl 0 (by decide) hw5 (fun _ h9 => h9) rfl dX6_follow_47 ?_
          refine va_get (D := D) (ci := 0) (v := .ref g) (C := RX0) (T := TX0) (N := 5) hx hb hts hi0 hown hK hP 2 rfl rfl 0 (by decide) hw6 (fun _ h9 => h9) rfl dX6_follow_50 ?_
          refine va_get (D := D) (ci := 3) (v := .ref gl) (C := RX3) (T := TX3) (N := 9) hx hb hts hi3 hown hK hP 3 rfl rfl 1 (by decide) hw8 (fun _ h9 => h9) rfl dX6_follow_53 ?_
          refine lv_iconst (v := nI 0) hx hb dX6_follow_56 (by decide) ?_
          refine cal_i (run_V (As := [.ref w, .int (nI (hsq (nxF fs nl n fe fl (nI 0)) h0 k)), .ref gl, .int (nI 0)]) (rest := []) SF (c_nextHour l D cI cJ cZ cG cM b bt bc bs g ge gl gb gw gsw gsh (nI ns) fi n w sg nl gl hg (nI (hsq (nxF fs nl n fe fl (nI 0)) h0 k)) (nI 0) cm fk fs fe fl hV h1 h6) (cwV 4 hts gX6_follow_X0_nextHour rfl rfl rfl (by decide +kernel) ⟨Nat.le_of_ble_eq_true rfl, Nat.le_of_ble_eq_true rfl⟩) hN hK hP hD [2, 3, 4, 5, 6, 7, 8, 9] rfl (by decide) 0 2 rfl rfl rfl rfl hl.1 rfl (Nat.le_of_ble_eq_true rfl) dX6_follow_57 ⟨Nat.le_of_ble_eq_true rfl, Nat.le_of_ble_eq_true rfl⟩) ⟨rfl, rfl⟩ hP hD hS hA [2, 3, 4, 5, 6, 7, 8, 9] rfl (fun _ => rfl) (fun r57 u57 H locs hw hP hD hS => ?_)
          have hP : va_P D vwCl [(rg, .inr (6, [.ref b, .ref rl, .ref rf, .int ah, .int le, .int lst])), (rf, .inl (cI, 24, .inl (upd (visA (filI fw (-1) 24) (hsq (nxF fs nl n fe fl (nI 0)) h0) k) (hsq (nxF fs nl n fe fl (nI 0)) h0 k) (nI k)))), (b, .inr (0, [.ref g, .ref bt, .ref bc, .ref bs, .int u57.2.2])), (g, .inr (3, [.ref ge, .ref gl, .ref gb, .ref gw, .ref gsw, .ref gsh, .int (nI ns), .int (nI n), .int fi])), (ge, .inl (cI, 6, .inl fe)), (gl, .inl (cI, 6, .inl fl)), (bc, .inl (cI, 6, .inl u57.1)), (bs, .inl (cI, 20, .inl u57.2.1)), (w, .inr (4, [.ref sg, .int (nI nl)])), (sg, .inl (cI, 20, .inl fs))] H := hP
          have hD : va_D A [(rg, .inr (6, [.ref b, .ref rl, .ref rf, .int ah, .int le, .int lst])), (rf, .inl (cI, 24, .inl (upd (visA (filI fw (-1) 24) (hsq (nxF fs nl n fe fl (nI 0)) h0) k) (hsq (nxF fs nl n fe fl (nI 0)) h0 k) (nI k)))), (b, .inr (0, [.ref g, .ref bt, .ref bc, .ref bs, .int u57.2.2])), (g, .inr (3, [.ref ge, .ref gl, .ref gb, .ref gw, .ref gsw, .ref gsh, .int (nI ns), .int (nI n), .int fi])), (ge, .inl (cI, 6, .inl fe)), (gl, .inl (cI, 6, .inl fl)), (bc, .inl (cI, 6, .inl u57.1)), (bs, .inl (cI, 20, .inl u57.2.1)), (w, .inr (4, [.ref sg, .int (nI nl)])), (sg, .inl (cI, 20, .inl fs))] := hD
          have hw : r57 = nI (hsq (nxF fs nl n fe fl (nI 0)) h0 (k + 1)) := hw.trans (hsq_succ (F := (nxF fs nl n fe fl (nI 0))) (FR_F _ _ _ _ _ _) h0 k)
          subst hw
          refine lv_istore_n (lv' := [(3, .int (nI (hsq (nxF fs nl n fe fl (nI 0)) h0 (k + 1)))), (4, .int (nI (k + 1))), (0, .ref rg), (1, .ref w), (2, .int (nI h0))]) hx hb dX6_follow_60 rfl hl (by decide) rfl (fun ls hl => ?_)
          refine lv_goto (tgt := 13) hx hb dX6_follow_61 (by decide) ?_
          exact ih13 (k + 1) u57.1 u57.2.1 u57.2.2 ((by omega)) ((inj_s hi (fun a9 z1 z2 => by rcases vis_cases (filI fw (-1) 24) (hsq (nxF fs nl n fe fl (nI 0)) h0) k ((hsq (nxF fs nl n fe fl (nI 0)) h0) k) hi with ⟨b9, y1, y2, y3⟩ | ⟨y1, y2⟩; (rw [y3] at c26; exact c26 (nI_pos' (by omega))); (exact y1 a9 z1 z2)))) (by omega) _ _ hP hD hS _ (lv_sub hl [2, 3, 4, 0, 1] rfl)
  exact L13 _ 0 cm fk hg ((by omega)) inj_0 (Nat.lt_succ_self _) _ _ hP hD hS _ (lv_sub hl [2, 3, 4, 1, 0] rfl)

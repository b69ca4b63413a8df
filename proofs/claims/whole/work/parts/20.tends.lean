abbrev rm_X8_layTends : Room := { frames := 3, cells := 0, slots := 0, locals := 75 }
set_option maxHeartbeats 1000000 in
set_option maxRecDepth 100000 in
theorem c_layTends (l : Launch) (D : va_G) (cI cJ cZ cG cM : ClassId) (o me ml mb mt ms mp my mc mk mw mo mq mi mz : Nat) (fi si sn la ah ri lh : Int32) (n nl : Nat) (fe fb cm fk fs fw : Nat → Int32) (hV : VL fs nl) (h1 : 1 ≤ n) (h6 : n ≤ 6) (h0 : Nat) (hh : h0 ≤ 23) :
    CV l yX8_layTends wsX8_layTends rm_X8_layTends D [(cI, .int), (cJ, .long), (cZ, .boolean), (cG, .object "LatestSets$Guild"), (cM, .array .int)] [(o, .inr (8, [.int (nI n), .ref me, .ref ml, .ref mb, .int fi, .int (nI nl), .ref mt, .int si, .ref ms, .int sn, .ref mp, .ref my, .ref mc, .int la, .ref mk, .ref mw, .int ah, .int ri, .int lh, .ref mo, .ref mq, .ref mi, .ref mz])), (me, .inl (cI, 6, .inl fe)), (my, .inl (cI, 6, .inl fb)), (mc, .inl (cI, 6, .inl cm)), (mk, .inl (cI, 24, .inl fk)), (mt, .inl (cI, 20, .inl fs)), (mw, .inl (cI, 24, .inl fw))] [.ref o, .int (nI h0)] (S := ((Nat → Int32) × (Nat → Int32) × (Nat → Int32) × Int32 × Int32 × Int32)) (fun u => ∃ w a m, TDM (hsq (nxG fs nl n fe fb la) h0) w a m ∧ u.2.2.2.1 = nI a ∧ u.2.2.2.2.1 = nI (w - a) ∧ u.2.2.2.2.2 = nI m) (fun u => [(o, .inr (8, [.int (nI n), .ref me, .ref ml, .ref mb, .int fi, .int (nI nl), .ref mt, .int si, .ref ms, .int sn, .ref mp, .ref my, .ref mc, .int la, .ref mk, .ref mw, .int u.2.2.2.1, .int u.2.2.2.2.1, .int u.2.2.2.2.2, .ref mo, .ref mq, .ref mi, .ref mz])), (me, .inl (cI, 6, .inl fe)), (my, .inl (cI, 6, .inl fb)), (mc, .inl (cI, 6, .inl u.2.1)), (mk, .inl (cI, 24, .inl u.2.2.1)), (mt, .inl (cI, 20, .inl fs)), (mw, .inl (cI, 24, .inl u.1))]) := by
  refine sv_of (cc := cX8_layTends) (maxL := 5) (by decide) rfl (Nat.le_of_ble_eq_true rfl) ?_
  intro p e s m args below meth c A ls Q E hret
  obtain ⟨hx, hb, -, hml, hown, hts, -, hin, hA, hK, hP, hD, hS, hl, hN⟩ := E
  have hown : s.vm.findClass RX8 = some m.cls := hown
  have hl : lv_has ls 5 [(0, .ref o), (1, .int (nI h0))] := hl
  have SF : CallFix p m c cX8_layTends 5 s args wsX8_layTends RX8 := ⟨hx, hb, hml, hown, hts⟩
  have hw0 := hts (.fieldLink RX8 47 "LatestSetsModel" "when" "[I") (by decide +kernel)
  have hi8 : ∀ x ∈ wsX80, x ∈ wsX8_layTends := by decide +kernel
  have hw2 := hts (.fieldLink RX8 123 "LatestSetsModel" "ahead" "I") (by decide +kernel)
  have hw3 := hts (.fieldLink RX8 126 "LatestSetsModel" "ring" "I") (by decide +kernel)
  have hw4 := hts (.fieldLink RX8 129 "LatestSetsModel" "leastHour" "I") (by decide +kernel)
  refine lv_iconst (v := nI 0) hx hb dX8_layTends_0 (by decide) ?_
  refine lv_istore_n (lv' := [(2, .int (nI 0)), (0, .ref o), (1, .int (nI h0))]) hx hb dX8_layTends_1 rfl hl (by decide) rfl (fun ls hl => ?_)
  have L2 : ∀ (n9 : Nat) (k : Nat) (hk : k ≤ 24), 24 - k < n9 → ∀ (H : Heap) (locs : List Loc), va_P D vwCl [(o, .inr (8, [.int (nI n), .ref me, .ref ml, .ref mb, .int fi, .int (nI nl), .ref mt, .int si, .ref ms, .int sn, .ref mp, .ref my, .ref mc, .int la, .ref mk, .ref mw, .int ah, .int ri, .int lh, .ref mo, .ref mq, .ref mi, .ref mz])), (me, .inl (cI, 6, .inl fe)), (my, .inl (cI, 6, .inl fb)), (mc, .inl (cI, 6, .inl cm)), (mk, .inl (cI, 24, .inl fk)), (mt, .inl (cI, 20, .inl fs)), (mw, .inl (cI, 24, .inl (filI fw (-6) k)))] H → va_D A [(o, .inr (8, [.int (nI n), .ref me, .ref ml, .ref mb, .int fi, .int (nI nl), .ref mt, .int si, .ref ms, .int sn, .ref mp, .ref my, .ref mc, .int la, .ref mk, .ref mw, .int ah, .int ri, .int lh, .ref mo, .ref mq, .ref mi, .ref mz])), (me, .inl (cI, 6, .inl fe)), (my, .inl (cI, 6, .inl fb)), (mc, .inl (cI, 6, .inl cm)), (mk, .inl (cI, 24, .inl fk)), (mt, .inl (cI, 20, .inl fs)), (mw, .inl (cI, 24, .inl (filI fw (-6) k)))] → va_S A s.heap H locs → ∀ (ls : Array Slot), lv_has ls 5 [(0, .ref o), (1, .int (nI h0)), (2, .int (nI k))] → W p l e rm_X8_layTends s m args below meth c H locs 0 0 Q (F0 m 2 ls []) := by
    intro n9
    induction n9 with
    | zero => intro k hk hm; exact absurd hm (Nat.not_lt_zero _)
    | succ n9 ih2 =>
      intro k hk hm2 H locs hP hD hS ls hl
      refine lv_iload_n hx hb dX8_layTends_2 rfl (lv_at hl 2 rfl) ?_
      refine lv_bipush (v := nI 24) hx hb dX8_layTends_3 (by decide) ?_
      refine icmp_ge_n (a := k) (b := 24) (tgt := 22) hx hb dX8_layTends_5 (by decide) (by omega) (by omega) (fun c5 => ?_) (fun c5 => ?_)
      · have e9 : k = 24 := by omega
        subst e9
        refine lv_iload_n hx hb dX8_layTends_22 rfl (lv_at hl 1 rfl) ?_
        refine lv_istore_n (lv' := [(2, .int (nI h0)), (0, .ref o), (1, .int (nI h0))]) hx hb dX8_layTends_23 rfl hl (by decide) rfl (fun ls hl => ?_)
        refine lv_iconst (v := nI 0) hx hb dX8_layTends_24 (by decide) ?_
        refine lv_istore_n (lv' := [(3, .int (nI 0)), (2, .int (nI h0)), (0, .ref o), (1, .int (nI h0))]) hx hb dX8_layTends_25 rfl hl (by decide) rfl (fun ls hl => ?_)
        have L26 : ∀ (n9 : Nat) (k : Nat) (cm fk : Nat → Int32) (hi : inj (hsq (nxG fs nl n fe fb la) h0) k), 25 - k < n9 → ∀ (H : Heap) (locs : List Loc), va_P D vwCl [(o, .inr (8, [.int (nI n), .ref me, .ref ml, .ref mb, .int fi, .int (nI nl), .ref mt, .int si, .ref ms, .int sn, .ref mp, .ref my, .ref mc, .int la, .ref mk, .ref mw, .int ah, .int ri, .int lh, .ref mo, .ref mq, .ref mi, .ref mz])), (me, .inl (cI, 6, .inl fe)), (my, .inl (cI, 6, .inl fb)), (mc, .inl (cI, 6, .inl cm)), (mk, .inl (cI, 24, .inl fk)), (mt, .inl (cI, 20, .inl fs)), (mw, .inl (cI, 24, .inl (visA (filI fw (-6) 24) (hsq (nxG fs nl n fe fb la) h0) k)))] H → va_D A [(o, .inr (8, [.int (nI n), .ref me, .ref ml, .ref mb, .int fi, .int (nI nl), .ref mt, .int si, .ref ms, .int sn, .ref mp, .ref my, .ref mc, .int la, .ref mk, .ref mw, .int ah, .int ri, .int lh, .ref mo, .ref mq, .ref mi, .ref mz])), (me, .inl (cI, 6, .inl fe)), (my, .inl (cI, 6, .inl fb)), (mc, .inl (cI, 6, .inl cm)), (mk, .inl (cI, 24, .inl fk)), (mt, .inl (cI, 20, .inl fs)), (mw, .inl (cI, 24, .inl (visA (filI fw (-6) 24) (hsq (nxG fs nl n fe fb la) h0) k)))] → va_S A s.heap H locs → ∀ (ls : Array Slot), lv_has ls 5 [(0, .ref o), (1, .int (nI h0)), (2, .int (nI (hsq (nxG fs nl n fe fb la) h0 k))), (3, .int (nI k))] → W p l e rm_X8_layTends s m args below meth c H locs 0 0 Q (F0 m 26 ls []) := by
          intro n9
          induction n9 with
          | zero => intro k cm fk hi hm; exact absurd hm (Nat.not_lt_zero _)
          | succ n9 ih26 =>
            intro k cm fk hi hm26 H locs hP hD hS ls hl
            have hx9 := hsq_le (F := (nxG fs nl n fe fb la)) (FR_G _ _ _ _ _ _) hh k
            have hk24 := inj_24 hi (hsq_le (FR_G _ _ _ _ _ _) hh)
            refine lv_aload_n hx hb dX8_layTends_26 rfl (lv_at hl 0 rfl) ?_
            refine va_get (D := D) (ci := 8) (v := .ref mw) (C := RX8) (T := TX8) (N := 23) hx hb hts hi8 hown hK hP 0 rfl rfl 15 (by decide) hw0 (fun _ h9 => h9) rfl dX8_layTends_27 ?_
            refine lv_iload_n hx hb dX8_layTends_30 rfl (lv_at hl 2 rfl) ?_
            refine iald_n (k := hsq (nxG fs nl n fe fb la) h0 k) hx hb hK hP 6 0 rfl rfl (by omega) (by omega) dX8_layTends_31 ?_
            refine lv_if_ge (tgt := 54) hx hb dX8_layTends_32 (by decide) (fun c32 => ?_) (fun c32 => ?_)
            · obtain ⟨a, ha, hxa⟩ : ∃ a, a < k ∧ (hsq (nxG fs nl n fe fb la) h0) a = (hsq (nxG fs nl n fe fb la) h0) k := by
                rcases vis_cases (filI fw (-6) 24) (hsq (nxG fs nl n fe fb la) h0) k ((hsq (nxG fs nl n fe fb la) h0) k) hi with ⟨a, z1, z2, -⟩ | ⟨z1, z2⟩
                · exact ⟨a, z1, z2⟩
                · rw [z2, filI_in _ _ 24 _ (by omega)] at c32; exact absurd c32 (by decide)
              have hva : visA (filI fw (-6) 24) (hsq (nxG fs nl n fe fb la) h0) k ((hsq (nxG fs nl n fe fb la) h0) k) = nI a := by
                rcases vis_cases (filI fw (-6) 24) (hsq (nxG fs nl n fe fb la) h0) k ((hsq (nxG fs nl n fe fb la) h0) k) hi with ⟨b9, z1, z2, z3⟩ | ⟨z1, z2⟩
                · rw [z3]; rcases Nat.lt_trichotomy a b9 with q | q | q
                  · exact absurd (hxa.trans z2.symm) (hi a b9 q z1)
                  · rw [q]
                  · exact absurd (z2.trans hxa.symm) (hi b9 a q ha)
                · exact absurd hxa (z1 a ha)
              refine lv_aload_n hx hb dX8_layTends_54 rfl (lv_at hl 0 rfl) ?_
              refine lv_aload_n hx hb dX8_layTends_55 rfl (lv_at hl 0 rfl) ?_
              refine va_get (D := D) (ci := 8) (v := .ref mw) (C := RX8) (T := TX8) (N := 23) hx hb hts hi8 hown hK hP 0 rfl rfl 15 (by decide) hw0 (fun _ h9 => h9) rfl dX8_layTends_56 ?_
              refine lv_iload_n hx hb dX8_layTends_59 rfl (lv_at hl 2 rfl) ?_
              refine iald_n (k := hsq (nxG fs nl n fe fb la) h0 k) hx hb hK hP 6 0 rfl rfl (by omega) (by omega) dX8_layTends_60 ?_
              refine lv_topi (fun y9 e9 => ?_)
              have e9 : nI a = y9 := (e9.trans (hva)).symm
              subst e9
              refine va_put (D := D) (ci := 8) (v := .int (nI a)) (ty := .int) (C := RX8) (T := TX8) (N := 23) hx hb hts hi8 tyX8 tyX8_ok nmX8 hown hK hP hD hS 0 rfl rfl 16 (by decide) hw2 (fun _ h9 => h9) rfl (by decide +kernel) rfl rfl (Nat.le_of_ble_eq_true rfl) dX8_layTends_61 (fun H locs hP hD hS => ?_)
              have hP : va_P D vwCl [(o, .inr (8, [.int (nI n), .ref me, .ref ml, .ref mb, .int fi, .int (nI nl), .ref mt, .int si, .ref ms, .int sn, .ref mp, .ref my, .ref mc, .int la, .ref mk, .ref mw, .int (nI a), .int ri, .int lh, .ref mo, .ref mq, .ref mi, .ref mz])), (me, .inl (cI, 6, .inl fe)), (my, .inl (cI, 6, .inl fb)), (mc, .inl (cI, 6, .inl cm)), (mk, .inl (cI, 24, .inl fk)), (mt, .inl (cI, 20, .inl fs)), (mw, .inl (cI, 24, .inl (visA (filI fw (-6) 24) (hsq (nxG fs nl n fe fb la) h0) k)))] H := hP
              have hD : va_D A [(o, .inr (8, [.int (nI n), .ref me, .ref ml, .ref mb, .int fi, .int (nI nl), .ref mt, .int si, .ref ms, .int sn, .ref mp, .ref my, .ref mc, .int la, .ref mk, .ref mw, .int (nI a), .int ri, .int lh, .ref mo, .ref mq, .ref mi, .ref mz])), (me, .inl (cI, 6, .inl fe)), (my, .inl (cI, 6, .inl fb)), (mc, .inl (cI, 6, .inl cm)), (mk, .inl (cI, 24, .inl fk)), (mt, .inl (cI, 20, .inl fs)), (mw, .inl (cI, 24, .inl (visA (filI fw (-6) 24) (hsq (nxG fs nl n fe fb la) h0) k)))] := hD
              refine lv_aload_n hx hb dX8_layTends_64 rfl (lv_at hl 0 rfl) ?_
              refine lv_iload_n hx hb dX8_layTends_65 rfl (lv_at hl 3 rfl) ?_
              refine lv_aload_n hx hb dX8_layTends_66 rfl (lv_at hl 0 rfl) ?_
              refine va_get (D := D) (ci := 8) (v := .int (nI a)) (C := RX8) (T := TX8) (N := 23) hx hb hts hi8 hown hK hP 0 rfl rfl 16 (by decide) hw2 (fun _ h9 => h9) rfl dX8_layTends_67 ?_
              refine isub_n (a := k) (b := a) hx hb dX8_layTends_70 (by omega) ?_
              refine va_put (D := D) (ci := 8) (v := .int (nI (k - a))) (ty := .int) (C := RX8) (T := TX8) (N := 23) hx hb hts hi8 tyX8 tyX8_ok nmX8 hown hK hP hD hS 0 rfl rfl 17 (by decide) hw3 (fun _ h9 => h9) rfl (by decide +kernel) rfl rfl (Nat.le_of_ble_eq_true rfl) dX8_layTends_71 (fun H locs hP hD hS => ?_)
              have hP : va_P D vwCl [(o, .inr (8, [.int (nI n), .ref me, .ref ml, .ref mb, .int fi, .int (nI nl), .ref mt, .int si, .ref ms, .int sn, .ref mp, .ref my, .ref mc, .int la, .ref mk, .ref mw, .int (nI a), .int (nI (k - a)), .int lh, .ref mo, .ref mq, .ref mi, .ref mz])), (me, .inl (cI, 6, .inl fe)), (my, .inl (cI, 6, .inl fb)), (mc, .inl (cI, 6, .inl cm)), (mk, .inl (cI, 24, .inl fk)), (mt, .inl (cI, 20, .inl fs)), (mw, .inl (cI, 24, .inl (visA (filI fw (-6) 24) (hsq (nxG fs nl n fe fb la) h0) k)))] H := hP
              have hD : va_D A [(o, .inr (8, [.int (nI n), .ref me, .ref ml, .ref mb, .int fi, .int (nI nl), .ref mt, .int si, .ref ms, .int sn, .ref mp, .ref my, .ref mc, .int la, .ref mk, .ref mw, .int (nI a), .int (nI (k - a)), .int lh, .ref mo, .ref mq, .ref mi, .ref mz])), (me, .inl (cI, 6, .inl fe)), (my, .inl (cI, 6, .inl fb)), (mc, .inl (cI, 6, .inl cm)), (mk, .inl (cI, 24, .inl fk)), (mt, .inl (cI, 20, .inl fs)), (mw, .inl (cI, 24, .inl (visA (filI fw (-6) 24) (hsq (nxG fs nl n fe fb la) h0) k)))] := hD
              refine lv_aload_n hx hb dX8_layTends_74 rfl (lv_at hl 0 rfl) ?_
              refine lv_iload_n hx hb dX8_layTends_75 rfl (lv_at hl 2 rfl) ?_
              refine va_put (D := D) (ci := 8) (v := .int (nI (hsq (nxG fs nl n fe fb la) h0 k))) (ty := .int) (C := RX8) (T := TX8) (N := 23) hx hb hts hi8 tyX8 tyX8_ok nmX8 hown hK hP hD hS 0 rfl rfl 18 (by decide) hw4 (fun _ h9 => h9) rfl (by decide +kernel) rfl rfl (Nat.le_of_ble_eq_true rfl) dX8_layTends_76 (fun H locs hP hD hS => ?_)
              have hP : va_P D vwCl [(o, .inr (8, [.int (nI n), .ref me, .ref ml, .ref mb, .int fi, .int (nI nl), .ref mt, .int si, .ref ms, .int sn, .ref mp, .ref my, .ref mc, .int la, .ref mk, .ref mw, .int (nI a), .int (nI (k - a)), .int (nI (hsq (nxG fs nl n fe fb la) h0 k)), .ref mo, .ref mq, .ref mi, .ref mz])), (me, .inl (cI, 6, .inl fe)), (my, .inl (cI, 6, .inl fb)), (mc, .inl (cI, 6, .inl cm)), (mk, .inl (cI, 24, .inl fk)), (mt, .inl (cI, 20, .inl fs)), (mw, .inl (cI, 24, .inl (visA (filI fw (-6) 24) (hsq (nxG fs nl n fe fb la) h0) k)))] H := hP
              have hD : va_D A [(o, .inr (8, [.int (nI n), .ref me, .ref ml, .ref mb, .int fi, .int (nI nl), .ref mt, .int si, .ref ms, .int sn, .ref mp, .ref my, .ref mc, .int la, .ref mk, .ref mw, .int (nI a), .int (nI (k - a)), .int (nI (hsq (nxG fs nl n fe fb la) h0 k)), .ref mo, .ref mq, .ref mi, .ref mz])), (me, .inl (cI, 6, .inl fe)), (my, .inl (cI, 6, .inl fb)), (mc, .inl (cI, 6, .inl cm)), (mk, .inl (cI, 24, .inl fk)), (mt, .inl (cI, 20, .inl fs)), (mw, .inl (cI, 24, .inl (visA (filI fw (-6) 24) (hsq (nxG fs nl n fe fb la) h0) k)))] := hD
              refine lv_iconst (v := nI 0) hx hb dX8_layTends_79 (by decide) ?_
              refine lv_istore (lv' := [(4, .int (nI 0)), (0, .ref o), (1, .int (nI h0)), (2, .int (nI (hsq (nxG fs nl n fe fb la) h0 k))), (3, .int (nI k))]) hx hb dX8_layTends_80 hl (by decide) rfl (fun ls hl => ?_)
              have L82 : ∀ (n9 : Nat) (i m9 : Nat) (cm fk : Nat → Int32) (hi9 : i ≤ k - a) (hin9 : ∃ k9, a ≤ k9 ∧ k9 < k ∧ (hsq (nxG fs nl n fe fb la) h0) k9 = m9) (hno : ∀ k9, a ≤ k9 → k9 < a + i → m9 ≤ (hsq (nxG fs nl n fe fb la) h0) k9) (hm23 : m9 ≤ 23), k - a - i < n9 → ∀ (H : Heap) (locs : List Loc), va_P D vwCl [(o, .inr (8, [.int (nI n), .ref me, .ref ml, .ref mb, .int fi, .int (nI nl), .ref mt, .int si, .ref ms, .int sn, .ref mp, .ref my, .ref mc, .int la, .ref mk, .ref mw, .int (nI a), .int (nI (k - a)), .int (nI m9), .ref mo, .ref mq, .ref mi, .ref mz])), (me, .inl (cI, 6, .inl fe)), (my, .inl (cI, 6, .inl fb)), (mc, .inl (cI, 6, .inl cm)), (mk, .inl (cI, 24, .inl fk)), (mt, .inl (cI, 20, .inl fs)), (mw, .inl (cI, 24, .inl (visA (filI fw (-6) 24) (hsq (nxG fs nl n fe fb la) h0) k)))] H → va_D A [(o, .inr (8, [.int (nI n), .ref me, .ref ml, .ref mb, .int fi, .int (nI nl), .ref mt, .int si, .ref ms, .int sn, .ref mp, .ref my, .ref mc, .int la, .ref mk, .ref mw, .int (nI a), .int (nI (k - a)), .int (nI m9), .ref mo, .ref mq, .ref mi, .ref mz])), (me, .inl (cI, 6, .inl fe)), (my, .inl (cI, 6, .inl fb)), (mc, .inl (cI, 6, .inl cm)), (mk, .inl (cI, 24, .inl fk)), (mt, .inl (cI, 20, .inl fs)), (mw, .inl (cI, 24, .inl (visA (filI fw (-6) 24) (hsq (nxG fs nl n fe fb la) h0) k)))] → va_S A s.heap H locs → ∀ (ls : Array Slot), lv_has ls 5 [(0, .ref o), (2, .int (nI (hsq (nxG fs nl n fe fb la) h0 (a + i)))), (4, .int (nI i))] → W p l e rm_X8_layTends s m args below meth c H locs 0 0 Q (F0 m 82 ls []) := by
                intro n9
                induction n9 with
                | zero => intro i m9 cm fk hi9 hin9 hno hm23 hm; exact absurd hm (Nat.not_lt_zero _)
                | succ n9 ih82 =>
                  intro i m9 cm fk hi9 hin9 hno hm23 hm82 H locs hP hD hS ls hl
                  have hx8 := hsq_le (F := (nxG fs nl n fe fb la)) (FR_G _ _ _ _ _ _) hh (a + i)
                  refine lv_iload hx hb dX8_layTends_82 (lv_at hl 2 rfl) ?_
                  refine lv_aload_n hx hb dX8_layTends_84 rfl (lv_at hl 0 rfl) ?_
                  refine va_get (D := D) (ci := 8) (v := .int (nI (k - a))) (C := RX8) (T := TX8) (N := 23) hx hb hts hi8 hown hK hP 0 rfl rfl 17 (by decide) hw3 (fun _ h9 => h9) rfl dX8_layTends_85 ?_
                  refine icmp_ge_n (a := i) (b := k - a) (tgt := 123) hx hb dX8_layTends_88 (by decide) (by omega) (by omega) (fun c88 => ?_) (fun c88 => ?_)
                  · exact hret ((visA (filI fw (-6) 24) (hsq (nxG fs nl n fe fb la) h0) k, cm, fk, nI a, nI (k - a), nI m9)) _ _ _ _ dX8_layTends_123 ⟨k, a, m9, ⟨⟨ha, hxa, hi⟩, hin9, fun k9 y1 y2 => hno k9 y1 (by omega)⟩, rfl, rfl, rfl⟩ hP hD hS
                  · refine lv_aload_n hx hb dX8_layTends_91 rfl (lv_at hl 0 rfl) ?_
                    refine lv_iload_n hx hb dX8_layTends_92 rfl (lv_at hl 1 rfl) ?_
                    refine lv_aload_n hx hb dX8_layTends_93 rfl (lv_at hl 0 rfl) ?_
                    refine va_get (D := D) (ci := 8) (v := .int (nI m9)) (C := RX8) (T := TX8) (N := 23) hx hb hts hi8 hown hK hP 0 rfl rfl 18 (by decide) hw4 (fun _ h9 => h9) rfl dX8_layTends_94 ?_
                    refine icmp_ge_n (a := hsq (nxG fs nl n fe fb la) h0 (a + i)) (b := m9) (tgt := 104) hx hb dX8_layTends_97 (by decide) (by omega) (by omega) (fun c97 => ?_) (fun c97 => ?_)
                    · refine lv_aload_n hx hb dX8_layTends_104 rfl (lv_at hl 0 rfl) ?_
                      refine va_get (D := D) (ci := 8) (v := .int (nI m9)) (C := RX8) (T := TX8) (N := 23) hx hb hts hi8 hown hK hP 0 rfl rfl 18 (by decide) hw4 (fun _ h9 => h9) rfl dX8_layTends_105 ?_
                      refine va_put (D := D) (ci := 8) (v := .int (nI m9)) (ty := .int) (C := RX8) (T := TX8) (N := 23) hx hb hts hi8 tyX8 tyX8_ok nmX8 hown hK hP hD hS 0 rfl rfl 18 (by decide) hw4 (fun _ h9 => h9) rfl (by decide +kernel) rfl rfl (Nat.le_of_ble_eq_true rfl) dX8_layTends_108 (fun H locs hP hD hS => ?_)
                      have hP : va_P D vwCl [(o, .inr (8, [.int (nI n), .ref me, .ref ml, .ref mb, .int fi, .int (nI nl), .ref mt, .int si, .ref ms, .int sn, .ref mp, .ref my, .ref mc, .int la, .ref mk, .ref mw, .int (nI a), .int (nI (k - a)), .int (nI m9), .ref mo, .ref mq, .ref mi, .ref mz])), (me, .inl (cI, 6, .inl fe)), (my, .inl (cI, 6, .inl fb)), (mc, .inl (cI, 6, .inl cm)), (mk, .inl (cI, 24, .inl fk)), (mt, .inl (cI, 20, .inl fs)), (mw, .inl (cI, 24, .inl (visA (filI fw (-6) 24) (hsq (nxG fs nl n fe fb la) h0) k)))] H := hP
                      have hD : va_D A [(o, .inr (8, [.int (nI n), .ref me, .ref ml, .ref mb, .int fi, .int (nI nl), .ref mt, .int si, .ref ms, .int sn, .ref mp, .ref my, .ref mc, .int la, .ref mk, .ref mw, .int (nI a), .int (nI (k - a)), .int (nI m9), .ref mo, .ref mq, .ref mi, .ref mz])), (me, .inl (cI, 6, .inl fe)), (my, .inl (cI, 6, .inl fb)), (mc, .inl (cI, 6, .inl cm)), (mk, .inl (cI, 24, .inl fk)), (mt, .inl (cI, 20, .inl fs)), (mw, .inl (cI, 24, .inl (visA (filI fw (-6) 24) (hsq (nxG fs nl n fe fb la) h0) k)))] := hD
                      refine lv_aload_n hx hb dX8_layTends_111 rfl (lv_at hl 0 rfl) ?_
                      refine lv_iload_n hx hb dX8_layTends_112 rfl (lv_at hl 1 rfl) ?_
                      refine cal_i (run_V (As := [.int (nI (hsq (nxG fs nl n fe fb la) h0 (a + i)))]) (rest := []) SF (c_nextOf l D cI cJ cZ cG cM o me ml mb mt ms mp my mc mk mw mo mq mi mz fi si sn la (nI a) (nI (k - a)) (nI m9) n nl (nI (hsq (nxG fs nl n fe fb la) h0 (a + i))) fe fb cm fk fs hV h1 h6) (cwV 1 hts gX8_layTends_X8_nextOf rfl rfl rfl (by decide +kernel) ⟨Nat.le_of_ble_eq_true rfl, Nat.le_of_ble_eq_true rfl⟩) hN hK hP hD [0, 1, 2, 3, 4, 5] rfl (by decide) 8 0 rfl rfl rfl rfl hl.1 rfl (Nat.le_of_ble_eq_true rfl) dX8_layTends_113 ⟨Nat.le_of_ble_eq_true rfl, Nat.le_of_ble_eq_true rfl⟩) ⟨rfl, rfl⟩ hP hD hS hA [0, 1, 2, 3, 4, 5] rfl (fun _ => rfl) (fun r113 u113 H locs hw hP hD hS => ?_)
                      have hP : va_P D vwCl [(o, .inr (8, [.int (nI n), .ref me, .ref ml, .ref mb, .int fi, .int (nI nl), .ref mt, .int si, .ref ms, .int sn, .ref mp, .ref my, .ref mc, .int la, .ref mk, .ref mw, .int (nI a), .int (nI (k - a)), .int (nI m9), .ref mo, .ref mq, .ref mi, .ref mz])), (me, .inl (cI, 6, .inl fe)), (my, .inl (cI, 6, .inl fb)), (mc, .inl (cI, 6, .inl u113.1)), (mk, .inl (cI, 24, .inl u113.2)), (mt, .inl (cI, 20, .inl fs)), (mw, .inl (cI, 24, .inl (visA (filI fw (-6) 24) (hsq (nxG fs nl n fe fb la) h0) k)))] H := hP
                      have hD : va_D A [(o, .inr (8, [.int (nI n), .ref me, .ref ml, .ref mb, .int fi, .int (nI nl), .ref mt, .int si, .ref ms, .int sn, .ref mp, .ref my, .ref mc, .int la, .ref mk, .ref mw, .int (nI a), .int (nI (k - a)), .int (nI m9), .ref mo, .ref mq, .ref mi, .ref mz])), (me, .inl (cI, 6, .inl fe)), (my, .inl (cI, 6, .inl fb)), (mc, .inl (cI, 6, .inl u113.1)), (mk, .inl (cI, 24, .inl u113.2)), (mt, .inl (cI, 20, .inl fs)), (mw, .inl (cI, 24, .inl (visA (filI fw (-6) 24) (hsq (nxG fs nl n fe fb la) h0) k)))] := hD
                      have hw : r113 = nI (hsq (nxG fs nl n fe fb la) h0 (a + i + 1)) := hw.trans (hsq_succ (F := (nxG fs nl n fe fb la)) (FR_G _ _ _ _ _ _) h0 (a + i))
                      subst hw
                      refine lv_istore_n (lv' := [(2, .int (nI (hsq (nxG fs nl n fe fb la) h0 (a + i + 1)))), (0, .ref o), (4, .int (nI i))]) hx hb dX8_layTends_116 rfl hl (by decide) rfl (fun ls hl => ?_)
                      refine lv_iinc (v := nI (i + 1)) (lv' := [(4, .int (nI (i + 1))), (2, .int (nI (hsq (nxG fs nl n fe fb la) h0 (a + i + 1)))), (0, .ref o)]) hx hb dX8_layTends_117 hl (k := 2) rfl (nI_1 i) (by decide) rfl (fun ls hl => ?_)
                      refine lv_goto (tgt := 82) hx hb dX8_layTends_120 (by decide) ?_
                      exact ih82 (i + 1) m9 u113.1 u113.2 ((by omega)) hin9 ((fun k9 z1 z2 => by rcases Nat.lt_or_ge k9 (a + i) with q | q; (exact hno k9 z1 q); (rw [show k9 = a + i by omega]; exact c97))) ((by omega)) (by omega) _ _ hP hD hS _ (lv_sub hl [2, 1, 0] rfl)
                    · refine lv_iload_n hx hb dX8_layTends_100 rfl (lv_at hl 1 rfl) ?_
                      refine lv_goto (tgt := 108) hx hb dX8_layTends_101 (by decide) ?_
                      refine va_put (D := D) (ci := 8) (v := .int (nI (hsq (nxG fs nl n fe fb la) h0 (a + i)))) (ty := .int) (C := RX8) (T := TX8) (N := 23) hx hb hts hi8 tyX8 tyX8_ok nmX8 hown hK hP hD hS 0 rfl rfl 18 (by decide) hw4 (fun _ h9 => h9) rfl (by decide +kernel) rfl rfl (Nat.le_of_ble_eq_true rfl) dX8_layTends_108 (fun H locs hP hD hS => ?_)
                      have hP : va_P D vwCl [(o, .inr (8, [.int (nI n), .ref me, .ref ml, .ref mb, .int fi, .int (nI nl), .ref mt, .int si, .ref ms, .int sn, .ref mp, .ref my, .ref mc, .int la, .ref mk, .ref mw, .int (nI a), .int (nI (k - a)), .int (nI (hsq (nxG fs nl n fe fb la) h0 (a + i))), .ref mo, .ref mq, .ref mi, .ref mz])), (me, .inl (cI, 6, .inl fe)), (my, .inl (cI, 6, .inl fb)), (mc, .inl (cI, 6, .inl cm)), (mk, .inl (cI, 24, .inl fk)), (mt, .inl (cI, 20, .inl fs)), (mw, .inl (cI, 24, .inl (visA (filI fw (-6) 24) (hsq (nxG fs nl n fe fb la) h0) k)))] H := hP
                      have hD : va_D A [(o, .inr (8, [.int (nI n), .ref me, .ref ml, .ref mb, .int fi, .int (nI nl), .ref mt, .int si, .ref ms, .int sn, .ref mp, .ref my, .ref mc, .int la, .ref mk, .ref mw, .int (nI a), .int (nI (k - a)), .int (nI (hsq (nxG fs nl n fe fb la) h0 (a + i))), .ref mo, .ref mq, .ref mi, .ref mz])), (me, .inl (cI, 6, .inl fe)), (my, .inl (cI, 6, .inl fb)), (mc, .inl (cI, 6, .inl cm)), (mk, .inl (cI, 24, .inl fk)), (mt, .inl (cI, 20, .inl fs)), (mw, .inl (cI, 24, .inl (visA (filI fw (-6) 24) (hsq (nxG fs nl n fe fb la) h0) k)))] := hD
                      refine lv_aload_n hx hb dX8_layTends_111 rfl (lv_at hl 0 rfl) ?_
                      refine lv_iload_n hx hb dX8_layTends_112 rfl (lv_at hl 1 rfl) ?_
                      refine cal_i (run_V (As := [.int (nI (hsq (nxG fs nl n fe fb la) h0 (a + i)))]) (rest := []) SF (c_nextOf l D cI cJ cZ cG cM o me ml mb mt ms mp my mc mk mw mo mq mi mz fi si sn la (nI a) (nI (k - a)) (nI (hsq (nxG fs nl n fe fb la) h0 (a + i))) n nl (nI (hsq (nxG fs nl n fe fb la) h0 (a + i))) fe fb cm fk fs hV h1 h6) (cwV 1 hts gX8_layTends_X8_nextOf rfl rfl rfl (by decide +kernel) ⟨Nat.le_of_ble_eq_true rfl, Nat.le_of_ble_eq_true rfl⟩) hN hK hP hD [0, 1, 2, 3, 4, 5] rfl (by decide) 8 0 rfl rfl rfl rfl hl.1 rfl (Nat.le_of_ble_eq_true rfl) dX8_layTends_113 ⟨Nat.le_of_ble_eq_true rfl, Nat.le_of_ble_eq_true rfl⟩) ⟨rfl, rfl⟩ hP hD hS hA [0, 1, 2, 3, 4, 5] rfl (fun _ => rfl) (fun r113 u113 H locs hw hP hD hS => ?_)
                      have hP : va_P D vwCl [(o, .inr (8, [.int (nI n), .ref me, .ref ml, .ref mb, .int fi, .int (nI nl), .ref mt, .int si, .ref ms, .int sn, .ref mp, .ref my, .ref mc, .int la, .ref mk, .ref mw, .int (nI a), .int (nI (k - a)), .int (nI (hsq (nxG fs nl n fe fb la) h0 (a + i))), .ref mo, .ref mq, .ref mi, .ref mz])), (me, .inl (cI, 6, .inl fe)), (my, .inl (cI, 6, .inl fb)), (mc, .inl (cI, 6, .inl u113.1)), (mk, .inl (cI, 24, .inl u113.2)), (mt, .inl (cI, 20, .inl fs)), (mw, .inl (cI, 24, .inl (visA (filI fw (-6) 24) (hsq (nxG fs nl n fe fb la) h0) k)))] H := hP
                      have hD : va_D A [(o, .inr (8, [.int (nI n), .ref me, .ref ml, .ref mb, .int fi, .int (nI nl), .ref mt, .int si, .ref ms, .int sn, .ref mp, .ref my, .ref mc, .int la, .ref mk, .ref mw, .int (nI a), .int (nI (k - a)), .int (nI (hsq (nxG fs nl n fe fb la) h0 (a + i))), .ref mo, .ref mq, .ref mi, .ref mz])), (me, .inl (cI, 6, .inl fe)), (my, .inl (cI, 6, .inl fb)), (mc, .inl (cI, 6, .inl u113.1)), (mk, .inl (cI, 24, .inl u113.2)), (mt, .inl (cI, 20, .inl fs)), (mw, .inl (cI, 24, .inl (visA (filI fw (-6) 24) (hsq (nxG fs nl n fe fb la) h0) k)))] := hD
                      have hw : r113 = nI (hsq (nxG fs nl n fe fb la) h0 (a + i + 1)) := hw.trans (hsq_succ (F := (nxG fs nl n fe fb la)) (FR_G _ _ _ _ _ _) h0 (a + i))
                      subst hw
                      refine lv_istore_n (lv' := [(2, .int (nI (hsq (nxG fs nl n fe fb la) h0 (a + i + 1)))), (0, .ref o), (4, .int (nI i))]) hx hb dX8_layTends_116 rfl hl (by decide) rfl (fun ls hl => ?_)
                      refine lv_iinc (v := nI (i + 1)) (lv' := [(4, .int (nI (i + 1))), (2, .int (nI (hsq (nxG fs nl n fe fb la) h0 (a + i + 1)))), (0, .ref o)]) hx hb dX8_layTends_117 hl (k := 2) rfl (nI_1 i) (by decide) rfl (fun ls hl => ?_)
                      refine lv_goto (tgt := 82) hx hb dX8_layTends_120 (by decide) ?_
                      exact ih82 (i + 1) (hsq (nxG fs nl n fe fb la) h0 (a + i)) u113.1 u113.2 ((by omega)) (⟨a + i, by omega, by omega, rfl⟩) ((fun k9 z1 z2 => by rcases Nat.lt_or_ge k9 (a + i) with q | q; (have := hno k9 z1 q; omega); (rw [show k9 = a + i by omega]; exact Nat.le_refl _))) ((by omega)) (by omega) _ _ hP hD hS _ (lv_sub hl [2, 1, 0] rfl)
              have e8 : nI (hsq (nxG fs nl n fe fb la) h0 k) = nI (hsq (nxG fs nl n fe fb la) h0 (a + 0)) := congrArg nI hxa.symm
              have hl : lv_has ls 5 [(4, .int (nI 0)), (0, .ref o), (1, .int (nI h0)), (2, .int (nI (hsq (nxG fs nl n fe fb la) h0 (a + 0)))), (3, .int (nI k))] := by rw [← e8]; exact hl
              exact L82 _ 0 (hsq (nxG fs nl n fe fb la) h0 k) cm fk ((Nat.zero_le _)) (⟨a, Nat.le_refl a, ha, hxa⟩) ((fun k9 z1 z2 => by omega)) ((by omega)) (Nat.lt_succ_self _) _ _ hP hD hS _ (lv_sub hl [1, 3, 0] rfl)
            · have hnv : ∀ a9, a9 < k → (hsq (nxG fs nl n fe fb la) h0) a9 ≠ (hsq (nxG fs nl n fe fb la) h0) k := fun a9 z1 z2 => by rcases vis_cases (filI fw (-6) 24) (hsq (nxG fs nl n fe fb la) h0) k ((hsq (nxG fs nl n fe fb la) h0) k) hi with ⟨b9, y1, y2, y3⟩ | ⟨y1, y2⟩; (rw [y3] at c32; exact c32 (nI_pos' (by omega))); (exact y1 a9 z1 z2)
              have hk24b := inj_24 (inj_s hi hnv) (hsq_le (FR_G _ _ _ _ _ _) hh)
              refine lv_aload_n hx hb dX8_layTends_35 rfl (lv_at hl 0 rfl) ?_
              refine va_get (D := D) (ci := 8) (v := .ref mw) (C := RX8) (T := TX8) (N := 23) hx hb hts hi8 hown hK hP 0 rfl rfl 15 (by decide) hw0 (fun _ h9 => h9) rfl dX8_layTends_36 ?_
              refine lv_iload_n hx hb dX8_layTends_39 rfl (lv_at hl 2 rfl) ?_
              refine lv_iload_n hx hb dX8_layTends_40 rfl (lv_at hl 3 rfl) ?_
              refine iast_n (k := hsq (nxG fs nl n fe fb la) h0 k) hx hb hK hP hD hS 6 0 rfl rfl (by omega) (by omega) dX8_layTends_41 (fun H locs hP hD hS => ?_)
              have hP : va_P D vwCl [(o, .inr (8, [.int (nI n), .ref me, .ref ml, .ref mb, .int fi, .int (nI nl), .ref mt, .int si, .ref ms, .int sn, .ref mp, .ref my, .ref mc, .int la, .ref mk, .ref mw, .int ah, .int ri, .int lh, .ref mo, .ref mq, .ref mi, .ref mz])), (me, .inl (cI, 6, .inl fe)), (my, .inl (cI, 6, .inl fb)), (mc, .inl (cI, 6, .inl cm)), (mk, .inl (cI, 24, .inl fk)), (mt, .inl (cI, 20, .inl fs)), (mw, .inl (cI, 24, .inl (upd (visA (filI fw (-6) 24) (hsq (nxG fs nl n fe fb la) h0) k) (hsq (nxG fs nl n fe fb la) h0 k) (nI k))))] H := hP
              have hD : va_D A [(o, .inr (8, [.int (nI n), .ref me, .ref ml, .ref mb, .int fi, .int (nI nl), .ref mt, .int si, .ref ms, .int sn, .ref mp, .ref my, .ref mc, .int la, .ref mk, .ref mw, .int ah, .int ri, .int lh, .ref mo, .ref mq, .ref mi, .ref mz])), (me, .inl (cI, 6, .inl fe)), (my, .inl (cI, 6, .inl fb)), (mc, .inl (cI, 6, .inl cm)), (mk, .inl (cI, 24, .inl fk)), (mt, .inl (cI, 20, .inl fs)), (mw, .inl (cI, 24, .inl (upd (visA (filI fw (-6) 24) (hsq (nxG fs nl n fe fb la) h0) k) (hsq (nxG fs nl n fe fb la) h0 k) (nI k))))] := hD
              refine lv_aload_n hx hb dX8_layTends_42 rfl (lv_at hl 0 rfl) ?_
              refine lv_iload_n hx hb dX8_layTends_43 rfl (lv_at hl 2 rfl) ?_
              refine cal_i (run_V (As := [.int (nI (hsq (nxG fs nl n fe fb la) h0 k))]) (rest := []) SF (c_nextOf l D cI cJ cZ cG cM o me ml mb mt ms mp my mc mk mw mo mq mi mz fi si sn la ah ri lh n nl (nI (hsq (nxG fs nl n fe fb la) h0 k)) fe fb cm fk fs hV h1 h6) (cwV 1 hts gX8_layTends_X8_nextOf rfl rfl rfl (by decide +kernel) ⟨Nat.le_of_ble_eq_true rfl, Nat.le_of_ble_eq_true rfl⟩) hN hK hP hD [0, 1, 2, 3, 4, 5] rfl (by decide) 8 0 rfl rfl rfl rfl hl.1 rfl (Nat.le_of_ble_eq_true rfl) dX8_layTends_44 ⟨Nat.le_of_ble_eq_true rfl, Nat.le_of_ble_eq_true rfl⟩) ⟨rfl, rfl⟩ hP hD hS hA [0, 1, 2, 3, 4, 5] rfl (fun _ => rfl) (fun r44 u44 H locs hw hP hD hS => ?_)
              have hP : va_P D vwCl [(o, .inr (8, [.int (nI n), .ref me, .ref ml, .ref mb, .int fi, .int (nI nl), .ref mt, .int si, .ref ms, .int sn, .ref mp, .ref my, .ref mc, .int la, .ref mk, .ref mw, .int ah, .int ri, .int lh, .ref mo, .ref mq, .ref mi, .ref mz])), (me, .inl (cI, 6, .inl fe)), (my, .inl (cI, 6, .inl fb)), (mc, .inl (cI, 6, .inl u44.1)), (mk, .inl (cI, 24, .inl u44.2)), (mt, .inl (cI, 20, .inl fs)), (mw, .inl (cI, 24, .inl (upd (visA (filI fw (-6) 24) (hsq (nxG fs nl n fe fb la) h0) k) (hsq (nxG fs nl n fe fb la) h0 k) (nI k))))] H := hP
              have hD : va_D A [(o, .inr (8, [.int (nI n), .ref me, .ref ml, .ref mb, .int fi, .int (nI nl), .ref mt, .int si, .ref ms, .int sn, .ref mp, .ref my, .ref mc, .int la, .ref mk, .ref mw, .int ah, .int ri, .int lh, .ref mo, .ref mq, .ref mi, .ref mz])), (me, .inl (cI, 6, .inl fe)), (my, .inl (cI, 6, .inl fb)), (mc, .inl (cI, 6, .inl u44.1)), (mk, .inl (cI, 24, .inl u44.2)), (mt, .inl (cI, 20, .inl fs)), (mw, .inl (cI, 24, .inl (upd (visA (filI fw (-6) 24) (hsq (nxG fs nl n fe fb la) h0) k) (hsq (nxG fs nl n fe fb la) h0 k) (nI k))))] := hD
              have hw : r44 = nI (hsq (nxG fs nl n fe fb la) h0 (k + 1)) := hw.trans (hsq_succ (F := (nxG fs nl n fe fb la)) (FR_G _ _ _ _ _ _) h0 (k))
              subst hw
              refine lv_istore_n (lv' := [(2, .int (nI (hsq (nxG fs nl n fe fb la) h0 (k + 1)))), (0, .ref o), (1, .int (nI h0)), (3, .int (nI k))]) hx hb dX8_layTends_47 rfl hl (by decide) rfl (fun ls hl => ?_)
              refine lv_iinc (v := nI (k + 1)) (lv' := [(3, .int (nI (k + 1))), (2, .int (nI (hsq (nxG fs nl n fe fb la) h0 (k + 1)))), (0, .ref o), (1, .int (nI h0))]) hx hb dX8_layTends_48 hl (k := 3) rfl (nI_1 k) (by decide) rfl (fun ls hl => ?_)
              refine lv_goto (tgt := 26) hx hb dX8_layTends_51 (by decide) ?_
              exact ih26 (k + 1) u44.1 u44.2 ((inj_s hi hnv)) (by omega) _ _ hP hD hS _ (lv_sub hl [2, 3, 1, 0] rfl)
        exact L26 _ 0 cm fk inj_0 (Nat.lt_succ_self _) _ _ hP hD hS _ (lv_sub hl [2, 3, 1, 0] rfl)
      · refine lv_aload_n hx hb dX8_layTends_8 rfl (lv_at hl 0 rfl) ?_
        refine va_get (D := D) (ci := 8) (v := .ref mw) (C := RX8) (T := TX8) (N := 23) hx hb hts hi8 hown hK hP 0 rfl rfl 15 (by decide) hw0 (fun _ h9 => h9) rfl dX8_layTends_9 ?_
        refine lv_iload_n hx hb dX8_layTends_12 rfl (lv_at hl 2 rfl) ?_
        refine lv_bipush (v := (-6)) hx hb dX8_layTends_13 (by decide) ?_
        refine iast_n (k := k) hx hb hK hP hD hS 6 0 rfl rfl (by omega) (by omega) dX8_layTends_15 (fun H locs hP hD hS => ?_)
        have hP : va_P D vwCl [(o, .inr (8, [.int (nI n), .ref me, .ref ml, .ref mb, .int fi, .int (nI nl), .ref mt, .int si, .ref ms, .int sn, .ref mp, .ref my, .ref mc, .int la, .ref mk, .ref mw, .int ah, .int ri, .int lh, .ref mo, .ref mq, .ref mi, .ref mz])), (me, .inl (cI, 6, .inl fe)), (my, .inl (cI, 6, .inl fb)), (mc, .inl (cI, 6, .inl cm)), (mk, .inl (cI, 24, .inl fk)), (mt, .inl (cI, 20, .inl fs)), (mw, .inl (cI, 24, .inl (upd (filI fw (-6) k) k ((-6)))))] H := hP
        have hD : va_D A [(o, .inr (8, [.int (nI n), .ref me, .ref ml, .ref mb, .int fi, .int (nI nl), .ref mt, .int si, .ref ms, .int sn, .ref mp, .ref my, .ref mc, .int la, .ref mk, .ref mw, .int ah, .int ri, .int lh, .ref mo, .ref mq, .ref mi, .ref mz])), (me, .inl (cI, 6, .inl fe)), (my, .inl (cI, 6, .inl fb)), (mc, .inl (cI, 6, .inl cm)), (mk, .inl (cI, 24, .inl fk)), (mt, .inl (cI, 20, .inl fs)), (mw, .inl (cI, 24, .inl (upd (filI fw (-6) k) k ((-6)))))] := hD
        refine lv_iinc (v := nI (k + 1)) (lv' := [(2, .int (nI (k + 1))), (0, .ref o), (1, .int (nI h0))]) hx hb dX8_layTends_16 hl (k := 2) rfl (nI_1 k) (by decide) rfl (fun ls hl => ?_)
        refine lv_goto (tgt := 2) hx hb dX8_layTends_19 (by decide) ?_
        exact ih2 (k + 1) ((by omega)) (by omega) _ _ hP hD hS _ (lv_sub hl [1, 2, 0] rfl)
  exact L2 _ 0 ((by omega)) (Nat.lt_succ_self _) _ _ hP hD hS _ (lv_sub hl [1, 2, 0] rfl)

abbrev rm_X7_tends : Room := { frames := 5, cells := 0, slots := 0, locals := 118 }
set_option maxHeartbeats 1000000 in
set_option maxRecDepth 100000 in
theorem o_tends (l : Launch) (D : va_G) (cI cJ cZ cG cM : ClassId) (xo pd b rg ch cn im : Nat) (rl rf : Nat) (ah le lst : Int32) (bt bc bs : Nat) (hg : Int32) (g ge gl gb gw gsw gsh : Nat) (fi : Int32) (n ns : Nat) (sg nl : Nat) (fw cm fk fs fe fl : Nat → Int32) (hV : VL fs nl) (h1 : 1 ≤ n) (h6 : n ≤ 6) (x y : Int32) :
    CI l yX7_tends wsX7_tends rm_X7_tends D [(cI, .int), (cJ, .long), (cZ, .boolean), (cG, .object "LatestSets$Guild"), (cM, .array .int)] [(xo, .inr (7, [.ref g, .ref pd, .ref b, .ref rg, .ref ch, .ref cn, .ref im])), (rg, .inr (6, [.ref b, .ref rl, .ref rf, .int ah, .int le, .int lst])), (rf, .inl (cI, 24, .inl fw)), (b, .inr (0, [.ref g, .ref bt, .ref bc, .ref bs, .int hg])), (g, .inr (3, [.ref ge, .ref gl, .ref gb, .ref gw, .ref gsw, .ref gsh, .int (nI ns), .int (nI n), .int fi])), (ge, .inl (cI, 6, .inl fe)), (gl, .inl (cI, 6, .inl fl)), (bc, .inl (cI, 6, .inl cm)), (bs, .inl (cI, 20, .inl fk)), (gw, .inr (4, [.ref sg, .int (nI nl)])), (sg, .inl (cI, 20, .inl fs))] [.ref xo, .int x, .int y] (S := ((Nat → Int32) × (Nat → Int32) × (Nat → Int32) × Int32 × Int32 × Int32 × Int32)) (fun r u => (¬ ((nI 0 ≤ x ∧ x ≤ nI 23) ∧ (nI 0 ≤ y ∧ y ≤ nI 2)) ∧ r = (-2)) ∨ (((nI 0 ≤ x ∧ x ≤ nI 23) ∧ (nI 0 ≤ y ∧ y ≤ nI 2)) ∧ ∃ w a m, TDM (hsq (nxF fs nl n fe fl (nI 0)) x.toNatClampNeg) w a m ∧ r = (if y = nI 0 then nI a else if y = nI 1 then nI (w - a) else nI m))) (fun u => [(xo, .inr (7, [.ref g, .ref pd, .ref b, .ref rg, .ref ch, .ref cn, .ref im])), (rg, .inr (6, [.ref b, .ref rl, .ref rf, .int u.2.2.2.2.1, .int u.2.2.2.2.2.1, .int u.2.2.2.2.2.2])), (rf, .inl (cI, 24, .inl u.1)), (b, .inr (0, [.ref g, .ref bt, .ref bc, .ref bs, .int u.2.2.2.1])), (g, .inr (3, [.ref ge, .ref gl, .ref gb, .ref gw, .ref gsw, .ref gsh, .int (nI ns), .int (nI n), .int fi])), (ge, .inl (cI, 6, .inl fe)), (gl, .inl (cI, 6, .inl fl)), (bc, .inl (cI, 6, .inl u.2.1)), (bs, .inl (cI, 20, .inl u.2.2.1)), (gw, .inr (4, [.ref sg, .int (nI nl)])), (sg, .inl (cI, 20, .inl fs))]) := by
  refine si_of (cc := cX7_tends) (maxL := 3) (by decide) rfl (Nat.le_of_ble_eq_true rfl) ?_
  intro p e s m args below meth c A ls Q E hret
  obtain ⟨hx, hb, -, hml, hown, hts, -, hin, hA, hK, hP, hD, hS, hl, hN⟩ := E
  have hown : s.vm.findClass RX7 = some m.cls := hown
  have hl : lv_has ls 3 [(0, .ref xo), (1, .int x), (2, .int y)] := hl
  have SF : CallFix p m c cX7_tends 3 s args wsX7_tends RX7 := ⟨hx, hb, hml, hown, hts⟩
  have hw0 := hts (.fieldLink RX7 37 "LatestSets" "ring" "LLatestSets$Ring;") (by decide +kernel)
  have hi7 : ∀ x ∈ wsX70, x ∈ wsX7_tends := by decide +kernel
  have hw2 := hts (.fieldLink RX7 15 "LatestSets" "guild" "LLatestSets$Guild;") (by decide +kernel)
  have hw3 := hts (.fieldLink RX7 91 "LatestSets$Guild" "law" "LLatestSets$Law;") (by decide +kernel)
  have hi3 : ∀ x ∈ wsX30, x ∈ wsX7_tends := by decide +kernel
  have hw5 := hts (.fieldLink RX7 133 "LatestSets$Ring" "least" "I") (by decide +kernel)
  have hi6 : ∀ x ∈ wsX60, x ∈ wsX7_tends := by decide +kernel
  have hw7 := hts (.fieldLink RX7 132 "LatestSets$Ring" "length" "I") (by decide +kernel)
  have hw8 := hts (.fieldLink RX7 129 "LatestSets$Ring" "ahead" "I") (by decide +kernel)
  refine lv_iload_n hx hb dX7_tends_0 rfl (lv_at hl 1 rfl) ?_
  refine cal_i (run_S (As := [.int x]) (rest := []) SF (c_isHour l D cI cJ cZ cG cM x) (va_cwS 1 hts gX7_tends_X7_isHour rfl rfl rfl (by decide +kernel) ⟨Nat.le_of_ble_eq_true rfl, Nat.le_of_ble_eq_true rfl⟩) hN hK hP hD [] rfl (by decide) rfl hl.1 rfl (Nat.le_of_ble_eq_true rfl) dX7_tends_1 ⟨Nat.le_of_ble_eq_true rfl, Nat.le_of_ble_eq_true rfl⟩) ⟨rfl, rfl⟩ hP hD hS hA [] rfl (fun _ => rfl) (fun r1 _ H locs hw hP hD hS => ?_)
  have hP : va_P D vwCl [(xo, .inr (7, [.ref g, .ref pd, .ref b, .ref rg, .ref ch, .ref cn, .ref im])), (rg, .inr (6, [.ref b, .ref rl, .ref rf, .int ah, .int le, .int lst])), (rf, .inl (cI, 24, .inl fw)), (b, .inr (0, [.ref g, .ref bt, .ref bc, .ref bs, .int hg])), (g, .inr (3, [.ref ge, .ref gl, .ref gb, .ref gw, .ref gsw, .ref gsh, .int (nI ns), .int (nI n), .int fi])), (ge, .inl (cI, 6, .inl fe)), (gl, .inl (cI, 6, .inl fl)), (bc, .inl (cI, 6, .inl cm)), (bs, .inl (cI, 20, .inl fk)), (gw, .inr (4, [.ref sg, .int (nI nl)])), (sg, .inl (cI, 20, .inl fs))] H := hP
  have hD : va_D A [(xo, .inr (7, [.ref g, .ref pd, .ref b, .ref rg, .ref ch, .ref cn, .ref im])), (rg, .inr (6, [.ref b, .ref rl, .ref rf, .int ah, .int le, .int lst])), (rf, .inl (cI, 24, .inl fw)), (b, .inr (0, [.ref g, .ref bt, .ref bc, .ref bs, .int hg])), (g, .inr (3, [.ref ge, .ref gl, .ref gb, .ref gw, .ref gsw, .ref gsh, .int (nI ns), .int (nI n), .int fi])), (ge, .inl (cI, 6, .inl fe)), (gl, .inl (cI, 6, .inl fl)), (bc, .inl (cI, 6, .inl cm)), (bs, .inl (cI, 20, .inl fk)), (gw, .inr (4, [.ref sg, .int (nI nl)])), (sg, .inl (cI, 20, .inl fs))] := hD
  rcases hw with ⟨b1, rfl⟩ | ⟨b1, rfl⟩
  · obtain ⟨h0, k1h0, k2h0, rfl⟩ := nI_rng (by omega) (by omega) b1.1 b1.2
    refine lv_if_eq (tgt := 16) hx hb dX7_tends_4 (by decide) (fun c9 => absurd c9 (by decide)) (fun _ => ?_)
    refine lv_iload_n hx hb dX7_tends_7 rfl (lv_at hl 2 rfl) ?_
    refine lv_iconst (v := nI 0) hx hb dX7_tends_8 (by decide) ?_
    refine lv_iconst (v := nI 2) hx hb dX7_tends_9 (by decide) ?_
    refine cal_i (run_S (As := [.int y, .int (nI 0), .int (nI 2)]) (rest := []) SF (c_within l D cI cJ cZ cG cM y (nI 0) (nI 2)) (va_cwS 3 hts gX7_tends_X7_within rfl rfl rfl (by decide +kernel) ⟨Nat.le_of_ble_eq_true rfl, Nat.le_of_ble_eq_true rfl⟩) hN hK hP hD [] rfl (by decide) rfl hl.1 rfl (Nat.le_of_ble_eq_true rfl) dX7_tends_10 ⟨Nat.le_of_ble_eq_true rfl, Nat.le_of_ble_eq_true rfl⟩) ⟨rfl, rfl⟩ hP hD hS hA [] rfl (fun _ => rfl) (fun r10 _ H locs hw hP hD hS => ?_)
    have hP : va_P D vwCl [(xo, .inr (7, [.ref g, .ref pd, .ref b, .ref rg, .ref ch, .ref cn, .ref im])), (rg, .inr (6, [.ref b, .ref rl, .ref rf, .int ah, .int le, .int lst])), (rf, .inl (cI, 24, .inl fw)), (b, .inr (0, [.ref g, .ref bt, .ref bc, .ref bs, .int hg])), (g, .inr (3, [.ref ge, .ref gl, .ref gb, .ref gw, .ref gsw, .ref gsh, .int (nI ns), .int (nI n), .int fi])), (ge, .inl (cI, 6, .inl fe)), (gl, .inl (cI, 6, .inl fl)), (bc, .inl (cI, 6, .inl cm)), (bs, .inl (cI, 20, .inl fk)), (gw, .inr (4, [.ref sg, .int (nI nl)])), (sg, .inl (cI, 20, .inl fs))] H := hP
    have hD : va_D A [(xo, .inr (7, [.ref g, .ref pd, .ref b, .ref rg, .ref ch, .ref cn, .ref im])), (rg, .inr (6, [.ref b, .ref rl, .ref rf, .int ah, .int le, .int lst])), (rf, .inl (cI, 24, .inl fw)), (b, .inr (0, [.ref g, .ref bt, .ref bc, .ref bs, .int hg])), (g, .inr (3, [.ref ge, .ref gl, .ref gb, .ref gw, .ref gsw, .ref gsh, .int (nI ns), .int (nI n), .int fi])), (ge, .inl (cI, 6, .inl fe)), (gl, .inl (cI, 6, .inl fl)), (bc, .inl (cI, 6, .inl cm)), (bs, .inl (cI, 20, .inl fk)), (gw, .inr (4, [.ref sg, .int (nI nl)])), (sg, .inl (cI, 20, .inl fs))] := hD
    rcases hw with ⟨b10, rfl⟩ | ⟨b10, rfl⟩
    · obtain ⟨ky, k1ky, k2ky, rfl⟩ := nI_rng (by omega) (by omega) b10.1 b10.2
      refine lv_if_ne (tgt := 19) hx hb dX7_tends_13 (by decide) (fun _ => ?_) (fun c9 => absurd c9 (by decide))
      refine lv_aload_n hx hb dX7_tends_19 rfl (lv_at hl 0 rfl) ?_
      refine va_get (D := D) (ci := 7) (v := .ref rg) (C := RX7) (T := TX7) (N := 7) hx hb hts hi7 hown hK hP 0 rfl rfl 3 (by decide) hw0 (fun _ h9 => h9) rfl dX7_tends_20 ?_
      refine lv_aload_n hx hb dX7_tends_23 rfl (lv_at hl 0 rfl) ?_
      refine va_get (D := D) (ci := 7) (v := .ref g) (C := RX7) (T := TX7) (N := 7) hx hb hts hi7 hown hK hP 0 rfl rfl 0 (by decide) hw2 (fun _ h9 => h9) rfl dX7_tends_24 ?_
      refine va_get (D := D) (ci := 3) (v := .ref gw) (C := RX3) (T := TX3) (N := 9) hx hb hts hi3 hown hK hP 4 rfl rfl 3 (by decide) hw3 (fun _ h9 => h9) rfl dX7_tends_27 ?_
      refine lv_iload_n hx hb dX7_tends_30 rfl (lv_at hl 1 rfl) ?_
      refine cal_v (run_V (As := [.ref gw, .int (nI h0)]) (rest := []) SF (c_follow l D cI cJ cZ cG cM rg rl rf ah le lst b bt bc bs g ge gl gb gw gsw gsh fi n ns gw sg nl hg fw cm fk fs fe fl hV h1 h6 h0 (by omega)) (cwV 2 hts gX7_tends_X6_follow rfl rfl rfl (by decide +kernel) ⟨Nat.le_of_ble_eq_true rfl, Nat.le_of_ble_eq_true rfl⟩) hN hK hP hD [1, 2, 3, 4, 5, 6, 7, 8, 9, 10] rfl (by decide) 6 1 rfl rfl rfl rfl hl.1 rfl (Nat.le_of_ble_eq_true rfl) dX7_tends_31 ⟨Nat.le_of_ble_eq_true rfl, Nat.le_of_ble_eq_true rfl⟩) ⟨rfl, rfl⟩ hP hD hS hA [1, 2, 3, 4, 5, 6, 7, 8, 9, 10] rfl (fun _ => rfl) (fun u31 H locs hw hP hD hS => ?_)
      have hP : va_P D vwCl [(xo, .inr (7, [.ref g, .ref pd, .ref b, .ref rg, .ref ch, .ref cn, .ref im])), (rg, .inr (6, [.ref b, .ref rl, .ref rf, .int u31.2.2.2.2.1, .int u31.2.2.2.2.2.1, .int u31.2.2.2.2.2.2])), (rf, .inl (cI, 24, .inl u31.1)), (b, .inr (0, [.ref g, .ref bt, .ref bc, .ref bs, .int u31.2.2.2.1])), (g, .inr (3, [.ref ge, .ref gl, .ref gb, .ref gw, .ref gsw, .ref gsh, .int (nI ns), .int (nI n), .int fi])), (ge, .inl (cI, 6, .inl fe)), (gl, .inl (cI, 6, .inl fl)), (bc, .inl (cI, 6, .inl u31.2.1)), (bs, .inl (cI, 20, .inl u31.2.2.1)), (gw, .inr (4, [.ref sg, .int (nI nl)])), (sg, .inl (cI, 20, .inl fs))] H := hP
      have hD : va_D A [(xo, .inr (7, [.ref g, .ref pd, .ref b, .ref rg, .ref ch, .ref cn, .ref im])), (rg, .inr (6, [.ref b, .ref rl, .ref rf, .int u31.2.2.2.2.1, .int u31.2.2.2.2.2.1, .int u31.2.2.2.2.2.2])), (rf, .inl (cI, 24, .inl u31.1)), (b, .inr (0, [.ref g, .ref bt, .ref bc, .ref bs, .int u31.2.2.2.1])), (g, .inr (3, [.ref ge, .ref gl, .ref gb, .ref gw, .ref gsw, .ref gsh, .int (nI ns), .int (nI n), .int fi])), (ge, .inl (cI, 6, .inl fe)), (gl, .inl (cI, 6, .inl fl)), (bc, .inl (cI, 6, .inl u31.2.1)), (bs, .inl (cI, 20, .inl u31.2.2.1)), (gw, .inr (4, [.ref sg, .int (nI nl)])), (sg, .inl (cI, 20, .inl fs))] := hD
      refine lv_iload_n hx hb dX7_tends_34 rfl (lv_at hl 2 rfl) ?_
      refine if_ne_n (a := ky) (tgt := 46) hx hb dX7_tends_35 (by decide) (by omega) (fun c35 => ?_) (fun c35 => ?_)
      · refine lv_iload_n hx hb dX7_tends_46 rfl (lv_at hl 2 rfl) ?_
        refine lv_iconst (v := nI 1) hx hb dX7_tends_47 (by decide) ?_
        refine icmp_ne_n (a := ky) (b := 1) (tgt := 61) hx hb dX7_tends_48 (by decide) (by omega) (by omega) (fun c48 => ?_) (fun c48 => ?_)
        · refine lv_aload_n hx hb dX7_tends_61 rfl (lv_at hl 0 rfl) ?_
          refine va_get (D := D) (ci := 7) (v := .ref rg) (C := RX7) (T := TX7) (N := 7) hx hb hts hi7 hown hK hP 0 rfl rfl 3 (by decide) hw0 (fun _ h9 => h9) rfl dX7_tends_62 ?_
          refine va_get (D := D) (ci := 6) (v := .int u31.2.2.2.2.2.2) (C := RX6) (T := TX6) (N := 6) hx hb hts hi6 hown hK hP 1 rfl rfl 5 (by decide) hw5 (fun _ h9 => h9) rfl dX7_tends_65 ?_
          obtain ⟨w9, a9, m9, g1, g2, g3, g4⟩ := hw
          exact hret u31.2.2.2.2.2.2 ((u31.1, u31.2.1, u31.2.2.1, u31.2.2.2.1, u31.2.2.2.2.1, u31.2.2.2.2.2.1, u31.2.2.2.2.2.2)) _ _ _ _ dX7_tends_68 (Or.inr ⟨⟨b1, b10⟩, w9, a9, m9, by rw [nI_clamp (by omega)]; exact g1, by rw [if_neg (by rw [nI_eq (by omega) (by omega)]; omega), if_neg (by rw [nI_eq (by omega) (by omega)]; omega)]; exact g4⟩) hP hD hS
        · refine lv_aload_n hx hb dX7_tends_51 rfl (lv_at hl 0 rfl) ?_
          refine va_get (D := D) (ci := 7) (v := .ref rg) (C := RX7) (T := TX7) (N := 7) hx hb hts hi7 hown hK hP 0 rfl rfl 3 (by decide) hw0 (fun _ h9 => h9) rfl dX7_tends_52 ?_
          refine va_get (D := D) (ci := 6) (v := .int u31.2.2.2.2.2.1) (C := RX6) (T := TX6) (N := 6) hx hb hts hi6 hown hK hP 1 rfl rfl 4 (by decide) hw7 (fun _ h9 => h9) rfl dX7_tends_55 ?_
          refine lv_goto (tgt := 68) hx hb dX7_tends_58 (by decide) ?_
          obtain ⟨w9, a9, m9, g1, g2, g3, g4⟩ := hw
          exact hret u31.2.2.2.2.2.1 ((u31.1, u31.2.1, u31.2.2.1, u31.2.2.2.1, u31.2.2.2.2.1, u31.2.2.2.2.2.1, u31.2.2.2.2.2.2)) _ _ _ _ dX7_tends_68 (Or.inr ⟨⟨b1, b10⟩, w9, a9, m9, by rw [nI_clamp (by omega)]; exact g1, by rw [if_neg (by rw [nI_eq (by omega) (by omega)]; omega), if_pos (by rw [c48])]; exact g3⟩) hP hD hS
      · refine lv_aload_n hx hb dX7_tends_38 rfl (lv_at hl 0 rfl) ?_
        refine va_get (D := D) (ci := 7) (v := .ref rg) (C := RX7) (T := TX7) (N := 7) hx hb hts hi7 hown hK hP 0 rfl rfl 3 (by decide) hw0 (fun _ h9 => h9) rfl dX7_tends_39 ?_
        refine va_get (D := D) (ci := 6) (v := .int u31.2.2.2.2.1) (C := RX6) (T := TX6) (N := 6) hx hb hts hi6 hown hK hP 1 rfl rfl 3 (by decide) hw8 (fun _ h9 => h9) rfl dX7_tends_42 ?_
        obtain ⟨w9, a9, m9, g1, g2, g3, g4⟩ := hw
        exact hret u31.2.2.2.2.1 ((u31.1, u31.2.1, u31.2.2.1, u31.2.2.2.1, u31.2.2.2.2.1, u31.2.2.2.2.2.1, u31.2.2.2.2.2.2)) _ _ _ _ dX7_tends_45 (Or.inr ⟨⟨b1, b10⟩, w9, a9, m9, by rw [nI_clamp (by omega)]; exact g1, by rw [if_pos (by rw [c35])]; exact g2⟩) hP hD hS
    · refine lv_if_ne (tgt := 19) hx hb dX7_tends_13 (by decide) (fun c9 => absurd c9 (by decide)) (fun _ => ?_)
      refine lv_bipush (v := (-2)) hx hb dX7_tends_16 (by decide) ?_
      exact hret ((-2)) ((fw, cm, fk, hg, ah, le, lst)) _ _ _ _ dX7_tends_18 (Or.inl ⟨fun z => b10 z.2, rfl⟩) hP hD hS
  · refine lv_if_eq (tgt := 16) hx hb dX7_tends_4 (by decide) (fun _ => ?_) (fun c9 => absurd (by decide) c9)
    refine lv_bipush (v := (-2)) hx hb dX7_tends_16 (by decide) ?_
    exact hret ((-2)) ((fw, cm, fk, hg, ah, le, lst)) _ _ _ _ dX7_tends_18 (Or.inl ⟨fun z => b1 z.1, rfl⟩) hP hD hS

abbrev rm_X8_tends : Room := { frames := 4, cells := 0, slots := 0, locals := 99 }
set_option maxHeartbeats 1000000 in
set_option maxRecDepth 100000 in
theorem m_tends (l : Launch) (D : va_G) (cI cJ cZ cG cM : ClassId) (o me ml mb mt ms mp my mc mk mw mo mq mi mz : Nat) (fi si sn la ah ri lh : Int32) (n nl : Nat) (fe fb cm fk fs fw fl : Nat → Int32) (hV : VL fs nl) (h1 : 1 ≤ n) (h6 : n ≤ 6) (x y : Int32) :
    CI l yX8_tends wsX8_tends rm_X8_tends D [(cI, .int), (cJ, .long), (cZ, .boolean), (cG, .object "LatestSets$Guild"), (cM, .array .int)] [(o, .inr (8, [.int (nI n), .ref me, .ref ml, .ref mb, .int fi, .int (nI nl), .ref mt, .int si, .ref ms, .int sn, .ref mp, .ref my, .ref mc, .int la, .ref mk, .ref mw, .int ah, .int ri, .int lh, .ref mo, .ref mq, .ref mi, .ref mz])), (me, .inl (cI, 6, .inl fe)), (my, .inl (cI, 6, .inl fb)), (mc, .inl (cI, 6, .inl cm)), (mk, .inl (cI, 24, .inl fk)), (mt, .inl (cI, 20, .inl fs)), (mw, .inl (cI, 24, .inl fw)), (ml, .inl (cI, 6, .inl fl))] [.ref o, .int x, .int y] (S := (Int32 × (Nat → Int32) × (Nat → Int32) × (Nat → Int32) × (Nat → Int32) × Int32 × Int32 × Int32)) (fun r u => (¬ ((nI 0 ≤ x ∧ x ≤ nI 23) ∧ (nI 0 ≤ y ∧ y ≤ nI 2)) ∧ r = (-2)) ∨ (((nI 0 ≤ x ∧ x ≤ nI 23) ∧ (nI 0 ≤ y ∧ y ≤ nI 2)) ∧ ∃ w a m, TDM (hsq (nxG fs nl n fe fl (nI 0)) x.toNatClampNeg) w a m ∧ r = (if y = nI 0 then nI a else if y = nI 1 then nI (w - a) else nI m))) (fun u => [(o, .inr (8, [.int (nI n), .ref me, .ref ml, .ref mb, .int fi, .int (nI nl), .ref mt, .int si, .ref ms, .int sn, .ref mp, .ref my, .ref mc, .int u.1, .ref mk, .ref mw, .int u.2.2.2.2.2.1, .int u.2.2.2.2.2.2.1, .int u.2.2.2.2.2.2.2, .ref mo, .ref mq, .ref mi, .ref mz])), (me, .inl (cI, 6, .inl fe)), (my, .inl (cI, 6, .inl u.2.1)), (mc, .inl (cI, 6, .inl u.2.2.1)), (mk, .inl (cI, 24, .inl u.2.2.2.1)), (mt, .inl (cI, 20, .inl fs)), (mw, .inl (cI, 24, .inl u.2.2.2.2.1)), (ml, .inl (cI, 6, .inl fl))]) := by
  refine si_of (cc := cX8_tends) (maxL := 3) (by decide) rfl (Nat.le_of_ble_eq_true rfl) ?_
  intro p e s m args below meth c A ls Q E hret
  obtain ⟨hx, hb, -, hml, hown, hts, -, hin, hA, hK, hP, hD, hS, hl, hN⟩ := E
  have hown : s.vm.findClass RX8 = some m.cls := hown
  have hl : lv_has ls 3 [(0, .ref o), (1, .int x), (2, .int y)] := hl
  have SF : CallFix p m c cX8_tends 3 s args wsX8_tends RX8 := ⟨hx, hb, hml, hown, hts⟩
  have hw0 := hts (.fieldLink RX8 129 "LatestSetsModel" "leastHour" "I") (by decide +kernel)
  have hi8 : ∀ x ∈ wsX80, x ∈ wsX8_tends := by decide +kernel
  have hw2 := hts (.fieldLink RX8 126 "LatestSetsModel" "ring" "I") (by decide +kernel)
  have hw3 := hts (.fieldLink RX8 123 "LatestSetsModel" "ahead" "I") (by decide +kernel)
  refine lv_iload_n hx hb dX8_tends_0 rfl (lv_at hl 1 rfl) ?_
  refine cal_i (run_S (As := [.int x]) (rest := []) SF (c_isHour8 l D cI cJ cZ cG cM x) (va_cwS 1 hts gX8_tends_X8_isHour rfl rfl rfl (by decide +kernel) ⟨Nat.le_of_ble_eq_true rfl, Nat.le_of_ble_eq_true rfl⟩) hN hK hP hD [] rfl (by decide) rfl hl.1 rfl (Nat.le_of_ble_eq_true rfl) dX8_tends_1 ⟨Nat.le_of_ble_eq_true rfl, Nat.le_of_ble_eq_true rfl⟩) ⟨rfl, rfl⟩ hP hD hS hA [] rfl (fun _ => rfl) (fun r1 _ H locs hw hP hD hS => ?_)
  have hP : va_P D vwCl [(o, .inr (8, [.int (nI n), .ref me, .ref ml, .ref mb, .int fi, .int (nI nl), .ref mt, .int si, .ref ms, .int sn, .ref mp, .ref my, .ref mc, .int la, .ref mk, .ref mw, .int ah, .int ri, .int lh, .ref mo, .ref mq, .ref mi, .ref mz])), (me, .inl (cI, 6, .inl fe)), (my, .inl (cI, 6, .inl fb)), (mc, .inl (cI, 6, .inl cm)), (mk, .inl (cI, 24, .inl fk)), (mt, .inl (cI, 20, .inl fs)), (mw, .inl (cI, 24, .inl fw)), (ml, .inl (cI, 6, .inl fl))] H := hP
  have hD : va_D A [(o, .inr (8, [.int (nI n), .ref me, .ref ml, .ref mb, .int fi, .int (nI nl), .ref mt, .int si, .ref ms, .int sn, .ref mp, .ref my, .ref mc, .int la, .ref mk, .ref mw, .int ah, .int ri, .int lh, .ref mo, .ref mq, .ref mi, .ref mz])), (me, .inl (cI, 6, .inl fe)), (my, .inl (cI, 6, .inl fb)), (mc, .inl (cI, 6, .inl cm)), (mk, .inl (cI, 24, .inl fk)), (mt, .inl (cI, 20, .inl fs)), (mw, .inl (cI, 24, .inl fw)), (ml, .inl (cI, 6, .inl fl))] := hD
  rcases hw with ⟨b1, rfl⟩ | ⟨b1, rfl⟩
  · obtain ⟨h0, k1h0, k2h0, rfl⟩ := nI_rng (by omega) (by omega) b1.1 b1.2
    refine lv_if_eq (tgt := 16) hx hb dX8_tends_4 (by decide) (fun c9 => absurd c9 (by decide)) (fun _ => ?_)
    refine lv_iload_n hx hb dX8_tends_7 rfl (lv_at hl 2 rfl) ?_
    refine lv_iconst (v := nI 0) hx hb dX8_tends_8 (by decide) ?_
    refine lv_iconst (v := nI 2) hx hb dX8_tends_9 (by decide) ?_
    refine cal_i (run_S (As := [.int y, .int (nI 0), .int (nI 2)]) (rest := []) SF (c_in8 l D cI cJ cZ cG cM y (nI 0) (nI 2)) (va_cwS 3 hts gX8_tends_X8_in rfl rfl rfl (by decide +kernel) ⟨Nat.le_of_ble_eq_true rfl, Nat.le_of_ble_eq_true rfl⟩) hN hK hP hD [] rfl (by decide) rfl hl.1 rfl (Nat.le_of_ble_eq_true rfl) dX8_tends_10 ⟨Nat.le_of_ble_eq_true rfl, Nat.le_of_ble_eq_true rfl⟩) ⟨rfl, rfl⟩ hP hD hS hA [] rfl (fun _ => rfl) (fun r10 _ H locs hw hP hD hS => ?_)
    have hP : va_P D vwCl [(o, .inr (8, [.int (nI n), .ref me, .ref ml, .ref mb, .int fi, .int (nI nl), .ref mt, .int si, .ref ms, .int sn, .ref mp, .ref my, .ref mc, .int la, .ref mk, .ref mw, .int ah, .int ri, .int lh, .ref mo, .ref mq, .ref mi, .ref mz])), (me, .inl (cI, 6, .inl fe)), (my, .inl (cI, 6, .inl fb)), (mc, .inl (cI, 6, .inl cm)), (mk, .inl (cI, 24, .inl fk)), (mt, .inl (cI, 20, .inl fs)), (mw, .inl (cI, 24, .inl fw)), (ml, .inl (cI, 6, .inl fl))] H := hP
    have hD : va_D A [(o, .inr (8, [.int (nI n), .ref me, .ref ml, .ref mb, .int fi, .int (nI nl), .ref mt, .int si, .ref ms, .int sn, .ref mp, .ref my, .ref mc, .int la, .ref mk, .ref mw, .int ah, .int ri, .int lh, .ref mo, .ref mq, .ref mi, .ref mz])), (me, .inl (cI, 6, .inl fe)), (my, .inl (cI, 6, .inl fb)), (mc, .inl (cI, 6, .inl cm)), (mk, .inl (cI, 24, .inl fk)), (mt, .inl (cI, 20, .inl fs)), (mw, .inl (cI, 24, .inl fw)), (ml, .inl (cI, 6, .inl fl))] := hD
    rcases hw with ⟨b10, rfl⟩ | ⟨b10, rfl⟩
    · obtain ⟨ky, k1ky, k2ky, rfl⟩ := nI_rng (by omega) (by omega) b10.1 b10.2
      refine lv_if_ne (tgt := 19) hx hb dX8_tends_13 (by decide) (fun _ => ?_) (fun c9 => absurd c9 (by decide))
      refine lv_aload_n hx hb dX8_tends_19 rfl (lv_at hl 0 rfl) ?_
      refine cal_v (run_V (As := []) (rest := []) SF (c_asTold l D cI cJ cZ cG cM o me ml mb mt ms mp my mc mk mw mo mq mi mz fi si sn la ah ri lh n nl fl fb) (cwV 0 hts gX8_tends_X8_asTold rfl rfl rfl (by decide +kernel) ⟨Nat.le_of_ble_eq_true rfl, Nat.le_of_ble_eq_true rfl⟩) hN hK hP hD [0, 7, 2] rfl (by decide) 8 0 rfl rfl rfl rfl hl.1 rfl (Nat.le_of_ble_eq_true rfl) dX8_tends_20 ⟨Nat.le_of_ble_eq_true rfl, Nat.le_of_ble_eq_true rfl⟩) ⟨rfl, rfl⟩ hP hD hS hA [0, 7, 2] rfl (fun _ => rfl) (fun u20 H locs hw hP hD hS => ?_)
      have hP : va_P D vwCl [(o, .inr (8, [.int (nI n), .ref me, .ref ml, .ref mb, .int fi, .int (nI nl), .ref mt, .int si, .ref ms, .int sn, .ref mp, .ref my, .ref mc, .int (nI 0), .ref mk, .ref mw, .int ah, .int ri, .int lh, .ref mo, .ref mq, .ref mi, .ref mz])), (me, .inl (cI, 6, .inl fe)), (my, .inl (cI, 6, .inl u20)), (mc, .inl (cI, 6, .inl cm)), (mk, .inl (cI, 24, .inl fk)), (mt, .inl (cI, 20, .inl fs)), (mw, .inl (cI, 24, .inl fw)), (ml, .inl (cI, 6, .inl fl))] H := hP
      have hD : va_D A [(o, .inr (8, [.int (nI n), .ref me, .ref ml, .ref mb, .int fi, .int (nI nl), .ref mt, .int si, .ref ms, .int sn, .ref mp, .ref my, .ref mc, .int (nI 0), .ref mk, .ref mw, .int ah, .int ri, .int lh, .ref mo, .ref mq, .ref mi, .ref mz])), (me, .inl (cI, 6, .inl fe)), (my, .inl (cI, 6, .inl u20)), (mc, .inl (cI, 6, .inl cm)), (mk, .inl (cI, 24, .inl fk)), (mt, .inl (cI, 20, .inl fs)), (mw, .inl (cI, 24, .inl fw)), (ml, .inl (cI, 6, .inl fl))] := hD
      have hT := hw
      refine lv_aload_n hx hb dX8_tends_23 rfl (lv_at hl 0 rfl) ?_
      refine lv_iload_n hx hb dX8_tends_24 rfl (lv_at hl 1 rfl) ?_
      refine cal_v (run_V (As := [.int (nI h0)]) (rest := []) SF (c_layTends l D cI cJ cZ cG cM o me ml mb mt ms mp my mc mk mw mo mq mi mz fi si sn (nI 0) ah ri lh n nl fe u20 cm fk fs fw hV h1 h6 h0 (by omega)) (cwV 1 hts gX8_tends_X8_layTends rfl rfl rfl (by decide +kernel) ⟨Nat.le_of_ble_eq_true rfl, Nat.le_of_ble_eq_true rfl⟩) hN hK hP hD [0, 1, 2, 3, 4, 5, 6] rfl (by decide) 8 0 rfl rfl rfl rfl hl.1 rfl (Nat.le_of_ble_eq_true rfl) dX8_tends_25 ⟨Nat.le_of_ble_eq_true rfl, Nat.le_of_ble_eq_true rfl⟩) ⟨rfl, rfl⟩ hP hD hS hA [0, 1, 2, 3, 4, 5, 6] rfl (fun _ => rfl) (fun u25 H locs hw hP hD hS => ?_)
      have hP : va_P D vwCl [(o, .inr (8, [.int (nI n), .ref me, .ref ml, .ref mb, .int fi, .int (nI nl), .ref mt, .int si, .ref ms, .int sn, .ref mp, .ref my, .ref mc, .int (nI 0), .ref mk, .ref mw, .int u25.2.2.2.1, .int u25.2.2.2.2.1, .int u25.2.2.2.2.2, .ref mo, .ref mq, .ref mi, .ref mz])), (me, .inl (cI, 6, .inl fe)), (my, .inl (cI, 6, .inl u20)), (mc, .inl (cI, 6, .inl u25.2.1)), (mk, .inl (cI, 24, .inl u25.2.2.1)), (mt, .inl (cI, 20, .inl fs)), (mw, .inl (cI, 24, .inl u25.1)), (ml, .inl (cI, 6, .inl fl))] H := hP
      have hD : va_D A [(o, .inr (8, [.int (nI n), .ref me, .ref ml, .ref mb, .int fi, .int (nI nl), .ref mt, .int si, .ref ms, .int sn, .ref mp, .ref my, .ref mc, .int (nI 0), .ref mk, .ref mw, .int u25.2.2.2.1, .int u25.2.2.2.2.1, .int u25.2.2.2.2.2, .ref mo, .ref mq, .ref mi, .ref mz])), (me, .inl (cI, 6, .inl fe)), (my, .inl (cI, 6, .inl u20)), (mc, .inl (cI, 6, .inl u25.2.1)), (mk, .inl (cI, 24, .inl u25.2.2.1)), (mt, .inl (cI, 20, .inl fs)), (mw, .inl (cI, 24, .inl u25.1)), (ml, .inl (cI, 6, .inl fl))] := hD
      refine lv_iload_n hx hb dX8_tends_28 rfl (lv_at hl 2 rfl) ?_
      refine if_ne_n (a := ky) (tgt := 39) hx hb dX8_tends_29 (by decide) (by omega) (fun c29 => ?_) (fun c29 => ?_)
      · refine lv_iload_n hx hb dX8_tends_39 rfl (lv_at hl 2 rfl) ?_
        refine lv_iconst (v := nI 1) hx hb dX8_tends_40 (by decide) ?_
        refine icmp_ne_n (a := ky) (b := 1) (tgt := 51) hx hb dX8_tends_41 (by decide) (by omega) (by omega) (fun c41 => ?_) (fun c41 => ?_)
        · refine lv_aload_n hx hb dX8_tends_51 rfl (lv_at hl 0 rfl) ?_
          refine va_get (D := D) (ci := 8) (v := .int u25.2.2.2.2.2) (C := RX8) (T := TX8) (N := 23) hx hb hts hi8 hown hK hP 0 rfl rfl 18 (by decide) hw0 (fun _ h9 => h9) rfl dX8_tends_52 ?_
          obtain ⟨w9, a9, m9, g1, g2, g3, g4⟩ := hw
          exact hret u25.2.2.2.2.2 ((nI 0, u20, u25.2.1, u25.2.2.1, u25.1, u25.2.2.2.1, u25.2.2.2.2.1, u25.2.2.2.2.2)) _ _ _ _ dX8_tends_55 (Or.inr ⟨⟨b1, b10⟩, w9, a9, m9, by rw [nI_clamp (by omega)]; exact (by rw [nxG_cong h1 (fun j hj => hT j (by omega))] at g1; exact g1), by rw [if_neg (by rw [nI_eq (by omega) (by omega)]; omega), if_neg (by rw [nI_eq (by omega) (by omega)]; omega)]; exact g4⟩) hP hD hS
        · refine lv_aload_n hx hb dX8_tends_44 rfl (lv_at hl 0 rfl) ?_
          refine va_get (D := D) (ci := 8) (v := .int u25.2.2.2.2.1) (C := RX8) (T := TX8) (N := 23) hx hb hts hi8 hown hK hP 0 rfl rfl 17 (by decide) hw2 (fun _ h9 => h9) rfl dX8_tends_45 ?_
          refine lv_goto (tgt := 55) hx hb dX8_tends_48 (by decide) ?_
          obtain ⟨w9, a9, m9, g1, g2, g3, g4⟩ := hw
          exact hret u25.2.2.2.2.1 ((nI 0, u20, u25.2.1, u25.2.2.1, u25.1, u25.2.2.2.1, u25.2.2.2.2.1, u25.2.2.2.2.2)) _ _ _ _ dX8_tends_55 (Or.inr ⟨⟨b1, b10⟩, w9, a9, m9, by rw [nI_clamp (by omega)]; exact (by rw [nxG_cong h1 (fun j hj => hT j (by omega))] at g1; exact g1), by rw [if_neg (by rw [nI_eq (by omega) (by omega)]; omega), if_pos (by rw [c41])]; exact g3⟩) hP hD hS
      · refine lv_aload_n hx hb dX8_tends_32 rfl (lv_at hl 0 rfl) ?_
        refine va_get (D := D) (ci := 8) (v := .int u25.2.2.2.1) (C := RX8) (T := TX8) (N := 23) hx hb hts hi8 hown hK hP 0 rfl rfl 16 (by decide) hw3 (fun _ h9 => h9) rfl dX8_tends_33 ?_
        refine lv_goto (tgt := 55) hx hb dX8_tends_36 (by decide) ?_
        obtain ⟨w9, a9, m9, g1, g2, g3, g4⟩ := hw
        exact hret u25.2.2.2.1 ((nI 0, u20, u25.2.1, u25.2.2.1, u25.1, u25.2.2.2.1, u25.2.2.2.2.1, u25.2.2.2.2.2)) _ _ _ _ dX8_tends_55 (Or.inr ⟨⟨b1, b10⟩, w9, a9, m9, by rw [nI_clamp (by omega)]; exact (by rw [nxG_cong h1 (fun j hj => hT j (by omega))] at g1; exact g1), by rw [if_pos (by rw [c29])]; exact g2⟩) hP hD hS
    · refine lv_if_ne (tgt := 19) hx hb dX8_tends_13 (by decide) (fun c9 => absurd c9 (by decide)) (fun _ => ?_)
      refine lv_bipush (v := (-2)) hx hb dX8_tends_16 (by decide) ?_
      exact hret ((-2)) ((la, fb, cm, fk, fw, ah, ri, lh)) _ _ _ _ dX8_tends_18 (Or.inl ⟨fun z => b10 z.2, rfl⟩) hP hD hS
  · refine lv_if_eq (tgt := 16) hx hb dX8_tends_4 (by decide) (fun _ => ?_) (fun c9 => absurd (by decide) c9)
    refine lv_bipush (v := (-2)) hx hb dX8_tends_16 (by decide) ?_
    exact hret ((-2)) ((la, fb, cm, fk, fw, ah, ri, lh)) _ _ _ _ dX8_tends_18 (Or.inl ⟨fun z => b1 z.1, rfl⟩) hP hD hS


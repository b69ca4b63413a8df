abbrev rm_X8_could : Room := { frames := 4, cells := 0, slots := 0, locals := 99 }
set_option maxHeartbeats 4000000 in
set_option maxRecDepth 100000 in
theorem m_could (l : Launch) (D : va_G) (cI cJ cZ cG cM : ClassId) (o me ml mb mt ms mp my mc mk mw mo mq mi mz : Nat) (fi si sn la ah ri lh : Int32) (n nl : Nat) (fe fb cm fk fs fl fw : Nat → Int32) (ns : Nat) (hV : VL fs nl) (h1 : 1 ≤ n) (h6 : n ≤ 6) (hns : ns ≤ 6) (hsw : ∀ j, j < ns → ∃ k : Nat, k ≤ 30 ∧ fw (2 * j) = nI k) (m9 x : Int32) :
    CI l yX8_could wsX8_could rm_X8_could D [(cI, .int), (cJ, .long), (cZ, .boolean), (cG, .object "LatestSets$Guild"), (cM, .array .int)] [(o, .inr (8, [.int (nI n), .ref me, .ref ml, .ref mb, .int fi, .int (nI nl), .ref mt, .int (nI ns), .ref ms, .int sn, .ref mp, .ref my, .ref mc, .int la, .ref mk, .ref mw, .int ah, .int ri, .int lh, .ref mo, .ref mq, .ref mi, .ref mz])), (me, .inl (cI, 6, .inl fe)), (my, .inl (cI, 6, .inl fb)), (mc, .inl (cI, 6, .inl cm)), (mk, .inl (cI, 24, .inl fk)), (mt, .inl (cI, 20, .inl fs)), (ml, .inl (cI, 6, .inl fl)), (ms, .inl (cI, 12, .inl fw))] [.ref o, .int m9, .int x] (S := (Int32 × (Nat → Int32) × (Nat → Int32) × (Nat → Int32))) (fun r u => r = (if nI 0 ≤ m9 ∧ m9 < nI n then (if nI 0 ≤ x ∧ x ≤ nI 23 then cdB (fun k => SHc (nxG fs nl n fe (upd fl m9.toNatClampNeg (nI k)) (nI 0)) fw x ns) 6 else (-2)) else (-1))) (fun u => [(o, .inr (8, [.int (nI n), .ref me, .ref ml, .ref mb, .int fi, .int (nI nl), .ref mt, .int (nI ns), .ref ms, .int sn, .ref mp, .ref my, .ref mc, .int u.1, .ref mk, .ref mw, .int ah, .int ri, .int lh, .ref mo, .ref mq, .ref mi, .ref mz])), (me, .inl (cI, 6, .inl fe)), (my, .inl (cI, 6, .inl u.2.1)), (mc, .inl (cI, 6, .inl u.2.2.1)), (mk, .inl (cI, 24, .inl u.2.2.2)), (mt, .inl (cI, 20, .inl fs)), (ml, .inl (cI, 6, .inl fl)), (ms, .inl (cI, 12, .inl fw))]) := by
  refine si_of (cc := cX8_could) (maxL := 7) (by decide) rfl (Nat.le_of_ble_eq_true rfl) ?_
  intro p e s m args below meth c A ls Q E hret
  obtain ⟨hx, hb, -, hml, hown, hts, -, hin, hA, hK, hP, hD, hS, hl, hN⟩ := E
  have hown : s.vm.findClass RX8 = some m.cls := hown
  have hl : lv_has ls 7 [(0, .ref o), (1, .int m9), (2, .int x)] := hl
  have SF : CallFix p m c cX8_could 7 s args wsX8_could RX8 := ⟨hx, hb, hml, hown, hts⟩
  have hw0 := hts (.fieldLink RX8 38 "LatestSetsModel" "by" "[I") (by decide +kernel)
  have hi8 : ∀ x ∈ wsX80, x ∈ wsX8_could := by decide +kernel
  have hw2 := hts (.fieldLink RX8 66 "LatestSetsModel" "sights" "I") (by decide +kernel)
  have hw3 := hts (.fieldLink RX8 32 "LatestSetsModel" "sight" "[I") (by decide +kernel)
  refine lv_aload_n hx hb dX8_could_0 rfl (lv_at hl 0 rfl) ?_
  refine lv_iload_n hx hb dX8_could_1 rfl (lv_at hl 1 rfl) ?_
  refine cal_i (run_V (As := [.int m9]) (rest := []) SF (c_isMember8 l D cI cJ cZ cG cM o me ml mb mt ms mp my mc mk mw mo mq mi mz fi (nI ns) sn la ah ri lh n nl m9 h1 h6) (cwV 1 hts gX8_could_X8_isMember rfl rfl rfl (by decide +kernel) ⟨Nat.le_of_ble_eq_true rfl, Nat.le_of_ble_eq_true rfl⟩) hN hK hP hD [0] rfl (by decide) 8 0 rfl rfl rfl rfl hl.1 rfl (Nat.le_of_ble_eq_true rfl) dX8_could_2 ⟨Nat.le_of_ble_eq_true rfl, Nat.le_of_ble_eq_true rfl⟩) ⟨rfl, rfl⟩ hP hD hS hA [0] rfl (fun _ => rfl) (fun r2 _ H locs hw hP hD hS => ?_)
  have hP : va_P D vwCl [(o, .inr (8, [.int (nI n), .ref me, .ref ml, .ref mb, .int fi, .int (nI nl), .ref mt, .int (nI ns), .ref ms, .int sn, .ref mp, .ref my, .ref mc, .int la, .ref mk, .ref mw, .int ah, .int ri, .int lh, .ref mo, .ref mq, .ref mi, .ref mz])), (me, .inl (cI, 6, .inl fe)), (my, .inl (cI, 6, .inl fb)), (mc, .inl (cI, 6, .inl cm)), (mk, .inl (cI, 24, .inl fk)), (mt, .inl (cI, 20, .inl fs)), (ml, .inl (cI, 6, .inl fl)), (ms, .inl (cI, 12, .inl fw))] H := hP
  have hD : va_D A [(o, .inr (8, [.int (nI n), .ref me, .ref ml, .ref mb, .int fi, .int (nI nl), .ref mt, .int (nI ns), .ref ms, .int sn, .ref mp, .ref my, .ref mc, .int la, .ref mk, .ref mw, .int ah, .int ri, .int lh, .ref mo, .ref mq, .ref mi, .ref mz])), (me, .inl (cI, 6, .inl fe)), (my, .inl (cI, 6, .inl fb)), (mc, .inl (cI, 6, .inl cm)), (mk, .inl (cI, 24, .inl fk)), (mt, .inl (cI, 20, .inl fs)), (ml, .inl (cI, 6, .inl fl)), (ms, .inl (cI, 12, .inl fw))] := hD
  rcases hw with ⟨b2, rfl⟩ | ⟨b2, rfl⟩
  · obtain ⟨km, k2km, rfl⟩ := nI_rngL (by omega) b2.1 b2.2
    refine lv_if_ne (tgt := 10) hx hb dX8_could_5 (by decide) (fun _ => ?_) (fun c9 => absurd c9 (by decide))
    refine lv_iload_n hx hb dX8_could_10 rfl (lv_at hl 2 rfl) ?_
    refine cal_i (run_S (As := [.int x]) (rest := []) SF (c_isHour8 l D cI cJ cZ cG cM x) (va_cwS 1 hts gX8_could_X8_isHour rfl rfl rfl (by decide +kernel) ⟨Nat.le_of_ble_eq_true rfl, Nat.le_of_ble_eq_true rfl⟩) hN hK hP hD [] rfl (by decide) rfl hl.1 rfl (Nat.le_of_ble_eq_true rfl) dX8_could_11 ⟨Nat.le_of_ble_eq_true rfl, Nat.le_of_ble_eq_true rfl⟩) ⟨rfl, rfl⟩ hP hD hS hA [] rfl (fun _ => rfl) (fun r11 _ H locs hw hP hD hS => ?_)
    have hP : va_P D vwCl [(o, .inr (8, [.int (nI n), .ref me, .ref ml, .ref mb, .int fi, .int (nI nl), .ref mt, .int (nI ns), .ref ms, .int sn, .ref mp, .ref my, .ref mc, .int la, .ref mk, .ref mw, .int ah, .int ri, .int lh, .ref mo, .ref mq, .ref mi, .ref mz])), (me, .inl (cI, 6, .inl fe)), (my, .inl (cI, 6, .inl fb)), (mc, .inl (cI, 6, .inl cm)), (mk, .inl (cI, 24, .inl fk)), (mt, .inl (cI, 20, .inl fs)), (ml, .inl (cI, 6, .inl fl)), (ms, .inl (cI, 12, .inl fw))] H := hP
    have hD : va_D A [(o, .inr (8, [.int (nI n), .ref me, .ref ml, .ref mb, .int fi, .int (nI nl), .ref mt, .int (nI ns), .ref ms, .int sn, .ref mp, .ref my, .ref mc, .int la, .ref mk, .ref mw, .int ah, .int ri, .int lh, .ref mo, .ref mq, .ref mi, .ref mz])), (me, .inl (cI, 6, .inl fe)), (my, .inl (cI, 6, .inl fb)), (mc, .inl (cI, 6, .inl cm)), (mk, .inl (cI, 24, .inl fk)), (mt, .inl (cI, 20, .inl fs)), (ml, .inl (cI, 6, .inl fl)), (ms, .inl (cI, 12, .inl fw))] := hD
    rcases hw with ⟨b11, rfl⟩ | ⟨b11, rfl⟩
    · refine lv_if_ne (tgt := 20) hx hb dX8_could_14 (by decide) (fun _ => ?_) (fun c9 => absurd c9 (by decide))
      refine lv_aload_n hx hb dX8_could_20 rfl (lv_at hl 0 rfl) ?_
      refine cal_v (run_V (As := []) (rest := []) SF (c_asTold l D cI cJ cZ cG cM o me ml mb mt ms mp my mc mk mw mo mq mi mz fi (nI ns) sn la ah ri lh n nl fl fb) (cwV 0 hts gX8_could_X8_asTold rfl rfl rfl (by decide +kernel) ⟨Nat.le_of_ble_eq_true rfl, Nat.le_of_ble_eq_true rfl⟩) hN hK hP hD [0, 6, 2] rfl (by decide) 8 0 rfl rfl rfl rfl hl.1 rfl (Nat.le_of_ble_eq_true rfl) dX8_could_21 ⟨Nat.le_of_ble_eq_true rfl, Nat.le_of_ble_eq_true rfl⟩) ⟨rfl, rfl⟩ hP hD hS hA [0, 6, 2] rfl (fun _ => rfl) (fun u21 H locs hw hP hD hS => ?_)
      have hP : va_P D vwCl [(o, .inr (8, [.int (nI n), .ref me, .ref ml, .ref mb, .int fi, .int (nI nl), .ref mt, .int (nI ns), .ref ms, .int sn, .ref mp, .ref my, .ref mc, .int (nI 0), .ref mk, .ref mw, .int ah, .int ri, .int lh, .ref mo, .ref mq, .ref mi, .ref mz])), (me, .inl (cI, 6, .inl fe)), (my, .inl (cI, 6, .inl u21)), (mc, .inl (cI, 6, .inl cm)), (mk, .inl (cI, 24, .inl fk)), (mt, .inl (cI, 20, .inl fs)), (ml, .inl (cI, 6, .inl fl)), (ms, .inl (cI, 12, .inl fw))] H := hP
      have hD : va_D A [(o, .inr (8, [.int (nI n), .ref me, .ref ml, .ref mb, .int fi, .int (nI nl), .ref mt, .int (nI ns), .ref ms, .int sn, .ref mp, .ref my, .ref mc, .int (nI 0), .ref mk, .ref mw, .int ah, .int ri, .int lh, .ref mo, .ref mq, .ref mi, .ref mz])), (me, .inl (cI, 6, .inl fe)), (my, .inl (cI, 6, .inl u21)), (mc, .inl (cI, 6, .inl cm)), (mk, .inl (cI, 24, .inl fk)), (mt, .inl (cI, 20, .inl fs)), (ml, .inl (cI, 6, .inl fl)), (ms, .inl (cI, 12, .inl fw))] := hD
      have hT := hw
      refine lv_iconst (v := nI 0) hx hb dX8_could_24 (by decide) ?_
      refine lv_istore_n (lv' := [(3, .int (nI 0)), (0, .ref o), (1, .int (nI km)), (2, .int x)]) hx hb dX8_could_25 rfl hl (by decide) rfl (fun ls hl => ?_)
      refine lv_iconst (v := nI 0) hx hb dX8_could_26 (by decide) ?_
      refine lv_istore (lv' := [(4, .int (nI 0)), (3, .int (nI 0)), (0, .ref o), (1, .int (nI km)), (2, .int x)]) hx hb dX8_could_27 hl (by decide) rfl (fun ls hl => ?_)
      have L29 : ∀ (n9 : Nat) (k : Nat) (fb cm fk : Nat → Int32) (hk : k ≤ 6) (hfb : ∀ i, i < 6 → i ≠ km → fb i = fl i), 6 - k < n9 → ∀ (H : Heap) (locs : List Loc), va_P D vwCl [(o, .inr (8, [.int (nI n), .ref me, .ref ml, .ref mb, .int fi, .int (nI nl), .ref mt, .int (nI ns), .ref ms, .int sn, .ref mp, .ref my, .ref mc, .int (nI 0), .ref mk, .ref mw, .int ah, .int ri, .int lh, .ref mo, .ref mq, .ref mi, .ref mz])), (me, .inl (cI, 6, .inl fe)), (my, .inl (cI, 6, .inl fb)), (mc, .inl (cI, 6, .inl cm)), (mk, .inl (cI, 24, .inl fk)), (mt, .inl (cI, 20, .inl fs)), (ml, .inl (cI, 6, .inl fl)), (ms, .inl (cI, 12, .inl fw))] H → va_D A [(o, .inr (8, [.int (nI n), .ref me, .ref ml, .ref mb, .int fi, .int (nI nl), .ref mt, .int (nI ns), .ref ms, .int sn, .ref mp, .ref my, .ref mc, .int (nI 0), .ref mk, .ref mw, .int ah, .int ri, .int lh, .ref mo, .ref mq, .ref mi, .ref mz])), (me, .inl (cI, 6, .inl fe)), (my, .inl (cI, 6, .inl fb)), (mc, .inl (cI, 6, .inl cm)), (mk, .inl (cI, 24, .inl fk)), (mt, .inl (cI, 20, .inl fs)), (ml, .inl (cI, 6, .inl fl)), (ms, .inl (cI, 12, .inl fw))] → va_S A s.heap H locs → ∀ (ls : Array Slot), lv_has ls 7 [(0, .ref o), (1, .int (nI km)), (2, .int x), (3, .int (cdB (fun k => SHc (nxG fs nl n fe (upd fl km (nI k)) (nI 0)) fw x ns) k)), (4, .int (nI k))] → W p l e rm_X8_could s m args below meth c H locs 0 0 Q (F0 m 29 ls []) := by
        intro n9
        induction n9 with
        | zero => intro k fb cm fk hk hfb hm; exact absurd hm (Nat.not_lt_zero _)
        | succ n9 ih29 =>
          intro k fb cm fk hk hfb hm29 H locs hP hD hS ls hl
          refine lv_iload hx hb dX8_could_29 (lv_at hl 4 rfl) ?_
          refine lv_bipush (v := nI 6) hx hb dX8_could_31 (by decide) ?_
          refine icmp_ge_n (a := k) (b := 6) (tgt := 127) hx hb dX8_could_33 (by decide) (by omega) (by omega) (fun c33 => ?_) (fun c33 => ?_)
          · refine lv_iload_n hx hb dX8_could_127 rfl (lv_at hl 3 rfl) ?_
            exact hret (cdB (fun k => SHc (nxG fs nl n fe (upd fl km (nI k)) (nI 0)) fw x ns) k) ((nI 0, fb, cm, fk)) _ _ _ _ dX8_could_128 (by rw [if_pos b2, if_pos b11, nI_clamp (by omega), show k = 6 by omega]) hP hD hS
          · refine lv_aload_n hx hb dX8_could_36 rfl (lv_at hl 0 rfl) ?_
            refine va_get (D := D) (ci := 8) (v := .ref my) (C := RX8) (T := TX8) (N := 23) hx hb hts hi8 hown hK hP 0 rfl rfl 11 (by decide) hw0 (fun _ h9 => h9) rfl dX8_could_37 ?_
            refine lv_iload_n hx hb dX8_could_40 rfl (lv_at hl 1 rfl) ?_
            refine lv_iload hx hb dX8_could_41 (lv_at hl 4 rfl) ?_
            refine iast_n (k := km) hx hb hK hP hD hS 2 0 rfl rfl (by omega) (by omega) dX8_could_43 (fun H locs hP hD hS => ?_)
            have hP : va_P D vwCl [(o, .inr (8, [.int (nI n), .ref me, .ref ml, .ref mb, .int fi, .int (nI nl), .ref mt, .int (nI ns), .ref ms, .int sn, .ref mp, .ref my, .ref mc, .int (nI 0), .ref mk, .ref mw, .int ah, .int ri, .int lh, .ref mo, .ref mq, .ref mi, .ref mz])), (me, .inl (cI, 6, .inl fe)), (my, .inl (cI, 6, .inl (upd fb km (nI k)))), (mc, .inl (cI, 6, .inl cm)), (mk, .inl (cI, 24, .inl fk)), (mt, .inl (cI, 20, .inl fs)), (ml, .inl (cI, 6, .inl fl)), (ms, .inl (cI, 12, .inl fw))] H := hP
            have hD : va_D A [(o, .inr (8, [.int (nI n), .ref me, .ref ml, .ref mb, .int fi, .int (nI nl), .ref mt, .int (nI ns), .ref ms, .int sn, .ref mp, .ref my, .ref mc, .int (nI 0), .ref mk, .ref mw, .int ah, .int ri, .int lh, .ref mo, .ref mq, .ref mi, .ref mz])), (me, .inl (cI, 6, .inl fe)), (my, .inl (cI, 6, .inl (upd fb km (nI k)))), (mc, .inl (cI, 6, .inl cm)), (mk, .inl (cI, 24, .inl fk)), (mt, .inl (cI, 20, .inl fs)), (ml, .inl (cI, 6, .inl fl)), (ms, .inl (cI, 12, .inl fw))] := hD
            refine lv_iconst (v := nI 1) hx hb dX8_could_44 (by decide) ?_
            refine lv_istore (lv' := [(5, .int (nI 1)), (0, .ref o), (1, .int (nI km)), (2, .int x), (3, .int (cdB (fun k => SHc (nxG fs nl n fe (upd fl km (nI k)) (nI 0)) fw x ns) k)), (4, .int (nI k))]) hx hb dX8_could_45 hl (by decide) rfl (fun ls hl => ?_)
            refine lv_iconst (v := nI 0) hx hb dX8_could_47 (by decide) ?_
            refine lv_istore (lv' := [(6, .int (nI 0)), (5, .int (nI 1)), (0, .ref o), (1, .int (nI km)), (2, .int x), (3, .int (cdB (fun k => SHc (nxG fs nl n fe (upd fl km (nI k)) (nI 0)) fw x ns) k)), (4, .int (nI k))]) hx hb dX8_could_48 hl (by decide) rfl (fun ls hl => ?_)
            have L50 : ∀ (n9 : Nat) (j : Nat) (cm fk : Nat → Int32) (hj : j ≤ ns), ns - j < n9 → ∀ (H : Heap) (locs : List Loc), va_P D vwCl [(o, .inr (8, [.int (nI n), .ref me, .ref ml, .ref mb, .int fi, .int (nI nl), .ref mt, .int (nI ns), .ref ms, .int sn, .ref mp, .ref my, .ref mc, .int (nI 0), .ref mk, .ref mw, .int ah, .int ri, .int lh, .ref mo, .ref mq, .ref mi, .ref mz])), (me, .inl (cI, 6, .inl fe)), (my, .inl (cI, 6, .inl (upd fb km (nI k)))), (mc, .inl (cI, 6, .inl cm)), (mk, .inl (cI, 24, .inl fk)), (mt, .inl (cI, 20, .inl fs)), (ml, .inl (cI, 6, .inl fl)), (ms, .inl (cI, 12, .inl fw))] H → va_D A [(o, .inr (8, [.int (nI n), .ref me, .ref ml, .ref mb, .int fi, .int (nI nl), .ref mt, .int (nI ns), .ref ms, .int sn, .ref mp, .ref my, .ref mc, .int (nI 0), .ref mk, .ref mw, .int ah, .int ri, .int lh, .ref mo, .ref mq, .ref mi, .ref mz])), (me, .inl (cI, 6, .inl fe)), (my, .inl (cI, 6, .inl (upd fb km (nI k)))), (mc, .inl (cI, 6, .inl cm)), (mk, .inl (cI, 24, .inl fk)), (mt, .inl (cI, 20, .inl fs)), (ml, .inl (cI, 6, .inl fl)), (ms, .inl (cI, 12, .inl fw))] → va_S A s.heap H locs → ∀ (ls : Array Slot), lv_has ls 7 [(0, .ref o), (1, .int (nI km)), (2, .int x), (3, .int (cdB (fun k => SHc (nxG fs nl n fe (upd fl km (nI k)) (nI 0)) fw x ns) k)), (4, .int (nI k)), (5, .int (nI ((SHc (nxG fs nl n fe (upd fl km (nI k)) (nI 0)) fw x j).toNat))), (6, .int (nI j))] → W p l e rm_X8_could s m args below meth c H locs 0 0 Q (F0 m 50 ls []) := by
              intro n9
              induction n9 with
              | zero => intro j cm fk hj hm; exact absurd hm (Nat.not_lt_zero _)
              | succ n9 ih50 =>
                intro j cm fk hj hm50 H locs hP hD hS ls hl
                refine lv_iload hx hb dX8_could_50 (lv_at hl 6 rfl) ?_
                refine lv_aload_n hx hb dX8_could_52 rfl (lv_at hl 0 rfl) ?_
                refine va_get (D := D) (ci := 8) (v := .int (nI ns)) (C := RX8) (T := TX8) (N := 23) hx hb hts hi8 hown hK hP 0 rfl rfl 7 (by decide) hw2 (fun _ h9 => h9) rfl dX8_could_53 ?_
                refine icmp_ge_n (a := j) (b := ns) (tgt := 105) hx hb dX8_could_56 (by decide) (by omega) (by omega) (fun c56 => ?_) (fun c56 => ?_)
                · rw [show j = ns by omega] at hl
                  have hb9 : (SHc (nxG fs nl n fe (upd fl km (nI k)) (nI 0)) fw x ns).toNat ≤ 1 := Bool.toNat_le _
                  refine lv_iload_n hx hb dX8_could_105 rfl (lv_at hl 3 rfl) ?_
                  refine lv_iload hx hb dX8_could_106 (lv_at hl 5 rfl) ?_
                  refine if_eq_n (a := (SHc (nxG fs nl n fe (upd fl km (nI k)) (nI 0)) fw x ns).toNat) (tgt := 118) hx hb dX8_could_108 (by decide) (by omega) (fun c108 => ?_) (fun c108 => ?_)
                  · refine lv_iconst (v := nI 0) hx hb dX8_could_118 (by decide) ?_
                    refine lv_ior hx hb dX8_could_119 ?_
                    refine lv_istore_n (lv' := [(3, .int ((cdB (fun k => SHc (nxG fs nl n fe (upd fl km (nI k)) (nI 0)) fw x ns) k) ||| (nI 0))), (0, .ref o), (1, .int (nI km)), (2, .int x), (4, .int (nI k)), (5, .int (nI ((SHc (nxG fs nl n fe (upd fl km (nI k)) (nI 0)) fw x ns).toNat))), (6, .int (nI ns))]) hx hb dX8_could_120 rfl hl (by decide) rfl (fun ls hl => ?_)
                    refine lv_iinc (v := nI (k + 1)) (lv' := [(4, .int (nI (k + 1))), (3, .int ((cdB (fun k => SHc (nxG fs nl n fe (upd fl km (nI k)) (nI 0)) fw x ns) k) ||| (nI 0))), (0, .ref o), (1, .int (nI km)), (2, .int x), (5, .int (nI ((SHc (nxG fs nl n fe (upd fl km (nI k)) (nI 0)) fw x ns).toNat))), (6, .int (nI ns))]) hx hb dX8_could_121 hl (k := 4) rfl (nI_1 k) (by decide) rfl (fun ls hl => ?_)
                    refine lv_goto (tgt := 29) hx hb dX8_could_124 (by decide) ?_
                    have e8 : (cdB (fun k => SHc (nxG fs nl n fe (upd fl km (nI k)) (nI 0)) fw x ns) k) ||| (nI 0) = cdB (fun k => SHc (nxG fs nl n fe (upd fl km (nI k)) (nI 0)) fw x ns) (k + 1) := (i_or0 _).trans (if_neg (fun z => Bool.false_ne_true ((tN0 c108).symm.trans z))).symm
                    have hl : lv_has ls 7 [(4, .int (nI (k + 1))), (3, .int (cdB (fun k => SHc (nxG fs nl n fe (upd fl km (nI k)) (nI 0)) fw x ns) (k + 1))), (0, .ref o), (1, .int (nI km)), (2, .int x), (5, .int (nI ((SHc (nxG fs nl n fe (upd fl km (nI k)) (nI 0)) fw x ns).toNat))), (6, .int (nI ns))] := by rw [← e8]; exact hl
                    exact ih29 (k + 1) (upd fb km (nI k)) cm fk ((by omega)) ((fun i hi e9 => by rw [pk_un e9]; exact hfb i hi e9)) (by omega) _ _ hP hD hS _ (lv_sub hl [2, 3, 4, 1, 0] rfl)
                  · refine lv_iconst (v := nI 1) hx hb dX8_could_111 (by decide) ?_
                    refine lv_iload hx hb dX8_could_112 (lv_at hl 4 rfl) ?_
                    refine lv_ishl hx hb dX8_could_114 ?_
                    refine lv_goto (tgt := 119) hx hb dX8_could_115 (by decide) ?_
                    refine lv_ior hx hb dX8_could_119 ?_
                    refine lv_istore_n (lv' := [(3, .int ((cdB (fun k => SHc (nxG fs nl n fe (upd fl km (nI k)) (nI 0)) fw x ns) k) ||| ((nI 1) <<< ((nI k) &&& 31)))), (0, .ref o), (1, .int (nI km)), (2, .int x), (4, .int (nI k)), (5, .int (nI ((SHc (nxG fs nl n fe (upd fl km (nI k)) (nI 0)) fw x ns).toNat))), (6, .int (nI ns))]) hx hb dX8_could_120 rfl hl (by decide) rfl (fun ls hl => ?_)
                    refine lv_iinc (v := nI (k + 1)) (lv' := [(4, .int (nI (k + 1))), (3, .int ((cdB (fun k => SHc (nxG fs nl n fe (upd fl km (nI k)) (nI 0)) fw x ns) k) ||| ((nI 1) <<< ((nI k) &&& 31)))), (0, .ref o), (1, .int (nI km)), (2, .int x), (5, .int (nI ((SHc (nxG fs nl n fe (upd fl km (nI k)) (nI 0)) fw x ns).toNat))), (6, .int (nI ns))]) hx hb dX8_could_121 hl (k := 4) rfl (nI_1 k) (by decide) rfl (fun ls hl => ?_)
                    refine lv_goto (tgt := 29) hx hb dX8_could_124 (by decide) ?_
                    have e8 : (cdB (fun k => SHc (nxG fs nl n fe (upd fl km (nI k)) (nI 0)) fw x ns) k) ||| ((nI 1) <<< ((nI k) &&& 31)) = cdB (fun k => SHc (nxG fs nl n fe (upd fl km (nI k)) (nI 0)) fw x ns) (k + 1) := (if_pos (tN1 c108)).symm
                    have hl : lv_has ls 7 [(4, .int (nI (k + 1))), (3, .int (cdB (fun k => SHc (nxG fs nl n fe (upd fl km (nI k)) (nI 0)) fw x ns) (k + 1))), (0, .ref o), (1, .int (nI km)), (2, .int x), (5, .int (nI ((SHc (nxG fs nl n fe (upd fl km (nI k)) (nI 0)) fw x ns).toNat))), (6, .int (nI ns))] := by rw [← e8]; exact hl
                    exact ih29 (k + 1) (upd fb km (nI k)) cm fk ((by omega)) ((fun i hi e9 => by rw [pk_un e9]; exact hfb i hi e9)) (by omega) _ _ hP hD hS _ (lv_sub hl [2, 3, 4, 1, 0] rfl)
                · have hb9 : (SHc (nxG fs nl n fe (upd fl km (nI k)) (nI 0)) fw x j).toNat ≤ 1 := Bool.toNat_le _
                  refine lv_iload hx hb dX8_could_59 (lv_at hl 5 rfl) ?_
                  refine if_eq_n (a := (SHc (nxG fs nl n fe (upd fl km (nI k)) (nI 0)) fw x j).toNat) (tgt := 96) hx hb dX8_could_61 (by decide) (by omega) (fun c61 => ?_) (fun c61 => ?_)
                  · refine lv_iconst (v := nI 0) hx hb dX8_could_96 (by decide) ?_
                    refine lv_istore (lv' := [(5, .int (nI 0)), (0, .ref o), (1, .int (nI km)), (2, .int x), (3, .int (cdB (fun k => SHc (nxG fs nl n fe (upd fl km (nI k)) (nI 0)) fw x ns) k)), (4, .int (nI k)), (6, .int (nI j))]) hx hb dX8_could_97 hl (by decide) rfl (fun ls hl => ?_)
                    refine lv_iinc (v := nI (j + 1)) (lv' := [(6, .int (nI (j + 1))), (5, .int (nI 0)), (0, .ref o), (1, .int (nI km)), (2, .int x), (3, .int (cdB (fun k => SHc (nxG fs nl n fe (upd fl km (nI k)) (nI 0)) fw x ns) k)), (4, .int (nI k))]) hx hb dX8_could_99 hl (k := 6) rfl (nI_1 j) (by decide) rfl (fun ls hl => ?_)
                    refine lv_goto (tgt := 50) hx hb dX8_could_102 (by decide) ?_
                    have e7 : SHc (nxG fs nl n fe (upd fl km (nI k)) (nI 0)) fw x (j + 1) = false := by show (SHc _ _ _ j && _) = false; rw [tN0 c61]; rfl
                    have e8 : nI 0 = nI ((SHc (nxG fs nl n fe (upd fl km (nI k)) (nI 0)) fw x (j + 1)).toNat) := by rw [e7]; rfl
                    have hl : lv_has ls 7 [(6, .int (nI (j + 1))), (5, .int (nI ((SHc (nxG fs nl n fe (upd fl km (nI k)) (nI 0)) fw x (j + 1)).toNat))), (0, .ref o), (1, .int (nI km)), (2, .int x), (3, .int (cdB (fun k => SHc (nxG fs nl n fe (upd fl km (nI k)) (nI 0)) fw x ns) k)), (4, .int (nI k))] := by rw [← e8]; exact hl
                    exact ih50 (j + 1) cm fk ((by omega)) (by omega) _ _ hP hD hS _ (lv_sub hl [2, 3, 4, 5, 6, 1, 0] rfl)
                  · refine lv_aload_n hx hb dX8_could_64 rfl (lv_at hl 0 rfl) ?_
                    refine lv_iload_n hx hb dX8_could_65 rfl (lv_at hl 2 rfl) ?_
                    refine lv_aload_n hx hb dX8_could_66 rfl (lv_at hl 0 rfl) ?_
                    refine va_get (D := D) (ci := 8) (v := .ref ms) (C := RX8) (T := TX8) (N := 23) hx hb hts hi8 hown hK hP 0 rfl rfl 8 (by decide) hw3 (fun _ h9 => h9) rfl dX8_could_67 ?_
                    refine lv_iconst (v := nI 2) hx hb dX8_could_70 (by decide) ?_
                    refine lv_iload hx hb dX8_could_71 (lv_at hl 6 rfl) ?_
                    refine imul_n (a := 2) (b := j) hx hb dX8_could_73 ?_
                    refine iald_n (k := 2 * j) hx hb hK hP 7 0 rfl rfl (by omega) (by omega) dX8_could_74 ?_
                    obtain ⟨wk, hwk, hwe⟩ := hsw j (by omega)
                    refine lv_topi (fun y9 e9 => ?_)
                    have e9 : nI wk = y9 := (e9.trans (hwe)).symm
                    subst e9
                    refine cal_i (run_V (As := [.int x, .int (nI wk)]) (rest := []) SF (c_hourOf l D cI cJ cZ cG cM o me ml mb mt ms mp my mc mk mw mo mq mi mz fi (nI ns) sn (nI 0) ah ri lh n nl x wk fe (upd fb km (nI k)) cm fk fs hV h1 h6 (by omega)) (cwV 2 hts gX8_could_X8_hourOf rfl rfl rfl (by decide +kernel) ⟨Nat.le_of_ble_eq_true rfl, Nat.le_of_ble_eq_true rfl⟩) hN hK hP hD [0, 1, 2, 3, 4, 5] rfl (by decide) 8 0 rfl rfl rfl rfl hl.1 rfl (Nat.le_of_ble_eq_true rfl) dX8_could_75 ⟨Nat.le_of_ble_eq_true rfl, Nat.le_of_ble_eq_true rfl⟩) ⟨rfl, rfl⟩ hP hD hS hA [0, 1, 2, 3, 4, 5] rfl (fun _ => rfl) (fun r75 u75 H locs hw hP hD hS => ?_)
                    have hP : va_P D vwCl [(o, .inr (8, [.int (nI n), .ref me, .ref ml, .ref mb, .int fi, .int (nI nl), .ref mt, .int (nI ns), .ref ms, .int sn, .ref mp, .ref my, .ref mc, .int (nI 0), .ref mk, .ref mw, .int ah, .int ri, .int lh, .ref mo, .ref mq, .ref mi, .ref mz])), (me, .inl (cI, 6, .inl fe)), (my, .inl (cI, 6, .inl (upd fb km (nI k)))), (mc, .inl (cI, 6, .inl u75.1)), (mk, .inl (cI, 24, .inl u75.2)), (mt, .inl (cI, 20, .inl fs)), (ml, .inl (cI, 6, .inl fl)), (ms, .inl (cI, 12, .inl fw))] H := hP
                    have hD : va_D A [(o, .inr (8, [.int (nI n), .ref me, .ref ml, .ref mb, .int fi, .int (nI nl), .ref mt, .int (nI ns), .ref ms, .int sn, .ref mp, .ref my, .ref mc, .int (nI 0), .ref mk, .ref mw, .int ah, .int ri, .int lh, .ref mo, .ref mq, .ref mi, .ref mz])), (me, .inl (cI, 6, .inl fe)), (my, .inl (cI, 6, .inl (upd fb km (nI k)))), (mc, .inl (cI, 6, .inl u75.1)), (mk, .inl (cI, 24, .inl u75.2)), (mt, .inl (cI, 20, .inl fs)), (ml, .inl (cI, 6, .inl fl)), (ms, .inl (cI, 12, .inl fw))] := hD
                    rw [nxG_cong (f2 := upd fl km (nI k)) h1 (fun i hi => upd_cong hfb i (by omega))] at hw
                    refine lv_aload_n hx hb dX8_could_78 rfl (lv_at hl 0 rfl) ?_
                    refine va_get (D := D) (ci := 8) (v := .ref ms) (C := RX8) (T := TX8) (N := 23) hx hb hts hi8 hown hK hP 0 rfl rfl 8 (by decide) hw3 (fun _ h9 => h9) rfl dX8_could_79 ?_
                    refine lv_iconst (v := nI 2) hx hb dX8_could_82 (by decide) ?_
                    refine lv_iload hx hb dX8_could_83 (lv_at hl 6 rfl) ?_
                    refine imul_n (a := 2) (b := j) hx hb dX8_could_85 ?_
                    refine lv_iconst (v := nI 1) hx hb dX8_could_86 (by decide) ?_
                    refine iadd_n (a := 2 * j) (b := 1) hx hb dX8_could_87 ?_
                    refine iald_n (k := (2 * j) + 1) hx hb hK hP 7 0 rfl rfl (by omega) (by omega) dX8_could_88 ?_
                    refine lv_icmp_ne (tgt := 96) hx hb dX8_could_89 (by decide) (fun c89 => ?_) (fun c89 => ?_)
                    · refine lv_iconst (v := nI 0) hx hb dX8_could_96 (by decide) ?_
                      refine lv_istore (lv' := [(5, .int (nI 0)), (0, .ref o), (1, .int (nI km)), (2, .int x), (3, .int (cdB (fun k => SHc (nxG fs nl n fe (upd fl km (nI k)) (nI 0)) fw x ns) k)), (4, .int (nI k)), (6, .int (nI j))]) hx hb dX8_could_97 hl (by decide) rfl (fun ls hl => ?_)
                      refine lv_iinc (v := nI (j + 1)) (lv' := [(6, .int (nI (j + 1))), (5, .int (nI 0)), (0, .ref o), (1, .int (nI km)), (2, .int x), (3, .int (cdB (fun k => SHc (nxG fs nl n fe (upd fl km (nI k)) (nI 0)) fw x ns) k)), (4, .int (nI k))]) hx hb dX8_could_99 hl (k := 6) rfl (nI_1 j) (by decide) rfl (fun ls hl => ?_)
                      refine lv_goto (tgt := 50) hx hb dX8_could_102 (by decide) ?_
                      have e7 : SHc (nxG fs nl n fe (upd fl km (nI k)) (nI 0)) fw x (j + 1) = false := by show (SHc _ _ _ j && decide _) = false; rw [hwe, nI_clamp (by omega), ← hw, decide_eq_false c89, Bool.and_false]
                      have e8 : nI 0 = nI ((SHc (nxG fs nl n fe (upd fl km (nI k)) (nI 0)) fw x (j + 1)).toNat) := by rw [e7]; rfl
                      have hl : lv_has ls 7 [(6, .int (nI (j + 1))), (5, .int (nI ((SHc (nxG fs nl n fe (upd fl km (nI k)) (nI 0)) fw x (j + 1)).toNat))), (0, .ref o), (1, .int (nI km)), (2, .int x), (3, .int (cdB (fun k => SHc (nxG fs nl n fe (upd fl km (nI k)) (nI 0)) fw x ns) k)), (4, .int (nI k))] := by rw [← e8]; exact hl
                      exact ih50 (j + 1) u75.1 u75.2 ((by omega)) (by omega) _ _ hP hD hS _ (lv_sub hl [2, 3, 4, 5, 6, 1, 0] rfl)
                    · refine lv_iconst (v := nI 1) hx hb dX8_could_92 (by decide) ?_
                      refine lv_goto (tgt := 97) hx hb dX8_could_93 (by decide) ?_
                      refine lv_istore (lv' := [(5, .int (nI 1)), (0, .ref o), (1, .int (nI km)), (2, .int x), (3, .int (cdB (fun k => SHc (nxG fs nl n fe (upd fl km (nI k)) (nI 0)) fw x ns) k)), (4, .int (nI k)), (6, .int (nI j))]) hx hb dX8_could_97 hl (by decide) rfl (fun ls hl => ?_)
                      refine lv_iinc (v := nI (j + 1)) (lv' := [(6, .int (nI (j + 1))), (5, .int (nI 1)), (0, .ref o), (1, .int (nI km)), (2, .int x), (3, .int (cdB (fun k => SHc (nxG fs nl n fe (upd fl km (nI k)) (nI 0)) fw x ns) k)), (4, .int (nI k))]) hx hb dX8_could_99 hl (k := 6) rfl (nI_1 j) (by decide) rfl (fun ls hl => ?_)
                      refine lv_goto (tgt := 50) hx hb dX8_could_102 (by decide) ?_
                      have e7 : SHc (nxG fs nl n fe (upd fl km (nI k)) (nI 0)) fw x (j + 1) = true := by show (SHc _ _ _ j && decide _) = true; rw [hwe, nI_clamp (by omega), ← hw, decide_eq_true c89, tN1 c61]; rfl
                      have e8 : nI 1 = nI ((SHc (nxG fs nl n fe (upd fl km (nI k)) (nI 0)) fw x (j + 1)).toNat) := by rw [e7]; rfl
                      have hl : lv_has ls 7 [(6, .int (nI (j + 1))), (5, .int (nI ((SHc (nxG fs nl n fe (upd fl km (nI k)) (nI 0)) fw x (j + 1)).toNat))), (0, .ref o), (1, .int (nI km)), (2, .int x), (3, .int (cdB (fun k => SHc (nxG fs nl n fe (upd fl km (nI k)) (nI 0)) fw x ns) k)), (4, .int (nI k))] := by rw [← e8]; exact hl
                      exact ih50 (j + 1) u75.1 u75.2 ((by omega)) (by omega) _ _ hP hD hS _ (lv_sub hl [2, 3, 4, 5, 6, 1, 0] rfl)
            have e8 : nI 1 = nI ((SHc (nxG fs nl n fe (upd fl km (nI k)) (nI 0)) fw x 0).toNat) := rfl
            have hl : lv_has ls 7 [(6, .int (nI 0)), (5, .int (nI ((SHc (nxG fs nl n fe (upd fl km (nI k)) (nI 0)) fw x 0).toNat))), (0, .ref o), (1, .int (nI km)), (2, .int x), (3, .int (cdB (fun k => SHc (nxG fs nl n fe (upd fl km (nI k)) (nI 0)) fw x ns) k)), (4, .int (nI k))] := by rw [← e8]; exact hl
            exact L50 _ 0 cm fk ((Nat.zero_le _)) (Nat.lt_succ_self _) _ _ hP hD hS _ (lv_sub hl [2, 3, 4, 5, 6, 1, 0] rfl)
      exact L29 _ 0 u21 cm fk ((by omega)) ((fun i hi _ => hT i hi)) (Nat.lt_succ_self _) _ _ hP hD hS _ (lv_sub hl [2, 3, 4, 1, 0] rfl)
    · refine lv_if_ne (tgt := 20) hx hb dX8_could_14 (by decide) (fun c9 => absurd c9 (by decide)) (fun _ => ?_)
      refine lv_bipush (v := (-2)) hx hb dX8_could_17 (by decide) ?_
      exact hret ((-2)) ((la, fb, cm, fk)) _ _ _ _ dX8_could_19 (by rw [if_pos b2, if_neg b11]) hP hD hS
  · refine lv_if_ne (tgt := 10) hx hb dX8_could_5 (by decide) (fun c9 => absurd c9 (by decide)) (fun _ => ?_)
    refine lv_iconst (v := (-1)) hx hb dX8_could_8 (by decide) ?_
    exact hret ((-1)) ((la, fb, cm, fk)) _ _ _ _ dX8_could_9 (by rw [if_neg b2]) hP hD hS

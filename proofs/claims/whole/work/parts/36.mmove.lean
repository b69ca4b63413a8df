abbrev rm_X8_bits : Room := { frames := 0, cells := 0, slots := 0, locals := 0 }
set_option maxHeartbeats 1000000 in
set_option maxRecDepth 100000 in
theorem c_bits8 (l : Launch) (D : va_G) (cI cJ cZ cG cM : ClassId) (s9 : Nat) (hs : s9 < 64) :
    CI l yX8_bits wsX8_bits rm_X8_bits D [(cI, .int), (cJ, .long), (cZ, .boolean), (cG, .object "LatestSets$Guild"), (cM, .array .int)] [] [.int (nI s9)] (S := Unit) (fun r u => r = nI (bits s9)) (fun u => []) := by
  refine si_of (cc := cX8_bits) (maxL := 3) (by decide) rfl (Nat.le_of_ble_eq_true rfl) ?_
  intro p e s m args below meth c A ls Q E hret
  obtain ⟨hx, hb, -, hml, hown, hts, -, hin, hA, hK, hP, hD, hS, hl, hN⟩ := E
  have hown : s.vm.findClass RX8 = some m.cls := hown
  have hl : lv_has ls 3 [(0, .int (nI s9))] := hl
  have SF : CallFix p m c cX8_bits 3 s args wsX8_bits RX8 := ⟨hx, hb, hml, hown, hts⟩
  refine lv_iconst (v := nI 0) hx hb dX8_bits_0 (by decide) ?_
  refine lv_istore_n (lv' := [(1, .int (nI 0)), (0, .int (nI s9))]) hx hb dX8_bits_1 rfl hl (by decide) rfl (fun ls hl => ?_)
  refine lv_iconst (v := nI 0) hx hb dX8_bits_2 (by decide) ?_
  refine lv_istore_n (lv' := [(2, .int (nI 0)), (1, .int (nI 0)), (0, .int (nI s9))]) hx hb dX8_bits_3 rfl hl (by decide) rfl (fun ls hl => ?_)
  have L4 : ∀ (n9 : Nat) (i : Nat) (hi : i ≤ 6), 6 - i < n9 → ∀ (H : Heap) (locs : List Loc), va_P D vwCl [] H → va_D A [] → va_S A s.heap H locs → ∀ (ls : Array Slot), lv_has ls 3 [(0, .int (nI s9)), (1, .int (nI (cnt (btm s9) i))), (2, .int (nI i))] → W p l e rm_X8_bits s m args below meth c H locs 0 0 Q (F0 m 4 ls []) := by
    intro n9
    induction n9 with
    | zero => intro i hi hm; exact absurd hm (Nat.not_lt_zero _)
    | succ n9 ih4 =>
      intro i hi hm4 H locs hP hD hS ls hl
      refine lv_iload_n hx hb dX8_bits_4 rfl (lv_at hl 2 rfl) ?_
      refine lv_bipush (v := nI 6) hx hb dX8_bits_5 (by decide) ?_
      refine icmp_ge_n (a := i) (b := 6) (tgt := 24) hx hb dX8_bits_7 (by decide) (by omega) (by omega) (fun c7 => ?_) (fun c7 => ?_)
      · refine lv_iload_n hx hb dX8_bits_24 rfl (lv_at hl 1 rfl) ?_
        have e9 : i = 6 := by omega
        exact hret (nI (cnt (btm s9) i)) (()) _ _ _ _ dX8_bits_25 (by rw [e9]; rfl) hP hD hS
      · have hdl := Nat.div_le_self s9 (2 ^ i)
        refine lv_iload_n hx hb dX8_bits_10 rfl (lv_at hl 1 rfl) ?_
        refine lv_iload_n hx hb dX8_bits_11 rfl (lv_at hl 0 rfl) ?_
        refine lv_iload_n hx hb dX8_bits_12 rfl (lv_at hl 2 rfl) ?_
        refine lv_ishr hx hb dX8_bits_13 ?_
        refine lv_topi (fun y9 e9 => ?_)
        have e9 : nI (s9 / 2 ^ i) = y9 := (e9.trans (shr_n (by omega) (by omega))).symm
        subst e9
        refine lv_iconst (v := nI 1) hx hb dX8_bits_14 (by decide) ?_
        refine lv_iand hx hb dX8_bits_15 ?_
        refine lv_topi (fun y9 e9 => ?_)
        have e9 : nI (s9 / 2 ^ i % 2) = y9 := (e9.trans (and1_n (by omega))).symm
        subst e9
        refine iadd_n (a := cnt (btm s9) i) (b := s9 / 2 ^ i % 2) hx hb dX8_bits_16 ?_
        refine lv_topi (fun y9 e9 => ?_)
        have e9 : nI (cnt (btm s9) (i + 1)) = y9 := (e9.trans (congrArg nI (cnt_bt s9 i))).symm
        subst e9
        refine lv_istore_n (lv' := [(1, .int (nI (cnt (btm s9) (i + 1)))), (0, .int (nI s9)), (2, .int (nI i))]) hx hb dX8_bits_17 rfl hl (by decide) rfl (fun ls hl => ?_)
        refine lv_iinc (v := nI (i + 1)) (lv' := [(2, .int (nI (i + 1))), (1, .int (nI (cnt (btm s9) (i + 1)))), (0, .int (nI s9))]) hx hb dX8_bits_18 hl (k := 2) rfl (nI_1 i) (by decide) rfl (fun ls hl => ?_)
        refine lv_goto (tgt := 4) hx hb dX8_bits_21 (by decide) ?_
        exact ih4 (i + 1) ((by omega)) (by omega) _ _ hP hD hS _ (lv_sub hl [2, 1, 0] rfl)
  have e8 : nI 0 = nI (cnt (btm s9) 0) := rfl
  have hl : lv_has ls 3 [(2, .int (nI 0)), (1, .int (nI (cnt (btm s9) 0))), (0, .int (nI s9))] := by rw [← e8]; exact hl
  exact L4 _ 0 ((by omega)) (Nat.lt_succ_self _) _ _ hP hD hS _ (lv_sub hl [2, 1, 0] rfl)

abbrev rm_X8_has : Room := { frames := 0, cells := 0, slots := 0, locals := 0 }
set_option maxHeartbeats 1000000 in
set_option maxRecDepth 100000 in
theorem c_has8 (l : Launch) (D : va_G) (cI cJ cZ cG cM : ClassId) (s9 m9 : Nat) (hs : s9 < 256) (hm : m9 < 8) :
    CI l yX8_has wsX8_has rm_X8_has D [(cI, .int), (cJ, .long), (cZ, .boolean), (cG, .object "LatestSets$Guild"), (cM, .array .int)] [] [.int (nI s9), .int (nI m9)] (S := Unit) (fun r u => bz (btm s9 m9 = true) r) (fun u => []) := by
  refine sz_of (cc := cX8_has) (maxL := 2) (by decide) rfl (Nat.le_of_ble_eq_true rfl) ?_
  intro p e s m args below meth c A ls Q E hret
  obtain ⟨hx, hb, -, hml, hown, hts, -, hin, hA, hK, hP, hD, hS, hl, hN⟩ := E
  have hown : s.vm.findClass RX8 = some m.cls := hown
  have hl : lv_has ls 2 [(0, .int (nI s9)), (1, .int (nI m9))] := hl
  have SF : CallFix p m c cX8_has 2 s args wsX8_has RX8 := ⟨hx, hb, hml, hown, hts⟩
  have hdl := Nat.div_le_self s9 (2 ^ m9)
  have hml2 := Nat.mod_lt (s9 / 2 ^ m9) (show 0 < 2 by decide)
  refine lv_iload_n hx hb dX8_has_0 rfl (lv_at hl 0 rfl) ?_
  refine lv_iload_n hx hb dX8_has_1 rfl (lv_at hl 1 rfl) ?_
  refine lv_ishr hx hb dX8_has_2 ?_
  refine lv_topi (fun y9 e9 => ?_)
  have e9 : nI (s9 / 2 ^ m9) = y9 := (e9.trans (shr_n (by omega) (by omega))).symm
  subst e9
  refine lv_iconst (v := nI 1) hx hb dX8_has_3 (by decide) ?_
  refine lv_iand hx hb dX8_has_4 ?_
  refine lv_topi (fun y9 e9 => ?_)
  have e9 : nI (s9 / 2 ^ m9 % 2) = y9 := (e9.trans (and1_n (by omega))).symm
  subst e9
  refine lv_iconst (v := nI 1) hx hb dX8_has_5 (by decide) ?_
  refine icmp_ne_n (a := s9 / 2 ^ m9 % 2) (b := 1) (tgt := 13) hx hb dX8_has_6 (by decide) (by omega) (by omega) (fun c6 => ?_) (fun c6 => ?_)
  · refine lv_iconst (v := nI 0) hx hb dX8_has_13 (by decide) ?_
    exact hret (nI 0) (()) _ _ _ _ dX8_has_14 rfl (bz0 (fun z => c6 (of_decide_eq_true z))) hP hD hS
  · refine lv_iconst (v := nI 1) hx hb dX8_has_9 (by decide) ?_
    refine lv_goto (tgt := 14) hx hb dX8_has_10 (by decide) ?_
    exact hret (nI 1) (()) _ _ _ _ dX8_has_14 rfl (bz1 (decide_eq_true c6)) hP hD hS

abbrev rm_X8_moves : Room := { frames := 4, cells := 0, slots := 0, locals := 99 }
set_option maxHeartbeats 1000000 in
set_option maxRecDepth 100000 in
theorem c_moves8 (l : Launch) (D : va_G) (cI cJ cZ cG cM : ClassId) (o me ml mb mt ms mp my mc mk mw mo mq mi mz : Nat) (fi si sn la ah ri lh : Int32) (n nl : Nat) (fe fb cm fk fs fl : Nat → Int32) (hV : VL fs nl) (h1 : 1 ≤ n) (h6 : n ≤ 6) (hfl : ∀ j, j < n → ∃ b : Nat, b ≤ 5 ∧ fl j = nI b) (x w y : Nat) (hx9 : x ≤ 23) (hw9 : w < 1000) (hy9 : y ≤ 23) (s9 : Nat) (hs : s9 < 64) :
    CI l yX8_moves wsX8_moves rm_X8_moves D [(cI, .int), (cJ, .long), (cZ, .boolean), (cG, .object "LatestSets$Guild"), (cM, .array .int)] [(o, .inr (8, [.int (nI n), .ref me, .ref ml, .ref mb, .int fi, .int (nI nl), .ref mt, .int si, .ref ms, .int sn, .ref mp, .ref my, .ref mc, .int la, .ref mk, .ref mw, .int ah, .int ri, .int lh, .ref mo, .ref mq, .ref mi, .ref mz])), (me, .inl (cI, 6, .inl fe)), (my, .inl (cI, 6, .inl fb)), (mc, .inl (cI, 6, .inl cm)), (mk, .inl (cI, 24, .inl fk)), (mt, .inl (cI, 20, .inl fs)), (ml, .inl (cI, 6, .inl fl))] [.ref o, .int (nI s9), .int (nI x), .int (nI w), .int (nI y)] (S := (Int32 × (Nat → Int32) × (Nat → Int32) × (Nat → Int32))) (fun r u => bz (P6 (fun z9 => nxG fs nl n fe z9 (nI 0)) (fun j => (fl j).toNatClampNeg) x w y s9) r) (fun u => [(o, .inr (8, [.int (nI n), .ref me, .ref ml, .ref mb, .int fi, .int (nI nl), .ref mt, .int si, .ref ms, .int sn, .ref mp, .ref my, .ref mc, .int u.1, .ref mk, .ref mw, .int ah, .int ri, .int lh, .ref mo, .ref mq, .ref mi, .ref mz])), (me, .inl (cI, 6, .inl fe)), (my, .inl (cI, 6, .inl u.2.1)), (mc, .inl (cI, 6, .inl u.2.2.1)), (mk, .inl (cI, 24, .inl u.2.2.2)), (mt, .inl (cI, 20, .inl fs)), (ml, .inl (cI, 6, .inl fl))]) := by
  refine sz_of (cc := cX8_moves) (maxL := 9) (by decide) rfl (Nat.le_of_ble_eq_true rfl) ?_
  intro p e s m args below meth c A ls Q E hret
  obtain ⟨hx, hb, -, hml, hown, hts, -, hin, hA, hK, hP, hD, hS, hl, hN⟩ := E
  have hown : s.vm.findClass RX8 = some m.cls := hown
  have hl : lv_has ls 9 [(0, .ref o), (1, .int (nI s9)), (2, .int (nI x)), (3, .int (nI w)), (4, .int (nI y))] := hl
  have SF : CallFix p m c cX8_moves 9 s args wsX8_moves RX8 := ⟨hx, hb, hml, hown, hts⟩
  have hw0 := hts (.fieldLink RX8 7 "LatestSetsModel" "members" "I") (by decide +kernel)
  have hi8 : ∀ x ∈ wsX80, x ∈ wsX8_moves := by decide +kernel
  have hw2 := hts (.fieldLink RX8 38 "LatestSetsModel" "by" "[I") (by decide +kernel)
  have hb6 := bits_6 s9
  have hp6 := p66_le hb6
  refine lv_aload_n hx hb dX8_moves_0 rfl (lv_at hl 0 rfl) ?_
  refine cal_v (run_V (As := []) (rest := []) SF (c_asTold l D cI cJ cZ cG cM o me ml mb mt ms mp my mc mk mw mo mq mi mz fi si sn la ah ri lh n nl fl fb) (cwV 0 hts gX8_moves_X8_asTold rfl rfl rfl (by decide +kernel) ⟨Nat.le_of_ble_eq_true rfl, Nat.le_of_ble_eq_true rfl⟩) hN hK hP hD [0, 6, 2] rfl (by decide) 8 0 rfl rfl rfl rfl hl.1 rfl (Nat.le_of_ble_eq_true rfl) dX8_moves_1 ⟨Nat.le_of_ble_eq_true rfl, Nat.le_of_ble_eq_true rfl⟩) ⟨rfl, rfl⟩ hP hD hS hA [0, 6, 2] rfl (fun _ => rfl) (fun u1 H locs hw hP hD hS => ?_)
  have hP : va_P D vwCl [(o, .inr (8, [.int (nI n), .ref me, .ref ml, .ref mb, .int fi, .int (nI nl), .ref mt, .int si, .ref ms, .int sn, .ref mp, .ref my, .ref mc, .int (nI 0), .ref mk, .ref mw, .int ah, .int ri, .int lh, .ref mo, .ref mq, .ref mi, .ref mz])), (me, .inl (cI, 6, .inl fe)), (my, .inl (cI, 6, .inl u1)), (mc, .inl (cI, 6, .inl cm)), (mk, .inl (cI, 24, .inl fk)), (mt, .inl (cI, 20, .inl fs)), (ml, .inl (cI, 6, .inl fl))] H := hP
  have hD : va_D A [(o, .inr (8, [.int (nI n), .ref me, .ref ml, .ref mb, .int fi, .int (nI nl), .ref mt, .int si, .ref ms, .int sn, .ref mp, .ref my, .ref mc, .int (nI 0), .ref mk, .ref mw, .int ah, .int ri, .int lh, .ref mo, .ref mq, .ref mi, .ref mz])), (me, .inl (cI, 6, .inl fe)), (my, .inl (cI, 6, .inl u1)), (mc, .inl (cI, 6, .inl cm)), (mk, .inl (cI, 24, .inl fk)), (mt, .inl (cI, 20, .inl fs)), (ml, .inl (cI, 6, .inl fl))] := hD
  have hT0 := hw
  refine lv_aload_n hx hb dX8_moves_4 rfl (lv_at hl 0 rfl) ?_
  refine lv_bipush (v := nI 6) hx hb dX8_moves_5 (by decide) ?_
  refine lv_iload_n hx hb dX8_moves_7 rfl (lv_at hl 1 rfl) ?_
  refine cal_i (run_S (As := [.int (nI s9)]) (rest := [.int (nI 6), .ref o]) SF (c_bits8 l D cI cJ cZ cG cM s9 hs) (va_cwS 1 hts gX8_moves_X8_bits rfl rfl rfl (by decide +kernel) ⟨Nat.le_of_ble_eq_true rfl, Nat.le_of_ble_eq_true rfl⟩) hN hK hP hD [] rfl (by decide) rfl hl.1 rfl (Nat.le_of_ble_eq_true rfl) dX8_moves_8 ⟨Nat.le_of_ble_eq_true rfl, Nat.le_of_ble_eq_true rfl⟩) ⟨rfl, rfl⟩ hP hD hS hA [] rfl (fun _ => rfl) (fun r8 _ H locs hw hP hD hS => ?_)
  have hP : va_P D vwCl [(o, .inr (8, [.int (nI n), .ref me, .ref ml, .ref mb, .int fi, .int (nI nl), .ref mt, .int si, .ref ms, .int sn, .ref mp, .ref my, .ref mc, .int (nI 0), .ref mk, .ref mw, .int ah, .int ri, .int lh, .ref mo, .ref mq, .ref mi, .ref mz])), (me, .inl (cI, 6, .inl fe)), (my, .inl (cI, 6, .inl u1)), (mc, .inl (cI, 6, .inl cm)), (mk, .inl (cI, 24, .inl fk)), (mt, .inl (cI, 20, .inl fs)), (ml, .inl (cI, 6, .inl fl))] H := hP
  have hD : va_D A [(o, .inr (8, [.int (nI n), .ref me, .ref ml, .ref mb, .int fi, .int (nI nl), .ref mt, .int si, .ref ms, .int sn, .ref mp, .ref my, .ref mc, .int (nI 0), .ref mk, .ref mw, .int ah, .int ri, .int lh, .ref mo, .ref mq, .ref mi, .ref mz])), (me, .inl (cI, 6, .inl fe)), (my, .inl (cI, 6, .inl u1)), (mc, .inl (cI, 6, .inl cm)), (mk, .inl (cI, 24, .inl fk)), (mt, .inl (cI, 20, .inl fs)), (ml, .inl (cI, 6, .inl fl))] := hD
  subst hw
  refine cal_i (run_V (As := [.int (nI 6), .int (nI (bits s9))]) (rest := []) SF (c_powerOf l D cI cJ cZ cG cM o me ml mb mt ms mp my mc mk mw mo mq mi mz fi si sn (nI 0) ah ri lh n nl 6 (bits s9) (by omega)) (cwV 2 hts gX8_moves_X8_powerOf rfl rfl rfl (by decide +kernel) ⟨Nat.le_of_ble_eq_true rfl, Nat.le_of_ble_eq_true rfl⟩) hN hK hP hD [0] rfl (by decide) 8 0 rfl rfl rfl rfl hl.1 rfl (Nat.le_of_ble_eq_true rfl) dX8_moves_11 ⟨Nat.le_of_ble_eq_true rfl, Nat.le_of_ble_eq_true rfl⟩) ⟨rfl, rfl⟩ hP hD hS hA [0] rfl (fun _ => rfl) (fun r11 _ H locs hw hP hD hS => ?_)
  have hP : va_P D vwCl [(o, .inr (8, [.int (nI n), .ref me, .ref ml, .ref mb, .int fi, .int (nI nl), .ref mt, .int si, .ref ms, .int sn, .ref mp, .ref my, .ref mc, .int (nI 0), .ref mk, .ref mw, .int ah, .int ri, .int lh, .ref mo, .ref mq, .ref mi, .ref mz])), (me, .inl (cI, 6, .inl fe)), (my, .inl (cI, 6, .inl u1)), (mc, .inl (cI, 6, .inl cm)), (mk, .inl (cI, 24, .inl fk)), (mt, .inl (cI, 20, .inl fs)), (ml, .inl (cI, 6, .inl fl))] H := hP
  have hD : va_D A [(o, .inr (8, [.int (nI n), .ref me, .ref ml, .ref mb, .int fi, .int (nI nl), .ref mt, .int si, .ref ms, .int sn, .ref mp, .ref my, .ref mc, .int (nI 0), .ref mk, .ref mw, .int ah, .int ri, .int lh, .ref mo, .ref mq, .ref mi, .ref mz])), (me, .inl (cI, 6, .inl fe)), (my, .inl (cI, 6, .inl u1)), (mc, .inl (cI, 6, .inl cm)), (mk, .inl (cI, 24, .inl fk)), (mt, .inl (cI, 20, .inl fs)), (ml, .inl (cI, 6, .inl fl))] := hD
  subst hw
  refine lv_istore (lv' := [(5, .int (nI (6 ^ bits s9))), (0, .ref o), (1, .int (nI s9)), (2, .int (nI x)), (3, .int (nI w)), (4, .int (nI y))]) hx hb dX8_moves_14 hl (by decide) rfl (fun ls hl => ?_)
  refine lv_iconst (v := nI 0) hx hb dX8_moves_16 (by decide) ?_
  refine lv_istore (lv' := [(6, .int (nI 0)), (5, .int (nI (6 ^ bits s9))), (0, .ref o), (1, .int (nI s9)), (2, .int (nI x)), (3, .int (nI w)), (4, .int (nI y))]) hx hb dX8_moves_17 hl (by decide) rfl (fun ls hl => ?_)
  have L19 : ∀ (n9 : Nat) (wy : Nat) (fb cm fk : Nat → Int32) (hwy : wy ≤ 6 ^ bits s9) (hT : ∀ j, j < n → btm s9 j = false → fb j = fl j) (hno : ∀ q, q < wy → ¬ Rq (fun z9 => nxG fs nl n fe z9 (nI 0)) x w y (f6 (fun j => (fl j).toNatClampNeg) s9 q) = true), 6 ^ bits s9 - wy < n9 → ∀ (H : Heap) (locs : List Loc), va_P D vwCl [(o, .inr (8, [.int (nI n), .ref me, .ref ml, .ref mb, .int fi, .int (nI nl), .ref mt, .int si, .ref ms, .int sn, .ref mp, .ref my, .ref mc, .int (nI 0), .ref mk, .ref mw, .int ah, .int ri, .int lh, .ref mo, .ref mq, .ref mi, .ref mz])), (me, .inl (cI, 6, .inl fe)), (my, .inl (cI, 6, .inl fb)), (mc, .inl (cI, 6, .inl cm)), (mk, .inl (cI, 24, .inl fk)), (mt, .inl (cI, 20, .inl fs)), (ml, .inl (cI, 6, .inl fl))] H → va_D A [(o, .inr (8, [.int (nI n), .ref me, .ref ml, .ref mb, .int fi, .int (nI nl), .ref mt, .int si, .ref ms, .int sn, .ref mp, .ref my, .ref mc, .int (nI 0), .ref mk, .ref mw, .int ah, .int ri, .int lh, .ref mo, .ref mq, .ref mi, .ref mz])), (me, .inl (cI, 6, .inl fe)), (my, .inl (cI, 6, .inl fb)), (mc, .inl (cI, 6, .inl cm)), (mk, .inl (cI, 24, .inl fk)), (mt, .inl (cI, 20, .inl fs)), (ml, .inl (cI, 6, .inl fl))] → va_S A s.heap H locs → ∀ (ls : Array Slot), lv_has ls 9 [(0, .ref o), (1, .int (nI s9)), (2, .int (nI x)), (3, .int (nI w)), (4, .int (nI y)), (5, .int (nI (6 ^ bits s9))), (6, .int (nI wy))] → W p l e rm_X8_moves s m args below meth c H locs 0 0 Q (F0 m 19 ls []) := by
    intro n9
    induction n9 with
    | zero => intro wy fb cm fk hwy hT hno hm; exact absurd hm (Nat.not_lt_zero _)
    | succ n9 ih19 =>
      intro wy fb cm fk hwy hT hno hm19 H locs hP hD hS ls hl
      refine lv_iload hx hb dX8_moves_19 (lv_at hl 6 rfl) ?_
      refine lv_iload hx hb dX8_moves_21 (lv_at hl 5 rfl) ?_
      refine icmp_ge_n (a := wy) (b := 6 ^ bits s9) (tgt := 115) hx hb dX8_moves_23 (by decide) (by omega) (by omega) (fun c23 => ?_) (fun c23 => ?_)
      · refine lv_iconst (v := nI 0) hx hb dX8_moves_115 (by decide) ?_
        exact hret (nI 0) ((nI 0, fb, cm, fk)) _ _ _ _ dX8_moves_116 rfl (bz0 (fun ⟨q, z1, z2⟩ => hno q (by omega) z2)) hP hD hS
      · refine lv_iload hx hb dX8_moves_26 (lv_at hl 6 rfl) ?_
        refine lv_istore (lv' := [(7, .int (nI wy)), (0, .ref o), (1, .int (nI s9)), (2, .int (nI x)), (3, .int (nI w)), (4, .int (nI y)), (5, .int (nI (6 ^ bits s9))), (6, .int (nI wy))]) hx hb dX8_moves_28 hl (by decide) rfl (fun ls hl => ?_)
        refine lv_iconst (v := nI 0) hx hb dX8_moves_30 (by decide) ?_
        refine lv_istore (lv' := [(8, .int (nI 0)), (7, .int (nI wy)), (0, .ref o), (1, .int (nI s9)), (2, .int (nI x)), (3, .int (nI w)), (4, .int (nI y)), (5, .int (nI (6 ^ bits s9))), (6, .int (nI wy))]) hx hb dX8_moves_31 hl (by decide) rfl (fun ls hl => ?_)
        have L33 : ∀ (n9 : Nat) (m9 : Nat) (fb : Nat → Int32) (hm9 : m9 ≤ n) (hT : ∀ j, j < n → btm s9 j = false → fb j = fl j) (hA9 : ∀ j, j < m9 → fb j = nI (f6 (fun j => (fl j).toNatClampNeg) s9 wy j)), n - m9 < n9 → ∀ (H : Heap) (locs : List Loc), va_P D vwCl [(o, .inr (8, [.int (nI n), .ref me, .ref ml, .ref mb, .int fi, .int (nI nl), .ref mt, .int si, .ref ms, .int sn, .ref mp, .ref my, .ref mc, .int (nI 0), .ref mk, .ref mw, .int ah, .int ri, .int lh, .ref mo, .ref mq, .ref mi, .ref mz])), (me, .inl (cI, 6, .inl fe)), (my, .inl (cI, 6, .inl fb)), (mc, .inl (cI, 6, .inl cm)), (mk, .inl (cI, 24, .inl fk)), (mt, .inl (cI, 20, .inl fs)), (ml, .inl (cI, 6, .inl fl))] H → va_D A [(o, .inr (8, [.int (nI n), .ref me, .ref ml, .ref mb, .int fi, .int (nI nl), .ref mt, .int si, .ref ms, .int sn, .ref mp, .ref my, .ref mc, .int (nI 0), .ref mk, .ref mw, .int ah, .int ri, .int lh, .ref mo, .ref mq, .ref mi, .ref mz])), (me, .inl (cI, 6, .inl fe)), (my, .inl (cI, 6, .inl fb)), (mc, .inl (cI, 6, .inl cm)), (mk, .inl (cI, 24, .inl fk)), (mt, .inl (cI, 20, .inl fs)), (ml, .inl (cI, 6, .inl fl))] → va_S A s.heap H locs → ∀ (ls : Array Slot), lv_has ls 9 [(0, .ref o), (1, .int (nI s9)), (2, .int (nI x)), (3, .int (nI w)), (4, .int (nI y)), (5, .int (nI (6 ^ bits s9))), (6, .int (nI wy)), (7, .int (nI (wy / 6 ^ cnt (btm s9) m9))), (8, .int (nI m9))] → W p l e rm_X8_moves s m args below meth c H locs 0 0 Q (F0 m 33 ls []) := by
          intro n9
          induction n9 with
          | zero => intro m9 fb hm9 hT hA9 hm; exact absurd hm (Nat.not_lt_zero _)
          | succ n9 ih33 =>
            intro m9 fb hm9 hT hA9 hm33 H locs hP hD hS ls hl
            refine lv_iload hx hb dX8_moves_33 (lv_at hl 8 rfl) ?_
            refine lv_aload_n hx hb dX8_moves_35 rfl (lv_at hl 0 rfl) ?_
            refine va_get (D := D) (ci := 8) (v := .int (nI n)) (C := RX8) (T := TX8) (N := 23) hx hb hts hi8 hown hK hP 0 rfl rfl 0 (by decide) hw0 (fun _ h9 => h9) rfl dX8_moves_36 ?_
            refine icmp_ge_n (a := m9) (b := n) (tgt := 76) hx hb dX8_moves_39 (by decide) (by omega) (by omega) (fun c39 => ?_) (fun c39 => ?_)
            · have h33 : ∀ j, j < n → fb j = nI (f6 (fun j => (fl j).toNatClampNeg) s9 wy j) := fun j hj => hA9 j (by omega)
              refine lv_aload_n hx hb dX8_moves_76 rfl (lv_at hl 0 rfl) ?_
              refine lv_iload_n hx hb dX8_moves_77 rfl (lv_at hl 2 rfl) ?_
              refine lv_iload_n hx hb dX8_moves_78 rfl (lv_at hl 3 rfl) ?_
              refine cal_i (run_V (As := [.int (nI x), .int (nI w)]) (rest := []) SF (c_hourOf l D cI cJ cZ cG cM o me ml mb mt ms mp my mc mk mw mo mq mi mz fi si sn (nI 0) ah ri lh n nl (nI x) w fe fb cm fk fs hV h1 h6 (by omega)) (cwV 2 hts gX8_moves_X8_hourOf rfl rfl rfl (by decide +kernel) ⟨Nat.le_of_ble_eq_true rfl, Nat.le_of_ble_eq_true rfl⟩) hN hK hP hD [0, 1, 2, 3, 4, 5] rfl (by decide) 8 0 rfl rfl rfl rfl hl.1 rfl (Nat.le_of_ble_eq_true rfl) dX8_moves_79 ⟨Nat.le_of_ble_eq_true rfl, Nat.le_of_ble_eq_true rfl⟩) ⟨rfl, rfl⟩ hP hD hS hA [0, 1, 2, 3, 4, 5] rfl (fun _ => rfl) (fun r79 u79 H locs hw hP hD hS => ?_)
              have hP : va_P D vwCl [(o, .inr (8, [.int (nI n), .ref me, .ref ml, .ref mb, .int fi, .int (nI nl), .ref mt, .int si, .ref ms, .int sn, .ref mp, .ref my, .ref mc, .int (nI 0), .ref mk, .ref mw, .int ah, .int ri, .int lh, .ref mo, .ref mq, .ref mi, .ref mz])), (me, .inl (cI, 6, .inl fe)), (my, .inl (cI, 6, .inl fb)), (mc, .inl (cI, 6, .inl u79.1)), (mk, .inl (cI, 24, .inl u79.2)), (mt, .inl (cI, 20, .inl fs)), (ml, .inl (cI, 6, .inl fl))] H := hP
              have hD : va_D A [(o, .inr (8, [.int (nI n), .ref me, .ref ml, .ref mb, .int fi, .int (nI nl), .ref mt, .int si, .ref ms, .int sn, .ref mp, .ref my, .ref mc, .int (nI 0), .ref mk, .ref mw, .int ah, .int ri, .int lh, .ref mo, .ref mq, .ref mi, .ref mz])), (me, .inl (cI, 6, .inl fe)), (my, .inl (cI, 6, .inl fb)), (mc, .inl (cI, 6, .inl u79.1)), (mk, .inl (cI, 24, .inl u79.2)), (mt, .inl (cI, 20, .inl fs)), (ml, .inl (cI, 6, .inl fl))] := hD
              have hw : r79 = nI (hsq (nxG fs nl n fe (fun m => nI (f6 (fun j => (fl j).toNatClampNeg) s9 wy m)) (nI 0)) x w) := (hw.trans (by rw [nxG_cong (f2 := fun m => nI (f6 (fun j => (fl j).toNatClampNeg) s9 wy m)) h1 h33])).trans (itH_hsq (F := nxG fs nl n fe (fun m => nI (f6 (fun j => (fl j).toNatClampNeg) s9 wy m)) (nI 0)) (FR_G _ _ _ _ _ _) w)
              subst hw
              have hhl := hsq_le (F := nxG fs nl n fe (fun m => nI (f6 (fun j => (fl j).toNatClampNeg) s9 wy m)) (nI 0)) (FR_G _ _ _ _ _ _) hx9 w
              refine lv_istore (lv' := [(8, .int (nI (hsq (nxG fs nl n fe (fun m => nI (f6 (fun j => (fl j).toNatClampNeg) s9 wy m)) (nI 0)) x w))), (0, .ref o), (1, .int (nI s9)), (2, .int (nI x)), (3, .int (nI w)), (4, .int (nI y)), (5, .int (nI (6 ^ bits s9))), (6, .int (nI wy)), (7, .int (nI (wy / 6 ^ cnt (btm s9) m9)))]) hx hb dX8_moves_82 hl (by decide) rfl (fun ls hl => ?_)
              refine lv_iload hx hb dX8_moves_84 (lv_at hl 5 rfl) ?_
              refine lv_iload_n hx hb dX8_moves_86 rfl (lv_at hl 3 rfl) ?_
              refine icmp_lt_n (a := y) (b := x) (tgt := 100) hx hb dX8_moves_87 (by decide) (by omega) (by omega) (fun c87 => ?_) (fun c87 => ?_)
              · refine lv_iload hx hb dX8_moves_100 (lv_at hl 0 rfl) ?_
                refine lv_iload hx hb dX8_moves_102 (lv_at hl 5 rfl) ?_
                refine icmp_gt_n (a := hsq (nxG fs nl n fe (fun m => nI (f6 (fun j => (fl j).toNatClampNeg) s9 wy m)) (nI 0)) x w) (b := y) (tgt := 109) hx hb dX8_moves_104 (by decide) (by omega) (by omega) (fun c104 => ?_) (fun c104 => ?_)
                · refine lv_iinc (v := nI (wy + 1)) (lv' := [(6, .int (nI (wy + 1))), (8, .int (nI (hsq (nxG fs nl n fe (fun m => nI (f6 (fun j => (fl j).toNatClampNeg) s9 wy m)) (nI 0)) x w))), (0, .ref o), (1, .int (nI s9)), (2, .int (nI x)), (3, .int (nI w)), (4, .int (nI y)), (5, .int (nI (6 ^ bits s9))), (7, .int (nI (wy / 6 ^ cnt (btm s9) m9)))]) hx hb dX8_moves_109 hl (k := 7) rfl (nI_1 wy) (by decide) rfl (fun ls hl => ?_)
                  refine lv_goto (tgt := 19) hx hb dX8_moves_112 (by decide) ?_
                  exact ih19 (wy + 1) fb u79.1 u79.2 ((by omega)) ((fun j hj e9 => by rw [h33 j hj, f6_c e9]; exact (fl_n hfl j hj).1.symm)) ((fun q hq => by rcases Nat.lt_or_ge q wy with z | z; (exact hno q z); (rw [show q = wy by omega]; exact fun z => absurd ((Rq_lo c87).mp z) (by omega)))) (by omega) _ _ hP hD hS _ (lv_sub hl [2, 3, 4, 5, 6, 7, 0] rfl)
                · refine lv_iconst (v := nI 1) hx hb dX8_moves_107 (by decide) ?_
                  exact hret (nI 1) ((nI 0, fb, u79.1, u79.2)) _ _ _ _ dX8_moves_108 rfl (bz1 ⟨wy, by omega, (Rq_lo c87).mpr (by omega)⟩) hP hD hS
              · refine lv_iload hx hb dX8_moves_90 (lv_at hl 0 rfl) ?_
                refine lv_iload hx hb dX8_moves_92 (lv_at hl 5 rfl) ?_
                refine icmp_lt_n (a := hsq (nxG fs nl n fe (fun m => nI (f6 (fun j => (fl j).toNatClampNeg) s9 wy m)) (nI 0)) x w) (b := y) (tgt := 109) hx hb dX8_moves_94 (by decide) (by omega) (by omega) (fun c94 => ?_) (fun c94 => ?_)
                · refine lv_iinc (v := nI (wy + 1)) (lv' := [(6, .int (nI (wy + 1))), (8, .int (nI (hsq (nxG fs nl n fe (fun m => nI (f6 (fun j => (fl j).toNatClampNeg) s9 wy m)) (nI 0)) x w))), (0, .ref o), (1, .int (nI s9)), (2, .int (nI x)), (3, .int (nI w)), (4, .int (nI y)), (5, .int (nI (6 ^ bits s9))), (7, .int (nI (wy / 6 ^ cnt (btm s9) m9)))]) hx hb dX8_moves_109 hl (k := 7) rfl (nI_1 wy) (by decide) rfl (fun ls hl => ?_)
                  refine lv_goto (tgt := 19) hx hb dX8_moves_112 (by decide) ?_
                  exact ih19 (wy + 1) fb u79.1 u79.2 ((by omega)) ((fun j hj e9 => by rw [h33 j hj, f6_c e9]; exact (fl_n hfl j hj).1.symm)) ((fun q hq => by rcases Nat.lt_or_ge q wy with z | z; (exact hno q z); (rw [show q = wy by omega]; exact fun z => absurd ((Rq_hi (by omega)).mp z) (by omega)))) (by omega) _ _ hP hD hS _ (lv_sub hl [2, 3, 4, 5, 6, 7, 0] rfl)
                · refine lv_goto (tgt := 107) hx hb dX8_moves_97 (by decide) ?_
                  refine lv_iconst (v := nI 1) hx hb dX8_moves_107 (by decide) ?_
                  exact hret (nI 1) ((nI 0, fb, u79.1, u79.2)) _ _ _ _ dX8_moves_108 rfl (bz1 ⟨wy, by omega, (Rq_hi (by omega)).mpr (by omega)⟩) hP hD hS
            · refine lv_iload_n hx hb dX8_moves_42 rfl (lv_at hl 1 rfl) ?_
              refine lv_iload hx hb dX8_moves_43 (lv_at hl 8 rfl) ?_
              refine cal_i (run_S (As := [.int (nI s9), .int (nI m9)]) (rest := []) SF (c_has8 l D cI cJ cZ cG cM s9 m9 (by omega) (by omega)) (va_cwS 2 hts gX8_moves_X8_has rfl rfl rfl (by decide +kernel) ⟨Nat.le_of_ble_eq_true rfl, Nat.le_of_ble_eq_true rfl⟩) hN hK hP hD [] rfl (by decide) rfl hl.1 rfl (Nat.le_of_ble_eq_true rfl) dX8_moves_45 ⟨Nat.le_of_ble_eq_true rfl, Nat.le_of_ble_eq_true rfl⟩) ⟨rfl, rfl⟩ hP hD hS hA [] rfl (fun _ => rfl) (fun r45 _ H locs hw hP hD hS => ?_)
              have hP : va_P D vwCl [(o, .inr (8, [.int (nI n), .ref me, .ref ml, .ref mb, .int fi, .int (nI nl), .ref mt, .int si, .ref ms, .int sn, .ref mp, .ref my, .ref mc, .int (nI 0), .ref mk, .ref mw, .int ah, .int ri, .int lh, .ref mo, .ref mq, .ref mi, .ref mz])), (me, .inl (cI, 6, .inl fe)), (my, .inl (cI, 6, .inl fb)), (mc, .inl (cI, 6, .inl cm)), (mk, .inl (cI, 24, .inl fk)), (mt, .inl (cI, 20, .inl fs)), (ml, .inl (cI, 6, .inl fl))] H := hP
              have hD : va_D A [(o, .inr (8, [.int (nI n), .ref me, .ref ml, .ref mb, .int fi, .int (nI nl), .ref mt, .int si, .ref ms, .int sn, .ref mp, .ref my, .ref mc, .int (nI 0), .ref mk, .ref mw, .int ah, .int ri, .int lh, .ref mo, .ref mq, .ref mi, .ref mz])), (me, .inl (cI, 6, .inl fe)), (my, .inl (cI, 6, .inl fb)), (mc, .inl (cI, 6, .inl cm)), (mk, .inl (cI, 24, .inl fk)), (mt, .inl (cI, 20, .inl fs)), (ml, .inl (cI, 6, .inl fl))] := hD
              rcases hw with ⟨b45, rfl⟩ | ⟨b45, rfl⟩
              · refine lv_if_eq (tgt := 70) hx hb dX8_moves_48 (by decide) (fun c9 => absurd c9 (by decide)) (fun _ => ?_)
                have hdw := Nat.div_le_self wy (6 ^ cnt (btm s9) m9)
                refine lv_aload_n hx hb dX8_moves_51 rfl (lv_at hl 0 rfl) ?_
                refine va_get (D := D) (ci := 8) (v := .ref my) (C := RX8) (T := TX8) (N := 23) hx hb hts hi8 hown hK hP 0 rfl rfl 11 (by decide) hw2 (fun _ h9 => h9) rfl dX8_moves_52 ?_
                refine lv_iload hx hb dX8_moves_55 (lv_at hl 8 rfl) ?_
                refine lv_iload hx hb dX8_moves_57 (lv_at hl 7 rfl) ?_
                refine lv_bipush (v := nI 6) hx hb dX8_moves_59 (by decide) ?_
                refine irem_n (a := wy / 6 ^ cnt (btm s9) m9) (b := 6) hx hb dX8_moves_61 (by omega) (by omega) (by omega) ?_
                refine iast_n (k := m9) hx hb hK hP hD hS 2 0 rfl rfl (by omega) (by omega) dX8_moves_62 (fun H locs hP hD hS => ?_)
                have hP : va_P D vwCl [(o, .inr (8, [.int (nI n), .ref me, .ref ml, .ref mb, .int fi, .int (nI nl), .ref mt, .int si, .ref ms, .int sn, .ref mp, .ref my, .ref mc, .int (nI 0), .ref mk, .ref mw, .int ah, .int ri, .int lh, .ref mo, .ref mq, .ref mi, .ref mz])), (me, .inl (cI, 6, .inl fe)), (my, .inl (cI, 6, .inl (upd fb m9 (nI ((wy / 6 ^ cnt (btm s9) m9) % 6))))), (mc, .inl (cI, 6, .inl cm)), (mk, .inl (cI, 24, .inl fk)), (mt, .inl (cI, 20, .inl fs)), (ml, .inl (cI, 6, .inl fl))] H := hP
                have hD : va_D A [(o, .inr (8, [.int (nI n), .ref me, .ref ml, .ref mb, .int fi, .int (nI nl), .ref mt, .int si, .ref ms, .int sn, .ref mp, .ref my, .ref mc, .int (nI 0), .ref mk, .ref mw, .int ah, .int ri, .int lh, .ref mo, .ref mq, .ref mi, .ref mz])), (me, .inl (cI, 6, .inl fe)), (my, .inl (cI, 6, .inl (upd fb m9 (nI ((wy / 6 ^ cnt (btm s9) m9) % 6))))), (mc, .inl (cI, 6, .inl cm)), (mk, .inl (cI, 24, .inl fk)), (mt, .inl (cI, 20, .inl fs)), (ml, .inl (cI, 6, .inl fl))] := hD
                refine lv_iload hx hb dX8_moves_63 (lv_at hl 7 rfl) ?_
                refine lv_bipush (v := nI 6) hx hb dX8_moves_65 (by decide) ?_
                refine idiv_n (a := wy / 6 ^ cnt (btm s9) m9) (b := 6) hx hb dX8_moves_67 (by omega) (by omega) (by omega) ?_
                refine lv_istore (lv' := [(7, .int (nI ((wy / 6 ^ cnt (btm s9) m9) / 6))), (0, .ref o), (1, .int (nI s9)), (2, .int (nI x)), (3, .int (nI w)), (4, .int (nI y)), (5, .int (nI (6 ^ bits s9))), (6, .int (nI wy)), (8, .int (nI m9))]) hx hb dX8_moves_68 hl (by decide) rfl (fun ls hl => ?_)
                refine lv_iinc (v := nI (m9 + 1)) (lv' := [(8, .int (nI (m9 + 1))), (7, .int (nI ((wy / 6 ^ cnt (btm s9) m9) / 6))), (0, .ref o), (1, .int (nI s9)), (2, .int (nI x)), (3, .int (nI w)), (4, .int (nI y)), (5, .int (nI (6 ^ bits s9))), (6, .int (nI wy))]) hx hb dX8_moves_70 hl (k := 8) rfl (nI_1 m9) (by decide) rfl (fun ls hl => ?_)
                refine lv_goto (tgt := 33) hx hb dX8_moves_73 (by decide) ?_
                have e8 : nI ((wy / 6 ^ cnt (btm s9) m9) / 6) = nI (wy / 6 ^ cnt (btm s9) (m9 + 1)) := by rw [cnt_t b45, Nat.pow_succ, Nat.div_div_eq_div_mul]
                have hl : lv_has ls 9 [(8, .int (nI (m9 + 1))), (7, .int (nI (wy / 6 ^ cnt (btm s9) (m9 + 1)))), (0, .ref o), (1, .int (nI s9)), (2, .int (nI x)), (3, .int (nI w)), (4, .int (nI y)), (5, .int (nI (6 ^ bits s9))), (6, .int (nI wy))] := by rw [← e8]; exact hl
                exact ih33 (m9 + 1) (upd fb m9 (nI ((wy / 6 ^ cnt (btm s9) m9) % 6))) ((by omega)) ((fun j hj e9 => (pk_un (fun z => by rw [z, b45] at e9; exact absurd e9 (by decide))).trans (hT j hj e9))) ((fun j hj => by rcases Nat.lt_or_ge j m9 with z | z; (exact (pk_un (by omega)).trans (hA9 j z)); (rw [show j = m9 by omega, pk_us]; exact congrArg nI (f6_a (tl := (fun j => (fl j).toNatClampNeg)) b45).symm))) (by omega) _ _ hP hD hS _ (lv_sub hl [2, 3, 4, 5, 6, 7, 8, 1, 0] rfl)
              · refine lv_if_eq (tgt := 70) hx hb dX8_moves_48 (by decide) (fun _ => ?_) (fun c9 => absurd (by decide) c9)
                refine lv_iinc (v := nI (m9 + 1)) (lv' := [(8, .int (nI (m9 + 1))), (0, .ref o), (1, .int (nI s9)), (2, .int (nI x)), (3, .int (nI w)), (4, .int (nI y)), (5, .int (nI (6 ^ bits s9))), (6, .int (nI wy)), (7, .int (nI (wy / 6 ^ cnt (btm s9) m9)))]) hx hb dX8_moves_70 hl (k := 8) rfl (nI_1 m9) (by decide) rfl (fun ls hl => ?_)
                refine lv_goto (tgt := 33) hx hb dX8_moves_73 (by decide) ?_
                have hbt : btm s9 m9 = false := by cases e9 : btm s9 m9 with | false => rfl | true => exact absurd e9 b45
                have e8 : nI (wy / 6 ^ cnt (btm s9) m9) = nI (wy / 6 ^ cnt (btm s9) (m9 + 1)) := by rw [cnt_f hbt]
                have hl : lv_has ls 9 [(8, .int (nI (m9 + 1))), (0, .ref o), (1, .int (nI s9)), (2, .int (nI x)), (3, .int (nI w)), (4, .int (nI y)), (5, .int (nI (6 ^ bits s9))), (6, .int (nI wy)), (7, .int (nI (wy / 6 ^ cnt (btm s9) (m9 + 1))))] := by rw [← e8]; exact hl
                exact ih33 (m9 + 1) fb ((by omega)) hT ((fun j hj => by rcases Nat.lt_or_ge j m9 with z | z; (exact hA9 j z); (rw [show j = m9 by omega, hT m9 (by omega) hbt, (fl_n hfl m9 (by omega)).1]; exact congrArg nI (f6_c (tl := (fun j => (fl j).toNatClampNeg)) hbt).symm))) (by omega) _ _ hP hD hS _ (lv_sub hl [1, 2, 3, 4, 5, 6, 7, 8, 0] rfl)
        have e8 : nI wy = nI (wy / 6 ^ cnt (btm s9) 0) := by show nI wy = nI (wy / 6 ^ 0); rw [Nat.pow_zero, Nat.div_one]
        have hl : lv_has ls 9 [(8, .int (nI 0)), (7, .int (nI (wy / 6 ^ cnt (btm s9) 0))), (0, .ref o), (1, .int (nI s9)), (2, .int (nI x)), (3, .int (nI w)), (4, .int (nI y)), (5, .int (nI (6 ^ bits s9))), (6, .int (nI wy))] := by rw [← e8]; exact hl
        exact L33 _ 0 fb ((Nat.zero_le _)) hT ((fun j hj => absurd hj (Nat.not_lt_zero j))) (Nat.lt_succ_self _) _ _ hP hD hS _ (lv_sub hl [2, 3, 4, 5, 6, 7, 8, 1, 0] rfl)
  exact L19 _ 0 u1 cm fk ((Nat.zero_le _)) ((fun j hj _ => hT0 j (by omega))) ((fun q hq => absurd hq (Nat.not_lt_zero q))) (Nat.lt_succ_self _) _ _ hP hD hS _ (lv_sub hl [2, 3, 4, 5, 6, 1, 0] rfl)

abbrev rm_X8_move : Room := { frames := 5, cells := 0, slots := 0, locals := 127 }
set_option maxHeartbeats 1000000 in
set_option maxRecDepth 100000 in
theorem m_move (l : Launch) (D : va_G) (cI cJ cZ cG cM : ClassId) (o me ml mb mt ms mp my mc mk mw mo mq mi mz : Nat) (fi si sn la ah ri lh : Int32) (n nl : Nat) (fe fb cm fk fs fl : Nat → Int32) (hV : VL fs nl) (h1 : 1 ≤ n) (h6 : n ≤ 6) (hfl : ∀ j, j < n → ∃ b : Nat, b ≤ 5 ∧ fl j = nI b) (x w y : Int32) :
    CI l yX8_move wsX8_move rm_X8_move D [(cI, .int), (cJ, .long), (cZ, .boolean), (cG, .object "LatestSets$Guild"), (cM, .array .int)] [(o, .inr (8, [.int (nI n), .ref me, .ref ml, .ref mb, .int fi, .int (nI nl), .ref mt, .int si, .ref ms, .int sn, .ref mp, .ref my, .ref mc, .int la, .ref mk, .ref mw, .int ah, .int ri, .int lh, .ref mo, .ref mq, .ref mi, .ref mz])), (me, .inl (cI, 6, .inl fe)), (my, .inl (cI, 6, .inl fb)), (mc, .inl (cI, 6, .inl cm)), (mk, .inl (cI, 24, .inl fk)), (mt, .inl (cI, 20, .inl fs)), (ml, .inl (cI, 6, .inl fl))] [.ref o, .int x, .int w, .int y] (S := (Int32 × (Nat → Int32) × (Nat → Int32) × (Nat → Int32))) (fun r u => (¬ ((nI 0 ≤ x ∧ x ≤ nI 23) ∧ (nI 1 ≤ w ∧ w ≤ nI 9) ∧ (nI 0 ≤ y ∧ y ≤ nI 23)) ∧ r = (-2)) ∨ (((nI 0 ≤ x ∧ x ≤ nI 23) ∧ (nI 1 ≤ w ∧ w ≤ nI 9) ∧ (nI 0 ≤ y ∧ y ≤ nI 23)) ∧ LM (fun s9 => P6 (fun z9 => nxG fs nl n fe z9 (nI 0)) (fun j => (fl j).toNatClampNeg) x.toNatClampNeg w.toNatClampNeg y.toNatClampNeg s9) (2 ^ n) r)) (fun u => [(o, .inr (8, [.int (nI n), .ref me, .ref ml, .ref mb, .int fi, .int (nI nl), .ref mt, .int si, .ref ms, .int sn, .ref mp, .ref my, .ref mc, .int u.1, .ref mk, .ref mw, .int ah, .int ri, .int lh, .ref mo, .ref mq, .ref mi, .ref mz])), (me, .inl (cI, 6, .inl fe)), (my, .inl (cI, 6, .inl u.2.1)), (mc, .inl (cI, 6, .inl u.2.2.1)), (mk, .inl (cI, 24, .inl u.2.2.2)), (mt, .inl (cI, 20, .inl fs)), (ml, .inl (cI, 6, .inl fl))]) := by
  refine si_of (cc := cX8_move) (maxL := 7) (by decide) rfl (Nat.le_of_ble_eq_true rfl) ?_
  intro p e s m args below meth c A ls Q E hret
  obtain ⟨hx, hb, -, hml, hown, hts, -, hin, hA, hK, hP, hD, hS, hl, hN⟩ := E
  have hown : s.vm.findClass RX8 = some m.cls := hown
  have hl : lv_has ls 7 [(0, .ref o), (1, .int x), (2, .int w), (3, .int y)] := hl
  have SF : CallFix p m c cX8_move 7 s args wsX8_move RX8 := ⟨hx, hb, hml, hown, hts⟩
  have hw0 := hts (.fieldLink RX8 7 "LatestSetsModel" "members" "I") (by decide +kernel)
  have hi8 : ∀ x ∈ wsX80, x ∈ wsX8_move := by decide +kernel
  have hp2 := p2_le h6
  refine lv_iload_n hx hb dX8_move_0 rfl (lv_at hl 1 rfl) ?_
  refine cal_i (run_S (As := [.int x]) (rest := []) SF (c_isHour8 l D cI cJ cZ cG cM x) (va_cwS 1 hts gX8_move_X8_isHour rfl rfl rfl (by decide +kernel) ⟨Nat.le_of_ble_eq_true rfl, Nat.le_of_ble_eq_true rfl⟩) hN hK hP hD [] rfl (by decide) rfl hl.1 rfl (Nat.le_of_ble_eq_true rfl) dX8_move_1 ⟨Nat.le_of_ble_eq_true rfl, Nat.le_of_ble_eq_true rfl⟩) ⟨rfl, rfl⟩ hP hD hS hA [] rfl (fun _ => rfl) (fun r1 _ H locs hw hP hD hS => ?_)
  have hP : va_P D vwCl [(o, .inr (8, [.int (nI n), .ref me, .ref ml, .ref mb, .int fi, .int (nI nl), .ref mt, .int si, .ref ms, .int sn, .ref mp, .ref my, .ref mc, .int la, .ref mk, .ref mw, .int ah, .int ri, .int lh, .ref mo, .ref mq, .ref mi, .ref mz])), (me, .inl (cI, 6, .inl fe)), (my, .inl (cI, 6, .inl fb)), (mc, .inl (cI, 6, .inl cm)), (mk, .inl (cI, 24, .inl fk)), (mt, .inl (cI, 20, .inl fs)), (ml, .inl (cI, 6, .inl fl))] H := hP
  have hD : va_D A [(o, .inr (8, [.int (nI n), .ref me, .ref ml, .ref mb, .int fi, .int (nI nl), .ref mt, .int si, .ref ms, .int sn, .ref mp, .ref my, .ref mc, .int la, .ref mk, .ref mw, .int ah, .int ri, .int lh, .ref mo, .ref mq, .ref mi, .ref mz])), (me, .inl (cI, 6, .inl fe)), (my, .inl (cI, 6, .inl fb)), (mc, .inl (cI, 6, .inl cm)), (mk, .inl (cI, 24, .inl fk)), (mt, .inl (cI, 20, .inl fs)), (ml, .inl (cI, 6, .inl fl))] := hD
  rcases hw with ⟨b1, rfl⟩ | ⟨b1, rfl⟩
  · obtain ⟨kx, k1kx, k2kx, rfl⟩ := nI_rng (by omega) (by omega) b1.1 b1.2
    refine lv_if_eq (tgt := 24) hx hb dX8_move_4 (by decide) (fun c9 => absurd c9 (by decide)) (fun _ => ?_)
    refine lv_iload_n hx hb dX8_move_7 rfl (lv_at hl 2 rfl) ?_
    refine lv_iconst (v := nI 1) hx hb dX8_move_8 (by decide) ?_
    refine lv_bipush (v := nI 9) hx hb dX8_move_9 (by decide) ?_
    refine cal_i (run_S (As := [.int w, .int (nI 1), .int (nI 9)]) (rest := []) SF (c_in8 l D cI cJ cZ cG cM w (nI 1) (nI 9)) (va_cwS 3 hts gX8_move_X8_in rfl rfl rfl (by decide +kernel) ⟨Nat.le_of_ble_eq_true rfl, Nat.le_of_ble_eq_true rfl⟩) hN hK hP hD [] rfl (by decide) rfl hl.1 rfl (Nat.le_of_ble_eq_true rfl) dX8_move_11 ⟨Nat.le_of_ble_eq_true rfl, Nat.le_of_ble_eq_true rfl⟩) ⟨rfl, rfl⟩ hP hD hS hA [] rfl (fun _ => rfl) (fun r11 _ H locs hw hP hD hS => ?_)
    have hP : va_P D vwCl [(o, .inr (8, [.int (nI n), .ref me, .ref ml, .ref mb, .int fi, .int (nI nl), .ref mt, .int si, .ref ms, .int sn, .ref mp, .ref my, .ref mc, .int la, .ref mk, .ref mw, .int ah, .int ri, .int lh, .ref mo, .ref mq, .ref mi, .ref mz])), (me, .inl (cI, 6, .inl fe)), (my, .inl (cI, 6, .inl fb)), (mc, .inl (cI, 6, .inl cm)), (mk, .inl (cI, 24, .inl fk)), (mt, .inl (cI, 20, .inl fs)), (ml, .inl (cI, 6, .inl fl))] H := hP
    have hD : va_D A [(o, .inr (8, [.int (nI n), .ref me, .ref ml, .ref mb, .int fi, .int (nI nl), .ref mt, .int si, .ref ms, .int sn, .ref mp, .ref my, .ref mc, .int la, .ref mk, .ref mw, .int ah, .int ri, .int lh, .ref mo, .ref mq, .ref mi, .ref mz])), (me, .inl (cI, 6, .inl fe)), (my, .inl (cI, 6, .inl fb)), (mc, .inl (cI, 6, .inl cm)), (mk, .inl (cI, 24, .inl fk)), (mt, .inl (cI, 20, .inl fs)), (ml, .inl (cI, 6, .inl fl))] := hD
    rcases hw with ⟨b11, rfl⟩ | ⟨b11, rfl⟩
    · obtain ⟨kw, k1kw, k2kw, rfl⟩ := nI_rng (by omega) (by omega) b11.1 b11.2
      refine lv_if_eq (tgt := 24) hx hb dX8_move_14 (by decide) (fun c9 => absurd c9 (by decide)) (fun _ => ?_)
      refine lv_iload_n hx hb dX8_move_17 rfl (lv_at hl 3 rfl) ?_
      refine cal_i (run_S (As := [.int y]) (rest := []) SF (c_isHour8 l D cI cJ cZ cG cM y) (va_cwS 1 hts gX8_move_X8_isHour rfl rfl rfl (by decide +kernel) ⟨Nat.le_of_ble_eq_true rfl, Nat.le_of_ble_eq_true rfl⟩) hN hK hP hD [] rfl (by decide) rfl hl.1 rfl (Nat.le_of_ble_eq_true rfl) dX8_move_18 ⟨Nat.le_of_ble_eq_true rfl, Nat.le_of_ble_eq_true rfl⟩) ⟨rfl, rfl⟩ hP hD hS hA [] rfl (fun _ => rfl) (fun r18 _ H locs hw hP hD hS => ?_)
      have hP : va_P D vwCl [(o, .inr (8, [.int (nI n), .ref me, .ref ml, .ref mb, .int fi, .int (nI nl), .ref mt, .int si, .ref ms, .int sn, .ref mp, .ref my, .ref mc, .int la, .ref mk, .ref mw, .int ah, .int ri, .int lh, .ref mo, .ref mq, .ref mi, .ref mz])), (me, .inl (cI, 6, .inl fe)), (my, .inl (cI, 6, .inl fb)), (mc, .inl (cI, 6, .inl cm)), (mk, .inl (cI, 24, .inl fk)), (mt, .inl (cI, 20, .inl fs)), (ml, .inl (cI, 6, .inl fl))] H := hP
      have hD : va_D A [(o, .inr (8, [.int (nI n), .ref me, .ref ml, .ref mb, .int fi, .int (nI nl), .ref mt, .int si, .ref ms, .int sn, .ref mp, .ref my, .ref mc, .int la, .ref mk, .ref mw, .int ah, .int ri, .int lh, .ref mo, .ref mq, .ref mi, .ref mz])), (me, .inl (cI, 6, .inl fe)), (my, .inl (cI, 6, .inl fb)), (mc, .inl (cI, 6, .inl cm)), (mk, .inl (cI, 24, .inl fk)), (mt, .inl (cI, 20, .inl fs)), (ml, .inl (cI, 6, .inl fl))] := hD
      rcases hw with ⟨b18, rfl⟩ | ⟨b18, rfl⟩
      · obtain ⟨ky, k1ky, k2ky, rfl⟩ := nI_rng (by omega) (by omega) b18.1 b18.2
        refine lv_if_ne (tgt := 27) hx hb dX8_move_21 (by decide) (fun _ => ?_) (fun c9 => absurd c9 (by decide))
        refine lv_bipush (v := (-6)) hx hb dX8_move_27 (by decide) ?_
        refine lv_istore (lv' := [(4, .int ((-6))), (0, .ref o), (1, .int (nI kx)), (2, .int (nI kw)), (3, .int (nI ky))]) hx hb dX8_move_29 hl (by decide) rfl (fun ls hl => ?_)
        refine lv_iconst (v := nI 0) hx hb dX8_move_31 (by decide) ?_
        refine lv_istore (lv' := [(5, .int (nI 0)), (4, .int ((-6))), (0, .ref o), (1, .int (nI kx)), (2, .int (nI kw)), (3, .int (nI ky))]) hx hb dX8_move_32 hl (by decide) rfl (fun ls hl => ?_)
        have L34 : ∀ (n9 : Nat) (s9 : Nat) (best9 la : Int32) (fb cm fk : Nat → Int32) (hs9 : s9 ≤ 2 ^ n) (hLM : LM (fun s9 => P6 (fun z9 => nxG fs nl n fe z9 (nI 0)) (fun j => (fl j).toNatClampNeg) kx kw ky s9) s9 best9), 2 ^ n - s9 < n9 → ∀ (H : Heap) (locs : List Loc), va_P D vwCl [(o, .inr (8, [.int (nI n), .ref me, .ref ml, .ref mb, .int fi, .int (nI nl), .ref mt, .int si, .ref ms, .int sn, .ref mp, .ref my, .ref mc, .int la, .ref mk, .ref mw, .int ah, .int ri, .int lh, .ref mo, .ref mq, .ref mi, .ref mz])), (me, .inl (cI, 6, .inl fe)), (my, .inl (cI, 6, .inl fb)), (mc, .inl (cI, 6, .inl cm)), (mk, .inl (cI, 24, .inl fk)), (mt, .inl (cI, 20, .inl fs)), (ml, .inl (cI, 6, .inl fl))] H → va_D A [(o, .inr (8, [.int (nI n), .ref me, .ref ml, .ref mb, .int fi, .int (nI nl), .ref mt, .int si, .ref ms, .int sn, .ref mp, .ref my, .ref mc, .int la, .ref mk, .ref mw, .int ah, .int ri, .int lh, .ref mo, .ref mq, .ref mi, .ref mz])), (me, .inl (cI, 6, .inl fe)), (my, .inl (cI, 6, .inl fb)), (mc, .inl (cI, 6, .inl cm)), (mk, .inl (cI, 24, .inl fk)), (mt, .inl (cI, 20, .inl fs)), (ml, .inl (cI, 6, .inl fl))] → va_S A s.heap H locs → ∀ (ls : Array Slot), lv_has ls 7 [(0, .ref o), (1, .int (nI kx)), (2, .int (nI kw)), (3, .int (nI ky)), (4, .int best9), (5, .int (nI s9))] → W p l e rm_X8_move s m args below meth c H locs 0 0 Q (F0 m 34 ls []) := by
          intro n9
          induction n9 with
          | zero => intro s9 best9 la fb cm fk hs9 hLM hm; exact absurd hm (Nat.not_lt_zero _)
          | succ n9 ih34 =>
            intro s9 best9 la fb cm fk hs9 hLM hm34 H locs hP hD hS ls hl
            have hLM9 := hLM
            rcases hLM with ⟨b9, hb9, hPb, rfl, hmin⟩ | ⟨hnone, rfl⟩
            · have hb99 : b9 < 64 := by omega
              refine lv_iload hx hb dX8_move_34 (lv_at hl 5 rfl) ?_
              refine lv_iconst (v := nI 1) hx hb dX8_move_36 (by decide) ?_
              refine lv_aload_n hx hb dX8_move_37 rfl (lv_at hl 0 rfl) ?_
              refine va_get (D := D) (ci := 8) (v := .int (nI n)) (C := RX8) (T := TX8) (N := 23) hx hb hts hi8 hown hK hP 0 rfl rfl 0 (by decide) hw0 (fun _ h9 => h9) rfl dX8_move_38 ?_
              refine lv_ishl hx hb dX8_move_41 ?_
              refine lv_topi (fun y9 e9 => ?_)
              have e9 : nI (2 ^ n) = y9 := (e9.trans ((shl_n (by omega) (by omega)).trans (by rw [Nat.one_mul]))).symm
              subst e9
              refine icmp_ge_n (a := s9) (b := 2 ^ n) (tgt := 102) hx hb dX8_move_42 (by decide) (by omega) (by omega) (fun c42 => ?_) (fun c42 => ?_)
              · have es9 : s9 = 2 ^ n := by omega
                rw [es9] at hLM9
                refine lv_iload hx hb dX8_move_102 (lv_at hl 4 rfl) ?_
                exact hret (nI b9) ((la, fb, cm, fk)) _ _ _ _ dX8_move_104 (Or.inr ⟨⟨b1, b11, b18⟩, by rw [nI_clamp (by omega), nI_clamp (by omega), nI_clamp (by omega)]; exact hLM9⟩) hP hD hS
              · refine lv_iload hx hb dX8_move_45 (lv_at hl 4 rfl) ?_
                refine lv_if_lt (tgt := 63) hx hb dX8_move_47 (by decide) (fun c47 => ?_) (fun c47 => ?_)
                · exact absurd c47 (nI_pos (by omega))
                · have hb6 := bits_6 s9
                  refine lv_iload hx hb dX8_move_50 (lv_at hl 5 rfl) ?_
                  refine cal_i (run_S (As := [.int (nI s9)]) (rest := []) SF (c_bits8 l D cI cJ cZ cG cM s9 (by omega)) (va_cwS 1 hts gX8_move_X8_bits rfl rfl rfl (by decide +kernel) ⟨Nat.le_of_ble_eq_true rfl, Nat.le_of_ble_eq_true rfl⟩) hN hK hP hD [] rfl (by decide) rfl hl.1 rfl (Nat.le_of_ble_eq_true rfl) dX8_move_52 ⟨Nat.le_of_ble_eq_true rfl, Nat.le_of_ble_eq_true rfl⟩) ⟨rfl, rfl⟩ hP hD hS hA [] rfl (fun _ => rfl) (fun r52 _ H locs hw hP hD hS => ?_)
                  have hP : va_P D vwCl [(o, .inr (8, [.int (nI n), .ref me, .ref ml, .ref mb, .int fi, .int (nI nl), .ref mt, .int si, .ref ms, .int sn, .ref mp, .ref my, .ref mc, .int la, .ref mk, .ref mw, .int ah, .int ri, .int lh, .ref mo, .ref mq, .ref mi, .ref mz])), (me, .inl (cI, 6, .inl fe)), (my, .inl (cI, 6, .inl fb)), (mc, .inl (cI, 6, .inl cm)), (mk, .inl (cI, 24, .inl fk)), (mt, .inl (cI, 20, .inl fs)), (ml, .inl (cI, 6, .inl fl))] H := hP
                  have hD : va_D A [(o, .inr (8, [.int (nI n), .ref me, .ref ml, .ref mb, .int fi, .int (nI nl), .ref mt, .int si, .ref ms, .int sn, .ref mp, .ref my, .ref mc, .int la, .ref mk, .ref mw, .int ah, .int ri, .int lh, .ref mo, .ref mq, .ref mi, .ref mz])), (me, .inl (cI, 6, .inl fe)), (my, .inl (cI, 6, .inl fb)), (mc, .inl (cI, 6, .inl cm)), (mk, .inl (cI, 24, .inl fk)), (mt, .inl (cI, 20, .inl fs)), (ml, .inl (cI, 6, .inl fl))] := hD
                  subst hw
                  have hb7 := bits_6 b9
                  refine lv_iload hx hb dX8_move_55 (lv_at hl 4 rfl) ?_
                  refine cal_i (run_S (As := [.int (nI b9)]) (rest := [.int (nI (bits s9))]) SF (c_bits8 l D cI cJ cZ cG cM b9 (by omega)) (va_cwS 1 hts gX8_move_X8_bits rfl rfl rfl (by decide +kernel) ⟨Nat.le_of_ble_eq_true rfl, Nat.le_of_ble_eq_true rfl⟩) hN hK hP hD [] rfl (by decide) rfl hl.1 rfl (Nat.le_of_ble_eq_true rfl) dX8_move_57 ⟨Nat.le_of_ble_eq_true rfl, Nat.le_of_ble_eq_true rfl⟩) ⟨rfl, rfl⟩ hP hD hS hA [] rfl (fun _ => rfl) (fun r57 _ H locs hw hP hD hS => ?_)
                  have hP : va_P D vwCl [(o, .inr (8, [.int (nI n), .ref me, .ref ml, .ref mb, .int fi, .int (nI nl), .ref mt, .int si, .ref ms, .int sn, .ref mp, .ref my, .ref mc, .int la, .ref mk, .ref mw, .int ah, .int ri, .int lh, .ref mo, .ref mq, .ref mi, .ref mz])), (me, .inl (cI, 6, .inl fe)), (my, .inl (cI, 6, .inl fb)), (mc, .inl (cI, 6, .inl cm)), (mk, .inl (cI, 24, .inl fk)), (mt, .inl (cI, 20, .inl fs)), (ml, .inl (cI, 6, .inl fl))] H := hP
                  have hD : va_D A [(o, .inr (8, [.int (nI n), .ref me, .ref ml, .ref mb, .int fi, .int (nI nl), .ref mt, .int si, .ref ms, .int sn, .ref mp, .ref my, .ref mc, .int la, .ref mk, .ref mw, .int ah, .int ri, .int lh, .ref mo, .ref mq, .ref mi, .ref mz])), (me, .inl (cI, 6, .inl fe)), (my, .inl (cI, 6, .inl fb)), (mc, .inl (cI, 6, .inl cm)), (mk, .inl (cI, 24, .inl fk)), (mt, .inl (cI, 20, .inl fs)), (ml, .inl (cI, 6, .inl fl))] := hD
                  subst hw
                  refine icmp_ge_n (a := bits s9) (b := bits b9) (tgt := 67) hx hb dX8_move_60 (by decide) (by omega) (by omega) (fun c60 => ?_) (fun c60 => ?_)
                  · refine lv_iconst (v := nI 0) hx hb dX8_move_67 (by decide) ?_
                    refine lv_istore (lv' := [(6, .int (nI 0)), (0, .ref o), (1, .int (nI kx)), (2, .int (nI kw)), (3, .int (nI ky)), (4, .int (nI b9)), (5, .int (nI s9))]) hx hb dX8_move_68 hl (by decide) rfl (fun ls hl => ?_)
                    refine lv_iload hx hb dX8_move_70 (lv_at hl 0 rfl) ?_
                    refine lv_if_eq (tgt := 92) hx hb dX8_move_72 (by decide) (fun _ => ?_) (fun c9 => absurd (by decide) c9)
                    refine lv_iload hx hb dX8_move_92 (lv_at hl 5 rfl) ?_
                    refine lv_istore (lv' := [(4, .int (nI b9)), (6, .int (nI 0)), (0, .ref o), (1, .int (nI kx)), (2, .int (nI kw)), (3, .int (nI ky)), (5, .int (nI s9))]) hx hb dX8_move_94 hl (by decide) rfl (fun ls hl => ?_)
                    refine lv_iinc (v := nI (s9 + 1)) (lv' := [(5, .int (nI (s9 + 1))), (4, .int (nI b9)), (6, .int (nI 0)), (0, .ref o), (1, .int (nI kx)), (2, .int (nI kw)), (3, .int (nI ky))]) hx hb dX8_move_96 hl (k := 6) rfl (nI_1 s9) (by decide) rfl (fun ls hl => ?_)
                    refine lv_goto (tgt := 34) hx hb dX8_move_99 (by decide) ?_
                    exact ih34 (s9 + 1) ((nI b9)) la fb cm fk ((by omega)) ((LM_k hb9 hPb hmin (fun _ => by omega))) (by omega) _ _ hP hD hS _ (lv_sub hl [3, 4, 5, 6, 1, 0] rfl)
                  · refine lv_iconst (v := nI 1) hx hb dX8_move_63 (by decide) ?_
                    refine lv_goto (tgt := 68) hx hb dX8_move_64 (by decide) ?_
                    refine lv_istore (lv' := [(6, .int (nI 1)), (0, .ref o), (1, .int (nI kx)), (2, .int (nI kw)), (3, .int (nI ky)), (4, .int (nI b9)), (5, .int (nI s9))]) hx hb dX8_move_68 hl (by decide) rfl (fun ls hl => ?_)
                    refine lv_iload hx hb dX8_move_70 (lv_at hl 0 rfl) ?_
                    refine lv_if_eq (tgt := 92) hx hb dX8_move_72 (by decide) (fun c9 => absurd c9 (by decide)) (fun _ => ?_)
                    refine lv_aload_n hx hb dX8_move_75 rfl (lv_at hl 1 rfl) ?_
                    refine lv_iload hx hb dX8_move_76 (lv_at hl 6 rfl) ?_
                    refine lv_iload_n hx hb dX8_move_78 rfl (lv_at hl 2 rfl) ?_
                    refine lv_iload_n hx hb dX8_move_79 rfl (lv_at hl 3 rfl) ?_
                    refine lv_iload_n hx hb dX8_move_80 rfl (lv_at hl 4 rfl) ?_
                    refine cal_i (run_V (As := [.int (nI s9), .int (nI kx), .int (nI kw), .int (nI ky)]) (rest := []) SF (c_moves8 l D cI cJ cZ cG cM o me ml mb mt ms mp my mc mk mw mo mq mi mz fi si sn la ah ri lh n nl fe fb cm fk fs fl hV h1 h6 hfl kx kw ky (by omega) (by omega) (by omega) s9 (by omega)) (cwV 4 hts gX8_move_X8_moves rfl rfl rfl (by decide +kernel) ⟨Nat.le_of_ble_eq_true rfl, Nat.le_of_ble_eq_true rfl⟩) hN hK hP hD [0, 1, 2, 3, 4, 5, 6] rfl (by decide) 8 0 rfl rfl rfl rfl hl.1 rfl (Nat.le_of_ble_eq_true rfl) dX8_move_81 ⟨Nat.le_of_ble_eq_true rfl, Nat.le_of_ble_eq_true rfl⟩) ⟨rfl, rfl⟩ hP hD hS hA [0, 1, 2, 3, 4, 5, 6] rfl (fun _ => rfl) (fun r81 u81 H locs hw hP hD hS => ?_)
                    have hP : va_P D vwCl [(o, .inr (8, [.int (nI n), .ref me, .ref ml, .ref mb, .int fi, .int (nI nl), .ref mt, .int si, .ref ms, .int sn, .ref mp, .ref my, .ref mc, .int u81.1, .ref mk, .ref mw, .int ah, .int ri, .int lh, .ref mo, .ref mq, .ref mi, .ref mz])), (me, .inl (cI, 6, .inl fe)), (my, .inl (cI, 6, .inl u81.2.1)), (mc, .inl (cI, 6, .inl u81.2.2.1)), (mk, .inl (cI, 24, .inl u81.2.2.2)), (mt, .inl (cI, 20, .inl fs)), (ml, .inl (cI, 6, .inl fl))] H := hP
                    have hD : va_D A [(o, .inr (8, [.int (nI n), .ref me, .ref ml, .ref mb, .int fi, .int (nI nl), .ref mt, .int si, .ref ms, .int sn, .ref mp, .ref my, .ref mc, .int u81.1, .ref mk, .ref mw, .int ah, .int ri, .int lh, .ref mo, .ref mq, .ref mi, .ref mz])), (me, .inl (cI, 6, .inl fe)), (my, .inl (cI, 6, .inl u81.2.1)), (mc, .inl (cI, 6, .inl u81.2.2.1)), (mk, .inl (cI, 24, .inl u81.2.2.2)), (mt, .inl (cI, 20, .inl fs)), (ml, .inl (cI, 6, .inl fl))] := hD
                    rcases hw with ⟨b81, rfl⟩ | ⟨b81, rfl⟩
                    · refine lv_if_eq (tgt := 92) hx hb dX8_move_84 (by decide) (fun c9 => absurd c9 (by decide)) (fun _ => ?_)
                      refine lv_iload hx hb dX8_move_87 (lv_at hl 6 rfl) ?_
                      refine lv_goto (tgt := 94) hx hb dX8_move_89 (by decide) ?_
                      refine lv_istore (lv' := [(4, .int (nI s9)), (6, .int (nI 1)), (0, .ref o), (1, .int (nI kx)), (2, .int (nI kw)), (3, .int (nI ky)), (5, .int (nI s9))]) hx hb dX8_move_94 hl (by decide) rfl (fun ls hl => ?_)
                      refine lv_iinc (v := nI (s9 + 1)) (lv' := [(5, .int (nI (s9 + 1))), (4, .int (nI s9)), (6, .int (nI 1)), (0, .ref o), (1, .int (nI kx)), (2, .int (nI kw)), (3, .int (nI ky))]) hx hb dX8_move_96 hl (k := 6) rfl (nI_1 s9) (by decide) rfl (fun ls hl => ?_)
                      refine lv_goto (tgt := 34) hx hb dX8_move_99 (by decide) ?_
                      exact ih34 (s9 + 1) ((nI s9)) u81.1 u81.2.1 u81.2.2.1 u81.2.2.2 ((by omega)) ((LM_n b81 hmin (by omega))) (by omega) _ _ hP hD hS _ (lv_sub hl [3, 4, 5, 6, 1, 0] rfl)
                    · refine lv_if_eq (tgt := 92) hx hb dX8_move_84 (by decide) (fun _ => ?_) (fun c9 => absurd (by decide) c9)
                      refine lv_iload hx hb dX8_move_92 (lv_at hl 5 rfl) ?_
                      refine lv_istore (lv' := [(4, .int (nI b9)), (6, .int (nI 1)), (0, .ref o), (1, .int (nI kx)), (2, .int (nI kw)), (3, .int (nI ky)), (5, .int (nI s9))]) hx hb dX8_move_94 hl (by decide) rfl (fun ls hl => ?_)
                      refine lv_iinc (v := nI (s9 + 1)) (lv' := [(5, .int (nI (s9 + 1))), (4, .int (nI b9)), (6, .int (nI 1)), (0, .ref o), (1, .int (nI kx)), (2, .int (nI kw)), (3, .int (nI ky))]) hx hb dX8_move_96 hl (k := 6) rfl (nI_1 s9) (by decide) rfl (fun ls hl => ?_)
                      refine lv_goto (tgt := 34) hx hb dX8_move_99 (by decide) ?_
                      exact ih34 (s9 + 1) ((nI b9)) u81.1 u81.2.1 u81.2.2.1 u81.2.2.2 ((by omega)) ((LM_k hb9 hPb hmin (fun z => absurd z b81))) (by omega) _ _ hP hD hS _ (lv_sub hl [3, 4, 5, 6, 1, 0] rfl)
            · refine lv_iload hx hb dX8_move_34 (lv_at hl 5 rfl) ?_
              refine lv_iconst (v := nI 1) hx hb dX8_move_36 (by decide) ?_
              refine lv_aload_n hx hb dX8_move_37 rfl (lv_at hl 0 rfl) ?_
              refine va_get (D := D) (ci := 8) (v := .int (nI n)) (C := RX8) (T := TX8) (N := 23) hx hb hts hi8 hown hK hP 0 rfl rfl 0 (by decide) hw0 (fun _ h9 => h9) rfl dX8_move_38 ?_
              refine lv_ishl hx hb dX8_move_41 ?_
              refine lv_topi (fun y9 e9 => ?_)
              have e9 : nI (2 ^ n) = y9 := (e9.trans ((shl_n (by omega) (by omega)).trans (by rw [Nat.one_mul]))).symm
              subst e9
              refine icmp_ge_n (a := s9) (b := 2 ^ n) (tgt := 102) hx hb dX8_move_42 (by decide) (by omega) (by omega) (fun c42 => ?_) (fun c42 => ?_)
              · have es9 : s9 = 2 ^ n := by omega
                rw [es9] at hLM9
                refine lv_iload hx hb dX8_move_102 (lv_at hl 4 rfl) ?_
                exact hret ((-6)) ((la, fb, cm, fk)) _ _ _ _ dX8_move_104 (Or.inr ⟨⟨b1, b11, b18⟩, by rw [nI_clamp (by omega), nI_clamp (by omega), nI_clamp (by omega)]; exact hLM9⟩) hP hD hS
              · refine lv_iload hx hb dX8_move_45 (lv_at hl 4 rfl) ?_
                refine lv_if_lt (tgt := 63) hx hb dX8_move_47 (by decide) (fun _ => ?_) (fun c9 => absurd (by decide) c9)
                refine lv_iconst (v := nI 1) hx hb dX8_move_63 (by decide) ?_
                refine lv_goto (tgt := 68) hx hb dX8_move_64 (by decide) ?_
                refine lv_istore (lv' := [(6, .int (nI 1)), (0, .ref o), (1, .int (nI kx)), (2, .int (nI kw)), (3, .int (nI ky)), (4, .int ((-6))), (5, .int (nI s9))]) hx hb dX8_move_68 hl (by decide) rfl (fun ls hl => ?_)
                refine lv_iload hx hb dX8_move_70 (lv_at hl 0 rfl) ?_
                refine lv_if_eq (tgt := 92) hx hb dX8_move_72 (by decide) (fun c9 => absurd c9 (by decide)) (fun _ => ?_)
                refine lv_aload_n hx hb dX8_move_75 rfl (lv_at hl 1 rfl) ?_
                refine lv_iload hx hb dX8_move_76 (lv_at hl 6 rfl) ?_
                refine lv_iload_n hx hb dX8_move_78 rfl (lv_at hl 2 rfl) ?_
                refine lv_iload_n hx hb dX8_move_79 rfl (lv_at hl 3 rfl) ?_
                refine lv_iload_n hx hb dX8_move_80 rfl (lv_at hl 4 rfl) ?_
                refine cal_i (run_V (As := [.int (nI s9), .int (nI kx), .int (nI kw), .int (nI ky)]) (rest := []) SF (c_moves8 l D cI cJ cZ cG cM o me ml mb mt ms mp my mc mk mw mo mq mi mz fi si sn la ah ri lh n nl fe fb cm fk fs fl hV h1 h6 hfl kx kw ky (by omega) (by omega) (by omega) s9 (by omega)) (cwV 4 hts gX8_move_X8_moves rfl rfl rfl (by decide +kernel) ⟨Nat.le_of_ble_eq_true rfl, Nat.le_of_ble_eq_true rfl⟩) hN hK hP hD [0, 1, 2, 3, 4, 5, 6] rfl (by decide) 8 0 rfl rfl rfl rfl hl.1 rfl (Nat.le_of_ble_eq_true rfl) dX8_move_81 ⟨Nat.le_of_ble_eq_true rfl, Nat.le_of_ble_eq_true rfl⟩) ⟨rfl, rfl⟩ hP hD hS hA [0, 1, 2, 3, 4, 5, 6] rfl (fun _ => rfl) (fun r81 u81 H locs hw hP hD hS => ?_)
                have hP : va_P D vwCl [(o, .inr (8, [.int (nI n), .ref me, .ref ml, .ref mb, .int fi, .int (nI nl), .ref mt, .int si, .ref ms, .int sn, .ref mp, .ref my, .ref mc, .int u81.1, .ref mk, .ref mw, .int ah, .int ri, .int lh, .ref mo, .ref mq, .ref mi, .ref mz])), (me, .inl (cI, 6, .inl fe)), (my, .inl (cI, 6, .inl u81.2.1)), (mc, .inl (cI, 6, .inl u81.2.2.1)), (mk, .inl (cI, 24, .inl u81.2.2.2)), (mt, .inl (cI, 20, .inl fs)), (ml, .inl (cI, 6, .inl fl))] H := hP
                have hD : va_D A [(o, .inr (8, [.int (nI n), .ref me, .ref ml, .ref mb, .int fi, .int (nI nl), .ref mt, .int si, .ref ms, .int sn, .ref mp, .ref my, .ref mc, .int u81.1, .ref mk, .ref mw, .int ah, .int ri, .int lh, .ref mo, .ref mq, .ref mi, .ref mz])), (me, .inl (cI, 6, .inl fe)), (my, .inl (cI, 6, .inl u81.2.1)), (mc, .inl (cI, 6, .inl u81.2.2.1)), (mk, .inl (cI, 24, .inl u81.2.2.2)), (mt, .inl (cI, 20, .inl fs)), (ml, .inl (cI, 6, .inl fl))] := hD
                rcases hw with ⟨b81, rfl⟩ | ⟨b81, rfl⟩
                · refine lv_if_eq (tgt := 92) hx hb dX8_move_84 (by decide) (fun c9 => absurd c9 (by decide)) (fun _ => ?_)
                  refine lv_iload hx hb dX8_move_87 (lv_at hl 6 rfl) ?_
                  refine lv_goto (tgt := 94) hx hb dX8_move_89 (by decide) ?_
                  refine lv_istore (lv' := [(4, .int (nI s9)), (6, .int (nI 1)), (0, .ref o), (1, .int (nI kx)), (2, .int (nI kw)), (3, .int (nI ky)), (5, .int (nI s9))]) hx hb dX8_move_94 hl (by decide) rfl (fun ls hl => ?_)
                  refine lv_iinc (v := nI (s9 + 1)) (lv' := [(5, .int (nI (s9 + 1))), (4, .int (nI s9)), (6, .int (nI 1)), (0, .ref o), (1, .int (nI kx)), (2, .int (nI kw)), (3, .int (nI ky))]) hx hb dX8_move_96 hl (k := 6) rfl (nI_1 s9) (by decide) rfl (fun ls hl => ?_)
                  refine lv_goto (tgt := 34) hx hb dX8_move_99 (by decide) ?_
                  exact ih34 (s9 + 1) ((nI s9)) u81.1 u81.2.1 u81.2.2.1 u81.2.2.2 ((by omega)) ((LM_f b81 hnone)) (by omega) _ _ hP hD hS _ (lv_sub hl [3, 4, 5, 6, 1, 0] rfl)
                · refine lv_if_eq (tgt := 92) hx hb dX8_move_84 (by decide) (fun _ => ?_) (fun c9 => absurd (by decide) c9)
                  refine lv_iload hx hb dX8_move_92 (lv_at hl 5 rfl) ?_
                  refine lv_istore (lv' := [(4, .int ((-6))), (6, .int (nI 1)), (0, .ref o), (1, .int (nI kx)), (2, .int (nI kw)), (3, .int (nI ky)), (5, .int (nI s9))]) hx hb dX8_move_94 hl (by decide) rfl (fun ls hl => ?_)
                  refine lv_iinc (v := nI (s9 + 1)) (lv' := [(5, .int (nI (s9 + 1))), (4, .int ((-6))), (6, .int (nI 1)), (0, .ref o), (1, .int (nI kx)), (2, .int (nI kw)), (3, .int (nI ky))]) hx hb dX8_move_96 hl (k := 6) rfl (nI_1 s9) (by decide) rfl (fun ls hl => ?_)
                  refine lv_goto (tgt := 34) hx hb dX8_move_99 (by decide) ?_
                  exact ih34 (s9 + 1) ((-6)) u81.1 u81.2.1 u81.2.2.1 u81.2.2.2 ((by omega)) ((LM_m b81 hnone)) (by omega) _ _ hP hD hS _ (lv_sub hl [3, 4, 5, 6, 1, 0] rfl)
        exact L34 _ 0 ((-6)) la fb cm fk ((Nat.zero_le _)) ((LM_0 _)) (Nat.lt_succ_self _) _ _ hP hD hS _ (lv_sub hl [2, 3, 4, 5, 1, 0] rfl)
      · refine lv_if_ne (tgt := 27) hx hb dX8_move_21 (by decide) (fun c9 => absurd c9 (by decide)) (fun _ => ?_)
        refine lv_bipush (v := (-2)) hx hb dX8_move_24 (by decide) ?_
        exact hret ((-2)) ((la, fb, cm, fk)) _ _ _ _ dX8_move_26 (Or.inl ⟨fun z => b18 z.2.2, rfl⟩) hP hD hS
    · refine lv_if_eq (tgt := 24) hx hb dX8_move_14 (by decide) (fun _ => ?_) (fun c9 => absurd (by decide) c9)
      refine lv_bipush (v := (-2)) hx hb dX8_move_24 (by decide) ?_
      exact hret ((-2)) ((la, fb, cm, fk)) _ _ _ _ dX8_move_26 (Or.inl ⟨fun z => b11 z.2.1, rfl⟩) hP hD hS
  · refine lv_if_eq (tgt := 24) hx hb dX8_move_4 (by decide) (fun _ => ?_) (fun c9 => absurd (by decide) c9)
    refine lv_bipush (v := (-2)) hx hb dX8_move_24 (by decide) ?_
    exact hret ((-2)) ((la, fb, cm, fk)) _ _ _ _ dX8_move_26 (Or.inl ⟨fun z => b1 z.1, rfl⟩) hP hD hS

abbrev rm_X8_plain : Room := { frames := 0, cells := 0, slots := 0, locals := 0 }
set_option maxHeartbeats 4000000 in
set_option maxRecDepth 100000 in
theorem c_plain (l : Launch) (D : va_G) (cI cJ cZ cG cM : ClassId) (o me ml mb mt ms mp my mc mk mw mo mq mi mz : Nat) (fi si sn la ah ri lh : Int32) (n nl : Nat) (fe fl fb : Nat → Int32) :
    CV l yX8_plain wsX8_plain rm_X8_plain D [(cI, .int), (cJ, .long), (cZ, .boolean), (cG, .object "LatestSets$Guild"), (cM, .array .int)] [(o, .inr (8, [.int (nI n), .ref me, .ref ml, .ref mb, .int fi, .int (nI nl), .ref mt, .int si, .ref ms, .int sn, .ref mp, .ref my, .ref mc, .int la, .ref mk, .ref mw, .int ah, .int ri, .int lh, .ref mo, .ref mq, .ref mi, .ref mz])), (me, .inl (cI, 6, .inl fe)), (ml, .inl (cI, 6, .inl fl)), (mb, .inl (cI, 6, .inl fb))] [.ref o] (S := Unit) (fun u => True) (fun u => [(o, .inr (8, [.int (nI n), .ref me, .ref ml, .ref mb, .int fi, .int (nI nl), .ref mt, .int (nI 0), .ref ms, .int sn, .ref mp, .ref my, .ref mc, .int la, .ref mk, .ref mw, .int ah, .int ri, .int lh, .ref mo, .ref mq, .ref mi, .ref mz])), (me, .inl (cI, 6, .inl (filI fe (nI 0) 6))), (ml, .inl (cI, 6, .inl (filI fl (nI 0) 6))), (mb, .inl (cI, 6, .inl (filI fb (nI 12) 6)))]) := by
  refine sv_of (cc := cX8_plain) (maxL := 2) (by decide) rfl (Nat.le_of_ble_eq_true rfl) ?_
  intro p e s m args below meth c A ls Q E hret
  obtain ⟨hx, hb, -, hml, hown, hts, -, hin, hA, hK, hP, hD, hS, hl, hN⟩ := E
  have hown : s.vm.findClass RX8 = some m.cls := hown
  have hl : lv_has ls 2 [(0, .ref o)] := hl
  have SF : CallFix p m c cX8_plain 2 s args wsX8_plain RX8 := ⟨hx, hb, hml, hown, hts⟩
  have hw0 := hts (.fieldLink RX8 66 "LatestSetsModel" "sights" "I") (by decide +kernel)
  have hi8 : ∀ x ∈ wsX80, x ∈ wsX8_plain := by decide +kernel
  have hw2 := hts (.fieldLink RX8 13 "LatestSetsModel" "early" "[I") (by decide +kernel)
  have hw3 := hts (.fieldLink RX8 17 "LatestSetsModel" "late" "[I") (by decide +kernel)
  have hw4 := hts (.fieldLink RX8 20 "LatestSetsModel" "best" "[I") (by decide +kernel)
  refine lv_iconst (v := nI 0) hx hb dX8_plain_0 (by decide) ?_
  refine lv_istore_n (lv' := [(1, .int (nI 0)), (0, .ref o)]) hx hb dX8_plain_1 rfl hl (by decide) rfl (fun ls hl => ?_)
  have L2 : ∀ (n9 : Nat) (k : Nat) (hk : k ≤ 6), 6 - k < n9 → ∀ (H : Heap) (locs : List Loc), va_P D vwCl [(o, .inr (8, [.int (nI n), .ref me, .ref ml, .ref mb, .int fi, .int (nI nl), .ref mt, .int si, .ref ms, .int sn, .ref mp, .ref my, .ref mc, .int la, .ref mk, .ref mw, .int ah, .int ri, .int lh, .ref mo, .ref mq, .ref mi, .ref mz])), (me, .inl (cI, 6, .inl (filI fe (nI 0) k))), (ml, .inl (cI, 6, .inl (filI fl (nI 0) k))), (mb, .inl (cI, 6, .inl (filI fb (nI 12) k)))] H → va_D A [(o, .inr (8, [.int (nI n), .ref me, .ref ml, .ref mb, .int fi, .int (nI nl), .ref mt, .int si, .ref ms, .int sn, .ref mp, .ref my, .ref mc, .int la, .ref mk, .ref mw, .int ah, .int ri, .int lh, .ref mo, .ref mq, .ref mi, .ref mz])), (me, .inl (cI, 6, .inl (filI fe (nI 0) k))), (ml, .inl (cI, 6, .inl (filI fl (nI 0) k))), (mb, .inl (cI, 6, .inl (filI fb (nI 12) k)))] → va_S A s.heap H locs → ∀ (ls : Array Slot), lv_has ls 2 [(0, .ref o), (1, .int (nI k))] → W p l e rm_X8_plain s m args below meth c H locs 0 0 Q (F0 m 2 ls []) := by
    intro n9
    induction n9 with
    | zero => intro k hk hm; exact absurd hm (Nat.not_lt_zero _)
    | succ n9 ih2 =>
      intro k hk hm2 H locs hP hD hS ls hl
      refine lv_iload_n hx hb dX8_plain_2 rfl (lv_at hl 1 rfl) ?_
      refine lv_bipush (v := nI 6) hx hb dX8_plain_3 (by decide) ?_
      refine icmp_ge_n (a := k) (b := 6) (tgt := 36) hx hb dX8_plain_5 (by decide) (by omega) (by omega) (fun c5 => ?_) (fun c5 => ?_)
      · have e9 : k = 6 := by omega
        subst e9
        refine lv_aload_n hx hb dX8_plain_36 rfl (lv_at hl 0 rfl) ?_
        refine lv_iconst (v := nI 0) hx hb dX8_plain_37 (by decide) ?_
        refine va_put (D := D) (ci := 8) (v := .int (nI 0)) (ty := .int) (C := RX8) (T := TX8) (N := 23) hx hb hts hi8 tyX8 tyX8_ok nmX8 hown hK hP hD hS 0 rfl rfl 7 (by decide) hw0 (fun _ h9 => h9) rfl (by decide +kernel) rfl rfl (Nat.le_of_ble_eq_true rfl) dX8_plain_38 (fun H locs hP hD hS => ?_)
        have hP : va_P D vwCl [(o, .inr (8, [.int (nI n), .ref me, .ref ml, .ref mb, .int fi, .int (nI nl), .ref mt, .int (nI 0), .ref ms, .int sn, .ref mp, .ref my, .ref mc, .int la, .ref mk, .ref mw, .int ah, .int ri, .int lh, .ref mo, .ref mq, .ref mi, .ref mz])), (me, .inl (cI, 6, .inl (filI fe (nI 0) 6))), (ml, .inl (cI, 6, .inl (filI fl (nI 0) 6))), (mb, .inl (cI, 6, .inl (filI fb (nI 12) 6)))] H := hP
        have hD : va_D A [(o, .inr (8, [.int (nI n), .ref me, .ref ml, .ref mb, .int fi, .int (nI nl), .ref mt, .int (nI 0), .ref ms, .int sn, .ref mp, .ref my, .ref mc, .int la, .ref mk, .ref mw, .int ah, .int ri, .int lh, .ref mo, .ref mq, .ref mi, .ref mz])), (me, .inl (cI, 6, .inl (filI fe (nI 0) 6))), (ml, .inl (cI, 6, .inl (filI fl (nI 0) 6))), (mb, .inl (cI, 6, .inl (filI fb (nI 12) 6)))] := hD
        exact hret (()) _ _ _ _ dX8_plain_41 trivial hP hD hS
      · refine lv_aload_n hx hb dX8_plain_8 rfl (lv_at hl 0 rfl) ?_
        refine va_get (D := D) (ci := 8) (v := .ref me) (C := RX8) (T := TX8) (N := 23) hx hb hts hi8 hown hK hP 0 rfl rfl 1 (by decide) hw2 (fun _ h9 => h9) rfl dX8_plain_9 ?_
        refine lv_iload_n hx hb dX8_plain_12 rfl (lv_at hl 1 rfl) ?_
        refine lv_iconst (v := nI 0) hx hb dX8_plain_13 (by decide) ?_
        refine iast_n (k := k) hx hb hK hP hD hS 1 0 rfl rfl (by omega) (by omega) dX8_plain_14 (fun H locs hP hD hS => ?_)
        have hP : va_P D vwCl [(o, .inr (8, [.int (nI n), .ref me, .ref ml, .ref mb, .int fi, .int (nI nl), .ref mt, .int si, .ref ms, .int sn, .ref mp, .ref my, .ref mc, .int la, .ref mk, .ref mw, .int ah, .int ri, .int lh, .ref mo, .ref mq, .ref mi, .ref mz])), (me, .inl (cI, 6, .inl (upd (filI fe (nI 0) k) k (nI 0)))), (ml, .inl (cI, 6, .inl (filI fl (nI 0) k))), (mb, .inl (cI, 6, .inl (filI fb (nI 12) k)))] H := hP
        have hD : va_D A [(o, .inr (8, [.int (nI n), .ref me, .ref ml, .ref mb, .int fi, .int (nI nl), .ref mt, .int si, .ref ms, .int sn, .ref mp, .ref my, .ref mc, .int la, .ref mk, .ref mw, .int ah, .int ri, .int lh, .ref mo, .ref mq, .ref mi, .ref mz])), (me, .inl (cI, 6, .inl (upd (filI fe (nI 0) k) k (nI 0)))), (ml, .inl (cI, 6, .inl (filI fl (nI 0) k))), (mb, .inl (cI, 6, .inl (filI fb (nI 12) k)))] := hD
        refine lv_aload_n hx hb dX8_plain_15 rfl (lv_at hl 0 rfl) ?_
        refine va_get (D := D) (ci := 8) (v := .ref ml) (C := RX8) (T := TX8) (N := 23) hx hb hts hi8 hown hK hP 0 rfl rfl 2 (by decide) hw3 (fun _ h9 => h9) rfl dX8_plain_16 ?_
        refine lv_iload_n hx hb dX8_plain_19 rfl (lv_at hl 1 rfl) ?_
        refine lv_iconst (v := nI 0) hx hb dX8_plain_20 (by decide) ?_
        refine iast_n (k := k) hx hb hK hP hD hS 2 0 rfl rfl (by omega) (by omega) dX8_plain_21 (fun H locs hP hD hS => ?_)
        have hP : va_P D vwCl [(o, .inr (8, [.int (nI n), .ref me, .ref ml, .ref mb, .int fi, .int (nI nl), .ref mt, .int si, .ref ms, .int sn, .ref mp, .ref my, .ref mc, .int la, .ref mk, .ref mw, .int ah, .int ri, .int lh, .ref mo, .ref mq, .ref mi, .ref mz])), (me, .inl (cI, 6, .inl (upd (filI fe (nI 0) k) k (nI 0)))), (ml, .inl (cI, 6, .inl (upd (filI fl (nI 0) k) k (nI 0)))), (mb, .inl (cI, 6, .inl (filI fb (nI 12) k)))] H := hP
        have hD : va_D A [(o, .inr (8, [.int (nI n), .ref me, .ref ml, .ref mb, .int fi, .int (nI nl), .ref mt, .int si, .ref ms, .int sn, .ref mp, .ref my, .ref mc, .int la, .ref mk, .ref mw, .int ah, .int ri, .int lh, .ref mo, .ref mq, .ref mi, .ref mz])), (me, .inl (cI, 6, .inl (upd (filI fe (nI 0) k) k (nI 0)))), (ml, .inl (cI, 6, .inl (upd (filI fl (nI 0) k) k (nI 0)))), (mb, .inl (cI, 6, .inl (filI fb (nI 12) k)))] := hD
        refine lv_aload_n hx hb dX8_plain_22 rfl (lv_at hl 0 rfl) ?_
        refine va_get (D := D) (ci := 8) (v := .ref mb) (C := RX8) (T := TX8) (N := 23) hx hb hts hi8 hown hK hP 0 rfl rfl 3 (by decide) hw4 (fun _ h9 => h9) rfl dX8_plain_23 ?_
        refine lv_iload_n hx hb dX8_plain_26 rfl (lv_at hl 1 rfl) ?_
        refine lv_bipush (v := nI 12) hx hb dX8_plain_27 (by decide) ?_
        refine iast_n (k := k) hx hb hK hP hD hS 3 0 rfl rfl (by omega) (by omega) dX8_plain_29 (fun H locs hP hD hS => ?_)
        have hP : va_P D vwCl [(o, .inr (8, [.int (nI n), .ref me, .ref ml, .ref mb, .int fi, .int (nI nl), .ref mt, .int si, .ref ms, .int sn, .ref mp, .ref my, .ref mc, .int la, .ref mk, .ref mw, .int ah, .int ri, .int lh, .ref mo, .ref mq, .ref mi, .ref mz])), (me, .inl (cI, 6, .inl (upd (filI fe (nI 0) k) k (nI 0)))), (ml, .inl (cI, 6, .inl (upd (filI fl (nI 0) k) k (nI 0)))), (mb, .inl (cI, 6, .inl (upd (filI fb (nI 12) k) k (nI 12))))] H := hP
        have hD : va_D A [(o, .inr (8, [.int (nI n), .ref me, .ref ml, .ref mb, .int fi, .int (nI nl), .ref mt, .int si, .ref ms, .int sn, .ref mp, .ref my, .ref mc, .int la, .ref mk, .ref mw, .int ah, .int ri, .int lh, .ref mo, .ref mq, .ref mi, .ref mz])), (me, .inl (cI, 6, .inl (upd (filI fe (nI 0) k) k (nI 0)))), (ml, .inl (cI, 6, .inl (upd (filI fl (nI 0) k) k (nI 0)))), (mb, .inl (cI, 6, .inl (upd (filI fb (nI 12) k) k (nI 12))))] := hD
        refine lv_iinc (v := nI (k + 1)) (lv' := [(1, .int (nI (k + 1))), (0, .ref o)]) hx hb dX8_plain_30 hl (k := 1) rfl (nI_1 k) (by decide) rfl (fun ls hl => ?_)
        refine lv_goto (tgt := 2) hx hb dX8_plain_33 (by decide) ?_
        exact ih2 (k + 1) ((by omega)) (by omega) _ _ hP hD hS _ (lv_sub hl [1, 0] rfl)
  exact L2 _ 0 ((by omega)) (Nat.lt_succ_self _) _ _ hP hD hS _ (lv_sub hl [1, 0] rfl)

abbrev rm_X8_members : Room := { frames := 1, cells := 0, slots := 0, locals := 22 }
set_option maxHeartbeats 4000000 in
set_option maxRecDepth 100000 in
theorem m_members (l : Launch) (D : va_G) (cI cJ cZ cG cM : ClassId) (o me ml mb mt ms mp my mc mk mw mo mq mi mz : Nat) (fi si sn la ah ri lh : Int32) (n nl : Nat) (fe fl fb : Nat → Int32) (x : Int32) (ns : Nat) (h6 : n ≤ 6) :
    CI l yX8_members wsX8_members rm_X8_members D [(cI, .int), (cJ, .long), (cZ, .boolean), (cG, .object "LatestSets$Guild"), (cM, .array .int)] [(o, .inr (8, [.int (nI n), .ref me, .ref ml, .ref mb, .int fi, .int (nI nl), .ref mt, .int (nI ns), .ref ms, .int sn, .ref mp, .ref my, .ref mc, .int la, .ref mk, .ref mw, .int ah, .int ri, .int lh, .ref mo, .ref mq, .ref mi, .ref mz])), (me, .inl (cI, 6, .inl fe)), (ml, .inl (cI, 6, .inl fl)), (mb, .inl (cI, 6, .inl fb))] [.ref o, .int x] (S := (Nat × Nat × (Nat → Int32) × (Nat → Int32) × (Nat → Int32))) (fun r u => r = (if nI 1 ≤ x ∧ x ≤ nI 6 then nI n else (-2)) ∧ u = (if nI 1 ≤ x ∧ x ≤ nI 6 then (x.toNatClampNeg, 0, filI fe (nI 0) 6, filI fl (nI 0) 6, filI fb (nI 12) 6) else (n, ns, fe, fl, fb))) (fun u => [(o, .inr (8, [.int (nI u.1), .ref me, .ref ml, .ref mb, .int fi, .int (nI nl), .ref mt, .int (nI u.2.1), .ref ms, .int sn, .ref mp, .ref my, .ref mc, .int la, .ref mk, .ref mw, .int ah, .int ri, .int lh, .ref mo, .ref mq, .ref mi, .ref mz])), (me, .inl (cI, 6, .inl u.2.2.1)), (ml, .inl (cI, 6, .inl u.2.2.2.1)), (mb, .inl (cI, 6, .inl u.2.2.2.2))]) := by
  refine si_of (cc := cX8_members) (maxL := 3) (by decide) rfl (Nat.le_of_ble_eq_true rfl) ?_
  intro p e s m args below meth c A ls Q E hret
  obtain ⟨hx, hb, -, hml, hown, hts, -, hin, hA, hK, hP, hD, hS, hl, hN⟩ := E
  have hown : s.vm.findClass RX8 = some m.cls := hown
  have hl : lv_has ls 3 [(0, .ref o), (1, .int x)] := hl
  have SF : CallFix p m c cX8_members 3 s args wsX8_members RX8 := ⟨hx, hb, hml, hown, hts⟩
  have hw0 := hts (.fieldLink RX8 7 "LatestSetsModel" "members" "I") (by decide +kernel)
  have hi8 : ∀ x ∈ wsX80, x ∈ wsX8_members := by decide +kernel
  refine lv_iload_n hx hb dX8_members_0 rfl (lv_at hl 1 rfl) ?_
  refine lv_iconst (v := nI 1) hx hb dX8_members_1 (by decide) ?_
  refine lv_bipush (v := nI 6) hx hb dX8_members_2 (by decide) ?_
  refine cal_i (run_S (As := [.int x, .int (nI 1), .int (nI 6)]) (rest := []) SF (c_in8 l D cI cJ cZ cG cM x (nI 1) (nI 6)) (va_cwS 3 hts gX8_members_X8_in rfl rfl rfl (by decide +kernel) ⟨Nat.le_of_ble_eq_true rfl, Nat.le_of_ble_eq_true rfl⟩) hN hK hP hD [] rfl (by decide) rfl hl.1 rfl (Nat.le_of_ble_eq_true rfl) dX8_members_4 ⟨Nat.le_of_ble_eq_true rfl, Nat.le_of_ble_eq_true rfl⟩) ⟨rfl, rfl⟩ hP hD hS hA [] rfl (fun _ => rfl) (fun r4 _ H locs hw hP hD hS => ?_)
  have hP : va_P D vwCl [(o, .inr (8, [.int (nI n), .ref me, .ref ml, .ref mb, .int fi, .int (nI nl), .ref mt, .int (nI ns), .ref ms, .int sn, .ref mp, .ref my, .ref mc, .int la, .ref mk, .ref mw, .int ah, .int ri, .int lh, .ref mo, .ref mq, .ref mi, .ref mz])), (me, .inl (cI, 6, .inl fe)), (ml, .inl (cI, 6, .inl fl)), (mb, .inl (cI, 6, .inl fb))] H := hP
  have hD : va_D A [(o, .inr (8, [.int (nI n), .ref me, .ref ml, .ref mb, .int fi, .int (nI nl), .ref mt, .int (nI ns), .ref ms, .int sn, .ref mp, .ref my, .ref mc, .int la, .ref mk, .ref mw, .int ah, .int ri, .int lh, .ref mo, .ref mq, .ref mi, .ref mz])), (me, .inl (cI, 6, .inl fe)), (ml, .inl (cI, 6, .inl fl)), (mb, .inl (cI, 6, .inl fb))] := hD
  rcases hw with ⟨b4, rfl⟩ | ⟨b4, rfl⟩
  · obtain ⟨k, k1k, k2k, rfl⟩ := nI_rng (by omega) (by omega) b4.1 b4.2
    refine lv_if_ne (tgt := 13) hx hb dX8_members_7 (by decide) (fun _ => ?_) (fun c9 => absurd c9 (by decide))
    refine lv_aload_n hx hb dX8_members_13 rfl (lv_at hl 0 rfl) ?_
    refine va_get (D := D) (ci := 8) (v := .int (nI n)) (C := RX8) (T := TX8) (N := 23) hx hb hts hi8 hown hK hP 0 rfl rfl 0 (by decide) hw0 (fun _ h9 => h9) rfl dX8_members_14 ?_
    refine lv_istore_n (lv' := [(2, .int (nI n)), (0, .ref o), (1, .int (nI k))]) hx hb dX8_members_17 rfl hl (by decide) rfl (fun ls hl => ?_)
    refine lv_aload_n hx hb dX8_members_18 rfl (lv_at hl 1 rfl) ?_
    refine lv_iload_n hx hb dX8_members_19 rfl (lv_at hl 2 rfl) ?_
    refine va_put (D := D) (ci := 8) (v := .int (nI k)) (ty := .int) (C := RX8) (T := TX8) (N := 23) hx hb hts hi8 tyX8 tyX8_ok nmX8 hown hK hP hD hS 0 rfl rfl 0 (by decide) hw0 (fun _ h9 => h9) rfl (by decide +kernel) rfl rfl (Nat.le_of_ble_eq_true rfl) dX8_members_20 (fun H locs hP hD hS => ?_)
    have hP : va_P D vwCl [(o, .inr (8, [.int (nI k), .ref me, .ref ml, .ref mb, .int fi, .int (nI nl), .ref mt, .int (nI ns), .ref ms, .int sn, .ref mp, .ref my, .ref mc, .int la, .ref mk, .ref mw, .int ah, .int ri, .int lh, .ref mo, .ref mq, .ref mi, .ref mz])), (me, .inl (cI, 6, .inl fe)), (ml, .inl (cI, 6, .inl fl)), (mb, .inl (cI, 6, .inl fb))] H := hP
    have hD : va_D A [(o, .inr (8, [.int (nI k), .ref me, .ref ml, .ref mb, .int fi, .int (nI nl), .ref mt, .int (nI ns), .ref ms, .int sn, .ref mp, .ref my, .ref mc, .int la, .ref mk, .ref mw, .int ah, .int ri, .int lh, .ref mo, .ref mq, .ref mi, .ref mz])), (me, .inl (cI, 6, .inl fe)), (ml, .inl (cI, 6, .inl fl)), (mb, .inl (cI, 6, .inl fb))] := hD
    refine lv_aload_n hx hb dX8_members_23 rfl (lv_at hl 1 rfl) ?_
    refine cal_v (run_V (As := []) (rest := []) SF (c_plain l D cI cJ cZ cG cM o me ml mb mt ms mp my mc mk mw mo mq mi mz fi (nI ns) sn la ah ri lh k nl fe fl fb) (cwV 0 hts gX8_members_X8_plain rfl rfl rfl (by decide +kernel) ⟨Nat.le_of_ble_eq_true rfl, Nat.le_of_ble_eq_true rfl⟩) hN hK hP hD [0, 1, 2, 3] rfl (by decide) 8 0 rfl rfl rfl rfl hl.1 rfl (Nat.le_of_ble_eq_true rfl) dX8_members_24 ⟨Nat.le_of_ble_eq_true rfl, Nat.le_of_ble_eq_true rfl⟩) ⟨rfl, rfl⟩ hP hD hS hA [0, 1, 2, 3] rfl (fun _ => rfl) (fun _ H locs hw hP hD hS => ?_)
    have hP : va_P D vwCl [(o, .inr (8, [.int (nI k), .ref me, .ref ml, .ref mb, .int fi, .int (nI nl), .ref mt, .int (nI 0), .ref ms, .int sn, .ref mp, .ref my, .ref mc, .int la, .ref mk, .ref mw, .int ah, .int ri, .int lh, .ref mo, .ref mq, .ref mi, .ref mz])), (me, .inl (cI, 6, .inl (filI fe (nI 0) 6))), (ml, .inl (cI, 6, .inl (filI fl (nI 0) 6))), (mb, .inl (cI, 6, .inl (filI fb (nI 12) 6)))] H := hP
    have hD : va_D A [(o, .inr (8, [.int (nI k), .ref me, .ref ml, .ref mb, .int fi, .int (nI nl), .ref mt, .int (nI 0), .ref ms, .int sn, .ref mp, .ref my, .ref mc, .int la, .ref mk, .ref mw, .int ah, .int ri, .int lh, .ref mo, .ref mq, .ref mi, .ref mz])), (me, .inl (cI, 6, .inl (filI fe (nI 0) 6))), (ml, .inl (cI, 6, .inl (filI fl (nI 0) 6))), (mb, .inl (cI, 6, .inl (filI fb (nI 12) 6)))] := hD
    refine lv_iload_n hx hb dX8_members_27 rfl (lv_at hl 0 rfl) ?_
    exact hret (nI n) ((k, 0, filI fe (nI 0) 6, filI fl (nI 0) 6, filI fb (nI 12) 6)) _ _ _ _ dX8_members_28 ⟨by rw [if_pos b4], by rw [if_pos b4, nI_clamp (by omega)]⟩ hP hD hS
  · refine lv_if_ne (tgt := 13) hx hb dX8_members_7 (by decide) (fun c9 => absurd c9 (by decide)) (fun _ => ?_)
    refine lv_bipush (v := (-2)) hx hb dX8_members_10 (by decide) ?_
    exact hret ((-2)) ((n, ns, fe, fl, fb)) _ _ _ _ dX8_members_12 ⟨by rw [if_neg b4], by rw [if_neg b4]⟩ hP hD hS

abbrev rm_X8_member : Room := { frames := 2, cells := 0, slots := 0, locals := 43 }
set_option maxHeartbeats 4000000 in
set_option maxRecDepth 100000 in
theorem m_member (l : Launch) (D : va_G) (cI cJ cZ cG cM : ClassId) (o me ml mb mt ms mp my mc mk mw mo mq mi mz : Nat) (fi si sn la ah ri lh : Int32) (n nl : Nat) (fe fl fb : Nat → Int32) (x y v : Int32) (h1 : 1 ≤ n) (h6 : n ≤ 6) :
    CI l yX8_member wsX8_member rm_X8_member D [(cI, .int), (cJ, .long), (cZ, .boolean), (cG, .object "LatestSets$Guild"), (cM, .array .int)] [(o, .inr (8, [.int (nI n), .ref me, .ref ml, .ref mb, .int fi, .int (nI nl), .ref mt, .int si, .ref ms, .int sn, .ref mp, .ref my, .ref mc, .int la, .ref mk, .ref mw, .int ah, .int ri, .int lh, .ref mo, .ref mq, .ref mi, .ref mz])), (me, .inl (cI, 6, .inl fe)), (ml, .inl (cI, 6, .inl fl)), (mb, .inl (cI, 6, .inl fb))] [.ref o, .int x, .int y, .int v] (S := ((Nat → Int32) × (Nat → Int32) × (Nat → Int32))) (fun r u => r = (if nI 0 ≤ x ∧ x < nI n then (if (nI 0 ≤ y ∧ y ≤ nI 2) ∧ (nI 0 ≤ v ∧ v ≤ nI (if y = nI 1 then 5 else 23)) then (if y = nI 0 then fe x.toNatClampNeg else if y = nI 1 then fl x.toNatClampNeg else fb x.toNatClampNeg) else (-2)) else (-1)) ∧ u = (if (nI 0 ≤ x ∧ x < nI n) ∧ ((nI 0 ≤ y ∧ y ≤ nI 2) ∧ (nI 0 ≤ v ∧ v ≤ nI (if y = nI 1 then 5 else 23))) then (if y = nI 0 then upd fe x.toNatClampNeg v else fe, if y = nI 1 then upd fl x.toNatClampNeg v else fl, if y = nI 2 then upd fb x.toNatClampNeg v else fb) else (fe, fl, fb))) (fun u => [(o, .inr (8, [.int (nI n), .ref me, .ref ml, .ref mb, .int fi, .int (nI nl), .ref mt, .int si, .ref ms, .int sn, .ref mp, .ref my, .ref mc, .int la, .ref mk, .ref mw, .int ah, .int ri, .int lh, .ref mo, .ref mq, .ref mi, .ref mz])), (me, .inl (cI, 6, .inl u.1)), (ml, .inl (cI, 6, .inl u.2.1)), (mb, .inl (cI, 6, .inl u.2.2))]) := by
  refine si_of (cc := cX8_member) (maxL := 5) (by decide) rfl (Nat.le_of_ble_eq_true rfl) ?_
  intro p e s m args below meth c A ls Q E hret
  obtain ⟨hx, hb, -, hml, hown, hts, -, hin, hA, hK, hP, hD, hS, hl, hN⟩ := E
  have hown : s.vm.findClass RX8 = some m.cls := hown
  have hl : lv_has ls 5 [(0, .ref o), (1, .int x), (2, .int y), (3, .int v)] := hl
  have SF : CallFix p m c cX8_member 5 s args wsX8_member RX8 := ⟨hx, hb, hml, hown, hts⟩
  have hw0 := hts (.fieldLink RX8 13 "LatestSetsModel" "early" "[I") (by decide +kernel)
  have hi8 : ∀ x ∈ wsX80, x ∈ wsX8_member := by decide +kernel
  have hw2 := hts (.fieldLink RX8 17 "LatestSetsModel" "late" "[I") (by decide +kernel)
  have hw3 := hts (.fieldLink RX8 20 "LatestSetsModel" "best" "[I") (by decide +kernel)
  refine lv_aload_n hx hb dX8_member_0 rfl (lv_at hl 0 rfl) ?_
  refine lv_iload_n hx hb dX8_member_1 rfl (lv_at hl 1 rfl) ?_
  refine cal_i (run_V (As := [.int x]) (rest := []) SF (c_isMember8 l D cI cJ cZ cG cM o me ml mb mt ms mp my mc mk mw mo mq mi mz fi si sn la ah ri lh n nl x h1 h6) (cwV 1 hts gX8_member_X8_isMember rfl rfl rfl (by decide +kernel) ⟨Nat.le_of_ble_eq_true rfl, Nat.le_of_ble_eq_true rfl⟩) hN hK hP hD [0] rfl (by decide) 8 0 rfl rfl rfl rfl hl.1 rfl (Nat.le_of_ble_eq_true rfl) dX8_member_2 ⟨Nat.le_of_ble_eq_true rfl, Nat.le_of_ble_eq_true rfl⟩) ⟨rfl, rfl⟩ hP hD hS hA [0] rfl (fun _ => rfl) (fun r2 _ H locs hw hP hD hS => ?_)
  have hP : va_P D vwCl [(o, .inr (8, [.int (nI n), .ref me, .ref ml, .ref mb, .int fi, .int (nI nl), .ref mt, .int si, .ref ms, .int sn, .ref mp, .ref my, .ref mc, .int la, .ref mk, .ref mw, .int ah, .int ri, .int lh, .ref mo, .ref mq, .ref mi, .ref mz])), (me, .inl (cI, 6, .inl fe)), (ml, .inl (cI, 6, .inl fl)), (mb, .inl (cI, 6, .inl fb))] H := hP
  have hD : va_D A [(o, .inr (8, [.int (nI n), .ref me, .ref ml, .ref mb, .int fi, .int (nI nl), .ref mt, .int si, .ref ms, .int sn, .ref mp, .ref my, .ref mc, .int la, .ref mk, .ref mw, .int ah, .int ri, .int lh, .ref mo, .ref mq, .ref mi, .ref mz])), (me, .inl (cI, 6, .inl fe)), (ml, .inl (cI, 6, .inl fl)), (mb, .inl (cI, 6, .inl fb))] := hD
  rcases hw with ⟨b2, rfl⟩ | ⟨b2, rfl⟩
  · obtain ⟨kx, k2kx, rfl⟩ := nI_rngL (by omega) b2.1 b2.2
    refine lv_if_ne (tgt := 10) hx hb dX8_member_5 (by decide) (fun _ => ?_) (fun c9 => absurd c9 (by decide))
    refine lv_iload_n hx hb dX8_member_10 rfl (lv_at hl 2 rfl) ?_
    refine lv_iconst (v := nI 0) hx hb dX8_member_11 (by decide) ?_
    refine lv_iconst (v := nI 2) hx hb dX8_member_12 (by decide) ?_
    refine cal_i (run_S (As := [.int y, .int (nI 0), .int (nI 2)]) (rest := []) SF (c_in8 l D cI cJ cZ cG cM y (nI 0) (nI 2)) (va_cwS 3 hts gX8_member_X8_in rfl rfl rfl (by decide +kernel) ⟨Nat.le_of_ble_eq_true rfl, Nat.le_of_ble_eq_true rfl⟩) hN hK hP hD [] rfl (by decide) rfl hl.1 rfl (Nat.le_of_ble_eq_true rfl) dX8_member_13 ⟨Nat.le_of_ble_eq_true rfl, Nat.le_of_ble_eq_true rfl⟩) ⟨rfl, rfl⟩ hP hD hS hA [] rfl (fun _ => rfl) (fun r13 _ H locs hw hP hD hS => ?_)
    have hP : va_P D vwCl [(o, .inr (8, [.int (nI n), .ref me, .ref ml, .ref mb, .int fi, .int (nI nl), .ref mt, .int si, .ref ms, .int sn, .ref mp, .ref my, .ref mc, .int la, .ref mk, .ref mw, .int ah, .int ri, .int lh, .ref mo, .ref mq, .ref mi, .ref mz])), (me, .inl (cI, 6, .inl fe)), (ml, .inl (cI, 6, .inl fl)), (mb, .inl (cI, 6, .inl fb))] H := hP
    have hD : va_D A [(o, .inr (8, [.int (nI n), .ref me, .ref ml, .ref mb, .int fi, .int (nI nl), .ref mt, .int si, .ref ms, .int sn, .ref mp, .ref my, .ref mc, .int la, .ref mk, .ref mw, .int ah, .int ri, .int lh, .ref mo, .ref mq, .ref mi, .ref mz])), (me, .inl (cI, 6, .inl fe)), (ml, .inl (cI, 6, .inl fl)), (mb, .inl (cI, 6, .inl fb))] := hD
    rcases hw with ⟨b13, rfl⟩ | ⟨b13, rfl⟩
    · obtain ⟨ky, k1ky, k2ky, rfl⟩ := nI_rng (by omega) (by omega) b13.1 b13.2
      rcases (show ky = 0 ∨ ky = 1 ∨ ky = 2 by omega) with rfl | rfl | rfl
      · refine lv_if_eq (tgt := 38) hx hb dX8_member_16 (by decide) (fun c9 => absurd c9 (by decide)) (fun _ => ?_)
        refine lv_iload_n hx hb dX8_member_19 rfl (lv_at hl 3 rfl) ?_
        refine lv_iconst (v := nI 0) hx hb dX8_member_20 (by decide) ?_
        refine lv_iload_n hx hb dX8_member_21 rfl (lv_at hl 2 rfl) ?_
        refine lv_iconst (v := nI 1) hx hb dX8_member_22 (by decide) ?_
        refine icmp_ne_n (a := 0) (b := 1) (tgt := 30) hx hb dX8_member_23 (by decide) (by omega) (by omega) (fun _ => ?_) (fun c9 => absurd c9 (by decide))
        refine lv_bipush (v := nI 23) hx hb dX8_member_30 (by decide) ?_
        refine cal_i (run_S (As := [.int v, .int (nI 0), .int (nI 23)]) (rest := []) SF (c_in8 l D cI cJ cZ cG cM v (nI 0) (nI 23)) (va_cwS 3 hts gX8_member_X8_in rfl rfl rfl (by decide +kernel) ⟨Nat.le_of_ble_eq_true rfl, Nat.le_of_ble_eq_true rfl⟩) hN hK hP hD [] rfl (by decide) rfl hl.1 rfl (Nat.le_of_ble_eq_true rfl) dX8_member_32 ⟨Nat.le_of_ble_eq_true rfl, Nat.le_of_ble_eq_true rfl⟩) ⟨rfl, rfl⟩ hP hD hS hA [] rfl (fun _ => rfl) (fun r32 _ H locs hw hP hD hS => ?_)
        have hP : va_P D vwCl [(o, .inr (8, [.int (nI n), .ref me, .ref ml, .ref mb, .int fi, .int (nI nl), .ref mt, .int si, .ref ms, .int sn, .ref mp, .ref my, .ref mc, .int la, .ref mk, .ref mw, .int ah, .int ri, .int lh, .ref mo, .ref mq, .ref mi, .ref mz])), (me, .inl (cI, 6, .inl fe)), (ml, .inl (cI, 6, .inl fl)), (mb, .inl (cI, 6, .inl fb))] H := hP
        have hD : va_D A [(o, .inr (8, [.int (nI n), .ref me, .ref ml, .ref mb, .int fi, .int (nI nl), .ref mt, .int si, .ref ms, .int sn, .ref mp, .ref my, .ref mc, .int la, .ref mk, .ref mw, .int ah, .int ri, .int lh, .ref mo, .ref mq, .ref mi, .ref mz])), (me, .inl (cI, 6, .inl fe)), (ml, .inl (cI, 6, .inl fl)), (mb, .inl (cI, 6, .inl fb))] := hD
        rcases hw with ⟨b32, rfl⟩ | ⟨b32, rfl⟩
        · refine lv_if_ne (tgt := 41) hx hb dX8_member_35 (by decide) (fun _ => ?_) (fun c9 => absurd c9 (by decide))
          refine lv_iload_n hx hb dX8_member_41 rfl (lv_at hl 2 rfl) ?_
          refine lv_if_ne (tgt := 54) hx hb dX8_member_42 (by decide) (fun c9 => absurd c9 (by decide)) (fun _ => ?_)
          refine lv_aload_n hx hb dX8_member_45 rfl (lv_at hl 0 rfl) ?_
          refine va_get (D := D) (ci := 8) (v := .ref me) (C := RX8) (T := TX8) (N := 23) hx hb hts hi8 hown hK hP 0 rfl rfl 1 (by decide) hw0 (fun _ h9 => h9) rfl dX8_member_46 ?_
          refine lv_iload_n hx hb dX8_member_49 rfl (lv_at hl 1 rfl) ?_
          refine iald_n (k := kx) hx hb hK hP 1 0 rfl rfl (by omega) (by omega) dX8_member_50 ?_
          refine lv_goto (tgt := 74) hx hb dX8_member_51 (by decide) ?_
          refine lv_istore (lv' := [(4, .int (fe kx)), (0, .ref o), (1, .int (nI kx)), (2, .int (nI 0)), (3, .int v)]) hx hb dX8_member_74 hl (by decide) rfl (fun ls hl => ?_)
          refine lv_aload_n hx hb dX8_member_76 rfl (lv_at hl 1 rfl) ?_
          refine va_get (D := D) (ci := 8) (v := .ref me) (C := RX8) (T := TX8) (N := 23) hx hb hts hi8 hown hK hP 0 rfl rfl 1 (by decide) hw0 (fun _ h9 => h9) rfl dX8_member_77 ?_
          refine lv_iload_n hx hb dX8_member_80 rfl (lv_at hl 2 rfl) ?_
          refine lv_iload_n hx hb dX8_member_81 rfl (lv_at hl 3 rfl) ?_
          refine lv_if_ne (tgt := 89) hx hb dX8_member_82 (by decide) (fun c9 => absurd c9 (by decide)) (fun _ => ?_)
          refine lv_iload_n hx hb dX8_member_85 rfl (lv_at hl 4 rfl) ?_
          refine lv_goto (tgt := 95) hx hb dX8_member_86 (by decide) ?_
          refine iast_n (k := kx) hx hb hK hP hD hS 1 0 rfl rfl (by omega) (by omega) dX8_member_95 (fun H locs hP hD hS => ?_)
          have hP : va_P D vwCl [(o, .inr (8, [.int (nI n), .ref me, .ref ml, .ref mb, .int fi, .int (nI nl), .ref mt, .int si, .ref ms, .int sn, .ref mp, .ref my, .ref mc, .int la, .ref mk, .ref mw, .int ah, .int ri, .int lh, .ref mo, .ref mq, .ref mi, .ref mz])), (me, .inl (cI, 6, .inl (upd fe kx v))), (ml, .inl (cI, 6, .inl fl)), (mb, .inl (cI, 6, .inl fb))] H := hP
          have hD : va_D A [(o, .inr (8, [.int (nI n), .ref me, .ref ml, .ref mb, .int fi, .int (nI nl), .ref mt, .int si, .ref ms, .int sn, .ref mp, .ref my, .ref mc, .int la, .ref mk, .ref mw, .int ah, .int ri, .int lh, .ref mo, .ref mq, .ref mi, .ref mz])), (me, .inl (cI, 6, .inl (upd fe kx v))), (ml, .inl (cI, 6, .inl fl)), (mb, .inl (cI, 6, .inl fb))] := hD
          refine lv_aload_n hx hb dX8_member_96 rfl (lv_at hl 1 rfl) ?_
          refine va_get (D := D) (ci := 8) (v := .ref ml) (C := RX8) (T := TX8) (N := 23) hx hb hts hi8 hown hK hP 0 rfl rfl 2 (by decide) hw2 (fun _ h9 => h9) rfl dX8_member_97 ?_
          refine lv_iload_n hx hb dX8_member_100 rfl (lv_at hl 2 rfl) ?_
          refine lv_iload_n hx hb dX8_member_101 rfl (lv_at hl 3 rfl) ?_
          refine lv_iconst (v := nI 1) hx hb dX8_member_102 (by decide) ?_
          refine icmp_ne_n (a := 0) (b := 1) (tgt := 110) hx hb dX8_member_103 (by decide) (by omega) (by omega) (fun _ => ?_) (fun c9 => absurd c9 (by decide))
          refine lv_aload_n hx hb dX8_member_110 rfl (lv_at hl 1 rfl) ?_
          refine va_get (D := D) (ci := 8) (v := .ref ml) (C := RX8) (T := TX8) (N := 23) hx hb hts hi8 hown hK hP 0 rfl rfl 2 (by decide) hw2 (fun _ h9 => h9) rfl dX8_member_111 ?_
          refine lv_iload_n hx hb dX8_member_114 rfl (lv_at hl 2 rfl) ?_
          refine iald_n (k := kx) hx hb hK hP 2 0 rfl rfl (by omega) (by omega) dX8_member_115 ?_
          refine iast_n (k := kx) hx hb hK hP hD hS 2 0 rfl rfl (by omega) (by omega) dX8_member_116 (fun H locs hP hD hS => ?_)
          have hP : va_P D vwCl [(o, .inr (8, [.int (nI n), .ref me, .ref ml, .ref mb, .int fi, .int (nI nl), .ref mt, .int si, .ref ms, .int sn, .ref mp, .ref my, .ref mc, .int la, .ref mk, .ref mw, .int ah, .int ri, .int lh, .ref mo, .ref mq, .ref mi, .ref mz])), (me, .inl (cI, 6, .inl (upd fe kx v))), (ml, .inl (cI, 6, .inl (upd fl kx (fl kx)))), (mb, .inl (cI, 6, .inl fb))] H := hP
          have hD : va_D A [(o, .inr (8, [.int (nI n), .ref me, .ref ml, .ref mb, .int fi, .int (nI nl), .ref mt, .int si, .ref ms, .int sn, .ref mp, .ref my, .ref mc, .int la, .ref mk, .ref mw, .int ah, .int ri, .int lh, .ref mo, .ref mq, .ref mi, .ref mz])), (me, .inl (cI, 6, .inl (upd fe kx v))), (ml, .inl (cI, 6, .inl (upd fl kx (fl kx)))), (mb, .inl (cI, 6, .inl fb))] := hD
          refine lv_aload_n hx hb dX8_member_117 rfl (lv_at hl 1 rfl) ?_
          refine va_get (D := D) (ci := 8) (v := .ref mb) (C := RX8) (T := TX8) (N := 23) hx hb hts hi8 hown hK hP 0 rfl rfl 3 (by decide) hw3 (fun _ h9 => h9) rfl dX8_member_118 ?_
          refine lv_iload_n hx hb dX8_member_121 rfl (lv_at hl 2 rfl) ?_
          refine lv_iload_n hx hb dX8_member_122 rfl (lv_at hl 3 rfl) ?_
          refine lv_iconst (v := nI 2) hx hb dX8_member_123 (by decide) ?_
          refine icmp_ne_n (a := 0) (b := 2) (tgt := 131) hx hb dX8_member_124 (by decide) (by omega) (by omega) (fun _ => ?_) (fun c9 => absurd c9 (by decide))
          refine lv_aload_n hx hb dX8_member_131 rfl (lv_at hl 1 rfl) ?_
          refine va_get (D := D) (ci := 8) (v := .ref mb) (C := RX8) (T := TX8) (N := 23) hx hb hts hi8 hown hK hP 0 rfl rfl 3 (by decide) hw3 (fun _ h9 => h9) rfl dX8_member_132 ?_
          refine lv_iload_n hx hb dX8_member_135 rfl (lv_at hl 2 rfl) ?_
          refine iald_n (k := kx) hx hb hK hP 3 0 rfl rfl (by omega) (by omega) dX8_member_136 ?_
          refine iast_n (k := kx) hx hb hK hP hD hS 3 0 rfl rfl (by omega) (by omega) dX8_member_137 (fun H locs hP hD hS => ?_)
          have hP : va_P D vwCl [(o, .inr (8, [.int (nI n), .ref me, .ref ml, .ref mb, .int fi, .int (nI nl), .ref mt, .int si, .ref ms, .int sn, .ref mp, .ref my, .ref mc, .int la, .ref mk, .ref mw, .int ah, .int ri, .int lh, .ref mo, .ref mq, .ref mi, .ref mz])), (me, .inl (cI, 6, .inl (upd fe kx v))), (ml, .inl (cI, 6, .inl (upd fl kx (fl kx)))), (mb, .inl (cI, 6, .inl (upd fb kx (fb kx))))] H := hP
          have hD : va_D A [(o, .inr (8, [.int (nI n), .ref me, .ref ml, .ref mb, .int fi, .int (nI nl), .ref mt, .int si, .ref ms, .int sn, .ref mp, .ref my, .ref mc, .int la, .ref mk, .ref mw, .int ah, .int ri, .int lh, .ref mo, .ref mq, .ref mi, .ref mz])), (me, .inl (cI, 6, .inl (upd fe kx v))), (ml, .inl (cI, 6, .inl (upd fl kx (fl kx)))), (mb, .inl (cI, 6, .inl (upd fb kx (fb kx))))] := hD
          refine lv_iload hx hb dX8_member_138 (lv_at hl 0 rfl) ?_
          rw [updS fl kx, updS fb kx] at hP hD
          exact hret (fe kx) ((upd fe kx v, fl, fb)) _ _ _ _ dX8_member_140 ⟨by rw [if_pos b2, if_pos ⟨b13, b32⟩, nI_clamp (by omega)]; rfl, by rw [if_pos ⟨b2, b13, b32⟩, nI_clamp (by omega)]; rfl⟩ hP hD hS
        · refine lv_if_ne (tgt := 41) hx hb dX8_member_35 (by decide) (fun c9 => absurd c9 (by decide)) (fun _ => ?_)
          refine lv_bipush (v := (-2)) hx hb dX8_member_38 (by decide) ?_
          exact hret ((-2)) ((fe, fl, fb)) _ _ _ _ dX8_member_40 ⟨by rw [if_pos b2, if_neg (fun z => b32 z.2)], by rw [if_neg (fun z => b32 z.2.2)]⟩ hP hD hS
      · refine lv_if_eq (tgt := 38) hx hb dX8_member_16 (by decide) (fun c9 => absurd c9 (by decide)) (fun _ => ?_)
        refine lv_iload_n hx hb dX8_member_19 rfl (lv_at hl 3 rfl) ?_
        refine lv_iconst (v := nI 0) hx hb dX8_member_20 (by decide) ?_
        refine lv_iload_n hx hb dX8_member_21 rfl (lv_at hl 2 rfl) ?_
        refine lv_iconst (v := nI 1) hx hb dX8_member_22 (by decide) ?_
        refine icmp_ne_n (a := 1) (b := 1) (tgt := 30) hx hb dX8_member_23 (by decide) (by omega) (by omega) (fun c9 => absurd c9 (by decide)) (fun _ => ?_)
        refine lv_iconst (v := nI 5) hx hb dX8_member_26 (by decide) ?_
        refine lv_goto (tgt := 32) hx hb dX8_member_27 (by decide) ?_
        refine cal_i (run_S (As := [.int v, .int (nI 0), .int (nI 5)]) (rest := []) SF (c_in8 l D cI cJ cZ cG cM v (nI 0) (nI 5)) (va_cwS 3 hts gX8_member_X8_in rfl rfl rfl (by decide +kernel) ⟨Nat.le_of_ble_eq_true rfl, Nat.le_of_ble_eq_true rfl⟩) hN hK hP hD [] rfl (by decide) rfl hl.1 rfl (Nat.le_of_ble_eq_true rfl) dX8_member_32 ⟨Nat.le_of_ble_eq_true rfl, Nat.le_of_ble_eq_true rfl⟩) ⟨rfl, rfl⟩ hP hD hS hA [] rfl (fun _ => rfl) (fun r32 _ H locs hw hP hD hS => ?_)
        have hP : va_P D vwCl [(o, .inr (8, [.int (nI n), .ref me, .ref ml, .ref mb, .int fi, .int (nI nl), .ref mt, .int si, .ref ms, .int sn, .ref mp, .ref my, .ref mc, .int la, .ref mk, .ref mw, .int ah, .int ri, .int lh, .ref mo, .ref mq, .ref mi, .ref mz])), (me, .inl (cI, 6, .inl fe)), (ml, .inl (cI, 6, .inl fl)), (mb, .inl (cI, 6, .inl fb))] H := hP
        have hD : va_D A [(o, .inr (8, [.int (nI n), .ref me, .ref ml, .ref mb, .int fi, .int (nI nl), .ref mt, .int si, .ref ms, .int sn, .ref mp, .ref my, .ref mc, .int la, .ref mk, .ref mw, .int ah, .int ri, .int lh, .ref mo, .ref mq, .ref mi, .ref mz])), (me, .inl (cI, 6, .inl fe)), (ml, .inl (cI, 6, .inl fl)), (mb, .inl (cI, 6, .inl fb))] := hD
        rcases hw with ⟨b32, rfl⟩ | ⟨b32, rfl⟩
        · refine lv_if_ne (tgt := 41) hx hb dX8_member_35 (by decide) (fun _ => ?_) (fun c9 => absurd c9 (by decide))
          refine lv_iload_n hx hb dX8_member_41 rfl (lv_at hl 2 rfl) ?_
          refine lv_if_ne (tgt := 54) hx hb dX8_member_42 (by decide) (fun _ => ?_) (fun c9 => absurd c9 (by decide))
          refine lv_iload_n hx hb dX8_member_54 rfl (lv_at hl 2 rfl) ?_
          refine lv_iconst (v := nI 1) hx hb dX8_member_55 (by decide) ?_
          refine icmp_ne_n (a := 1) (b := 1) (tgt := 68) hx hb dX8_member_56 (by decide) (by omega) (by omega) (fun c9 => absurd c9 (by decide)) (fun _ => ?_)
          refine lv_aload_n hx hb dX8_member_59 rfl (lv_at hl 0 rfl) ?_
          refine va_get (D := D) (ci := 8) (v := .ref ml) (C := RX8) (T := TX8) (N := 23) hx hb hts hi8 hown hK hP 0 rfl rfl 2 (by decide) hw2 (fun _ h9 => h9) rfl dX8_member_60 ?_
          refine lv_iload_n hx hb dX8_member_63 rfl (lv_at hl 1 rfl) ?_
          refine iald_n (k := kx) hx hb hK hP 2 0 rfl rfl (by omega) (by omega) dX8_member_64 ?_
          refine lv_goto (tgt := 74) hx hb dX8_member_65 (by decide) ?_
          refine lv_istore (lv' := [(4, .int (fl kx)), (0, .ref o), (1, .int (nI kx)), (2, .int (nI 1)), (3, .int v)]) hx hb dX8_member_74 hl (by decide) rfl (fun ls hl => ?_)
          refine lv_aload_n hx hb dX8_member_76 rfl (lv_at hl 1 rfl) ?_
          refine va_get (D := D) (ci := 8) (v := .ref me) (C := RX8) (T := TX8) (N := 23) hx hb hts hi8 hown hK hP 0 rfl rfl 1 (by decide) hw0 (fun _ h9 => h9) rfl dX8_member_77 ?_
          refine lv_iload_n hx hb dX8_member_80 rfl (lv_at hl 2 rfl) ?_
          refine lv_iload_n hx hb dX8_member_81 rfl (lv_at hl 3 rfl) ?_
          refine lv_if_ne (tgt := 89) hx hb dX8_member_82 (by decide) (fun _ => ?_) (fun c9 => absurd c9 (by decide))
          refine lv_aload_n hx hb dX8_member_89 rfl (lv_at hl 1 rfl) ?_
          refine va_get (D := D) (ci := 8) (v := .ref me) (C := RX8) (T := TX8) (N := 23) hx hb hts hi8 hown hK hP 0 rfl rfl 1 (by decide) hw0 (fun _ h9 => h9) rfl dX8_member_90 ?_
          refine lv_iload_n hx hb dX8_member_93 rfl (lv_at hl 2 rfl) ?_
          refine iald_n (k := kx) hx hb hK hP 1 0 rfl rfl (by omega) (by omega) dX8_member_94 ?_
          refine iast_n (k := kx) hx hb hK hP hD hS 1 0 rfl rfl (by omega) (by omega) dX8_member_95 (fun H locs hP hD hS => ?_)
          have hP : va_P D vwCl [(o, .inr (8, [.int (nI n), .ref me, .ref ml, .ref mb, .int fi, .int (nI nl), .ref mt, .int si, .ref ms, .int sn, .ref mp, .ref my, .ref mc, .int la, .ref mk, .ref mw, .int ah, .int ri, .int lh, .ref mo, .ref mq, .ref mi, .ref mz])), (me, .inl (cI, 6, .inl (upd fe kx (fe kx)))), (ml, .inl (cI, 6, .inl fl)), (mb, .inl (cI, 6, .inl fb))] H := hP
          have hD : va_D A [(o, .inr (8, [.int (nI n), .ref me, .ref ml, .ref mb, .int fi, .int (nI nl), .ref mt, .int si, .ref ms, .int sn, .ref mp, .ref my, .ref mc, .int la, .ref mk, .ref mw, .int ah, .int ri, .int lh, .ref mo, .ref mq, .ref mi, .ref mz])), (me, .inl (cI, 6, .inl (upd fe kx (fe kx)))), (ml, .inl (cI, 6, .inl fl)), (mb, .inl (cI, 6, .inl fb))] := hD
          refine lv_aload_n hx hb dX8_member_96 rfl (lv_at hl 1 rfl) ?_
          refine va_get (D := D) (ci := 8) (v := .ref ml) (C := RX8) (T := TX8) (N := 23) hx hb hts hi8 hown hK hP 0 rfl rfl 2 (by decide) hw2 (fun _ h9 => h9) rfl dX8_member_97 ?_
          refine lv_iload_n hx hb dX8_member_100 rfl (lv_at hl 2 rfl) ?_
          refine lv_iload_n hx hb dX8_member_101 rfl (lv_at hl 3 rfl) ?_
          refine lv_iconst (v := nI 1) hx hb dX8_member_102 (by decide) ?_
          refine icmp_ne_n (a := 1) (b := 1) (tgt := 110) hx hb dX8_member_103 (by decide) (by omega) (by omega) (fun c9 => absurd c9 (by decide)) (fun _ => ?_)
          refine lv_iload_n hx hb dX8_member_106 rfl (lv_at hl 4 rfl) ?_
          refine lv_goto (tgt := 116) hx hb dX8_member_107 (by decide) ?_
          refine iast_n (k := kx) hx hb hK hP hD hS 2 0 rfl rfl (by omega) (by omega) dX8_member_116 (fun H locs hP hD hS => ?_)
          have hP : va_P D vwCl [(o, .inr (8, [.int (nI n), .ref me, .ref ml, .ref mb, .int fi, .int (nI nl), .ref mt, .int si, .ref ms, .int sn, .ref mp, .ref my, .ref mc, .int la, .ref mk, .ref mw, .int ah, .int ri, .int lh, .ref mo, .ref mq, .ref mi, .ref mz])), (me, .inl (cI, 6, .inl (upd fe kx (fe kx)))), (ml, .inl (cI, 6, .inl (upd fl kx v))), (mb, .inl (cI, 6, .inl fb))] H := hP
          have hD : va_D A [(o, .inr (8, [.int (nI n), .ref me, .ref ml, .ref mb, .int fi, .int (nI nl), .ref mt, .int si, .ref ms, .int sn, .ref mp, .ref my, .ref mc, .int la, .ref mk, .ref mw, .int ah, .int ri, .int lh, .ref mo, .ref mq, .ref mi, .ref mz])), (me, .inl (cI, 6, .inl (upd fe kx (fe kx)))), (ml, .inl (cI, 6, .inl (upd fl kx v))), (mb, .inl (cI, 6, .inl fb))] := hD
          refine lv_aload_n hx hb dX8_member_117 rfl (lv_at hl 1 rfl) ?_
          refine va_get (D := D) (ci := 8) (v := .ref mb) (C := RX8) (T := TX8) (N := 23) hx hb hts hi8 hown hK hP 0 rfl rfl 3 (by decide) hw3 (fun _ h9 => h9) rfl dX8_member_118 ?_
          refine lv_iload_n hx hb dX8_member_121 rfl (lv_at hl 2 rfl) ?_
          refine lv_iload_n hx hb dX8_member_122 rfl (lv_at hl 3 rfl) ?_
          refine lv_iconst (v := nI 2) hx hb dX8_member_123 (by decide) ?_
          refine icmp_ne_n (a := 1) (b := 2) (tgt := 131) hx hb dX8_member_124 (by decide) (by omega) (by omega) (fun _ => ?_) (fun c9 => absurd c9 (by decide))
          refine lv_aload_n hx hb dX8_member_131 rfl (lv_at hl 1 rfl) ?_
          refine va_get (D := D) (ci := 8) (v := .ref mb) (C := RX8) (T := TX8) (N := 23) hx hb hts hi8 hown hK hP 0 rfl rfl 3 (by decide) hw3 (fun _ h9 => h9) rfl dX8_member_132 ?_
          refine lv_iload_n hx hb dX8_member_135 rfl (lv_at hl 2 rfl) ?_
          refine iald_n (k := kx) hx hb hK hP 3 0 rfl rfl (by omega) (by omega) dX8_member_136 ?_
          refine iast_n (k := kx) hx hb hK hP hD hS 3 0 rfl rfl (by omega) (by omega) dX8_member_137 (fun H locs hP hD hS => ?_)
          have hP : va_P D vwCl [(o, .inr (8, [.int (nI n), .ref me, .ref ml, .ref mb, .int fi, .int (nI nl), .ref mt, .int si, .ref ms, .int sn, .ref mp, .ref my, .ref mc, .int la, .ref mk, .ref mw, .int ah, .int ri, .int lh, .ref mo, .ref mq, .ref mi, .ref mz])), (me, .inl (cI, 6, .inl (upd fe kx (fe kx)))), (ml, .inl (cI, 6, .inl (upd fl kx v))), (mb, .inl (cI, 6, .inl (upd fb kx (fb kx))))] H := hP
          have hD : va_D A [(o, .inr (8, [.int (nI n), .ref me, .ref ml, .ref mb, .int fi, .int (nI nl), .ref mt, .int si, .ref ms, .int sn, .ref mp, .ref my, .ref mc, .int la, .ref mk, .ref mw, .int ah, .int ri, .int lh, .ref mo, .ref mq, .ref mi, .ref mz])), (me, .inl (cI, 6, .inl (upd fe kx (fe kx)))), (ml, .inl (cI, 6, .inl (upd fl kx v))), (mb, .inl (cI, 6, .inl (upd fb kx (fb kx))))] := hD
          refine lv_iload hx hb dX8_member_138 (lv_at hl 0 rfl) ?_
          rw [updS fe kx, updS fb kx] at hP hD
          exact hret (fl kx) ((fe, upd fl kx v, fb)) _ _ _ _ dX8_member_140 ⟨by rw [if_pos b2, if_pos ⟨b13, b32⟩, nI_clamp (by omega)]; rfl, by rw [if_pos ⟨b2, b13, b32⟩, nI_clamp (by omega)]; rfl⟩ hP hD hS
        · refine lv_if_ne (tgt := 41) hx hb dX8_member_35 (by decide) (fun c9 => absurd c9 (by decide)) (fun _ => ?_)
          refine lv_bipush (v := (-2)) hx hb dX8_member_38 (by decide) ?_
          exact hret ((-2)) ((fe, fl, fb)) _ _ _ _ dX8_member_40 ⟨by rw [if_pos b2, if_neg (fun z => b32 z.2)], by rw [if_neg (fun z => b32 z.2.2)]⟩ hP hD hS
      · refine lv_if_eq (tgt := 38) hx hb dX8_member_16 (by decide) (fun c9 => absurd c9 (by decide)) (fun _ => ?_)
        refine lv_iload_n hx hb dX8_member_19 rfl (lv_at hl 3 rfl) ?_
        refine lv_iconst (v := nI 0) hx hb dX8_member_20 (by decide) ?_
        refine lv_iload_n hx hb dX8_member_21 rfl (lv_at hl 2 rfl) ?_
        refine lv_iconst (v := nI 1) hx hb dX8_member_22 (by decide) ?_
        refine icmp_ne_n (a := 2) (b := 1) (tgt := 30) hx hb dX8_member_23 (by decide) (by omega) (by omega) (fun _ => ?_) (fun c9 => absurd c9 (by decide))
        refine lv_bipush (v := nI 23) hx hb dX8_member_30 (by decide) ?_
        refine cal_i (run_S (As := [.int v, .int (nI 0), .int (nI 23)]) (rest := []) SF (c_in8 l D cI cJ cZ cG cM v (nI 0) (nI 23)) (va_cwS 3 hts gX8_member_X8_in rfl rfl rfl (by decide +kernel) ⟨Nat.le_of_ble_eq_true rfl, Nat.le_of_ble_eq_true rfl⟩) hN hK hP hD [] rfl (by decide) rfl hl.1 rfl (Nat.le_of_ble_eq_true rfl) dX8_member_32 ⟨Nat.le_of_ble_eq_true rfl, Nat.le_of_ble_eq_true rfl⟩) ⟨rfl, rfl⟩ hP hD hS hA [] rfl (fun _ => rfl) (fun r32 _ H locs hw hP hD hS => ?_)
        have hP : va_P D vwCl [(o, .inr (8, [.int (nI n), .ref me, .ref ml, .ref mb, .int fi, .int (nI nl), .ref mt, .int si, .ref ms, .int sn, .ref mp, .ref my, .ref mc, .int la, .ref mk, .ref mw, .int ah, .int ri, .int lh, .ref mo, .ref mq, .ref mi, .ref mz])), (me, .inl (cI, 6, .inl fe)), (ml, .inl (cI, 6, .inl fl)), (mb, .inl (cI, 6, .inl fb))] H := hP
        have hD : va_D A [(o, .inr (8, [.int (nI n), .ref me, .ref ml, .ref mb, .int fi, .int (nI nl), .ref mt, .int si, .ref ms, .int sn, .ref mp, .ref my, .ref mc, .int la, .ref mk, .ref mw, .int ah, .int ri, .int lh, .ref mo, .ref mq, .ref mi, .ref mz])), (me, .inl (cI, 6, .inl fe)), (ml, .inl (cI, 6, .inl fl)), (mb, .inl (cI, 6, .inl fb))] := hD
        rcases hw with ⟨b32, rfl⟩ | ⟨b32, rfl⟩
        · refine lv_if_ne (tgt := 41) hx hb dX8_member_35 (by decide) (fun _ => ?_) (fun c9 => absurd c9 (by decide))
          refine lv_iload_n hx hb dX8_member_41 rfl (lv_at hl 2 rfl) ?_
          refine lv_if_ne (tgt := 54) hx hb dX8_member_42 (by decide) (fun _ => ?_) (fun c9 => absurd c9 (by decide))
          refine lv_iload_n hx hb dX8_member_54 rfl (lv_at hl 2 rfl) ?_
          refine lv_iconst (v := nI 1) hx hb dX8_member_55 (by decide) ?_
          refine icmp_ne_n (a := 2) (b := 1) (tgt := 68) hx hb dX8_member_56 (by decide) (by omega) (by omega) (fun _ => ?_) (fun c9 => absurd c9 (by decide))
          refine lv_aload_n hx hb dX8_member_68 rfl (lv_at hl 0 rfl) ?_
          refine va_get (D := D) (ci := 8) (v := .ref mb) (C := RX8) (T := TX8) (N := 23) hx hb hts hi8 hown hK hP 0 rfl rfl 3 (by decide) hw3 (fun _ h9 => h9) rfl dX8_member_69 ?_
          refine lv_iload_n hx hb dX8_member_72 rfl (lv_at hl 1 rfl) ?_
          refine iald_n (k := kx) hx hb hK hP 3 0 rfl rfl (by omega) (by omega) dX8_member_73 ?_
          refine lv_istore (lv' := [(4, .int (fb kx)), (0, .ref o), (1, .int (nI kx)), (2, .int (nI 2)), (3, .int v)]) hx hb dX8_member_74 hl (by decide) rfl (fun ls hl => ?_)
          refine lv_aload_n hx hb dX8_member_76 rfl (lv_at hl 1 rfl) ?_
          refine va_get (D := D) (ci := 8) (v := .ref me) (C := RX8) (T := TX8) (N := 23) hx hb hts hi8 hown hK hP 0 rfl rfl 1 (by decide) hw0 (fun _ h9 => h9) rfl dX8_member_77 ?_
          refine lv_iload_n hx hb dX8_member_80 rfl (lv_at hl 2 rfl) ?_
          refine lv_iload_n hx hb dX8_member_81 rfl (lv_at hl 3 rfl) ?_
          refine lv_if_ne (tgt := 89) hx hb dX8_member_82 (by decide) (fun _ => ?_) (fun c9 => absurd c9 (by decide))
          refine lv_aload_n hx hb dX8_member_89 rfl (lv_at hl 1 rfl) ?_
          refine va_get (D := D) (ci := 8) (v := .ref me) (C := RX8) (T := TX8) (N := 23) hx hb hts hi8 hown hK hP 0 rfl rfl 1 (by decide) hw0 (fun _ h9 => h9) rfl dX8_member_90 ?_
          refine lv_iload_n hx hb dX8_member_93 rfl (lv_at hl 2 rfl) ?_
          refine iald_n (k := kx) hx hb hK hP 1 0 rfl rfl (by omega) (by omega) dX8_member_94 ?_
          refine iast_n (k := kx) hx hb hK hP hD hS 1 0 rfl rfl (by omega) (by omega) dX8_member_95 (fun H locs hP hD hS => ?_)
          have hP : va_P D vwCl [(o, .inr (8, [.int (nI n), .ref me, .ref ml, .ref mb, .int fi, .int (nI nl), .ref mt, .int si, .ref ms, .int sn, .ref mp, .ref my, .ref mc, .int la, .ref mk, .ref mw, .int ah, .int ri, .int lh, .ref mo, .ref mq, .ref mi, .ref mz])), (me, .inl (cI, 6, .inl (upd fe kx (fe kx)))), (ml, .inl (cI, 6, .inl fl)), (mb, .inl (cI, 6, .inl fb))] H := hP
          have hD : va_D A [(o, .inr (8, [.int (nI n), .ref me, .ref ml, .ref mb, .int fi, .int (nI nl), .ref mt, .int si, .ref ms, .int sn, .ref mp, .ref my, .ref mc, .int la, .ref mk, .ref mw, .int ah, .int ri, .int lh, .ref mo, .ref mq, .ref mi, .ref mz])), (me, .inl (cI, 6, .inl (upd fe kx (fe kx)))), (ml, .inl (cI, 6, .inl fl)), (mb, .inl (cI, 6, .inl fb))] := hD
          refine lv_aload_n hx hb dX8_member_96 rfl (lv_at hl 1 rfl) ?_
          refine va_get (D := D) (ci := 8) (v := .ref ml) (C := RX8) (T := TX8) (N := 23) hx hb hts hi8 hown hK hP 0 rfl rfl 2 (by decide) hw2 (fun _ h9 => h9) rfl dX8_member_97 ?_
          refine lv_iload_n hx hb dX8_member_100 rfl (lv_at hl 2 rfl) ?_
          refine lv_iload_n hx hb dX8_member_101 rfl (lv_at hl 3 rfl) ?_
          refine lv_iconst (v := nI 1) hx hb dX8_member_102 (by decide) ?_
          refine icmp_ne_n (a := 2) (b := 1) (tgt := 110) hx hb dX8_member_103 (by decide) (by omega) (by omega) (fun _ => ?_) (fun c9 => absurd c9 (by decide))
          refine lv_aload_n hx hb dX8_member_110 rfl (lv_at hl 1 rfl) ?_
          refine va_get (D := D) (ci := 8) (v := .ref ml) (C := RX8) (T := TX8) (N := 23) hx hb hts hi8 hown hK hP 0 rfl rfl 2 (by decide) hw2 (fun _ h9 => h9) rfl dX8_member_111 ?_
          refine lv_iload_n hx hb dX8_member_114 rfl (lv_at hl 2 rfl) ?_
          refine iald_n (k := kx) hx hb hK hP 2 0 rfl rfl (by omega) (by omega) dX8_member_115 ?_
          refine iast_n (k := kx) hx hb hK hP hD hS 2 0 rfl rfl (by omega) (by omega) dX8_member_116 (fun H locs hP hD hS => ?_)
          have hP : va_P D vwCl [(o, .inr (8, [.int (nI n), .ref me, .ref ml, .ref mb, .int fi, .int (nI nl), .ref mt, .int si, .ref ms, .int sn, .ref mp, .ref my, .ref mc, .int la, .ref mk, .ref mw, .int ah, .int ri, .int lh, .ref mo, .ref mq, .ref mi, .ref mz])), (me, .inl (cI, 6, .inl (upd fe kx (fe kx)))), (ml, .inl (cI, 6, .inl (upd fl kx (fl kx)))), (mb, .inl (cI, 6, .inl fb))] H := hP
          have hD : va_D A [(o, .inr (8, [.int (nI n), .ref me, .ref ml, .ref mb, .int fi, .int (nI nl), .ref mt, .int si, .ref ms, .int sn, .ref mp, .ref my, .ref mc, .int la, .ref mk, .ref mw, .int ah, .int ri, .int lh, .ref mo, .ref mq, .ref mi, .ref mz])), (me, .inl (cI, 6, .inl (upd fe kx (fe kx)))), (ml, .inl (cI, 6, .inl (upd fl kx (fl kx)))), (mb, .inl (cI, 6, .inl fb))] := hD
          refine lv_aload_n hx hb dX8_member_117 rfl (lv_at hl 1 rfl) ?_
          refine va_get (D := D) (ci := 8) (v := .ref mb) (C := RX8) (T := TX8) (N := 23) hx hb hts hi8 hown hK hP 0 rfl rfl 3 (by decide) hw3 (fun _ h9 => h9) rfl dX8_member_118 ?_
          refine lv_iload_n hx hb dX8_member_121 rfl (lv_at hl 2 rfl) ?_
          refine lv_iload_n hx hb dX8_member_122 rfl (lv_at hl 3 rfl) ?_
          refine lv_iconst (v := nI 2) hx hb dX8_member_123 (by decide) ?_
          refine icmp_ne_n (a := 2) (b := 2) (tgt := 131) hx hb dX8_member_124 (by decide) (by omega) (by omega) (fun c9 => absurd c9 (by decide)) (fun _ => ?_)
          refine lv_iload_n hx hb dX8_member_127 rfl (lv_at hl 4 rfl) ?_
          refine lv_goto (tgt := 137) hx hb dX8_member_128 (by decide) ?_
          refine iast_n (k := kx) hx hb hK hP hD hS 3 0 rfl rfl (by omega) (by omega) dX8_member_137 (fun H locs hP hD hS => ?_)
          have hP : va_P D vwCl [(o, .inr (8, [.int (nI n), .ref me, .ref ml, .ref mb, .int fi, .int (nI nl), .ref mt, .int si, .ref ms, .int sn, .ref mp, .ref my, .ref mc, .int la, .ref mk, .ref mw, .int ah, .int ri, .int lh, .ref mo, .ref mq, .ref mi, .ref mz])), (me, .inl (cI, 6, .inl (upd fe kx (fe kx)))), (ml, .inl (cI, 6, .inl (upd fl kx (fl kx)))), (mb, .inl (cI, 6, .inl (upd fb kx v)))] H := hP
          have hD : va_D A [(o, .inr (8, [.int (nI n), .ref me, .ref ml, .ref mb, .int fi, .int (nI nl), .ref mt, .int si, .ref ms, .int sn, .ref mp, .ref my, .ref mc, .int la, .ref mk, .ref mw, .int ah, .int ri, .int lh, .ref mo, .ref mq, .ref mi, .ref mz])), (me, .inl (cI, 6, .inl (upd fe kx (fe kx)))), (ml, .inl (cI, 6, .inl (upd fl kx (fl kx)))), (mb, .inl (cI, 6, .inl (upd fb kx v)))] := hD
          refine lv_iload hx hb dX8_member_138 (lv_at hl 0 rfl) ?_
          rw [updS fe kx, updS fl kx] at hP hD
          exact hret (fb kx) ((fe, fl, upd fb kx v)) _ _ _ _ dX8_member_140 ⟨by rw [if_pos b2, if_pos ⟨b13, b32⟩, nI_clamp (by omega)]; rfl, by rw [if_pos ⟨b2, b13, b32⟩, nI_clamp (by omega)]; rfl⟩ hP hD hS
        · refine lv_if_ne (tgt := 41) hx hb dX8_member_35 (by decide) (fun c9 => absurd c9 (by decide)) (fun _ => ?_)
          refine lv_bipush (v := (-2)) hx hb dX8_member_38 (by decide) ?_
          exact hret ((-2)) ((fe, fl, fb)) _ _ _ _ dX8_member_40 ⟨by rw [if_pos b2, if_neg (fun z => b32 z.2)], by rw [if_neg (fun z => b32 z.2.2)]⟩ hP hD hS
    · refine lv_if_eq (tgt := 38) hx hb dX8_member_16 (by decide) (fun _ => ?_) (fun c9 => absurd (by decide) c9)
      refine lv_bipush (v := (-2)) hx hb dX8_member_38 (by decide) ?_
      exact hret ((-2)) ((fe, fl, fb)) _ _ _ _ dX8_member_40 ⟨by rw [if_pos b2, if_neg (fun z => b13 z.1)], by rw [if_neg (fun z => b13 z.2.1)]⟩ hP hD hS
  · refine lv_if_ne (tgt := 10) hx hb dX8_member_5 (by decide) (fun c9 => absurd c9 (by decide)) (fun _ => ?_)
    refine lv_iconst (v := (-1)) hx hb dX8_member_8 (by decide) ?_
    exact hret ((-1)) ((fe, fl, fb)) _ _ _ _ dX8_member_9 ⟨by rw [if_neg b2], by rw [if_neg (fun z => b2 z.1)]⟩ hP hD hS

abbrev rm_X8_fine : Room := { frames := 1, cells := 0, slots := 0, locals := 22 }
set_option maxHeartbeats 4000000 in
set_option maxRecDepth 100000 in
theorem m_fine (l : Launch) (D : va_G) (cI cJ cZ cG cM : ClassId) (o me ml mb mt ms mp my mc mk mw mo mq mi mz : Nat) (fi si sn la ah ri lh : Int32) (n nl : Nat) (x : Int32) :
    CI l yX8_fine wsX8_fine rm_X8_fine D [(cI, .int), (cJ, .long), (cZ, .boolean), (cG, .object "LatestSets$Guild"), (cM, .array .int)] [(o, .inr (8, [.int (nI n), .ref me, .ref ml, .ref mb, .int fi, .int (nI nl), .ref mt, .int si, .ref ms, .int sn, .ref mp, .ref my, .ref mc, .int la, .ref mk, .ref mw, .int ah, .int ri, .int lh, .ref mo, .ref mq, .ref mi, .ref mz]))] [.ref o, .int x] (S := Int32) (fun r u => r = (if nI 0 ≤ x ∧ x ≤ nI 9 then fi else (-2)) ∧ u = (if nI 0 ≤ x ∧ x ≤ nI 9 then x else fi)) (fun u => [(o, .inr (8, [.int (nI n), .ref me, .ref ml, .ref mb, .int u, .int (nI nl), .ref mt, .int si, .ref ms, .int sn, .ref mp, .ref my, .ref mc, .int la, .ref mk, .ref mw, .int ah, .int ri, .int lh, .ref mo, .ref mq, .ref mi, .ref mz]))]) := by
  refine si_of (cc := cX8_fine) (maxL := 3) (by decide) rfl (Nat.le_of_ble_eq_true rfl) ?_
  intro p e s m args below meth c A ls Q E hret
  obtain ⟨hx, hb, -, hml, hown, hts, -, hin, hA, hK, hP, hD, hS, hl, hN⟩ := E
  have hown : s.vm.findClass RX8 = some m.cls := hown
  have hl : lv_has ls 3 [(0, .ref o), (1, .int x)] := hl
  have SF : CallFix p m c cX8_fine 3 s args wsX8_fine RX8 := ⟨hx, hb, hml, hown, hts⟩
  have hw0 := hts (.fieldLink RX8 23 "LatestSetsModel" "fine" "I") (by decide +kernel)
  have hi8 : ∀ x ∈ wsX80, x ∈ wsX8_fine := by decide +kernel
  refine lv_iload_n hx hb dX8_fine_0 rfl (lv_at hl 1 rfl) ?_
  refine lv_iconst (v := nI 0) hx hb dX8_fine_1 (by decide) ?_
  refine lv_bipush (v := nI 9) hx hb dX8_fine_2 (by decide) ?_
  refine cal_i (run_S (As := [.int x, .int (nI 0), .int (nI 9)]) (rest := []) SF (c_in8 l D cI cJ cZ cG cM x (nI 0) (nI 9)) (va_cwS 3 hts gX8_fine_X8_in rfl rfl rfl (by decide +kernel) ⟨Nat.le_of_ble_eq_true rfl, Nat.le_of_ble_eq_true rfl⟩) hN hK hP hD [] rfl (by decide) rfl hl.1 rfl (Nat.le_of_ble_eq_true rfl) dX8_fine_4 ⟨Nat.le_of_ble_eq_true rfl, Nat.le_of_ble_eq_true rfl⟩) ⟨rfl, rfl⟩ hP hD hS hA [] rfl (fun _ => rfl) (fun r4 _ H locs hw hP hD hS => ?_)
  have hP : va_P D vwCl [(o, .inr (8, [.int (nI n), .ref me, .ref ml, .ref mb, .int fi, .int (nI nl), .ref mt, .int si, .ref ms, .int sn, .ref mp, .ref my, .ref mc, .int la, .ref mk, .ref mw, .int ah, .int ri, .int lh, .ref mo, .ref mq, .ref mi, .ref mz]))] H := hP
  have hD : va_D A [(o, .inr (8, [.int (nI n), .ref me, .ref ml, .ref mb, .int fi, .int (nI nl), .ref mt, .int si, .ref ms, .int sn, .ref mp, .ref my, .ref mc, .int la, .ref mk, .ref mw, .int ah, .int ri, .int lh, .ref mo, .ref mq, .ref mi, .ref mz]))] := hD
  rcases hw with ⟨b4, rfl⟩ | ⟨b4, rfl⟩
  · refine lv_if_ne (tgt := 13) hx hb dX8_fine_7 (by decide) (fun _ => ?_) (fun c9 => absurd c9 (by decide))
    refine lv_aload_n hx hb dX8_fine_13 rfl (lv_at hl 0 rfl) ?_
    refine va_get (D := D) (ci := 8) (v := .int fi) (C := RX8) (T := TX8) (N := 23) hx hb hts hi8 hown hK hP 0 rfl rfl 4 (by decide) hw0 (fun _ h9 => h9) rfl dX8_fine_14 ?_
    refine lv_istore_n (lv' := [(2, .int fi), (0, .ref o), (1, .int x)]) hx hb dX8_fine_17 rfl hl (by decide) rfl (fun ls hl => ?_)
    refine lv_aload_n hx hb dX8_fine_18 rfl (lv_at hl 1 rfl) ?_
    refine lv_iload_n hx hb dX8_fine_19 rfl (lv_at hl 2 rfl) ?_
    refine va_put (D := D) (ci := 8) (v := .int x) (ty := .int) (C := RX8) (T := TX8) (N := 23) hx hb hts hi8 tyX8 tyX8_ok nmX8 hown hK hP hD hS 0 rfl rfl 4 (by decide) hw0 (fun _ h9 => h9) rfl (by decide +kernel) rfl rfl (Nat.le_of_ble_eq_true rfl) dX8_fine_20 (fun H locs hP hD hS => ?_)
    have hP : va_P D vwCl [(o, .inr (8, [.int (nI n), .ref me, .ref ml, .ref mb, .int x, .int (nI nl), .ref mt, .int si, .ref ms, .int sn, .ref mp, .ref my, .ref mc, .int la, .ref mk, .ref mw, .int ah, .int ri, .int lh, .ref mo, .ref mq, .ref mi, .ref mz]))] H := hP
    have hD : va_D A [(o, .inr (8, [.int (nI n), .ref me, .ref ml, .ref mb, .int x, .int (nI nl), .ref mt, .int si, .ref ms, .int sn, .ref mp, .ref my, .ref mc, .int la, .ref mk, .ref mw, .int ah, .int ri, .int lh, .ref mo, .ref mq, .ref mi, .ref mz]))] := hD
    refine lv_iload_n hx hb dX8_fine_23 rfl (lv_at hl 0 rfl) ?_
    exact hret fi x _ _ _ _ dX8_fine_24 ⟨by rw [if_pos b4], by rw [if_pos b4]⟩ hP hD hS
  · refine lv_if_ne (tgt := 13) hx hb dX8_fine_7 (by decide) (fun c9 => absurd c9 (by decide)) (fun _ => ?_)
    refine lv_bipush (v := (-2)) hx hb dX8_fine_10 (by decide) ?_
    exact hret ((-2)) fi _ _ _ _ dX8_fine_12 ⟨by rw [if_neg b4], by rw [if_neg b4]⟩ hP hD hS

abbrev rm_X8_say : Room := { frames := 1, cells := 0, slots := 0, locals := 22 }
set_option maxHeartbeats 4000000 in
set_option maxRecDepth 100000 in
theorem m_say (l : Launch) (D : va_G) (cI cJ cZ cG cM : ClassId) (o me ml mb mt ms mp my mc mk mw mo mq mi mz : Nat) (fi si sn la ah ri lh : Int32) (n nl : Nat) (sc : Nat) (fp : Nat → Int32) (x : Int32) (hsc : sc ≤ 48) :
    CI l yX8_say wsX8_say rm_X8_say D [(cI, .int), (cJ, .long), (cZ, .boolean), (cG, .object "LatestSets$Guild"), (cM, .array .int)] [(o, .inr (8, [.int (nI n), .ref me, .ref ml, .ref mb, .int fi, .int (nI nl), .ref mt, .int si, .ref ms, .int (nI sc), .ref mp, .ref my, .ref mc, .int la, .ref mk, .ref mw, .int ah, .int ri, .int lh, .ref mo, .ref mq, .ref mi, .ref mz])), (mp, .inl (cI, 48, .inl fp))] [.ref o, .int x] (S := (Nat × (Nat → Int32))) (fun r u => r = (if nI 33 ≤ x ∧ x ≤ nI 126 then (if sc < 48 then nI (sc + 1) else (-4)) else (-2)) ∧ u = (if (nI 33 ≤ x ∧ x ≤ nI 126) ∧ sc < 48 then (sc + 1, upd fp sc x) else (sc, fp))) (fun u => [(o, .inr (8, [.int (nI n), .ref me, .ref ml, .ref mb, .int fi, .int (nI nl), .ref mt, .int si, .ref ms, .int (nI u.1), .ref mp, .ref my, .ref mc, .int la, .ref mk, .ref mw, .int ah, .int ri, .int lh, .ref mo, .ref mq, .ref mi, .ref mz])), (mp, .inl (cI, 48, .inl u.2))]) := by
  refine si_of (cc := cX8_say) (maxL := 2) (by decide) rfl (Nat.le_of_ble_eq_true rfl) ?_
  intro p e s m args below meth c A ls Q E hret
  obtain ⟨hx, hb, -, hml, hown, hts, -, hin, hA, hK, hP, hD, hS, hl, hN⟩ := E
  have hown : s.vm.findClass RX8 = some m.cls := hown
  have hl : lv_has ls 2 [(0, .ref o), (1, .int x)] := hl
  have SF : CallFix p m c cX8_say 2 s args wsX8_say RX8 := ⟨hx, hb, hml, hown, hts⟩
  have hw0 := hts (.fieldLink RX8 77 "LatestSetsModel" "signs" "I") (by decide +kernel)
  have hi8 : ∀ x ∈ wsX80, x ∈ wsX8_say := by decide +kernel
  have hw2 := hts (.fieldLink RX8 35 "LatestSetsModel" "pad" "[I") (by decide +kernel)
  refine lv_iload_n hx hb dX8_say_0 rfl (lv_at hl 1 rfl) ?_
  refine lv_bipush (v := nI 33) hx hb dX8_say_1 (by decide) ?_
  refine lv_bipush (v := nI 126) hx hb dX8_say_3 (by decide) ?_
  refine cal_i (run_S (As := [.int x, .int (nI 33), .int (nI 126)]) (rest := []) SF (c_in8 l D cI cJ cZ cG cM x (nI 33) (nI 126)) (va_cwS 3 hts gX8_say_X8_in rfl rfl rfl (by decide +kernel) ⟨Nat.le_of_ble_eq_true rfl, Nat.le_of_ble_eq_true rfl⟩) hN hK hP hD [] rfl (by decide) rfl hl.1 rfl (Nat.le_of_ble_eq_true rfl) dX8_say_5 ⟨Nat.le_of_ble_eq_true rfl, Nat.le_of_ble_eq_true rfl⟩) ⟨rfl, rfl⟩ hP hD hS hA [] rfl (fun _ => rfl) (fun r5 _ H locs hw hP hD hS => ?_)
  have hP : va_P D vwCl [(o, .inr (8, [.int (nI n), .ref me, .ref ml, .ref mb, .int fi, .int (nI nl), .ref mt, .int si, .ref ms, .int (nI sc), .ref mp, .ref my, .ref mc, .int la, .ref mk, .ref mw, .int ah, .int ri, .int lh, .ref mo, .ref mq, .ref mi, .ref mz])), (mp, .inl (cI, 48, .inl fp))] H := hP
  have hD : va_D A [(o, .inr (8, [.int (nI n), .ref me, .ref ml, .ref mb, .int fi, .int (nI nl), .ref mt, .int si, .ref ms, .int (nI sc), .ref mp, .ref my, .ref mc, .int la, .ref mk, .ref mw, .int ah, .int ri, .int lh, .ref mo, .ref mq, .ref mi, .ref mz])), (mp, .inl (cI, 48, .inl fp))] := hD
  rcases hw with ⟨b5, rfl⟩ | ⟨b5, rfl⟩
  · refine lv_if_ne (tgt := 14) hx hb dX8_say_8 (by decide) (fun _ => ?_) (fun c9 => absurd c9 (by decide))
    refine lv_aload_n hx hb dX8_say_14 rfl (lv_at hl 0 rfl) ?_
    refine va_get (D := D) (ci := 8) (v := .int (nI sc)) (C := RX8) (T := TX8) (N := 23) hx hb hts hi8 hown hK hP 0 rfl rfl 9 (by decide) hw0 (fun _ h9 => h9) rfl dX8_say_15 ?_
    refine lv_bipush (v := nI 48) hx hb dX8_say_18 (by decide) ?_
    refine icmp_ne_n (a := sc) (b := 48) (tgt := 26) hx hb dX8_say_20 (by decide) (by omega) (by omega) (fun c20 => ?_) (fun c20 => ?_)
    · refine lv_aload_n hx hb dX8_say_26 rfl (lv_at hl 0 rfl) ?_
      refine va_get (D := D) (ci := 8) (v := .ref mp) (C := RX8) (T := TX8) (N := 23) hx hb hts hi8 hown hK hP 0 rfl rfl 10 (by decide) hw2 (fun _ h9 => h9) rfl dX8_say_27 ?_
      refine lv_aload_n hx hb dX8_say_30 rfl (lv_at hl 0 rfl) ?_
      refine va_get (D := D) (ci := 8) (v := .int (nI sc)) (C := RX8) (T := TX8) (N := 23) hx hb hts hi8 hown hK hP 0 rfl rfl 9 (by decide) hw0 (fun _ h9 => h9) rfl dX8_say_31 ?_
      refine lv_iload_n hx hb dX8_say_34 rfl (lv_at hl 1 rfl) ?_
      refine iast_n (k := sc) hx hb hK hP hD hS 1 0 rfl rfl (by omega) (by omega) dX8_say_35 (fun H locs hP hD hS => ?_)
      have hP : va_P D vwCl [(o, .inr (8, [.int (nI n), .ref me, .ref ml, .ref mb, .int fi, .int (nI nl), .ref mt, .int si, .ref ms, .int (nI sc), .ref mp, .ref my, .ref mc, .int la, .ref mk, .ref mw, .int ah, .int ri, .int lh, .ref mo, .ref mq, .ref mi, .ref mz])), (mp, .inl (cI, 48, .inl (upd fp sc x)))] H := hP
      have hD : va_D A [(o, .inr (8, [.int (nI n), .ref me, .ref ml, .ref mb, .int fi, .int (nI nl), .ref mt, .int si, .ref ms, .int (nI sc), .ref mp, .ref my, .ref mc, .int la, .ref mk, .ref mw, .int ah, .int ri, .int lh, .ref mo, .ref mq, .ref mi, .ref mz])), (mp, .inl (cI, 48, .inl (upd fp sc x)))] := hD
      refine lv_aload_n hx hb dX8_say_36 rfl (lv_at hl 0 rfl) ?_
      refine lv_dup hx hb dX8_say_37 rfl ?_
      refine va_get (D := D) (ci := 8) (v := .int (nI sc)) (C := RX8) (T := TX8) (N := 23) hx hb hts hi8 hown hK hP 0 rfl rfl 9 (by decide) hw0 (fun _ h9 => h9) rfl dX8_say_38 ?_
      refine lv_iconst (v := nI 1) hx hb dX8_say_41 (by decide) ?_
      refine iadd_n (a := sc) (b := 1) hx hb dX8_say_42 ?_
      refine va_put (D := D) (ci := 8) (v := .int (nI (sc + 1))) (ty := .int) (C := RX8) (T := TX8) (N := 23) hx hb hts hi8 tyX8 tyX8_ok nmX8 hown hK hP hD hS 0 rfl rfl 9 (by decide) hw0 (fun _ h9 => h9) rfl (by decide +kernel) rfl rfl (Nat.le_of_ble_eq_true rfl) dX8_say_43 (fun H locs hP hD hS => ?_)
      have hP : va_P D vwCl [(o, .inr (8, [.int (nI n), .ref me, .ref ml, .ref mb, .int fi, .int (nI nl), .ref mt, .int si, .ref ms, .int (nI (sc + 1)), .ref mp, .ref my, .ref mc, .int la, .ref mk, .ref mw, .int ah, .int ri, .int lh, .ref mo, .ref mq, .ref mi, .ref mz])), (mp, .inl (cI, 48, .inl (upd fp sc x)))] H := hP
      have hD : va_D A [(o, .inr (8, [.int (nI n), .ref me, .ref ml, .ref mb, .int fi, .int (nI nl), .ref mt, .int si, .ref ms, .int (nI (sc + 1)), .ref mp, .ref my, .ref mc, .int la, .ref mk, .ref mw, .int ah, .int ri, .int lh, .ref mo, .ref mq, .ref mi, .ref mz])), (mp, .inl (cI, 48, .inl (upd fp sc x)))] := hD
      refine lv_aload_n hx hb dX8_say_46 rfl (lv_at hl 0 rfl) ?_
      refine va_get (D := D) (ci := 8) (v := .int (nI (sc + 1))) (C := RX8) (T := TX8) (N := 23) hx hb hts hi8 hown hK hP 0 rfl rfl 9 (by decide) hw0 (fun _ h9 => h9) rfl dX8_say_47 ?_
      exact hret (nI (sc + 1)) ((sc + 1, upd fp sc x)) _ _ _ _ dX8_say_50 ⟨by rw [if_pos b5, if_pos (show sc < 48 by omega)], by rw [if_pos ⟨b5, (show sc < 48 by omega)⟩]⟩ hP hD hS
    · refine lv_bipush (v := (-4)) hx hb dX8_say_23 (by decide) ?_
      exact hret ((-4)) ((sc, fp)) _ _ _ _ dX8_say_25 ⟨by rw [if_pos b5, if_neg (by omega)], by rw [if_neg (fun z => by omega)]⟩ hP hD hS
  · refine lv_if_ne (tgt := 14) hx hb dX8_say_8 (by decide) (fun c9 => absurd c9 (by decide)) (fun _ => ?_)
    refine lv_bipush (v := (-2)) hx hb dX8_say_11 (by decide) ?_
    exact hret ((-2)) ((sc, fp)) _ _ _ _ dX8_say_13 ⟨by rw [if_neg b5], by rw [if_neg (fun z => b5 z.1)]⟩ hP hD hS

abbrev rm_X8_wipe : Room := { frames := 0, cells := 0, slots := 0, locals := 0 }
set_option maxHeartbeats 4000000 in
set_option maxRecDepth 100000 in
theorem m_wipe (l : Launch) (D : va_G) (cI cJ cZ cG cM : ClassId) (o me ml mb mt ms mp my mc mk mw mo mq mi mz : Nat) (fi si sn la ah ri lh : Int32) (n nl : Nat) (sc : Nat) :
    CI l yX8_wipe wsX8_wipe rm_X8_wipe D [(cI, .int), (cJ, .long), (cZ, .boolean), (cG, .object "LatestSets$Guild"), (cM, .array .int)] [(o, .inr (8, [.int (nI n), .ref me, .ref ml, .ref mb, .int fi, .int (nI nl), .ref mt, .int si, .ref ms, .int (nI sc), .ref mp, .ref my, .ref mc, .int la, .ref mk, .ref mw, .int ah, .int ri, .int lh, .ref mo, .ref mq, .ref mi, .ref mz]))] [.ref o] (S := Unit) (fun r u => r = nI sc) (fun u => [(o, .inr (8, [.int (nI n), .ref me, .ref ml, .ref mb, .int fi, .int (nI nl), .ref mt, .int si, .ref ms, .int (nI 0), .ref mp, .ref my, .ref mc, .int la, .ref mk, .ref mw, .int ah, .int ri, .int lh, .ref mo, .ref mq, .ref mi, .ref mz]))]) := by
  refine si_of (cc := cX8_wipe) (maxL := 2) (by decide) rfl (Nat.le_of_ble_eq_true rfl) ?_
  intro p e s m args below meth c A ls Q E hret
  obtain ⟨hx, hb, -, hml, hown, hts, -, hin, hA, hK, hP, hD, hS, hl, hN⟩ := E
  have hown : s.vm.findClass RX8 = some m.cls := hown
  have hl : lv_has ls 2 [(0, .ref o)] := hl
  have SF : CallFix p m c cX8_wipe 2 s args wsX8_wipe RX8 := ⟨hx, hb, hml, hown, hts⟩
  have hw0 := hts (.fieldLink RX8 77 "LatestSetsModel" "signs" "I") (by decide +kernel)
  have hi8 : ∀ x ∈ wsX80, x ∈ wsX8_wipe := by decide +kernel
  refine lv_aload_n hx hb dX8_wipe_0 rfl (lv_at hl 0 rfl) ?_
  refine va_get (D := D) (ci := 8) (v := .int (nI sc)) (C := RX8) (T := TX8) (N := 23) hx hb hts hi8 hown hK hP 0 rfl rfl 9 (by decide) hw0 (fun _ h9 => h9) rfl dX8_wipe_1 ?_
  refine lv_istore_n (lv' := [(1, .int (nI sc)), (0, .ref o)]) hx hb dX8_wipe_4 rfl hl (by decide) rfl (fun ls hl => ?_)
  refine lv_aload_n hx hb dX8_wipe_5 rfl (lv_at hl 1 rfl) ?_
  refine lv_iconst (v := nI 0) hx hb dX8_wipe_6 (by decide) ?_
  refine va_put (D := D) (ci := 8) (v := .int (nI 0)) (ty := .int) (C := RX8) (T := TX8) (N := 23) hx hb hts hi8 tyX8 tyX8_ok nmX8 hown hK hP hD hS 0 rfl rfl 9 (by decide) hw0 (fun _ h9 => h9) rfl (by decide +kernel) rfl rfl (Nat.le_of_ble_eq_true rfl) dX8_wipe_7 (fun H locs hP hD hS => ?_)
  have hP : va_P D vwCl [(o, .inr (8, [.int (nI n), .ref me, .ref ml, .ref mb, .int fi, .int (nI nl), .ref mt, .int si, .ref ms, .int (nI 0), .ref mp, .ref my, .ref mc, .int la, .ref mk, .ref mw, .int ah, .int ri, .int lh, .ref mo, .ref mq, .ref mi, .ref mz]))] H := hP
  have hD : va_D A [(o, .inr (8, [.int (nI n), .ref me, .ref ml, .ref mb, .int fi, .int (nI nl), .ref mt, .int si, .ref ms, .int (nI 0), .ref mp, .ref my, .ref mc, .int la, .ref mk, .ref mw, .int ah, .int ri, .int lh, .ref mo, .ref mq, .ref mi, .ref mz]))] := hD
  refine lv_iload_n hx hb dX8_wipe_10 rfl (lv_at hl 0 rfl) ?_
  exact hret (nI sc) (()) _ _ _ _ dX8_wipe_11 rfl hP hD hS

abbrev rm_X8_faultOf : Room := { frames := 1, cells := 0, slots := 0, locals := 22 }
set_option maxHeartbeats 4000000 in
set_option maxRecDepth 100000 in
theorem c_faultOf (l : Launch) (D : va_G) (cI cJ cZ cG cM : ClassId) (o me ml mb mt ms mp my mc mk mw mo mq mi mz : Nat) (fi si sn la ah ri lh : Int32) (n nl : Nat) (sc : Nat) (fp : Nat → Int32) (hsc : sc ≤ 48) :
    CI l yX8_faultOf wsX8_faultOf rm_X8_faultOf D [(cI, .int), (cJ, .long), (cZ, .boolean), (cG, .object "LatestSets$Guild"), (cM, .array .int)] [(o, .inr (8, [.int (nI n), .ref me, .ref ml, .ref mb, .int fi, .int (nI nl), .ref mt, .int si, .ref ms, .int (nI sc), .ref mp, .ref my, .ref mc, .int la, .ref mk, .ref mw, .int ah, .int ri, .int lh, .ref mo, .ref mq, .ref mi, .ref mz])), (mp, .inl (cI, 48, .inl fp))] [.ref o] (S := Unit) (fun r u => FT fp sc r) (fun u => [(o, .inr (8, [.int (nI n), .ref me, .ref ml, .ref mb, .int fi, .int (nI nl), .ref mt, .int si, .ref ms, .int (nI sc), .ref mp, .ref my, .ref mc, .int la, .ref mk, .ref mw, .int ah, .int ri, .int lh, .ref mo, .ref mq, .ref mi, .ref mz])), (mp, .inl (cI, 48, .inl fp))]) := by
  refine si_of (cc := cX8_faultOf) (maxL := 6) (by decide) rfl (Nat.le_of_ble_eq_true rfl) ?_
  intro p e s m args below meth c A ls Q E hret
  obtain ⟨hx, hb, -, hml, hown, hts, -, hin, hA, hK, hP, hD, hS, hl, hN⟩ := E
  have hown : s.vm.findClass RX8 = some m.cls := hown
  have hl : lv_has ls 6 [(0, .ref o)] := hl
  have SF : CallFix p m c cX8_faultOf 6 s args wsX8_faultOf RX8 := ⟨hx, hb, hml, hown, hts⟩
  have hw0 := hts (.fieldLink RX8 77 "LatestSetsModel" "signs" "I") (by decide +kernel)
  have hi8 : ∀ x ∈ wsX80, x ∈ wsX8_faultOf := by decide +kernel
  have hw2 := hts (.fieldLink RX8 35 "LatestSetsModel" "pad" "[I") (by decide +kernel)
  refine lv_iconst (v := nI 1) hx hb dX8_faultOf_0 (by decide) ?_
  refine lv_istore_n (lv' := [(1, .int (nI 1)), (0, .ref o)]) hx hb dX8_faultOf_1 rfl hl (by decide) rfl (fun ls hl => ?_)
  refine lv_iconst (v := nI 0) hx hb dX8_faultOf_2 (by decide) ?_
  refine lv_istore_n (lv' := [(2, .int (nI 0)), (1, .int (nI 1)), (0, .ref o)]) hx hb dX8_faultOf_3 rfl hl (by decide) rfl (fun ls hl => ?_)
  refine lv_iconst (v := nI 0) hx hb dX8_faultOf_4 (by decide) ?_
  refine lv_istore_n (lv' := [(3, .int (nI 0)), (2, .int (nI 0)), (1, .int (nI 1)), (0, .ref o)]) hx hb dX8_faultOf_5 rfl hl (by decide) rfl (fun ls hl => ?_)
  have L6 : ∀ (n9 : Nat) (k : Nat) (hk : k ≤ sc) (hg : ∀ i, i < k → gd fp i), sc - k < n9 → ∀ (H : Heap) (locs : List Loc), va_P D vwCl [(o, .inr (8, [.int (nI n), .ref me, .ref ml, .ref mb, .int fi, .int (nI nl), .ref mt, .int si, .ref ms, .int (nI sc), .ref mp, .ref my, .ref mc, .int la, .ref mk, .ref mw, .int ah, .int ri, .int lh, .ref mo, .ref mq, .ref mi, .ref mz])), (mp, .inl (cI, 48, .inl fp))] H → va_D A [(o, .inr (8, [.int (nI n), .ref me, .ref ml, .ref mb, .int fi, .int (nI nl), .ref mt, .int si, .ref ms, .int (nI sc), .ref mp, .ref my, .ref mc, .int la, .ref mk, .ref mw, .int ah, .int ri, .int lh, .ref mo, .ref mq, .ref mi, .ref mz])), (mp, .inl (cI, 48, .inl fp))] → va_S A s.heap H locs → ∀ (ls : Array Slot), lv_has ls 6 [(0, .ref o), (1, .int (nI ((ps fp k).1))), (2, .int (nI ((ps fp k).2.toNat))), (3, .int (nI k))] → W p l e rm_X8_faultOf s m args below meth c H locs 0 0 Q (F0 m 6 ls []) := by
    intro n9
    induction n9 with
    | zero => intro k hk hg hm; exact absurd hm (Nat.not_lt_zero _)
    | succ n9 ih6 =>
      intro k hk hg hm6 H locs hP hD hS ls hl
      refine lv_iload_n hx hb dX8_faultOf_6 rfl (lv_at hl 3 rfl) ?_
      refine lv_aload_n hx hb dX8_faultOf_7 rfl (lv_at hl 0 rfl) ?_
      refine va_get (D := D) (ci := 8) (v := .int (nI sc)) (C := RX8) (T := TX8) (N := 23) hx hb hts hi8 hown hK hP 0 rfl rfl 9 (by decide) hw0 (fun _ h9 => h9) rfl dX8_faultOf_8 ?_
      refine icmp_ge_n (a := k) (b := sc) (tgt := 153) hx hb dX8_faultOf_11 (by decide) (by omega) (by omega) (fun c11 => ?_) (fun c11 => ?_)
      · have hps := ps_le fp k
        have hb9 : (ps fp k).2.toNat ≤ 1 := Bool.toNat_le _
        refine lv_iload_n hx hb dX8_faultOf_153 rfl (lv_at hl 1 rfl) ?_
        refine if_ne_n (a := (ps fp k).1) (tgt := 166) hx hb dX8_faultOf_154 (by decide) (by omega) (fun c154 => ?_) (fun c154 => ?_)
        · refine lv_aload_n hx hb dX8_faultOf_166 rfl (lv_at hl 0 rfl) ?_
          refine va_get (D := D) (ci := 8) (v := .int (nI sc)) (C := RX8) (T := TX8) (N := 23) hx hb hts hi8 hown hK hP 0 rfl rfl 9 (by decide) hw0 (fun _ h9 => h9) rfl dX8_faultOf_167 ?_
          have e9 : k = sc := by omega
          exact hret (nI sc) (()) _ _ _ _ dX8_faultOf_170 (Or.inr (Or.inl ⟨by rw [← e9]; exact hg, by rw [← e9]; exact c154, rfl⟩)) hP hD hS
        · refine lv_iload_n hx hb dX8_faultOf_157 rfl (lv_at hl 2 rfl) ?_
          refine if_ne_n (a := (ps fp k).2.toNat) (tgt := 166) hx hb dX8_faultOf_158 (by decide) (by omega) (fun c158 => ?_) (fun c158 => ?_)
          · refine lv_aload_n hx hb dX8_faultOf_166 rfl (lv_at hl 0 rfl) ?_
            refine va_get (D := D) (ci := 8) (v := .int (nI sc)) (C := RX8) (T := TX8) (N := 23) hx hb hts hi8 hown hK hP 0 rfl rfl 9 (by decide) hw0 (fun _ h9 => h9) rfl dX8_faultOf_167 ?_
            have e9 : k = sc := by omega
            have hdg : (ps fp k).2 = true := by cases e8 : (ps fp k).2 with | false => (rw [e8] at c158; exact absurd c158 (by decide)) | true => rfl
            exact absurd (gd_due hg hdg) (by omega)
          · refine lv_bipush (v := (-6)) hx hb dX8_faultOf_161 (by decide) ?_
            refine lv_goto (tgt := 170) hx hb dX8_faultOf_163 (by decide) ?_
            have e9 : k = sc := by omega
            exact hret ((-6)) (()) _ _ _ _ dX8_faultOf_170 (Or.inr (Or.inr ⟨by rw [← e9]; exact hg, by rw [← e9]; exact c154, rfl⟩)) hP hD hS
      · refine lv_aload_n hx hb dX8_faultOf_14 rfl (lv_at hl 0 rfl) ?_
        refine va_get (D := D) (ci := 8) (v := .ref mp) (C := RX8) (T := TX8) (N := 23) hx hb hts hi8 hown hK hP 0 rfl rfl 10 (by decide) hw2 (fun _ h9 => h9) rfl dX8_faultOf_15 ?_
        refine lv_iload_n hx hb dX8_faultOf_18 rfl (lv_at hl 3 rfl) ?_
        refine iald_n (k := k) hx hb hK hP 1 0 rfl rfl (by omega) (by omega) dX8_faultOf_19 ?_
        refine lv_istore (lv' := [(4, .int (fp k)), (0, .ref o), (1, .int (nI ((ps fp k).1))), (2, .int (nI ((ps fp k).2.toNat))), (3, .int (nI k))]) hx hb dX8_faultOf_20 hl (by decide) rfl (fun ls hl => ?_)
        have hps := ps_le fp k
        have hb9 : (ps fp k).2.toNat ≤ 1 := Bool.toNat_le _
        have hdue : (ps fp k).2 = true → 1 ≤ (ps fp k).1 := fun z => gd_due hg z
        have hk20 : k ≤ 20 := by rcases Nat.eq_zero_or_pos k with z | z; (rw [z]; omega); (have := (hg (k - 1) (by omega)).1; omega)
        have J78 : ∀ (v9 : Int32) (hf9 : (v9 = nI 1 ∧ gp fp k) ∨ (v9 = nI 0 ∧ ¬ gp fp k)), ∀ (H : Heap) (locs : List Loc), va_P D vwCl [(o, .inr (8, [.int (nI n), .ref me, .ref ml, .ref mb, .int fi, .int (nI nl), .ref mt, .int si, .ref ms, .int (nI sc), .ref mp, .ref my, .ref mc, .int la, .ref mk, .ref mw, .int ah, .int ri, .int lh, .ref mo, .ref mq, .ref mi, .ref mz])), (mp, .inl (cI, 48, .inl fp))] H → va_D A [(o, .inr (8, [.int (nI n), .ref me, .ref ml, .ref mb, .int fi, .int (nI nl), .ref mt, .int si, .ref ms, .int (nI sc), .ref mp, .ref my, .ref mc, .int la, .ref mk, .ref mw, .int ah, .int ri, .int lh, .ref mo, .ref mq, .ref mi, .ref mz])), (mp, .inl (cI, 48, .inl fp))] → va_S A s.heap H locs → ∀ (ls : Array Slot), lv_has ls 6 [(4, .int (fp k)), (0, .ref o), (1, .int (nI ((ps fp k).1))), (2, .int (nI ((ps fp k).2.toNat))), (3, .int (nI k))] → W p l e rm_X8_faultOf s m args below meth c H locs 0 0 Q (F0 m 78 ls [.int v9]) := by
          intro v9 hf9 H locs hP hD hS ls hl
          rcases hf9 with ⟨rfl, hgp⟩ | ⟨rfl, hgp⟩
          · refine lv_istore (lv' := [(5, .int (nI 1)), (4, .int (fp k)), (0, .ref o), (1, .int (nI ((ps fp k).1))), (2, .int (nI ((ps fp k).2.toNat))), (3, .int (nI k))]) hx hb dX8_faultOf_78 hl (by decide) rfl (fun ls hl => ?_)
            refine lv_iload hx hb dX8_faultOf_80 (lv_at hl 0 rfl) ?_
            refine lv_if_eq (tgt := 91) hx hb dX8_faultOf_82 (by decide) (fun c9 => absurd c9 (by decide)) (fun _ => ?_)
            refine lv_iload_n hx hb dX8_faultOf_85 rfl (lv_at hl 5 rfl) ?_
            refine lv_bipush (v := nI 20) hx hb dX8_faultOf_86 (by decide) ?_
            refine icmp_ne_n (a := k) (b := 20) (tgt := 93) hx hb dX8_faultOf_88 (by decide) (by omega) (by omega) (fun c88 => ?_) (fun c88 => ?_)
            · refine lv_iload_n hx hb dX8_faultOf_93 rfl (lv_at hl 3 rfl) ?_
              refine lv_iload_n hx hb dX8_faultOf_94 rfl (lv_at hl 4 rfl) ?_
              refine if_eq_n (a := (ps fp k).2.toNat) (tgt := 102) hx hb dX8_faultOf_95 (by decide) (by omega) (fun c95 => ?_) (fun c95 => ?_)
              · refine lv_iload hx hb dX8_faultOf_102 (lv_at hl 1 rfl) ?_
                refine cal_i (run_S (As := [.int (fp k)]) (rest := [.int (nI ((ps fp k).1))]) SF (c_isLeaf l D cI cJ cZ cG cM (fp k)) (va_cwS 1 hts gX8_faultOf_X8_isLeaf rfl rfl rfl (by decide +kernel) ⟨Nat.le_of_ble_eq_true rfl, Nat.le_of_ble_eq_true rfl⟩) hN hK hP hD [] rfl (by decide) rfl hl.1 rfl (Nat.le_of_ble_eq_true rfl) dX8_faultOf_104 ⟨Nat.le_of_ble_eq_true rfl, Nat.le_of_ble_eq_true rfl⟩) ⟨rfl, rfl⟩ hP hD hS hA [] rfl (fun _ => rfl) (fun r104 _ H locs hw hP hD hS => ?_)
                have hP : va_P D vwCl [(o, .inr (8, [.int (nI n), .ref me, .ref ml, .ref mb, .int fi, .int (nI nl), .ref mt, .int si, .ref ms, .int (nI sc), .ref mp, .ref my, .ref mc, .int la, .ref mk, .ref mw, .int ah, .int ri, .int lh, .ref mo, .ref mq, .ref mi, .ref mz])), (mp, .inl (cI, 48, .inl fp))] H := hP
                have hD : va_D A [(o, .inr (8, [.int (nI n), .ref me, .ref ml, .ref mb, .int fi, .int (nI nl), .ref mt, .int si, .ref ms, .int (nI sc), .ref mp, .ref my, .ref mc, .int la, .ref mk, .ref mw, .int ah, .int ri, .int lh, .ref mo, .ref mq, .ref mi, .ref mz])), (mp, .inl (cI, 48, .inl fp))] := hD
                rcases hw with ⟨b104, rfl⟩ | ⟨b104, rfl⟩
                · refine lv_if_eq (tgt := 114) hx hb dX8_faultOf_107 (by decide) (fun c9 => absurd c9 (by decide)) (fun _ => ?_)
                  refine lv_iconst (v := (-1)) hx hb dX8_faultOf_110 (by decide) ?_
                  refine lv_goto (tgt := 127) hx hb dX8_faultOf_111 (by decide) ?_
                  refine lv_iadd hx hb dX8_faultOf_127 ?_
                  refine lv_topi (fun y9 e9 => ?_)
                  have e9 : nI ((ps fp k).1 - 1) = y9 := (e9.trans (i_m1 hgp.1)).symm
                  subst e9
                  refine lv_istore_n (lv' := [(1, .int (nI ((ps fp k).1 - 1))), (5, .int (nI 1)), (4, .int (fp k)), (0, .ref o), (2, .int (nI ((ps fp k).2.toNat))), (3, .int (nI k))]) hx hb dX8_faultOf_128 rfl hl (by decide) rfl (fun ls hl => ?_)
                  refine lv_iload_n hx hb dX8_faultOf_129 rfl (lv_at hl 4 rfl) ?_
                  refine if_ne_n (a := (ps fp k).2.toNat) (tgt := 145) hx hb dX8_faultOf_130 (by decide) (by omega) (fun c130 => ?_) (fun c130 => ?_)
                  · exact absurd c130 (by omega)
                  · refine lv_iload hx hb dX8_faultOf_133 (lv_at hl 2 rfl) ?_
                    refine cal_i (run_S (As := [.int (fp k)]) (rest := []) SF (c_isShift l D cI cJ cZ cG cM (fp k)) (va_cwS 1 hts gX8_faultOf_X8_isShift rfl rfl rfl (by decide +kernel) ⟨Nat.le_of_ble_eq_true rfl, Nat.le_of_ble_eq_true rfl⟩) hN hK hP hD [] rfl (by decide) rfl hl.1 rfl (Nat.le_of_ble_eq_true rfl) dX8_faultOf_135 ⟨Nat.le_of_ble_eq_true rfl, Nat.le_of_ble_eq_true rfl⟩) ⟨rfl, rfl⟩ hP hD hS hA [] rfl (fun _ => rfl) (fun r135 _ H locs hw hP hD hS => ?_)
                    have hP : va_P D vwCl [(o, .inr (8, [.int (nI n), .ref me, .ref ml, .ref mb, .int fi, .int (nI nl), .ref mt, .int si, .ref ms, .int (nI sc), .ref mp, .ref my, .ref mc, .int la, .ref mk, .ref mw, .int ah, .int ri, .int lh, .ref mo, .ref mq, .ref mi, .ref mz])), (mp, .inl (cI, 48, .inl fp))] H := hP
                    have hD : va_D A [(o, .inr (8, [.int (nI n), .ref me, .ref ml, .ref mb, .int fi, .int (nI nl), .ref mt, .int si, .ref ms, .int (nI sc), .ref mp, .ref my, .ref mc, .int la, .ref mk, .ref mw, .int ah, .int ri, .int lh, .ref mo, .ref mq, .ref mi, .ref mz])), (mp, .inl (cI, 48, .inl fp))] := hD
                    rcases hw with ⟨b135, rfl⟩ | ⟨b135, rfl⟩
                    · refine lv_if_eq (tgt := 145) hx hb dX8_faultOf_138 (by decide) (fun c9 => absurd c9 (by decide)) (fun _ => ?_)
                      refine lv_iconst (v := nI 1) hx hb dX8_faultOf_141 (by decide) ?_
                      refine lv_goto (tgt := 146) hx hb dX8_faultOf_142 (by decide) ?_
                      refine lv_istore_n (lv' := [(2, .int (nI 1)), (1, .int (nI ((ps fp k).1 - 1))), (5, .int (nI 1)), (4, .int (fp k)), (0, .ref o), (3, .int (nI k))]) hx hb dX8_faultOf_146 rfl hl (by decide) rfl (fun ls hl => ?_)
                      refine lv_iinc (v := nI (k + 1)) (lv' := [(3, .int (nI (k + 1))), (2, .int (nI 1)), (1, .int (nI ((ps fp k).1 - 1))), (5, .int (nI 1)), (4, .int (fp k)), (0, .ref o)]) hx hb dX8_faultOf_147 hl (k := 5) rfl (nI_1 k) (by decide) rfl (fun ls hl => ?_)
                      refine lv_goto (tgt := 6) hx hb dX8_faultOf_150 (by decide) ?_
                      have hdg : (ps fp k).2 = false := by cases e9 : (ps fp k).2 with | false => rfl | true => (rw [e9] at c95; exact absurd c95 (by decide))
                      have e7 : ps fp (k + 1) = ((ps fp k).1 + pN (fp k) - 1, decide (isSh (fp k))) := ps_f hdg
                      have e5 : pN (fp k) = 0 := pN_lf b104
                      have e6 : decide (isSh (fp k)) = true := decide_eq_true b135
                      have e8 : nI ((ps fp k).1 - 1) = nI ((ps fp (k + 1)).1) := by rw [e7, e5]; congr 1
                      have hl : lv_has ls 6 [(3, .int (nI (k + 1))), (2, .int (nI 1)), (1, .int (nI ((ps fp (k + 1)).1))), (5, .int (nI 1)), (4, .int (fp k)), (0, .ref o)] := by rw [← e8]; exact hl
                      have e8 : nI 1 = nI ((ps fp (k + 1)).2.toNat) := by rw [e7, e6]; rfl
                      have hl : lv_has ls 6 [(3, .int (nI (k + 1))), (2, .int (nI ((ps fp (k + 1)).2.toNat))), (1, .int (nI ((ps fp (k + 1)).1))), (5, .int (nI 1)), (4, .int (fp k)), (0, .ref o)] := by rw [← e8]; exact hl
                      exact ih6 (k + 1) ((by omega)) ((lt_s hg ⟨by omega, hgp⟩)) (by omega) _ _ hP hD hS _ (lv_sub hl [5, 2, 1, 0] rfl)
                    · refine lv_if_eq (tgt := 145) hx hb dX8_faultOf_138 (by decide) (fun _ => ?_) (fun c9 => absurd (by decide) c9)
                      refine lv_iconst (v := nI 0) hx hb dX8_faultOf_145 (by decide) ?_
                      refine lv_istore_n (lv' := [(2, .int (nI 0)), (1, .int (nI ((ps fp k).1 - 1))), (5, .int (nI 1)), (4, .int (fp k)), (0, .ref o), (3, .int (nI k))]) hx hb dX8_faultOf_146 rfl hl (by decide) rfl (fun ls hl => ?_)
                      refine lv_iinc (v := nI (k + 1)) (lv' := [(3, .int (nI (k + 1))), (2, .int (nI 0)), (1, .int (nI ((ps fp k).1 - 1))), (5, .int (nI 1)), (4, .int (fp k)), (0, .ref o)]) hx hb dX8_faultOf_147 hl (k := 5) rfl (nI_1 k) (by decide) rfl (fun ls hl => ?_)
                      refine lv_goto (tgt := 6) hx hb dX8_faultOf_150 (by decide) ?_
                      have hdg : (ps fp k).2 = false := by cases e9 : (ps fp k).2 with | false => rfl | true => (rw [e9] at c95; exact absurd c95 (by decide))
                      have e7 : ps fp (k + 1) = ((ps fp k).1 + pN (fp k) - 1, decide (isSh (fp k))) := ps_f hdg
                      have e5 : pN (fp k) = 0 := pN_lf b104
                      have e6 : decide (isSh (fp k)) = false := decide_eq_false b135
                      have e8 : nI ((ps fp k).1 - 1) = nI ((ps fp (k + 1)).1) := by rw [e7, e5]; congr 1
                      have hl : lv_has ls 6 [(3, .int (nI (k + 1))), (2, .int (nI 0)), (1, .int (nI ((ps fp (k + 1)).1))), (5, .int (nI 1)), (4, .int (fp k)), (0, .ref o)] := by rw [← e8]; exact hl
                      have e8 : nI 0 = nI ((ps fp (k + 1)).2.toNat) := by rw [e7, e6]; rfl
                      have hl : lv_has ls 6 [(3, .int (nI (k + 1))), (2, .int (nI ((ps fp (k + 1)).2.toNat))), (1, .int (nI ((ps fp (k + 1)).1))), (5, .int (nI 1)), (4, .int (fp k)), (0, .ref o)] := by rw [← e8]; exact hl
                      exact ih6 (k + 1) ((by omega)) ((lt_s hg ⟨by omega, hgp⟩)) (by omega) _ _ hP hD hS _ (lv_sub hl [5, 2, 1, 0] rfl)
                · refine lv_if_eq (tgt := 114) hx hb dX8_faultOf_107 (by decide) (fun _ => ?_) (fun c9 => absurd (by decide) c9)
                  refine lv_iload hx hb dX8_faultOf_114 (lv_at hl 1 rfl) ?_
                  refine cal_i (run_S (As := [.int (fp k)]) (rest := [.int (nI ((ps fp k).1))]) SF (c_isPair l D cI cJ cZ cG cM (fp k)) (va_cwS 1 hts gX8_faultOf_X8_isPair rfl rfl rfl (by decide +kernel) ⟨Nat.le_of_ble_eq_true rfl, Nat.le_of_ble_eq_true rfl⟩) hN hK hP hD [] rfl (by decide) rfl hl.1 rfl (Nat.le_of_ble_eq_true rfl) dX8_faultOf_116 ⟨Nat.le_of_ble_eq_true rfl, Nat.le_of_ble_eq_true rfl⟩) ⟨rfl, rfl⟩ hP hD hS hA [] rfl (fun _ => rfl) (fun r116 _ H locs hw hP hD hS => ?_)
                  have hP : va_P D vwCl [(o, .inr (8, [.int (nI n), .ref me, .ref ml, .ref mb, .int fi, .int (nI nl), .ref mt, .int si, .ref ms, .int (nI sc), .ref mp, .ref my, .ref mc, .int la, .ref mk, .ref mw, .int ah, .int ri, .int lh, .ref mo, .ref mq, .ref mi, .ref mz])), (mp, .inl (cI, 48, .inl fp))] H := hP
                  have hD : va_D A [(o, .inr (8, [.int (nI n), .ref me, .ref ml, .ref mb, .int fi, .int (nI nl), .ref mt, .int si, .ref ms, .int (nI sc), .ref mp, .ref my, .ref mc, .int la, .ref mk, .ref mw, .int ah, .int ri, .int lh, .ref mo, .ref mq, .ref mi, .ref mz])), (mp, .inl (cI, 48, .inl fp))] := hD
                  rcases hw with ⟨b116, rfl⟩ | ⟨b116, rfl⟩
                  · refine lv_if_eq (tgt := 126) hx hb dX8_faultOf_119 (by decide) (fun c9 => absurd c9 (by decide)) (fun _ => ?_)
                    refine lv_iconst (v := nI 1) hx hb dX8_faultOf_122 (by decide) ?_
                    refine lv_goto (tgt := 127) hx hb dX8_faultOf_123 (by decide) ?_
                    refine iadd_n (a := (ps fp k).1) (b := 1) hx hb dX8_faultOf_127 ?_
                    refine lv_istore_n (lv' := [(1, .int (nI (((ps fp k).1) + 1))), (5, .int (nI 1)), (4, .int (fp k)), (0, .ref o), (2, .int (nI ((ps fp k).2.toNat))), (3, .int (nI k))]) hx hb dX8_faultOf_128 rfl hl (by decide) rfl (fun ls hl => ?_)
                    refine lv_iload_n hx hb dX8_faultOf_129 rfl (lv_at hl 4 rfl) ?_
                    refine if_ne_n (a := (ps fp k).2.toNat) (tgt := 145) hx hb dX8_faultOf_130 (by decide) (by omega) (fun c130 => ?_) (fun c130 => ?_)
                    · exact absurd c130 (by omega)
                    · refine lv_iload hx hb dX8_faultOf_133 (lv_at hl 2 rfl) ?_
                      refine cal_i (run_S (As := [.int (fp k)]) (rest := []) SF (c_isShift l D cI cJ cZ cG cM (fp k)) (va_cwS 1 hts gX8_faultOf_X8_isShift rfl rfl rfl (by decide +kernel) ⟨Nat.le_of_ble_eq_true rfl, Nat.le_of_ble_eq_true rfl⟩) hN hK hP hD [] rfl (by decide) rfl hl.1 rfl (Nat.le_of_ble_eq_true rfl) dX8_faultOf_135 ⟨Nat.le_of_ble_eq_true rfl, Nat.le_of_ble_eq_true rfl⟩) ⟨rfl, rfl⟩ hP hD hS hA [] rfl (fun _ => rfl) (fun r135 _ H locs hw hP hD hS => ?_)
                      have hP : va_P D vwCl [(o, .inr (8, [.int (nI n), .ref me, .ref ml, .ref mb, .int fi, .int (nI nl), .ref mt, .int si, .ref ms, .int (nI sc), .ref mp, .ref my, .ref mc, .int la, .ref mk, .ref mw, .int ah, .int ri, .int lh, .ref mo, .ref mq, .ref mi, .ref mz])), (mp, .inl (cI, 48, .inl fp))] H := hP
                      have hD : va_D A [(o, .inr (8, [.int (nI n), .ref me, .ref ml, .ref mb, .int fi, .int (nI nl), .ref mt, .int si, .ref ms, .int (nI sc), .ref mp, .ref my, .ref mc, .int la, .ref mk, .ref mw, .int ah, .int ri, .int lh, .ref mo, .ref mq, .ref mi, .ref mz])), (mp, .inl (cI, 48, .inl fp))] := hD
                      rcases hw with ⟨b135, rfl⟩ | ⟨b135, rfl⟩
                      · refine lv_if_eq (tgt := 145) hx hb dX8_faultOf_138 (by decide) (fun c9 => absurd c9 (by decide)) (fun _ => ?_)
                        refine lv_iconst (v := nI 1) hx hb dX8_faultOf_141 (by decide) ?_
                        refine lv_goto (tgt := 146) hx hb dX8_faultOf_142 (by decide) ?_
                        refine lv_istore_n (lv' := [(2, .int (nI 1)), (1, .int (nI (((ps fp k).1) + 1))), (5, .int (nI 1)), (4, .int (fp k)), (0, .ref o), (3, .int (nI k))]) hx hb dX8_faultOf_146 rfl hl (by decide) rfl (fun ls hl => ?_)
                        refine lv_iinc (v := nI (k + 1)) (lv' := [(3, .int (nI (k + 1))), (2, .int (nI 1)), (1, .int (nI (((ps fp k).1) + 1))), (5, .int (nI 1)), (4, .int (fp k)), (0, .ref o)]) hx hb dX8_faultOf_147 hl (k := 5) rfl (nI_1 k) (by decide) rfl (fun ls hl => ?_)
                        refine lv_goto (tgt := 6) hx hb dX8_faultOf_150 (by decide) ?_
                        have hdg : (ps fp k).2 = false := by cases e9 : (ps fp k).2 with | false => rfl | true => (rw [e9] at c95; exact absurd c95 (by decide))
                        have e7 : ps fp (k + 1) = ((ps fp k).1 + pN (fp k) - 1, decide (isSh (fp k))) := ps_f hdg
                        have e5 : pN (fp k) = 2 := if_pos b116
                        have e6 : decide (isSh (fp k)) = true := decide_eq_true b135
                        have e8 : nI (((ps fp k).1) + 1) = nI ((ps fp (k + 1)).1) := by rw [e7, e5]; congr 1
                        have hl : lv_has ls 6 [(3, .int (nI (k + 1))), (2, .int (nI 1)), (1, .int (nI ((ps fp (k + 1)).1))), (5, .int (nI 1)), (4, .int (fp k)), (0, .ref o)] := by rw [← e8]; exact hl
                        have e8 : nI 1 = nI ((ps fp (k + 1)).2.toNat) := by rw [e7, e6]; rfl
                        have hl : lv_has ls 6 [(3, .int (nI (k + 1))), (2, .int (nI ((ps fp (k + 1)).2.toNat))), (1, .int (nI ((ps fp (k + 1)).1))), (5, .int (nI 1)), (4, .int (fp k)), (0, .ref o)] := by rw [← e8]; exact hl
                        exact ih6 (k + 1) ((by omega)) ((lt_s hg ⟨by omega, hgp⟩)) (by omega) _ _ hP hD hS _ (lv_sub hl [5, 2, 1, 0] rfl)
                      · refine lv_if_eq (tgt := 145) hx hb dX8_faultOf_138 (by decide) (fun _ => ?_) (fun c9 => absurd (by decide) c9)
                        refine lv_iconst (v := nI 0) hx hb dX8_faultOf_145 (by decide) ?_
                        refine lv_istore_n (lv' := [(2, .int (nI 0)), (1, .int (nI (((ps fp k).1) + 1))), (5, .int (nI 1)), (4, .int (fp k)), (0, .ref o), (3, .int (nI k))]) hx hb dX8_faultOf_146 rfl hl (by decide) rfl (fun ls hl => ?_)
                        refine lv_iinc (v := nI (k + 1)) (lv' := [(3, .int (nI (k + 1))), (2, .int (nI 0)), (1, .int (nI (((ps fp k).1) + 1))), (5, .int (nI 1)), (4, .int (fp k)), (0, .ref o)]) hx hb dX8_faultOf_147 hl (k := 5) rfl (nI_1 k) (by decide) rfl (fun ls hl => ?_)
                        refine lv_goto (tgt := 6) hx hb dX8_faultOf_150 (by decide) ?_
                        have hdg : (ps fp k).2 = false := by cases e9 : (ps fp k).2 with | false => rfl | true => (rw [e9] at c95; exact absurd c95 (by decide))
                        have e7 : ps fp (k + 1) = ((ps fp k).1 + pN (fp k) - 1, decide (isSh (fp k))) := ps_f hdg
                        have e5 : pN (fp k) = 2 := if_pos b116
                        have e6 : decide (isSh (fp k)) = false := decide_eq_false b135
                        have e8 : nI (((ps fp k).1) + 1) = nI ((ps fp (k + 1)).1) := by rw [e7, e5]; congr 1
                        have hl : lv_has ls 6 [(3, .int (nI (k + 1))), (2, .int (nI 0)), (1, .int (nI ((ps fp (k + 1)).1))), (5, .int (nI 1)), (4, .int (fp k)), (0, .ref o)] := by rw [← e8]; exact hl
                        have e8 : nI 0 = nI ((ps fp (k + 1)).2.toNat) := by rw [e7, e6]; rfl
                        have hl : lv_has ls 6 [(3, .int (nI (k + 1))), (2, .int (nI ((ps fp (k + 1)).2.toNat))), (1, .int (nI ((ps fp (k + 1)).1))), (5, .int (nI 1)), (4, .int (fp k)), (0, .ref o)] := by rw [← e8]; exact hl
                        exact ih6 (k + 1) ((by omega)) ((lt_s hg ⟨by omega, hgp⟩)) (by omega) _ _ hP hD hS _ (lv_sub hl [5, 2, 1, 0] rfl)
                  · refine lv_if_eq (tgt := 126) hx hb dX8_faultOf_119 (by decide) (fun _ => ?_) (fun c9 => absurd (by decide) c9)
                    refine lv_iconst (v := nI 0) hx hb dX8_faultOf_126 (by decide) ?_
                    refine iadd_n (a := (ps fp k).1) (b := 0) hx hb dX8_faultOf_127 ?_
                    refine lv_istore_n (lv' := [(1, .int (nI (((ps fp k).1) + 0))), (5, .int (nI 1)), (4, .int (fp k)), (0, .ref o), (2, .int (nI ((ps fp k).2.toNat))), (3, .int (nI k))]) hx hb dX8_faultOf_128 rfl hl (by decide) rfl (fun ls hl => ?_)
                    refine lv_iload_n hx hb dX8_faultOf_129 rfl (lv_at hl 4 rfl) ?_
                    refine if_ne_n (a := (ps fp k).2.toNat) (tgt := 145) hx hb dX8_faultOf_130 (by decide) (by omega) (fun c130 => ?_) (fun c130 => ?_)
                    · exact absurd c130 (by omega)
                    · refine lv_iload hx hb dX8_faultOf_133 (lv_at hl 2 rfl) ?_
                      refine cal_i (run_S (As := [.int (fp k)]) (rest := []) SF (c_isShift l D cI cJ cZ cG cM (fp k)) (va_cwS 1 hts gX8_faultOf_X8_isShift rfl rfl rfl (by decide +kernel) ⟨Nat.le_of_ble_eq_true rfl, Nat.le_of_ble_eq_true rfl⟩) hN hK hP hD [] rfl (by decide) rfl hl.1 rfl (Nat.le_of_ble_eq_true rfl) dX8_faultOf_135 ⟨Nat.le_of_ble_eq_true rfl, Nat.le_of_ble_eq_true rfl⟩) ⟨rfl, rfl⟩ hP hD hS hA [] rfl (fun _ => rfl) (fun r135 _ H locs hw hP hD hS => ?_)
                      have hP : va_P D vwCl [(o, .inr (8, [.int (nI n), .ref me, .ref ml, .ref mb, .int fi, .int (nI nl), .ref mt, .int si, .ref ms, .int (nI sc), .ref mp, .ref my, .ref mc, .int la, .ref mk, .ref mw, .int ah, .int ri, .int lh, .ref mo, .ref mq, .ref mi, .ref mz])), (mp, .inl (cI, 48, .inl fp))] H := hP
                      have hD : va_D A [(o, .inr (8, [.int (nI n), .ref me, .ref ml, .ref mb, .int fi, .int (nI nl), .ref mt, .int si, .ref ms, .int (nI sc), .ref mp, .ref my, .ref mc, .int la, .ref mk, .ref mw, .int ah, .int ri, .int lh, .ref mo, .ref mq, .ref mi, .ref mz])), (mp, .inl (cI, 48, .inl fp))] := hD
                      rcases hw with ⟨b135, rfl⟩ | ⟨b135, rfl⟩
                      · refine lv_if_eq (tgt := 145) hx hb dX8_faultOf_138 (by decide) (fun c9 => absurd c9 (by decide)) (fun _ => ?_)
                        refine lv_iconst (v := nI 1) hx hb dX8_faultOf_141 (by decide) ?_
                        refine lv_goto (tgt := 146) hx hb dX8_faultOf_142 (by decide) ?_
                        refine lv_istore_n (lv' := [(2, .int (nI 1)), (1, .int (nI (((ps fp k).1) + 0))), (5, .int (nI 1)), (4, .int (fp k)), (0, .ref o), (3, .int (nI k))]) hx hb dX8_faultOf_146 rfl hl (by decide) rfl (fun ls hl => ?_)
                        refine lv_iinc (v := nI (k + 1)) (lv' := [(3, .int (nI (k + 1))), (2, .int (nI 1)), (1, .int (nI (((ps fp k).1) + 0))), (5, .int (nI 1)), (4, .int (fp k)), (0, .ref o)]) hx hb dX8_faultOf_147 hl (k := 5) rfl (nI_1 k) (by decide) rfl (fun ls hl => ?_)
                        refine lv_goto (tgt := 6) hx hb dX8_faultOf_150 (by decide) ?_
                        have hdg : (ps fp k).2 = false := by cases e9 : (ps fp k).2 with | false => rfl | true => (rw [e9] at c95; exact absurd c95 (by decide))
                        have e7 : ps fp (k + 1) = ((ps fp k).1 + pN (fp k) - 1, decide (isSh (fp k))) := ps_f hdg
                        have e5 : pN (fp k) = 1 := by unfold pN; rw [if_neg b116, if_neg b104]
                        have e6 : decide (isSh (fp k)) = true := decide_eq_true b135
                        have e8 : nI (((ps fp k).1) + 0) = nI ((ps fp (k + 1)).1) := by rw [e7, e5]; congr 1
                        have hl : lv_has ls 6 [(3, .int (nI (k + 1))), (2, .int (nI 1)), (1, .int (nI ((ps fp (k + 1)).1))), (5, .int (nI 1)), (4, .int (fp k)), (0, .ref o)] := by rw [← e8]; exact hl
                        have e8 : nI 1 = nI ((ps fp (k + 1)).2.toNat) := by rw [e7, e6]; rfl
                        have hl : lv_has ls 6 [(3, .int (nI (k + 1))), (2, .int (nI ((ps fp (k + 1)).2.toNat))), (1, .int (nI ((ps fp (k + 1)).1))), (5, .int (nI 1)), (4, .int (fp k)), (0, .ref o)] := by rw [← e8]; exact hl
                        exact ih6 (k + 1) ((by omega)) ((lt_s hg ⟨by omega, hgp⟩)) (by omega) _ _ hP hD hS _ (lv_sub hl [5, 2, 1, 0] rfl)
                      · refine lv_if_eq (tgt := 145) hx hb dX8_faultOf_138 (by decide) (fun _ => ?_) (fun c9 => absurd (by decide) c9)
                        refine lv_iconst (v := nI 0) hx hb dX8_faultOf_145 (by decide) ?_
                        refine lv_istore_n (lv' := [(2, .int (nI 0)), (1, .int (nI (((ps fp k).1) + 0))), (5, .int (nI 1)), (4, .int (fp k)), (0, .ref o), (3, .int (nI k))]) hx hb dX8_faultOf_146 rfl hl (by decide) rfl (fun ls hl => ?_)
                        refine lv_iinc (v := nI (k + 1)) (lv' := [(3, .int (nI (k + 1))), (2, .int (nI 0)), (1, .int (nI (((ps fp k).1) + 0))), (5, .int (nI 1)), (4, .int (fp k)), (0, .ref o)]) hx hb dX8_faultOf_147 hl (k := 5) rfl (nI_1 k) (by decide) rfl (fun ls hl => ?_)
                        refine lv_goto (tgt := 6) hx hb dX8_faultOf_150 (by decide) ?_
                        have hdg : (ps fp k).2 = false := by cases e9 : (ps fp k).2 with | false => rfl | true => (rw [e9] at c95; exact absurd c95 (by decide))
                        have e7 : ps fp (k + 1) = ((ps fp k).1 + pN (fp k) - 1, decide (isSh (fp k))) := ps_f hdg
                        have e5 : pN (fp k) = 1 := by unfold pN; rw [if_neg b116, if_neg b104]
                        have e6 : decide (isSh (fp k)) = false := decide_eq_false b135
                        have e8 : nI (((ps fp k).1) + 0) = nI ((ps fp (k + 1)).1) := by rw [e7, e5]; congr 1
                        have hl : lv_has ls 6 [(3, .int (nI (k + 1))), (2, .int (nI 0)), (1, .int (nI ((ps fp (k + 1)).1))), (5, .int (nI 1)), (4, .int (fp k)), (0, .ref o)] := by rw [← e8]; exact hl
                        have e8 : nI 0 = nI ((ps fp (k + 1)).2.toNat) := by rw [e7, e6]; rfl
                        have hl : lv_has ls 6 [(3, .int (nI (k + 1))), (2, .int (nI ((ps fp (k + 1)).2.toNat))), (1, .int (nI ((ps fp (k + 1)).1))), (5, .int (nI 1)), (4, .int (fp k)), (0, .ref o)] := by rw [← e8]; exact hl
                        exact ih6 (k + 1) ((by omega)) ((lt_s hg ⟨by omega, hgp⟩)) (by omega) _ _ hP hD hS _ (lv_sub hl [5, 2, 1, 0] rfl)
              · refine lv_iconst (v := nI 0) hx hb dX8_faultOf_98 (by decide) ?_
                refine lv_goto (tgt := 127) hx hb dX8_faultOf_99 (by decide) ?_
                refine iadd_n (a := (ps fp k).1) (b := 0) hx hb dX8_faultOf_127 ?_
                refine lv_istore_n (lv' := [(1, .int (nI (((ps fp k).1) + 0))), (5, .int (nI 1)), (4, .int (fp k)), (0, .ref o), (2, .int (nI ((ps fp k).2.toNat))), (3, .int (nI k))]) hx hb dX8_faultOf_128 rfl hl (by decide) rfl (fun ls hl => ?_)
                refine lv_iload_n hx hb dX8_faultOf_129 rfl (lv_at hl 4 rfl) ?_
                refine if_ne_n (a := (ps fp k).2.toNat) (tgt := 145) hx hb dX8_faultOf_130 (by decide) (by omega) (fun c130 => ?_) (fun c130 => ?_)
                · refine lv_iconst (v := nI 0) hx hb dX8_faultOf_145 (by decide) ?_
                  refine lv_istore_n (lv' := [(2, .int (nI 0)), (1, .int (nI (((ps fp k).1) + 0))), (5, .int (nI 1)), (4, .int (fp k)), (0, .ref o), (3, .int (nI k))]) hx hb dX8_faultOf_146 rfl hl (by decide) rfl (fun ls hl => ?_)
                  refine lv_iinc (v := nI (k + 1)) (lv' := [(3, .int (nI (k + 1))), (2, .int (nI 0)), (1, .int (nI (((ps fp k).1) + 0))), (5, .int (nI 1)), (4, .int (fp k)), (0, .ref o)]) hx hb dX8_faultOf_147 hl (k := 5) rfl (nI_1 k) (by decide) rfl (fun ls hl => ?_)
                  refine lv_goto (tgt := 6) hx hb dX8_faultOf_150 (by decide) ?_
                  have hdg : (ps fp k).2 = true := by cases e9 : (ps fp k).2 with | false => (rw [e9] at c95; exact absurd c95 (by decide)) | true => rfl
                  have e7 : ps fp (k + 1) = ((ps fp k).1, false) := ps_t hdg
                  have e8 : nI (((ps fp k).1) + 0) = nI ((ps fp (k + 1)).1) := by rw [e7]; rfl
                  have hl : lv_has ls 6 [(3, .int (nI (k + 1))), (2, .int (nI 0)), (1, .int (nI ((ps fp (k + 1)).1))), (5, .int (nI 1)), (4, .int (fp k)), (0, .ref o)] := by rw [← e8]; exact hl
                  have e8 : nI 0 = nI ((ps fp (k + 1)).2.toNat) := by rw [e7]; rfl
                  have hl : lv_has ls 6 [(3, .int (nI (k + 1))), (2, .int (nI ((ps fp (k + 1)).2.toNat))), (1, .int (nI ((ps fp (k + 1)).1))), (5, .int (nI 1)), (4, .int (fp k)), (0, .ref o)] := by rw [← e8]; exact hl
                  exact ih6 (k + 1) ((by omega)) ((lt_s hg ⟨by omega, hgp⟩)) (by omega) _ _ hP hD hS _ (lv_sub hl [5, 2, 1, 0] rfl)
                · exact absurd c130 (by omega)
            · refine lv_iload_n hx hb dX8_faultOf_91 rfl (lv_at hl 5 rfl) ?_
              exact hret (nI k) (()) _ _ _ _ dX8_faultOf_92 (Or.inl ⟨k, by omega, hg, fun z => by have := z.1; omega, rfl⟩) hP hD hS
          · refine lv_istore (lv' := [(5, .int (nI 0)), (4, .int (fp k)), (0, .ref o), (1, .int (nI ((ps fp k).1))), (2, .int (nI ((ps fp k).2.toNat))), (3, .int (nI k))]) hx hb dX8_faultOf_78 hl (by decide) rfl (fun ls hl => ?_)
            refine lv_iload hx hb dX8_faultOf_80 (lv_at hl 0 rfl) ?_
            refine lv_if_eq (tgt := 91) hx hb dX8_faultOf_82 (by decide) (fun _ => ?_) (fun c9 => absurd (by decide) c9)
            refine lv_iload_n hx hb dX8_faultOf_91 rfl (lv_at hl 5 rfl) ?_
            exact hret (nI k) (()) _ _ _ _ dX8_faultOf_92 (Or.inl ⟨k, by omega, hg, fun z => hgp z.2, rfl⟩) hP hD hS
        refine lv_iload_n hx hb dX8_faultOf_22 rfl (lv_at hl 3 rfl) ?_
        refine if_eq_n (a := (ps fp k).2.toNat) (tgt := 38) hx hb dX8_faultOf_23 (by decide) (by omega) (fun c23 => ?_) (fun c23 => ?_)
        · refine lv_iload_n hx hb dX8_faultOf_38 rfl (lv_at hl 2 rfl) ?_
          refine if_le_n (a := (ps fp k).1) (tgt := 77) hx hb dX8_faultOf_39 (by decide) (by omega) (fun c39 => ?_) (fun c39 => ?_)
          · refine lv_iconst (v := nI 0) hx hb dX8_faultOf_77 (by decide) ?_
            have hdg : (ps fp k).2 = false := by cases e9 : (ps fp k).2 with | false => rfl | true => (rw [e9] at c23; exact absurd c23 (by decide))
            exact J78 (nI 0) ((Or.inr ⟨rfl, fun z => by have := z.1; omega⟩)) _ _ hP hD hS _ (lv_sub hl [0, 1, 2, 3, 4] rfl)
          · refine lv_iload hx hb dX8_faultOf_42 (lv_at hl 0 rfl) ?_
            refine cal_i (run_S (As := [.int (fp k)]) (rest := []) SF (c_isLeaf l D cI cJ cZ cG cM (fp k)) (va_cwS 1 hts gX8_faultOf_X8_isLeaf rfl rfl rfl (by decide +kernel) ⟨Nat.le_of_ble_eq_true rfl, Nat.le_of_ble_eq_true rfl⟩) hN hK hP hD [] rfl (by decide) rfl hl.1 rfl (Nat.le_of_ble_eq_true rfl) dX8_faultOf_44 ⟨Nat.le_of_ble_eq_true rfl, Nat.le_of_ble_eq_true rfl⟩) ⟨rfl, rfl⟩ hP hD hS hA [] rfl (fun _ => rfl) (fun r44 _ H locs hw hP hD hS => ?_)
            have hP : va_P D vwCl [(o, .inr (8, [.int (nI n), .ref me, .ref ml, .ref mb, .int fi, .int (nI nl), .ref mt, .int si, .ref ms, .int (nI sc), .ref mp, .ref my, .ref mc, .int la, .ref mk, .ref mw, .int ah, .int ri, .int lh, .ref mo, .ref mq, .ref mi, .ref mz])), (mp, .inl (cI, 48, .inl fp))] H := hP
            have hD : va_D A [(o, .inr (8, [.int (nI n), .ref me, .ref ml, .ref mb, .int fi, .int (nI nl), .ref mt, .int si, .ref ms, .int (nI sc), .ref mp, .ref my, .ref mc, .int la, .ref mk, .ref mw, .int ah, .int ri, .int lh, .ref mo, .ref mq, .ref mi, .ref mz])), (mp, .inl (cI, 48, .inl fp))] := hD
            rcases hw with ⟨b44, rfl⟩ | ⟨b44, rfl⟩
            · refine lv_if_ne (tgt := 73) hx hb dX8_faultOf_47 (by decide) (fun _ => ?_) (fun c9 => absurd c9 (by decide))
              refine lv_iconst (v := nI 1) hx hb dX8_faultOf_73 (by decide) ?_
              refine lv_goto (tgt := 78) hx hb dX8_faultOf_74 (by decide) ?_
              have hdg : (ps fp k).2 = false := by cases e9 : (ps fp k).2 with | false => rfl | true => (rw [e9] at c23; exact absurd c23 (by decide))
              exact J78 (nI 1) ((Or.inl ⟨rfl, c39, fun z => absurd (hdg.symm.trans z) (by decide), fun _ => Or.inl b44⟩)) _ _ hP hD hS _ (lv_sub hl [0, 1, 2, 3, 4] rfl)
            · refine lv_if_ne (tgt := 73) hx hb dX8_faultOf_47 (by decide) (fun c9 => absurd c9 (by decide)) (fun _ => ?_)
              refine lv_iload hx hb dX8_faultOf_50 (lv_at hl 0 rfl) ?_
              refine cal_i (run_S (As := [.int (fp k)]) (rest := []) SF (c_isPair l D cI cJ cZ cG cM (fp k)) (va_cwS 1 hts gX8_faultOf_X8_isPair rfl rfl rfl (by decide +kernel) ⟨Nat.le_of_ble_eq_true rfl, Nat.le_of_ble_eq_true rfl⟩) hN hK hP hD [] rfl (by decide) rfl hl.1 rfl (Nat.le_of_ble_eq_true rfl) dX8_faultOf_52 ⟨Nat.le_of_ble_eq_true rfl, Nat.le_of_ble_eq_true rfl⟩) ⟨rfl, rfl⟩ hP hD hS hA [] rfl (fun _ => rfl) (fun r52 _ H locs hw hP hD hS => ?_)
              have hP : va_P D vwCl [(o, .inr (8, [.int (nI n), .ref me, .ref ml, .ref mb, .int fi, .int (nI nl), .ref mt, .int si, .ref ms, .int (nI sc), .ref mp, .ref my, .ref mc, .int la, .ref mk, .ref mw, .int ah, .int ri, .int lh, .ref mo, .ref mq, .ref mi, .ref mz])), (mp, .inl (cI, 48, .inl fp))] H := hP
              have hD : va_D A [(o, .inr (8, [.int (nI n), .ref me, .ref ml, .ref mb, .int fi, .int (nI nl), .ref mt, .int si, .ref ms, .int (nI sc), .ref mp, .ref my, .ref mc, .int la, .ref mk, .ref mw, .int ah, .int ri, .int lh, .ref mo, .ref mq, .ref mi, .ref mz])), (mp, .inl (cI, 48, .inl fp))] := hD
              rcases hw with ⟨b52, rfl⟩ | ⟨b52, rfl⟩
              · refine lv_if_ne (tgt := 73) hx hb dX8_faultOf_55 (by decide) (fun _ => ?_) (fun c9 => absurd c9 (by decide))
                refine lv_iconst (v := nI 1) hx hb dX8_faultOf_73 (by decide) ?_
                refine lv_goto (tgt := 78) hx hb dX8_faultOf_74 (by decide) ?_
                have hdg : (ps fp k).2 = false := by cases e9 : (ps fp k).2 with | false => rfl | true => (rw [e9] at c23; exact absurd c23 (by decide))
                exact J78 (nI 1) ((Or.inl ⟨rfl, c39, fun z => absurd (hdg.symm.trans z) (by decide), fun _ => Or.inr (Or.inl b52)⟩)) _ _ hP hD hS _ (lv_sub hl [0, 1, 2, 3, 4] rfl)
              · refine lv_if_ne (tgt := 73) hx hb dX8_faultOf_55 (by decide) (fun c9 => absurd c9 (by decide)) (fun _ => ?_)
                refine lv_iload hx hb dX8_faultOf_58 (lv_at hl 0 rfl) ?_
                refine cal_i (run_S (As := [.int (fp k)]) (rest := []) SF (c_isShift l D cI cJ cZ cG cM (fp k)) (va_cwS 1 hts gX8_faultOf_X8_isShift rfl rfl rfl (by decide +kernel) ⟨Nat.le_of_ble_eq_true rfl, Nat.le_of_ble_eq_true rfl⟩) hN hK hP hD [] rfl (by decide) rfl hl.1 rfl (Nat.le_of_ble_eq_true rfl) dX8_faultOf_60 ⟨Nat.le_of_ble_eq_true rfl, Nat.le_of_ble_eq_true rfl⟩) ⟨rfl, rfl⟩ hP hD hS hA [] rfl (fun _ => rfl) (fun r60 _ H locs hw hP hD hS => ?_)
                have hP : va_P D vwCl [(o, .inr (8, [.int (nI n), .ref me, .ref ml, .ref mb, .int fi, .int (nI nl), .ref mt, .int si, .ref ms, .int (nI sc), .ref mp, .ref my, .ref mc, .int la, .ref mk, .ref mw, .int ah, .int ri, .int lh, .ref mo, .ref mq, .ref mi, .ref mz])), (mp, .inl (cI, 48, .inl fp))] H := hP
                have hD : va_D A [(o, .inr (8, [.int (nI n), .ref me, .ref ml, .ref mb, .int fi, .int (nI nl), .ref mt, .int si, .ref ms, .int (nI sc), .ref mp, .ref my, .ref mc, .int la, .ref mk, .ref mw, .int ah, .int ri, .int lh, .ref mo, .ref mq, .ref mi, .ref mz])), (mp, .inl (cI, 48, .inl fp))] := hD
                rcases hw with ⟨b60, rfl⟩ | ⟨b60, rfl⟩
                · refine lv_if_ne (tgt := 73) hx hb dX8_faultOf_63 (by decide) (fun _ => ?_) (fun c9 => absurd c9 (by decide))
                  refine lv_iconst (v := nI 1) hx hb dX8_faultOf_73 (by decide) ?_
                  refine lv_goto (tgt := 78) hx hb dX8_faultOf_74 (by decide) ?_
                  have hdg : (ps fp k).2 = false := by cases e9 : (ps fp k).2 with | false => rfl | true => (rw [e9] at c23; exact absurd c23 (by decide))
                  exact J78 (nI 1) ((Or.inl ⟨rfl, c39, fun z => absurd (hdg.symm.trans z) (by decide), fun _ => Or.inr (Or.inr (Or.inl b60))⟩)) _ _ hP hD hS _ (lv_sub hl [0, 1, 2, 3, 4] rfl)
                · refine lv_if_ne (tgt := 73) hx hb dX8_faultOf_63 (by decide) (fun c9 => absurd c9 (by decide)) (fun _ => ?_)
                  refine lv_iload hx hb dX8_faultOf_66 (lv_at hl 0 rfl) ?_
                  refine lv_bipush (v := nI 126) hx hb dX8_faultOf_68 (by decide) ?_
                  refine lv_icmp_ne (tgt := 77) hx hb dX8_faultOf_70 (by decide) (fun c70 => ?_) (fun c70 => ?_)
                  · refine lv_iconst (v := nI 0) hx hb dX8_faultOf_77 (by decide) ?_
                    have hdg : (ps fp k).2 = false := by cases e9 : (ps fp k).2 with | false => rfl | true => (rw [e9] at c23; exact absurd c23 (by decide))
                    exact J78 (nI 0) ((Or.inr ⟨rfl, fun z => by rcases z.2.2 hdg with w | w | w | w; exact b44 w; exact b52 w; exact b60 w; exact c70 w⟩)) _ _ hP hD hS _ (lv_sub hl [0, 1, 2, 3, 4] rfl)
                  · refine lv_iconst (v := nI 1) hx hb dX8_faultOf_73 (by decide) ?_
                    refine lv_goto (tgt := 78) hx hb dX8_faultOf_74 (by decide) ?_
                    have hdg : (ps fp k).2 = false := by cases e9 : (ps fp k).2 with | false => rfl | true => (rw [e9] at c23; exact absurd c23 (by decide))
                    exact J78 (nI 1) ((Or.inl ⟨rfl, c39, fun z => absurd (hdg.symm.trans z) (by decide), fun _ => Or.inr (Or.inr (Or.inr c70))⟩)) _ _ hP hD hS _ (lv_sub hl [0, 1, 2, 3, 4] rfl)
        · refine lv_iload hx hb dX8_faultOf_26 (lv_at hl 0 rfl) ?_
          refine lv_bipush (v := nI 48) hx hb dX8_faultOf_28 (by decide) ?_
          refine lv_bipush (v := nI 57) hx hb dX8_faultOf_30 (by decide) ?_
          refine cal_i (run_S (As := [.int (fp k), .int (nI 48), .int (nI 57)]) (rest := []) SF (c_in8 l D cI cJ cZ cG cM (fp k) (nI 48) (nI 57)) (va_cwS 3 hts gX8_faultOf_X8_in rfl rfl rfl (by decide +kernel) ⟨Nat.le_of_ble_eq_true rfl, Nat.le_of_ble_eq_true rfl⟩) hN hK hP hD [] rfl (by decide) rfl hl.1 rfl (Nat.le_of_ble_eq_true rfl) dX8_faultOf_32 ⟨Nat.le_of_ble_eq_true rfl, Nat.le_of_ble_eq_true rfl⟩) ⟨rfl, rfl⟩ hP hD hS hA [] rfl (fun _ => rfl) (fun r32 _ H locs hw hP hD hS => ?_)
          have hP : va_P D vwCl [(o, .inr (8, [.int (nI n), .ref me, .ref ml, .ref mb, .int fi, .int (nI nl), .ref mt, .int si, .ref ms, .int (nI sc), .ref mp, .ref my, .ref mc, .int la, .ref mk, .ref mw, .int ah, .int ri, .int lh, .ref mo, .ref mq, .ref mi, .ref mz])), (mp, .inl (cI, 48, .inl fp))] H := hP
          have hD : va_D A [(o, .inr (8, [.int (nI n), .ref me, .ref ml, .ref mb, .int fi, .int (nI nl), .ref mt, .int si, .ref ms, .int (nI sc), .ref mp, .ref my, .ref mc, .int la, .ref mk, .ref mw, .int ah, .int ri, .int lh, .ref mo, .ref mq, .ref mi, .ref mz])), (mp, .inl (cI, 48, .inl fp))] := hD
          rcases hw with ⟨b32, rfl⟩ | ⟨b32, rfl⟩
          · refine lv_goto (tgt := 78) hx hb dX8_faultOf_35 (by decide) ?_
            have hdg : (ps fp k).2 = true := by cases e9 : (ps fp k).2 with | false => (rw [e9] at c23; exact absurd c23 (by decide)) | true => rfl
            exact J78 (nI 1) ((Or.inl ⟨rfl, hdue hdg, fun _ => b32, fun z => absurd (hdg.symm.trans z) (by decide)⟩)) _ _ hP hD hS _ (lv_sub hl [0, 1, 2, 3, 4] rfl)
          · refine lv_goto (tgt := 78) hx hb dX8_faultOf_35 (by decide) ?_
            have hdg : (ps fp k).2 = true := by cases e9 : (ps fp k).2 with | false => (rw [e9] at c23; exact absurd c23 (by decide)) | true => rfl
            exact J78 (nI 0) ((Or.inr ⟨rfl, fun z => b32 (z.2.1 hdg)⟩)) _ _ hP hD hS _ (lv_sub hl [0, 1, 2, 3, 4] rfl)
  exact L6 _ 0 ((Nat.zero_le _)) ((fun i hi => absurd hi (Nat.not_lt_zero i))) (Nat.lt_succ_self _) _ _ hP hD hS _ (lv_sub hl [3, 2, 1, 0] rfl)

abbrev rm_X8_fault : Room := { frames := 2, cells := 0, slots := 0, locals := 47 }
set_option maxHeartbeats 4000000 in
set_option maxRecDepth 100000 in
theorem m_fault (l : Launch) (D : va_G) (cI cJ cZ cG cM : ClassId) (o me ml mb mt ms mp my mc mk mw mo mq mi mz : Nat) (fi si sn la ah ri lh : Int32) (n nl : Nat) (sc : Nat) (fp : Nat → Int32) (hsc : sc ≤ 48) :
    CI l yX8_fault wsX8_fault rm_X8_fault D [(cI, .int), (cJ, .long), (cZ, .boolean), (cG, .object "LatestSets$Guild"), (cM, .array .int)] [(o, .inr (8, [.int (nI n), .ref me, .ref ml, .ref mb, .int fi, .int (nI nl), .ref mt, .int si, .ref ms, .int (nI sc), .ref mp, .ref my, .ref mc, .int la, .ref mk, .ref mw, .int ah, .int ri, .int lh, .ref mo, .ref mq, .ref mi, .ref mz])), (mp, .inl (cI, 48, .inl fp))] [.ref o] (S := Unit) (fun r u => FT fp sc r) (fun u => [(o, .inr (8, [.int (nI n), .ref me, .ref ml, .ref mb, .int fi, .int (nI nl), .ref mt, .int si, .ref ms, .int (nI sc), .ref mp, .ref my, .ref mc, .int la, .ref mk, .ref mw, .int ah, .int ri, .int lh, .ref mo, .ref mq, .ref mi, .ref mz])), (mp, .inl (cI, 48, .inl fp))]) := by
  refine si_of (cc := cX8_fault) (maxL := 1) (by decide) rfl (Nat.le_of_ble_eq_true rfl) ?_
  intro p e s m args below meth c A ls Q E hret
  obtain ⟨hx, hb, -, hml, hown, hts, -, hin, hA, hK, hP, hD, hS, hl, hN⟩ := E
  have hown : s.vm.findClass RX8 = some m.cls := hown
  have hl : lv_has ls 1 [(0, .ref o)] := hl
  have SF : CallFix p m c cX8_fault 1 s args wsX8_fault RX8 := ⟨hx, hb, hml, hown, hts⟩
  refine lv_aload_n hx hb dX8_fault_0 rfl (lv_at hl 0 rfl) ?_
  refine cal_i (run_V (As := []) (rest := []) SF (c_faultOf l D cI cJ cZ cG cM o me ml mb mt ms mp my mc mk mw mo mq mi mz fi si 0 la ah ri lh n nl sc fp hsc) (cwV 0 hts gX8_fault_X8_faultOf rfl rfl rfl (by decide +kernel) ⟨Nat.le_of_ble_eq_true rfl, Nat.le_of_ble_eq_true rfl⟩) hN hK hP hD [0, 1] rfl (by decide) 8 0 rfl rfl rfl rfl hl.1 rfl (Nat.le_of_ble_eq_true rfl) dX8_fault_1 ⟨Nat.le_of_ble_eq_true rfl, Nat.le_of_ble_eq_true rfl⟩) ⟨rfl, rfl⟩ hP hD hS hA [0, 1] rfl (fun _ => rfl) (fun r1 _ H locs hw hP hD hS => ?_)
  have hP : va_P D vwCl [(o, .inr (8, [.int (nI n), .ref me, .ref ml, .ref mb, .int fi, .int (nI nl), .ref mt, .int si, .ref ms, .int (nI sc), .ref mp, .ref my, .ref mc, .int la, .ref mk, .ref mw, .int ah, .int ri, .int lh, .ref mo, .ref mq, .ref mi, .ref mz])), (mp, .inl (cI, 48, .inl fp))] H := hP
  have hD : va_D A [(o, .inr (8, [.int (nI n), .ref me, .ref ml, .ref mb, .int fi, .int (nI nl), .ref mt, .int si, .ref ms, .int (nI sc), .ref mp, .ref my, .ref mc, .int la, .ref mk, .ref mw, .int ah, .int ri, .int lh, .ref mo, .ref mq, .ref mi, .ref mz])), (mp, .inl (cI, 48, .inl fp))] := hD
  exact hret r1 (()) _ _ _ _ dX8_fault_4 hw hP hD hS

abbrev rm_X8_enact : Room := { frames := 2, cells := 0, slots := 0, locals := 47 }
set_option maxHeartbeats 4000000 in
set_option maxRecDepth 100000 in
theorem m_enact (l : Launch) (D : va_G) (cI cJ cZ cG cM : ClassId) (o me ml mb mt ms mp my mc mk mw mo mq mi mz : Nat) (fi si sn la ah ri lh : Int32) (n nl : Nat) (sc : Nat) (fp fs : Nat → Int32) (hsc : sc ≤ 48) :
    CI l yX8_enact wsX8_enact rm_X8_enact D [(cI, .int), (cJ, .long), (cZ, .boolean), (cG, .object "LatestSets$Guild"), (cM, .array .int)] [(o, .inr (8, [.int (nI n), .ref me, .ref ml, .ref mb, .int fi, .int (nI nl), .ref mt, .int si, .ref ms, .int (nI sc), .ref mp, .ref my, .ref mc, .int la, .ref mk, .ref mw, .int ah, .int ri, .int lh, .ref mo, .ref mq, .ref mi, .ref mz])), (mp, .inl (cI, 48, .inl fp)), (mt, .inl (cI, 20, .inl fs))] [.ref o] (S := (Nat × (Nat → Int32) × Nat)) (fun r u => (∃ z, FT fp sc z ∧ ¬ z = (-6) ∧ r = (-5) ∧ u = (nl, fs, sc)) ∨ (FT fp sc (-6) ∧ r = nI sc ∧ u = (sc, cpyI fs fp sc, 0))) (fun u => [(o, .inr (8, [.int (nI n), .ref me, .ref ml, .ref mb, .int fi, .int (nI u.1), .ref mt, .int si, .ref ms, .int (nI u.2.2), .ref mp, .ref my, .ref mc, .int la, .ref mk, .ref mw, .int ah, .int ri, .int lh, .ref mo, .ref mq, .ref mi, .ref mz])), (mp, .inl (cI, 48, .inl fp)), (mt, .inl (cI, 20, .inl u.2.1))]) := by
  refine si_of (cc := cX8_enact) (maxL := 2) (by decide) rfl (Nat.le_of_ble_eq_true rfl) ?_
  intro p e s m args below meth c A ls Q E hret
  obtain ⟨hx, hb, -, hml, hown, hts, -, hin, hA, hK, hP, hD, hS, hl, hN⟩ := E
  have hown : s.vm.findClass RX8 = some m.cls := hown
  have hl : lv_has ls 2 [(0, .ref o)] := hl
  have SF : CallFix p m c cX8_enact 2 s args wsX8_enact RX8 := ⟨hx, hb, hml, hown, hts⟩
  have hw0 := hts (.fieldLink RX8 77 "LatestSetsModel" "signs" "I") (by decide +kernel)
  have hi8 : ∀ x ∈ wsX80, x ∈ wsX8_enact := by decide +kernel
  have hw2 := hts (.fieldLink RX8 26 "LatestSetsModel" "size" "I") (by decide +kernel)
  have hw3 := hts (.fieldLink RX8 29 "LatestSetsModel" "text" "[I") (by decide +kernel)
  have hw4 := hts (.fieldLink RX8 35 "LatestSetsModel" "pad" "[I") (by decide +kernel)
  refine lv_aload_n hx hb dX8_enact_0 rfl (lv_at hl 0 rfl) ?_
  refine cal_i (run_V (As := []) (rest := []) SF (c_faultOf l D cI cJ cZ cG cM o me ml mb mt ms mp my mc mk mw mo mq mi mz fi si 0 la ah ri lh n nl sc fp hsc) (cwV 0 hts gX8_enact_X8_faultOf rfl rfl rfl (by decide +kernel) ⟨Nat.le_of_ble_eq_true rfl, Nat.le_of_ble_eq_true rfl⟩) hN hK hP hD [0, 1] rfl (by decide) 8 0 rfl rfl rfl rfl hl.1 rfl (Nat.le_of_ble_eq_true rfl) dX8_enact_1 ⟨Nat.le_of_ble_eq_true rfl, Nat.le_of_ble_eq_true rfl⟩) ⟨rfl, rfl⟩ hP hD hS hA [0, 1] rfl (fun _ => rfl) (fun r1 _ H locs hw hP hD hS => ?_)
  have hP : va_P D vwCl [(o, .inr (8, [.int (nI n), .ref me, .ref ml, .ref mb, .int fi, .int (nI nl), .ref mt, .int si, .ref ms, .int (nI sc), .ref mp, .ref my, .ref mc, .int la, .ref mk, .ref mw, .int ah, .int ri, .int lh, .ref mo, .ref mq, .ref mi, .ref mz])), (mp, .inl (cI, 48, .inl fp)), (mt, .inl (cI, 20, .inl fs))] H := hP
  have hD : va_D A [(o, .inr (8, [.int (nI n), .ref me, .ref ml, .ref mb, .int fi, .int (nI nl), .ref mt, .int si, .ref ms, .int (nI sc), .ref mp, .ref my, .ref mc, .int la, .ref mk, .ref mw, .int ah, .int ri, .int lh, .ref mo, .ref mq, .ref mi, .ref mz])), (mp, .inl (cI, 48, .inl fp)), (mt, .inl (cI, 20, .inl fs))] := hD
  have hfw := hw
  refine lv_if_lt (tgt := 10) hx hb dX8_enact_4 (by decide) (fun c4 => ?_) (fun c4 => ?_)
  · have e9 := FT_lt hfw (by omega) c4
    subst e9
    have hv := FT_VL hfw
    have hv20 := hv.1
    refine lv_aload_n hx hb dX8_enact_10 rfl (lv_at hl 0 rfl) ?_
    refine lv_aload_n hx hb dX8_enact_11 rfl (lv_at hl 0 rfl) ?_
    refine va_get (D := D) (ci := 8) (v := .int (nI sc)) (C := RX8) (T := TX8) (N := 23) hx hb hts hi8 hown hK hP 0 rfl rfl 9 (by decide) hw0 (fun _ h9 => h9) rfl dX8_enact_12 ?_
    refine va_put (D := D) (ci := 8) (v := .int (nI sc)) (ty := .int) (C := RX8) (T := TX8) (N := 23) hx hb hts hi8 tyX8 tyX8_ok nmX8 hown hK hP hD hS 0 rfl rfl 5 (by decide) hw2 (fun _ h9 => h9) rfl (by decide +kernel) rfl rfl (Nat.le_of_ble_eq_true rfl) dX8_enact_15 (fun H locs hP hD hS => ?_)
    have hP : va_P D vwCl [(o, .inr (8, [.int (nI n), .ref me, .ref ml, .ref mb, .int fi, .int (nI sc), .ref mt, .int si, .ref ms, .int (nI sc), .ref mp, .ref my, .ref mc, .int la, .ref mk, .ref mw, .int ah, .int ri, .int lh, .ref mo, .ref mq, .ref mi, .ref mz])), (mp, .inl (cI, 48, .inl fp)), (mt, .inl (cI, 20, .inl fs))] H := hP
    have hD : va_D A [(o, .inr (8, [.int (nI n), .ref me, .ref ml, .ref mb, .int fi, .int (nI sc), .ref mt, .int si, .ref ms, .int (nI sc), .ref mp, .ref my, .ref mc, .int la, .ref mk, .ref mw, .int ah, .int ri, .int lh, .ref mo, .ref mq, .ref mi, .ref mz])), (mp, .inl (cI, 48, .inl fp)), (mt, .inl (cI, 20, .inl fs))] := hD
    refine lv_iconst (v := nI 0) hx hb dX8_enact_18 (by decide) ?_
    refine lv_istore_n (lv' := [(1, .int (nI 0)), (0, .ref o)]) hx hb dX8_enact_19 rfl hl (by decide) rfl (fun ls hl => ?_)
    have L20 : ∀ (n9 : Nat) (k : Nat) (hk : k ≤ sc), sc - k < n9 → ∀ (H : Heap) (locs : List Loc), va_P D vwCl [(o, .inr (8, [.int (nI n), .ref me, .ref ml, .ref mb, .int fi, .int (nI sc), .ref mt, .int si, .ref ms, .int (nI sc), .ref mp, .ref my, .ref mc, .int la, .ref mk, .ref mw, .int ah, .int ri, .int lh, .ref mo, .ref mq, .ref mi, .ref mz])), (mp, .inl (cI, 48, .inl fp)), (mt, .inl (cI, 20, .inl (cpyI fs fp k)))] H → va_D A [(o, .inr (8, [.int (nI n), .ref me, .ref ml, .ref mb, .int fi, .int (nI sc), .ref mt, .int si, .ref ms, .int (nI sc), .ref mp, .ref my, .ref mc, .int la, .ref mk, .ref mw, .int ah, .int ri, .int lh, .ref mo, .ref mq, .ref mi, .ref mz])), (mp, .inl (cI, 48, .inl fp)), (mt, .inl (cI, 20, .inl (cpyI fs fp k)))] → va_S A s.heap H locs → ∀ (ls : Array Slot), lv_has ls 2 [(0, .ref o), (1, .int (nI k))] → W p l e rm_X8_enact s m args below meth c H locs 0 0 Q (F0 m 20 ls []) := by
      intro n9
      induction n9 with
      | zero => intro k hk hm; exact absurd hm (Nat.not_lt_zero _)
      | succ n9 ih20 =>
        intro k hk hm20 H locs hP hD hS ls hl
        refine lv_iload_n hx hb dX8_enact_20 rfl (lv_at hl 1 rfl) ?_
        refine lv_aload_n hx hb dX8_enact_21 rfl (lv_at hl 0 rfl) ?_
        refine va_get (D := D) (ci := 8) (v := .int (nI sc)) (C := RX8) (T := TX8) (N := 23) hx hb hts hi8 hown hK hP 0 rfl rfl 9 (by decide) hw0 (fun _ h9 => h9) rfl dX8_enact_22 ?_
        refine icmp_ge_n (a := k) (b := sc) (tgt := 46) hx hb dX8_enact_25 (by decide) (by omega) (by omega) (fun c25 => ?_) (fun c25 => ?_)
        · have e9 : k = sc := by omega
          subst e9
          refine lv_aload_n hx hb dX8_enact_46 rfl (lv_at hl 0 rfl) ?_
          refine lv_iconst (v := nI 0) hx hb dX8_enact_47 (by decide) ?_
          refine va_put (D := D) (ci := 8) (v := .int (nI 0)) (ty := .int) (C := RX8) (T := TX8) (N := 23) hx hb hts hi8 tyX8 tyX8_ok nmX8 hown hK hP hD hS 0 rfl rfl 9 (by decide) hw0 (fun _ h9 => h9) rfl (by decide +kernel) rfl rfl (Nat.le_of_ble_eq_true rfl) dX8_enact_48 (fun H locs hP hD hS => ?_)
          have hP : va_P D vwCl [(o, .inr (8, [.int (nI n), .ref me, .ref ml, .ref mb, .int fi, .int (nI k), .ref mt, .int si, .ref ms, .int (nI 0), .ref mp, .ref my, .ref mc, .int la, .ref mk, .ref mw, .int ah, .int ri, .int lh, .ref mo, .ref mq, .ref mi, .ref mz])), (mp, .inl (cI, 48, .inl fp)), (mt, .inl (cI, 20, .inl (cpyI fs fp k)))] H := hP
          have hD : va_D A [(o, .inr (8, [.int (nI n), .ref me, .ref ml, .ref mb, .int fi, .int (nI k), .ref mt, .int si, .ref ms, .int (nI 0), .ref mp, .ref my, .ref mc, .int la, .ref mk, .ref mw, .int ah, .int ri, .int lh, .ref mo, .ref mq, .ref mi, .ref mz])), (mp, .inl (cI, 48, .inl fp)), (mt, .inl (cI, 20, .inl (cpyI fs fp k)))] := hD
          refine lv_aload_n hx hb dX8_enact_51 rfl (lv_at hl 0 rfl) ?_
          refine va_get (D := D) (ci := 8) (v := .int (nI k)) (C := RX8) (T := TX8) (N := 23) hx hb hts hi8 hown hK hP 0 rfl rfl 5 (by decide) hw2 (fun _ h9 => h9) rfl dX8_enact_52 ?_
          exact hret (nI k) ((k, cpyI fs fp k, 0)) _ _ _ _ dX8_enact_55 (Or.inr ⟨hfw, rfl, rfl⟩) hP hD hS
        · refine lv_aload_n hx hb dX8_enact_28 rfl (lv_at hl 0 rfl) ?_
          refine va_get (D := D) (ci := 8) (v := .ref mt) (C := RX8) (T := TX8) (N := 23) hx hb hts hi8 hown hK hP 0 rfl rfl 6 (by decide) hw3 (fun _ h9 => h9) rfl dX8_enact_29 ?_
          refine lv_iload_n hx hb dX8_enact_32 rfl (lv_at hl 1 rfl) ?_
          refine lv_aload_n hx hb dX8_enact_33 rfl (lv_at hl 0 rfl) ?_
          refine va_get (D := D) (ci := 8) (v := .ref mp) (C := RX8) (T := TX8) (N := 23) hx hb hts hi8 hown hK hP 0 rfl rfl 10 (by decide) hw4 (fun _ h9 => h9) rfl dX8_enact_34 ?_
          refine lv_iload_n hx hb dX8_enact_37 rfl (lv_at hl 1 rfl) ?_
          refine iald_n (k := k) hx hb hK hP 1 0 rfl rfl (by omega) (by omega) dX8_enact_38 ?_
          refine iast_n (k := k) hx hb hK hP hD hS 2 0 rfl rfl (by omega) (by omega) dX8_enact_39 (fun H locs hP hD hS => ?_)
          have hP : va_P D vwCl [(o, .inr (8, [.int (nI n), .ref me, .ref ml, .ref mb, .int fi, .int (nI sc), .ref mt, .int si, .ref ms, .int (nI sc), .ref mp, .ref my, .ref mc, .int la, .ref mk, .ref mw, .int ah, .int ri, .int lh, .ref mo, .ref mq, .ref mi, .ref mz])), (mp, .inl (cI, 48, .inl fp)), (mt, .inl (cI, 20, .inl (upd (cpyI fs fp k) k (fp k))))] H := hP
          have hD : va_D A [(o, .inr (8, [.int (nI n), .ref me, .ref ml, .ref mb, .int fi, .int (nI sc), .ref mt, .int si, .ref ms, .int (nI sc), .ref mp, .ref my, .ref mc, .int la, .ref mk, .ref mw, .int ah, .int ri, .int lh, .ref mo, .ref mq, .ref mi, .ref mz])), (mp, .inl (cI, 48, .inl fp)), (mt, .inl (cI, 20, .inl (upd (cpyI fs fp k) k (fp k))))] := hD
          refine lv_iinc (v := nI (k + 1)) (lv' := [(1, .int (nI (k + 1))), (0, .ref o)]) hx hb dX8_enact_40 hl (k := 1) rfl (nI_1 k) (by decide) rfl (fun ls hl => ?_)
          refine lv_goto (tgt := 20) hx hb dX8_enact_43 (by decide) ?_
          exact ih20 (k + 1) ((by omega)) (by omega) _ _ hP hD hS _ (lv_sub hl [1, 0] rfl)
    exact L20 _ 0 ((Nat.zero_le _)) (Nat.lt_succ_self _) _ _ hP hD hS _ (lv_sub hl [1, 0] rfl)
  · refine lv_bipush (v := (-5)) hx hb dX8_enact_7 (by decide) ?_
    exact hret ((-5)) ((nl, fs, sc)) _ _ _ _ dX8_enact_9 (Or.inl ⟨_, hfw, FT_ge hfw c4, rfl, rfl⟩) hP hD hS

abbrev rm_X8_hour : Room := { frames := 4, cells := 0, slots := 0, locals := 99 }
set_option maxHeartbeats 4000000 in
set_option maxRecDepth 100000 in
theorem m_hour (l : Launch) (D : va_G) (cI cJ cZ cG cM : ClassId) (o me ml mb mt ms mp my mc mk mw mo mq mi mz : Nat) (fi si sn la ah ri lh : Int32) (n nl : Nat) (fe fb cm fk fs fl : Nat → Int32) (hV : VL fs nl) (h1 : 1 ≤ n) (h6 : n ≤ 6) (x w : Int32) :
    CI l yX8_hour wsX8_hour rm_X8_hour D [(cI, .int), (cJ, .long), (cZ, .boolean), (cG, .object "LatestSets$Guild"), (cM, .array .int)] [(o, .inr (8, [.int (nI n), .ref me, .ref ml, .ref mb, .int fi, .int (nI nl), .ref mt, .int si, .ref ms, .int sn, .ref mp, .ref my, .ref mc, .int la, .ref mk, .ref mw, .int ah, .int ri, .int lh, .ref mo, .ref mq, .ref mi, .ref mz])), (me, .inl (cI, 6, .inl fe)), (my, .inl (cI, 6, .inl fb)), (mc, .inl (cI, 6, .inl cm)), (mk, .inl (cI, 24, .inl fk)), (mt, .inl (cI, 20, .inl fs)), (ml, .inl (cI, 6, .inl fl))] [.ref o, .int x, .int w] (S := (Int32 × (Nat → Int32) × (Nat → Int32) × (Nat → Int32))) (fun r u => r = (if (nI 0 ≤ x ∧ x ≤ nI 23) ∧ (nI 0 ≤ w ∧ w ≤ nI 99) then itH (nxG fs nl n fe fl (nI 0)) w.toNatClampNeg x else (-2))) (fun u => [(o, .inr (8, [.int (nI n), .ref me, .ref ml, .ref mb, .int fi, .int (nI nl), .ref mt, .int si, .ref ms, .int sn, .ref mp, .ref my, .ref mc, .int u.1, .ref mk, .ref mw, .int ah, .int ri, .int lh, .ref mo, .ref mq, .ref mi, .ref mz])), (me, .inl (cI, 6, .inl fe)), (my, .inl (cI, 6, .inl u.2.1)), (mc, .inl (cI, 6, .inl u.2.2.1)), (mk, .inl (cI, 24, .inl u.2.2.2)), (mt, .inl (cI, 20, .inl fs)), (ml, .inl (cI, 6, .inl fl))]) := by
  refine si_of (cc := cX8_hour) (maxL := 3) (by decide) rfl (Nat.le_of_ble_eq_true rfl) ?_
  intro p e s m args below meth c A ls Q E hret
  obtain ⟨hx, hb, -, hml, hown, hts, -, hin, hA, hK, hP, hD, hS, hl, hN⟩ := E
  have hown : s.vm.findClass RX8 = some m.cls := hown
  have hl : lv_has ls 3 [(0, .ref o), (1, .int x), (2, .int w)] := hl
  have SF : CallFix p m c cX8_hour 3 s args wsX8_hour RX8 := ⟨hx, hb, hml, hown, hts⟩
  refine lv_iload_n hx hb dX8_hour_0 rfl (lv_at hl 1 rfl) ?_
  refine cal_i (run_S (As := [.int x]) (rest := []) SF (c_isHour8 l D cI cJ cZ cG cM x) (va_cwS 1 hts gX8_hour_X8_isHour rfl rfl rfl (by decide +kernel) ⟨Nat.le_of_ble_eq_true rfl, Nat.le_of_ble_eq_true rfl⟩) hN hK hP hD [] rfl (by decide) rfl hl.1 rfl (Nat.le_of_ble_eq_true rfl) dX8_hour_1 ⟨Nat.le_of_ble_eq_true rfl, Nat.le_of_ble_eq_true rfl⟩) ⟨rfl, rfl⟩ hP hD hS hA [] rfl (fun _ => rfl) (fun r1 _ H locs hw hP hD hS => ?_)
  have hP : va_P D vwCl [(o, .inr (8, [.int (nI n), .ref me, .ref ml, .ref mb, .int fi, .int (nI nl), .ref mt, .int si, .ref ms, .int sn, .ref mp, .ref my, .ref mc, .int la, .ref mk, .ref mw, .int ah, .int ri, .int lh, .ref mo, .ref mq, .ref mi, .ref mz])), (me, .inl (cI, 6, .inl fe)), (my, .inl (cI, 6, .inl fb)), (mc, .inl (cI, 6, .inl cm)), (mk, .inl (cI, 24, .inl fk)), (mt, .inl (cI, 20, .inl fs)), (ml, .inl (cI, 6, .inl fl))] H := hP
  have hD : va_D A [(o, .inr (8, [.int (nI n), .ref me, .ref ml, .ref mb, .int fi, .int (nI nl), .ref mt, .int si, .ref ms, .int sn, .ref mp, .ref my, .ref mc, .int la, .ref mk, .ref mw, .int ah, .int ri, .int lh, .ref mo, .ref mq, .ref mi, .ref mz])), (me, .inl (cI, 6, .inl fe)), (my, .inl (cI, 6, .inl fb)), (mc, .inl (cI, 6, .inl cm)), (mk, .inl (cI, 24, .inl fk)), (mt, .inl (cI, 20, .inl fs)), (ml, .inl (cI, 6, .inl fl))] := hD
  rcases hw with ⟨b1, rfl⟩ | ⟨b1, rfl⟩
  · refine lv_if_eq (tgt := 17) hx hb dX8_hour_4 (by decide) (fun c9 => absurd c9 (by decide)) (fun _ => ?_)
    refine lv_iload_n hx hb dX8_hour_7 rfl (lv_at hl 2 rfl) ?_
    refine lv_iconst (v := nI 0) hx hb dX8_hour_8 (by decide) ?_
    refine lv_bipush (v := nI 99) hx hb dX8_hour_9 (by decide) ?_
    refine cal_i (run_S (As := [.int w, .int (nI 0), .int (nI 99)]) (rest := []) SF (c_in8 l D cI cJ cZ cG cM w (nI 0) (nI 99)) (va_cwS 3 hts gX8_hour_X8_in rfl rfl rfl (by decide +kernel) ⟨Nat.le_of_ble_eq_true rfl, Nat.le_of_ble_eq_true rfl⟩) hN hK hP hD [] rfl (by decide) rfl hl.1 rfl (Nat.le_of_ble_eq_true rfl) dX8_hour_11 ⟨Nat.le_of_ble_eq_true rfl, Nat.le_of_ble_eq_true rfl⟩) ⟨rfl, rfl⟩ hP hD hS hA [] rfl (fun _ => rfl) (fun r11 _ H locs hw hP hD hS => ?_)
    have hP : va_P D vwCl [(o, .inr (8, [.int (nI n), .ref me, .ref ml, .ref mb, .int fi, .int (nI nl), .ref mt, .int si, .ref ms, .int sn, .ref mp, .ref my, .ref mc, .int la, .ref mk, .ref mw, .int ah, .int ri, .int lh, .ref mo, .ref mq, .ref mi, .ref mz])), (me, .inl (cI, 6, .inl fe)), (my, .inl (cI, 6, .inl fb)), (mc, .inl (cI, 6, .inl cm)), (mk, .inl (cI, 24, .inl fk)), (mt, .inl (cI, 20, .inl fs)), (ml, .inl (cI, 6, .inl fl))] H := hP
    have hD : va_D A [(o, .inr (8, [.int (nI n), .ref me, .ref ml, .ref mb, .int fi, .int (nI nl), .ref mt, .int si, .ref ms, .int sn, .ref mp, .ref my, .ref mc, .int la, .ref mk, .ref mw, .int ah, .int ri, .int lh, .ref mo, .ref mq, .ref mi, .ref mz])), (me, .inl (cI, 6, .inl fe)), (my, .inl (cI, 6, .inl fb)), (mc, .inl (cI, 6, .inl cm)), (mk, .inl (cI, 24, .inl fk)), (mt, .inl (cI, 20, .inl fs)), (ml, .inl (cI, 6, .inl fl))] := hD
    rcases hw with ⟨b11, rfl⟩ | ⟨b11, rfl⟩
    · obtain ⟨kw, k1kw, k2kw, rfl⟩ := nI_rng (by omega) (by omega) b11.1 b11.2
      refine lv_if_ne (tgt := 20) hx hb dX8_hour_14 (by decide) (fun _ => ?_) (fun c9 => absurd c9 (by decide))
      refine lv_aload_n hx hb dX8_hour_20 rfl (lv_at hl 0 rfl) ?_
      refine cal_v (run_V (As := []) (rest := []) SF (c_asTold l D cI cJ cZ cG cM o me ml mb mt ms mp my mc mk mw mo mq mi mz fi si sn la ah ri lh n nl fl fb) (cwV 0 hts gX8_hour_X8_asTold rfl rfl rfl (by decide +kernel) ⟨Nat.le_of_ble_eq_true rfl, Nat.le_of_ble_eq_true rfl⟩) hN hK hP hD [0, 6, 2] rfl (by decide) 8 0 rfl rfl rfl rfl hl.1 rfl (Nat.le_of_ble_eq_true rfl) dX8_hour_21 ⟨Nat.le_of_ble_eq_true rfl, Nat.le_of_ble_eq_true rfl⟩) ⟨rfl, rfl⟩ hP hD hS hA [0, 6, 2] rfl (fun _ => rfl) (fun u21 H locs hw hP hD hS => ?_)
      have hP : va_P D vwCl [(o, .inr (8, [.int (nI n), .ref me, .ref ml, .ref mb, .int fi, .int (nI nl), .ref mt, .int si, .ref ms, .int sn, .ref mp, .ref my, .ref mc, .int (nI 0), .ref mk, .ref mw, .int ah, .int ri, .int lh, .ref mo, .ref mq, .ref mi, .ref mz])), (me, .inl (cI, 6, .inl fe)), (my, .inl (cI, 6, .inl u21)), (mc, .inl (cI, 6, .inl cm)), (mk, .inl (cI, 24, .inl fk)), (mt, .inl (cI, 20, .inl fs)), (ml, .inl (cI, 6, .inl fl))] H := hP
      have hD : va_D A [(o, .inr (8, [.int (nI n), .ref me, .ref ml, .ref mb, .int fi, .int (nI nl), .ref mt, .int si, .ref ms, .int sn, .ref mp, .ref my, .ref mc, .int (nI 0), .ref mk, .ref mw, .int ah, .int ri, .int lh, .ref mo, .ref mq, .ref mi, .ref mz])), (me, .inl (cI, 6, .inl fe)), (my, .inl (cI, 6, .inl u21)), (mc, .inl (cI, 6, .inl cm)), (mk, .inl (cI, 24, .inl fk)), (mt, .inl (cI, 20, .inl fs)), (ml, .inl (cI, 6, .inl fl))] := hD
      have hT := hw
      refine lv_aload_n hx hb dX8_hour_24 rfl (lv_at hl 0 rfl) ?_
      refine lv_iload_n hx hb dX8_hour_25 rfl (lv_at hl 1 rfl) ?_
      refine lv_iload_n hx hb dX8_hour_26 rfl (lv_at hl 2 rfl) ?_
      refine cal_i (run_V (As := [.int x, .int (nI kw)]) (rest := []) SF (c_hourOf l D cI cJ cZ cG cM o me ml mb mt ms mp my mc mk mw mo mq mi mz fi si sn (nI 0) ah ri lh n nl x kw fe u21 cm fk fs hV h1 h6 (by omega)) (cwV 2 hts gX8_hour_X8_hourOf rfl rfl rfl (by decide +kernel) ⟨Nat.le_of_ble_eq_true rfl, Nat.le_of_ble_eq_true rfl⟩) hN hK hP hD [0, 1, 2, 3, 4, 5] rfl (by decide) 8 0 rfl rfl rfl rfl hl.1 rfl (Nat.le_of_ble_eq_true rfl) dX8_hour_27 ⟨Nat.le_of_ble_eq_true rfl, Nat.le_of_ble_eq_true rfl⟩) ⟨rfl, rfl⟩ hP hD hS hA [0, 1, 2, 3, 4, 5] rfl (fun _ => rfl) (fun r27 u27 H locs hw hP hD hS => ?_)
      have hP : va_P D vwCl [(o, .inr (8, [.int (nI n), .ref me, .ref ml, .ref mb, .int fi, .int (nI nl), .ref mt, .int si, .ref ms, .int sn, .ref mp, .ref my, .ref mc, .int (nI 0), .ref mk, .ref mw, .int ah, .int ri, .int lh, .ref mo, .ref mq, .ref mi, .ref mz])), (me, .inl (cI, 6, .inl fe)), (my, .inl (cI, 6, .inl u21)), (mc, .inl (cI, 6, .inl u27.1)), (mk, .inl (cI, 24, .inl u27.2)), (mt, .inl (cI, 20, .inl fs)), (ml, .inl (cI, 6, .inl fl))] H := hP
      have hD : va_D A [(o, .inr (8, [.int (nI n), .ref me, .ref ml, .ref mb, .int fi, .int (nI nl), .ref mt, .int si, .ref ms, .int sn, .ref mp, .ref my, .ref mc, .int (nI 0), .ref mk, .ref mw, .int ah, .int ri, .int lh, .ref mo, .ref mq, .ref mi, .ref mz])), (me, .inl (cI, 6, .inl fe)), (my, .inl (cI, 6, .inl u21)), (mc, .inl (cI, 6, .inl u27.1)), (mk, .inl (cI, 24, .inl u27.2)), (mt, .inl (cI, 20, .inl fs)), (ml, .inl (cI, 6, .inl fl))] := hD
      exact hret r27 ((nI 0, u21, u27.1, u27.2)) _ _ _ _ dX8_hour_30 (by rw [if_pos ⟨b1, b11⟩, nI_clamp (by omega), hw, nxG_cong h1 (fun j hj => hT j (by omega))]) hP hD hS
    · refine lv_if_ne (tgt := 20) hx hb dX8_hour_14 (by decide) (fun c9 => absurd c9 (by decide)) (fun _ => ?_)
      refine lv_bipush (v := (-2)) hx hb dX8_hour_17 (by decide) ?_
      exact hret ((-2)) ((la, fb, cm, fk)) _ _ _ _ dX8_hour_19 (by rw [if_neg (fun z => b11 z.2)]) hP hD hS
  · refine lv_if_eq (tgt := 17) hx hb dX8_hour_4 (by decide) (fun _ => ?_) (fun c9 => absurd (by decide) c9)
    refine lv_bipush (v := (-2)) hx hb dX8_hour_17 (by decide) ?_
    exact hret ((-2)) ((la, fb, cm, fk)) _ _ _ _ dX8_hour_19 (by rw [if_neg (fun z => b1 z.1)]) hP hD hS

abbrev rm_X8_comes : Room := { frames := 4, cells := 0, slots := 0, locals := 99 }
set_option maxHeartbeats 4000000 in
set_option maxRecDepth 100000 in
theorem m_comes (l : Launch) (D : va_G) (cI cJ cZ cG cM : ClassId) (o me ml mb mt ms mp my mc mk mw mo mq mi mz : Nat) (fi si sn la ah ri lh : Int32) (n nl : Nat) (fe fb cm fk fs fl : Nat → Int32) (hV : VL fs nl) (h1 : 1 ≤ n) (h6 : n ≤ 6) (m9 x w : Int32) :
    CI l yX8_comes wsX8_comes rm_X8_comes D [(cI, .int), (cJ, .long), (cZ, .boolean), (cG, .object "LatestSets$Guild"), (cM, .array .int)] [(o, .inr (8, [.int (nI n), .ref me, .ref ml, .ref mb, .int fi, .int (nI nl), .ref mt, .int si, .ref ms, .int sn, .ref mp, .ref my, .ref mc, .int la, .ref mk, .ref mw, .int ah, .int ri, .int lh, .ref mo, .ref mq, .ref mi, .ref mz])), (me, .inl (cI, 6, .inl fe)), (my, .inl (cI, 6, .inl fb)), (mc, .inl (cI, 6, .inl cm)), (mk, .inl (cI, 24, .inl fk)), (mt, .inl (cI, 20, .inl fs)), (ml, .inl (cI, 6, .inl fl))] [.ref o, .int m9, .int x, .int w] (S := (Int32 × (Nat → Int32) × (Nat → Int32) × (Nat → Int32))) (fun r u => r = (if nI 0 ≤ m9 ∧ m9 < nI n then (if (nI 0 ≤ x ∧ x ≤ nI 23) ∧ (nI 0 ≤ w ∧ w ≤ nI 99) then cmB (itH (nxG fs nl n fe fl (nI 0)) w.toNatClampNeg x) (fe m9.toNatClampNeg) (nI 0) (fl m9.toNatClampNeg) else (-2)) else (-1))) (fun u => [(o, .inr (8, [.int (nI n), .ref me, .ref ml, .ref mb, .int fi, .int (nI nl), .ref mt, .int si, .ref ms, .int sn, .ref mp, .ref my, .ref mc, .int u.1, .ref mk, .ref mw, .int ah, .int ri, .int lh, .ref mo, .ref mq, .ref mi, .ref mz])), (me, .inl (cI, 6, .inl fe)), (my, .inl (cI, 6, .inl u.2.1)), (mc, .inl (cI, 6, .inl u.2.2.1)), (mk, .inl (cI, 24, .inl u.2.2.2)), (mt, .inl (cI, 20, .inl fs)), (ml, .inl (cI, 6, .inl fl))]) := by
  refine si_of (cc := cX8_comes) (maxL := 4) (by decide) rfl (Nat.le_of_ble_eq_true rfl) ?_
  intro p e s m args below meth c A ls Q E hret
  obtain ⟨hx, hb, -, hml, hown, hts, -, hin, hA, hK, hP, hD, hS, hl, hN⟩ := E
  have hown : s.vm.findClass RX8 = some m.cls := hown
  have hl : lv_has ls 4 [(0, .ref o), (1, .int m9), (2, .int x), (3, .int w)] := hl
  have SF : CallFix p m c cX8_comes 4 s args wsX8_comes RX8 := ⟨hx, hb, hml, hown, hts⟩
  refine lv_aload_n hx hb dX8_comes_0 rfl (lv_at hl 0 rfl) ?_
  refine lv_iload_n hx hb dX8_comes_1 rfl (lv_at hl 1 rfl) ?_
  refine cal_i (run_V (As := [.int m9]) (rest := []) SF (c_isMember8 l D cI cJ cZ cG cM o me ml mb mt ms mp my mc mk mw mo mq mi mz fi si sn la ah ri lh n nl m9 h1 h6) (cwV 1 hts gX8_comes_X8_isMember rfl rfl rfl (by decide +kernel) ⟨Nat.le_of_ble_eq_true rfl, Nat.le_of_ble_eq_true rfl⟩) hN hK hP hD [0] rfl (by decide) 8 0 rfl rfl rfl rfl hl.1 rfl (Nat.le_of_ble_eq_true rfl) dX8_comes_2 ⟨Nat.le_of_ble_eq_true rfl, Nat.le_of_ble_eq_true rfl⟩) ⟨rfl, rfl⟩ hP hD hS hA [0] rfl (fun _ => rfl) (fun r2 _ H locs hw hP hD hS => ?_)
  have hP : va_P D vwCl [(o, .inr (8, [.int (nI n), .ref me, .ref ml, .ref mb, .int fi, .int (nI nl), .ref mt, .int si, .ref ms, .int sn, .ref mp, .ref my, .ref mc, .int la, .ref mk, .ref mw, .int ah, .int ri, .int lh, .ref mo, .ref mq, .ref mi, .ref mz])), (me, .inl (cI, 6, .inl fe)), (my, .inl (cI, 6, .inl fb)), (mc, .inl (cI, 6, .inl cm)), (mk, .inl (cI, 24, .inl fk)), (mt, .inl (cI, 20, .inl fs)), (ml, .inl (cI, 6, .inl fl))] H := hP
  have hD : va_D A [(o, .inr (8, [.int (nI n), .ref me, .ref ml, .ref mb, .int fi, .int (nI nl), .ref mt, .int si, .ref ms, .int sn, .ref mp, .ref my, .ref mc, .int la, .ref mk, .ref mw, .int ah, .int ri, .int lh, .ref mo, .ref mq, .ref mi, .ref mz])), (me, .inl (cI, 6, .inl fe)), (my, .inl (cI, 6, .inl fb)), (mc, .inl (cI, 6, .inl cm)), (mk, .inl (cI, 24, .inl fk)), (mt, .inl (cI, 20, .inl fs)), (ml, .inl (cI, 6, .inl fl))] := hD
  rcases hw with ⟨b2, rfl⟩ | ⟨b2, rfl⟩
  · obtain ⟨km, k2km, rfl⟩ := nI_rngL (by omega) b2.1 b2.2
    refine lv_if_ne (tgt := 10) hx hb dX8_comes_5 (by decide) (fun _ => ?_) (fun c9 => absurd c9 (by decide))
    refine lv_iload_n hx hb dX8_comes_10 rfl (lv_at hl 2 rfl) ?_
    refine cal_i (run_S (As := [.int x]) (rest := []) SF (c_isHour8 l D cI cJ cZ cG cM x) (va_cwS 1 hts gX8_comes_X8_isHour rfl rfl rfl (by decide +kernel) ⟨Nat.le_of_ble_eq_true rfl, Nat.le_of_ble_eq_true rfl⟩) hN hK hP hD [] rfl (by decide) rfl hl.1 rfl (Nat.le_of_ble_eq_true rfl) dX8_comes_11 ⟨Nat.le_of_ble_eq_true rfl, Nat.le_of_ble_eq_true rfl⟩) ⟨rfl, rfl⟩ hP hD hS hA [] rfl (fun _ => rfl) (fun r11 _ H locs hw hP hD hS => ?_)
    have hP : va_P D vwCl [(o, .inr (8, [.int (nI n), .ref me, .ref ml, .ref mb, .int fi, .int (nI nl), .ref mt, .int si, .ref ms, .int sn, .ref mp, .ref my, .ref mc, .int la, .ref mk, .ref mw, .int ah, .int ri, .int lh, .ref mo, .ref mq, .ref mi, .ref mz])), (me, .inl (cI, 6, .inl fe)), (my, .inl (cI, 6, .inl fb)), (mc, .inl (cI, 6, .inl cm)), (mk, .inl (cI, 24, .inl fk)), (mt, .inl (cI, 20, .inl fs)), (ml, .inl (cI, 6, .inl fl))] H := hP
    have hD : va_D A [(o, .inr (8, [.int (nI n), .ref me, .ref ml, .ref mb, .int fi, .int (nI nl), .ref mt, .int si, .ref ms, .int sn, .ref mp, .ref my, .ref mc, .int la, .ref mk, .ref mw, .int ah, .int ri, .int lh, .ref mo, .ref mq, .ref mi, .ref mz])), (me, .inl (cI, 6, .inl fe)), (my, .inl (cI, 6, .inl fb)), (mc, .inl (cI, 6, .inl cm)), (mk, .inl (cI, 24, .inl fk)), (mt, .inl (cI, 20, .inl fs)), (ml, .inl (cI, 6, .inl fl))] := hD
    rcases hw with ⟨b11, rfl⟩ | ⟨b11, rfl⟩
    · refine lv_if_eq (tgt := 27) hx hb dX8_comes_14 (by decide) (fun c9 => absurd c9 (by decide)) (fun _ => ?_)
      refine lv_iload_n hx hb dX8_comes_17 rfl (lv_at hl 3 rfl) ?_
      refine lv_iconst (v := nI 0) hx hb dX8_comes_18 (by decide) ?_
      refine lv_bipush (v := nI 99) hx hb dX8_comes_19 (by decide) ?_
      refine cal_i (run_S (As := [.int w, .int (nI 0), .int (nI 99)]) (rest := []) SF (c_in8 l D cI cJ cZ cG cM w (nI 0) (nI 99)) (va_cwS 3 hts gX8_comes_X8_in rfl rfl rfl (by decide +kernel) ⟨Nat.le_of_ble_eq_true rfl, Nat.le_of_ble_eq_true rfl⟩) hN hK hP hD [] rfl (by decide) rfl hl.1 rfl (Nat.le_of_ble_eq_true rfl) dX8_comes_21 ⟨Nat.le_of_ble_eq_true rfl, Nat.le_of_ble_eq_true rfl⟩) ⟨rfl, rfl⟩ hP hD hS hA [] rfl (fun _ => rfl) (fun r21 _ H locs hw hP hD hS => ?_)
      have hP : va_P D vwCl [(o, .inr (8, [.int (nI n), .ref me, .ref ml, .ref mb, .int fi, .int (nI nl), .ref mt, .int si, .ref ms, .int sn, .ref mp, .ref my, .ref mc, .int la, .ref mk, .ref mw, .int ah, .int ri, .int lh, .ref mo, .ref mq, .ref mi, .ref mz])), (me, .inl (cI, 6, .inl fe)), (my, .inl (cI, 6, .inl fb)), (mc, .inl (cI, 6, .inl cm)), (mk, .inl (cI, 24, .inl fk)), (mt, .inl (cI, 20, .inl fs)), (ml, .inl (cI, 6, .inl fl))] H := hP
      have hD : va_D A [(o, .inr (8, [.int (nI n), .ref me, .ref ml, .ref mb, .int fi, .int (nI nl), .ref mt, .int si, .ref ms, .int sn, .ref mp, .ref my, .ref mc, .int la, .ref mk, .ref mw, .int ah, .int ri, .int lh, .ref mo, .ref mq, .ref mi, .ref mz])), (me, .inl (cI, 6, .inl fe)), (my, .inl (cI, 6, .inl fb)), (mc, .inl (cI, 6, .inl cm)), (mk, .inl (cI, 24, .inl fk)), (mt, .inl (cI, 20, .inl fs)), (ml, .inl (cI, 6, .inl fl))] := hD
      rcases hw with ⟨b21, rfl⟩ | ⟨b21, rfl⟩
      · obtain ⟨kw, k1kw, k2kw, rfl⟩ := nI_rng (by omega) (by omega) b21.1 b21.2
        refine lv_if_ne (tgt := 30) hx hb dX8_comes_24 (by decide) (fun _ => ?_) (fun c9 => absurd c9 (by decide))
        refine lv_aload_n hx hb dX8_comes_30 rfl (lv_at hl 0 rfl) ?_
        refine cal_v (run_V (As := []) (rest := []) SF (c_asTold l D cI cJ cZ cG cM o me ml mb mt ms mp my mc mk mw mo mq mi mz fi si sn la ah ri lh n nl fl fb) (cwV 0 hts gX8_comes_X8_asTold rfl rfl rfl (by decide +kernel) ⟨Nat.le_of_ble_eq_true rfl, Nat.le_of_ble_eq_true rfl⟩) hN hK hP hD [0, 6, 2] rfl (by decide) 8 0 rfl rfl rfl rfl hl.1 rfl (Nat.le_of_ble_eq_true rfl) dX8_comes_31 ⟨Nat.le_of_ble_eq_true rfl, Nat.le_of_ble_eq_true rfl⟩) ⟨rfl, rfl⟩ hP hD hS hA [0, 6, 2] rfl (fun _ => rfl) (fun u31 H locs hw hP hD hS => ?_)
        have hP : va_P D vwCl [(o, .inr (8, [.int (nI n), .ref me, .ref ml, .ref mb, .int fi, .int (nI nl), .ref mt, .int si, .ref ms, .int sn, .ref mp, .ref my, .ref mc, .int (nI 0), .ref mk, .ref mw, .int ah, .int ri, .int lh, .ref mo, .ref mq, .ref mi, .ref mz])), (me, .inl (cI, 6, .inl fe)), (my, .inl (cI, 6, .inl u31)), (mc, .inl (cI, 6, .inl cm)), (mk, .inl (cI, 24, .inl fk)), (mt, .inl (cI, 20, .inl fs)), (ml, .inl (cI, 6, .inl fl))] H := hP
        have hD : va_D A [(o, .inr (8, [.int (nI n), .ref me, .ref ml, .ref mb, .int fi, .int (nI nl), .ref mt, .int si, .ref ms, .int sn, .ref mp, .ref my, .ref mc, .int (nI 0), .ref mk, .ref mw, .int ah, .int ri, .int lh, .ref mo, .ref mq, .ref mi, .ref mz])), (me, .inl (cI, 6, .inl fe)), (my, .inl (cI, 6, .inl u31)), (mc, .inl (cI, 6, .inl cm)), (mk, .inl (cI, 24, .inl fk)), (mt, .inl (cI, 20, .inl fs)), (ml, .inl (cI, 6, .inl fl))] := hD
        have hT := hw
        refine lv_aload_n hx hb dX8_comes_34 rfl (lv_at hl 0 rfl) ?_
        refine lv_iload_n hx hb dX8_comes_35 rfl (lv_at hl 1 rfl) ?_
        refine lv_aload_n hx hb dX8_comes_36 rfl (lv_at hl 0 rfl) ?_
        refine lv_iload_n hx hb dX8_comes_37 rfl (lv_at hl 2 rfl) ?_
        refine lv_iload_n hx hb dX8_comes_38 rfl (lv_at hl 3 rfl) ?_
        refine cal_i (run_V (As := [.int x, .int (nI kw)]) (rest := [.int (nI km), .ref o]) SF (c_hourOf l D cI cJ cZ cG cM o me ml mb mt ms mp my mc mk mw mo mq mi mz fi si sn (nI 0) ah ri lh n nl x kw fe u31 cm fk fs hV h1 h6 (by omega)) (cwV 2 hts gX8_comes_X8_hourOf rfl rfl rfl (by decide +kernel) ⟨Nat.le_of_ble_eq_true rfl, Nat.le_of_ble_eq_true rfl⟩) hN hK hP hD [0, 1, 2, 3, 4, 5] rfl (by decide) 8 0 rfl rfl rfl rfl hl.1 rfl (Nat.le_of_ble_eq_true rfl) dX8_comes_39 ⟨Nat.le_of_ble_eq_true rfl, Nat.le_of_ble_eq_true rfl⟩) ⟨rfl, rfl⟩ hP hD hS hA [0, 1, 2, 3, 4, 5] rfl (fun _ => rfl) (fun r39 u39 H locs hw hP hD hS => ?_)
        have hP : va_P D vwCl [(o, .inr (8, [.int (nI n), .ref me, .ref ml, .ref mb, .int fi, .int (nI nl), .ref mt, .int si, .ref ms, .int sn, .ref mp, .ref my, .ref mc, .int (nI 0), .ref mk, .ref mw, .int ah, .int ri, .int lh, .ref mo, .ref mq, .ref mi, .ref mz])), (me, .inl (cI, 6, .inl fe)), (my, .inl (cI, 6, .inl u31)), (mc, .inl (cI, 6, .inl u39.1)), (mk, .inl (cI, 24, .inl u39.2)), (mt, .inl (cI, 20, .inl fs)), (ml, .inl (cI, 6, .inl fl))] H := hP
        have hD : va_D A [(o, .inr (8, [.int (nI n), .ref me, .ref ml, .ref mb, .int fi, .int (nI nl), .ref mt, .int si, .ref ms, .int sn, .ref mp, .ref my, .ref mc, .int (nI 0), .ref mk, .ref mw, .int ah, .int ri, .int lh, .ref mo, .ref mq, .ref mi, .ref mz])), (me, .inl (cI, 6, .inl fe)), (my, .inl (cI, 6, .inl u31)), (mc, .inl (cI, 6, .inl u39.1)), (mk, .inl (cI, 24, .inl u39.2)), (mt, .inl (cI, 20, .inl fs)), (ml, .inl (cI, 6, .inl fl))] := hD
        have h39 := hw
        refine cal_i (run_V (As := [.int (nI km), .int r39]) (rest := []) SF (c_comesAt l D cI cJ cZ cG cM o me ml mb mt ms mp my mc mk mw mo mq mi mz fi si sn (nI 0) ah ri lh n nl km r39 fe u31 (by omega)) (cwV 2 hts gX8_comes_X8_comesAt rfl rfl rfl (by decide +kernel) ⟨Nat.le_of_ble_eq_true rfl, Nat.le_of_ble_eq_true rfl⟩) hN hK hP hD [0, 1, 2] rfl (by decide) 8 0 rfl rfl rfl rfl hl.1 rfl (Nat.le_of_ble_eq_true rfl) dX8_comes_42 ⟨Nat.le_of_ble_eq_true rfl, Nat.le_of_ble_eq_true rfl⟩) ⟨rfl, rfl⟩ hP hD hS hA [0, 1, 2] rfl (fun _ => rfl) (fun r42 _ H locs hw hP hD hS => ?_)
        have hP : va_P D vwCl [(o, .inr (8, [.int (nI n), .ref me, .ref ml, .ref mb, .int fi, .int (nI nl), .ref mt, .int si, .ref ms, .int sn, .ref mp, .ref my, .ref mc, .int (nI 0), .ref mk, .ref mw, .int ah, .int ri, .int lh, .ref mo, .ref mq, .ref mi, .ref mz])), (me, .inl (cI, 6, .inl fe)), (my, .inl (cI, 6, .inl u31)), (mc, .inl (cI, 6, .inl u39.1)), (mk, .inl (cI, 24, .inl u39.2)), (mt, .inl (cI, 20, .inl fs)), (ml, .inl (cI, 6, .inl fl))] H := hP
        have hD : va_D A [(o, .inr (8, [.int (nI n), .ref me, .ref ml, .ref mb, .int fi, .int (nI nl), .ref mt, .int si, .ref ms, .int sn, .ref mp, .ref my, .ref mc, .int (nI 0), .ref mk, .ref mw, .int ah, .int ri, .int lh, .ref mo, .ref mq, .ref mi, .ref mz])), (me, .inl (cI, 6, .inl fe)), (my, .inl (cI, 6, .inl u31)), (mc, .inl (cI, 6, .inl u39.1)), (mk, .inl (cI, 24, .inl u39.2)), (mt, .inl (cI, 20, .inl fs)), (ml, .inl (cI, 6, .inl fl))] := hD
        exact hret r42 ((nI 0, u31, u39.1, u39.2)) _ _ _ _ dX8_comes_45 (by rw [if_pos b2, if_pos ⟨b11, b21⟩, nI_clamp (by omega), nI_clamp (by omega), hw, hT km (by omega), h39, nxG_cong h1 (fun j hj => hT j (by omega))]) hP hD hS
      · refine lv_if_ne (tgt := 30) hx hb dX8_comes_24 (by decide) (fun c9 => absurd c9 (by decide)) (fun _ => ?_)
        refine lv_bipush (v := (-2)) hx hb dX8_comes_27 (by decide) ?_
        exact hret ((-2)) ((la, fb, cm, fk)) _ _ _ _ dX8_comes_29 (by rw [if_pos b2, if_neg (fun z => b21 z.2)]) hP hD hS
    · refine lv_if_eq (tgt := 27) hx hb dX8_comes_14 (by decide) (fun _ => ?_) (fun c9 => absurd (by decide) c9)
      refine lv_bipush (v := (-2)) hx hb dX8_comes_27 (by decide) ?_
      exact hret ((-2)) ((la, fb, cm, fk)) _ _ _ _ dX8_comes_29 (by rw [if_pos b2, if_neg (fun z => b11 z.1)]) hP hD hS
  · refine lv_if_ne (tgt := 10) hx hb dX8_comes_5 (by decide) (fun c9 => absurd c9 (by decide)) (fun _ => ?_)
    refine lv_iconst (v := (-1)) hx hb dX8_comes_8 (by decide) ?_
    exact hret ((-1)) ((la, fb, cm, fk)) _ _ _ _ dX8_comes_9 (by rw [if_neg b2]) hP hD hS

abbrev rm_X8_paid : Room := { frames := 2, cells := 0, slots := 0, locals := 43 }
set_option maxHeartbeats 4000000 in
set_option maxRecDepth 100000 in
theorem m_paid (l : Launch) (D : va_G) (cI cJ cZ cG cM : ClassId) (o me ml mb mt ms mp my mc mk mw mo mq mi mz : Nat) (fi si sn la ah ri lh : Int32) (n nl : Nat) (fl : Nat → Int32) (m9 w : Int32) (h1 : 1 ≤ n) (h6 : n ≤ 6) :
    CI l yX8_paid wsX8_paid rm_X8_paid D [(cI, .int), (cJ, .long), (cZ, .boolean), (cG, .object "LatestSets$Guild"), (cM, .array .int)] [(o, .inr (8, [.int (nI n), .ref me, .ref ml, .ref mb, .int fi, .int (nI nl), .ref mt, .int si, .ref ms, .int sn, .ref mp, .ref my, .ref mc, .int la, .ref mk, .ref mw, .int ah, .int ri, .int lh, .ref mo, .ref mq, .ref mi, .ref mz])), (ml, .inl (cI, 6, .inl fl))] [.ref o, .int m9, .int w] (S := Unit) (fun r u => r = (if nI 0 ≤ m9 ∧ m9 < nI n then (if nI 0 ≤ w ∧ w ≤ nI 99 then fi * fl m9.toNatClampNeg * w else (-2)) else (-1))) (fun u => [(o, .inr (8, [.int (nI n), .ref me, .ref ml, .ref mb, .int fi, .int (nI nl), .ref mt, .int si, .ref ms, .int sn, .ref mp, .ref my, .ref mc, .int la, .ref mk, .ref mw, .int ah, .int ri, .int lh, .ref mo, .ref mq, .ref mi, .ref mz])), (ml, .inl (cI, 6, .inl fl))]) := by
  refine si_of (cc := cX8_paid) (maxL := 3) (by decide) rfl (Nat.le_of_ble_eq_true rfl) ?_
  intro p e s m args below meth c A ls Q E hret
  obtain ⟨hx, hb, -, hml, hown, hts, -, hin, hA, hK, hP, hD, hS, hl, hN⟩ := E
  have hown : s.vm.findClass RX8 = some m.cls := hown
  have hl : lv_has ls 3 [(0, .ref o), (1, .int m9), (2, .int w)] := hl
  have SF : CallFix p m c cX8_paid 3 s args wsX8_paid RX8 := ⟨hx, hb, hml, hown, hts⟩
  have hw0 := hts (.fieldLink RX8 23 "LatestSetsModel" "fine" "I") (by decide +kernel)
  have hi8 : ∀ x ∈ wsX80, x ∈ wsX8_paid := by decide +kernel
  have hw2 := hts (.fieldLink RX8 17 "LatestSetsModel" "late" "[I") (by decide +kernel)
  refine lv_aload_n hx hb dX8_paid_0 rfl (lv_at hl 0 rfl) ?_
  refine lv_iload_n hx hb dX8_paid_1 rfl (lv_at hl 1 rfl) ?_
  refine cal_i (run_V (As := [.int m9]) (rest := []) SF (c_isMember8 l D cI cJ cZ cG cM o me ml mb mt ms mp my mc mk mw mo mq mi mz fi si sn la ah ri lh n nl m9 h1 h6) (cwV 1 hts gX8_paid_X8_isMember rfl rfl rfl (by decide +kernel) ⟨Nat.le_of_ble_eq_true rfl, Nat.le_of_ble_eq_true rfl⟩) hN hK hP hD [0] rfl (by decide) 8 0 rfl rfl rfl rfl hl.1 rfl (Nat.le_of_ble_eq_true rfl) dX8_paid_2 ⟨Nat.le_of_ble_eq_true rfl, Nat.le_of_ble_eq_true rfl⟩) ⟨rfl, rfl⟩ hP hD hS hA [0] rfl (fun _ => rfl) (fun r2 _ H locs hw hP hD hS => ?_)
  have hP : va_P D vwCl [(o, .inr (8, [.int (nI n), .ref me, .ref ml, .ref mb, .int fi, .int (nI nl), .ref mt, .int si, .ref ms, .int sn, .ref mp, .ref my, .ref mc, .int la, .ref mk, .ref mw, .int ah, .int ri, .int lh, .ref mo, .ref mq, .ref mi, .ref mz])), (ml, .inl (cI, 6, .inl fl))] H := hP
  have hD : va_D A [(o, .inr (8, [.int (nI n), .ref me, .ref ml, .ref mb, .int fi, .int (nI nl), .ref mt, .int si, .ref ms, .int sn, .ref mp, .ref my, .ref mc, .int la, .ref mk, .ref mw, .int ah, .int ri, .int lh, .ref mo, .ref mq, .ref mi, .ref mz])), (ml, .inl (cI, 6, .inl fl))] := hD
  rcases hw with ⟨b2, rfl⟩ | ⟨b2, rfl⟩
  · obtain ⟨km, k2km, rfl⟩ := nI_rngL (by omega) b2.1 b2.2
    refine lv_if_ne (tgt := 10) hx hb dX8_paid_5 (by decide) (fun _ => ?_) (fun c9 => absurd c9 (by decide))
    refine lv_iload_n hx hb dX8_paid_10 rfl (lv_at hl 2 rfl) ?_
    refine lv_iconst (v := nI 0) hx hb dX8_paid_11 (by decide) ?_
    refine lv_bipush (v := nI 99) hx hb dX8_paid_12 (by decide) ?_
    refine cal_i (run_S (As := [.int w, .int (nI 0), .int (nI 99)]) (rest := []) SF (c_in8 l D cI cJ cZ cG cM w (nI 0) (nI 99)) (va_cwS 3 hts gX8_paid_X8_in rfl rfl rfl (by decide +kernel) ⟨Nat.le_of_ble_eq_true rfl, Nat.le_of_ble_eq_true rfl⟩) hN hK hP hD [] rfl (by decide) rfl hl.1 rfl (Nat.le_of_ble_eq_true rfl) dX8_paid_14 ⟨Nat.le_of_ble_eq_true rfl, Nat.le_of_ble_eq_true rfl⟩) ⟨rfl, rfl⟩ hP hD hS hA [] rfl (fun _ => rfl) (fun r14 _ H locs hw hP hD hS => ?_)
    have hP : va_P D vwCl [(o, .inr (8, [.int (nI n), .ref me, .ref ml, .ref mb, .int fi, .int (nI nl), .ref mt, .int si, .ref ms, .int sn, .ref mp, .ref my, .ref mc, .int la, .ref mk, .ref mw, .int ah, .int ri, .int lh, .ref mo, .ref mq, .ref mi, .ref mz])), (ml, .inl (cI, 6, .inl fl))] H := hP
    have hD : va_D A [(o, .inr (8, [.int (nI n), .ref me, .ref ml, .ref mb, .int fi, .int (nI nl), .ref mt, .int si, .ref ms, .int sn, .ref mp, .ref my, .ref mc, .int la, .ref mk, .ref mw, .int ah, .int ri, .int lh, .ref mo, .ref mq, .ref mi, .ref mz])), (ml, .inl (cI, 6, .inl fl))] := hD
    rcases hw with ⟨b14, rfl⟩ | ⟨b14, rfl⟩
    · refine lv_if_eq (tgt := 36) hx hb dX8_paid_17 (by decide) (fun c9 => absurd c9 (by decide)) (fun _ => ?_)
      refine lv_aload_n hx hb dX8_paid_20 rfl (lv_at hl 0 rfl) ?_
      refine va_get (D := D) (ci := 8) (v := .int fi) (C := RX8) (T := TX8) (N := 23) hx hb hts hi8 hown hK hP 0 rfl rfl 4 (by decide) hw0 (fun _ h9 => h9) rfl dX8_paid_21 ?_
      refine lv_aload_n hx hb dX8_paid_24 rfl (lv_at hl 0 rfl) ?_
      refine va_get (D := D) (ci := 8) (v := .ref ml) (C := RX8) (T := TX8) (N := 23) hx hb hts hi8 hown hK hP 0 rfl rfl 2 (by decide) hw2 (fun _ h9 => h9) rfl dX8_paid_25 ?_
      refine lv_iload_n hx hb dX8_paid_28 rfl (lv_at hl 1 rfl) ?_
      refine iald_n (k := km) hx hb hK hP 1 0 rfl rfl (by omega) (by omega) dX8_paid_29 ?_
      refine lv_imul hx hb dX8_paid_30 ?_
      refine lv_iload_n hx hb dX8_paid_31 rfl (lv_at hl 2 rfl) ?_
      refine lv_imul hx hb dX8_paid_32 ?_
      refine lv_goto (tgt := 38) hx hb dX8_paid_33 (by decide) ?_
      exact hret ((fi * (fl km)) * w) (()) _ _ _ _ dX8_paid_38 (by rw [if_pos b2, if_pos b14, nI_clamp (by omega)]) hP hD hS
    · refine lv_if_eq (tgt := 36) hx hb dX8_paid_17 (by decide) (fun _ => ?_) (fun c9 => absurd (by decide) c9)
      refine lv_bipush (v := (-2)) hx hb dX8_paid_36 (by decide) ?_
      exact hret ((-2)) (()) _ _ _ _ dX8_paid_38 (by rw [if_pos b2, if_neg b14]) hP hD hS
  · refine lv_if_ne (tgt := 10) hx hb dX8_paid_5 (by decide) (fun c9 => absurd c9 (by decide)) (fun _ => ?_)
    refine lv_iconst (v := (-1)) hx hb dX8_paid_8 (by decide) ?_
    exact hret ((-1)) (()) _ _ _ _ dX8_paid_9 (by rw [if_neg b2]) hP hD hS

abbrev rm_X8_apart : Room := { frames := 0, cells := 0, slots := 0, locals := 0 }
set_option maxHeartbeats 4000000 in
set_option maxRecDepth 100000 in
theorem c_apart (l : Launch) (D : va_G) (cI cJ cZ cG cM : ClassId) (a b : Int32) :
    CI l yX8_apart wsX8_apart rm_X8_apart D [(cI, .int), (cJ, .long), (cZ, .boolean), (cG, .object "LatestSets$Guild"), (cM, .array .int)] [] [.int a, .int b] (S := Unit) (fun r u => r = apI a b) (fun u => []) := by
  refine si_of (cc := cX8_apart) (maxL := 2) (by decide) rfl (Nat.le_of_ble_eq_true rfl) ?_
  intro p e s m args below meth c A ls Q E hret
  obtain ⟨hx, hb, -, hml, hown, hts, -, hin, hA, hK, hP, hD, hS, hl, hN⟩ := E
  have hown : s.vm.findClass RX8 = some m.cls := hown
  have hl : lv_has ls 2 [(0, .int a), (1, .int b)] := hl
  have SF : CallFix p m c cX8_apart 2 s args wsX8_apart RX8 := ⟨hx, hb, hml, hown, hts⟩
  refine lv_iload_n hx hb dX8_apart_0 rfl (lv_at hl 0 rfl) ?_
  refine lv_iload_n hx hb dX8_apart_1 rfl (lv_at hl 1 rfl) ?_
  refine lv_icmp_le (tgt := 11) hx hb dX8_apart_2 (by decide) (fun c2 => ?_) (fun c2 => ?_)
  · refine lv_iload_n hx hb dX8_apart_11 rfl (lv_at hl 1 rfl) ?_
    refine lv_iload_n hx hb dX8_apart_12 rfl (lv_at hl 0 rfl) ?_
    refine lv_isub hx hb dX8_apart_13 ?_
    exact hret (b - a) (()) _ _ _ _ dX8_apart_14 (by unfold apI; rw [if_pos c2]) hP hD hS
  · refine lv_iload_n hx hb dX8_apart_5 rfl (lv_at hl 0 rfl) ?_
    refine lv_iload_n hx hb dX8_apart_6 rfl (lv_at hl 1 rfl) ?_
    refine lv_isub hx hb dX8_apart_7 ?_
    refine lv_goto (tgt := 14) hx hb dX8_apart_8 (by decide) ?_
    exact hret (a - b) (()) _ _ _ _ dX8_apart_14 (by unfold apI; rw [if_neg c2]) hP hD hS

abbrev rm_X8_contentOf : Room := { frames := 1, cells := 0, slots := 0, locals := 21 }
set_option maxHeartbeats 4000000 in
set_option maxRecDepth 100000 in
theorem c_contentOf (l : Launch) (D : va_G) (cI cJ cZ cG cM : ClassId) (o me ml mb mt ms mp my mc mk mw mo mq mi mz : Nat) (fi si sn la ah ri lh : Int32) (n nl : Nat) (x : Int32) (fb : Nat → Int32) (h6 : n ≤ 6) :
    CI l yX8_contentOf wsX8_contentOf rm_X8_contentOf D [(cI, .int), (cJ, .long), (cZ, .boolean), (cG, .object "LatestSets$Guild"), (cM, .array .int)] [(o, .inr (8, [.int (nI n), .ref me, .ref ml, .ref mb, .int fi, .int (nI nl), .ref mt, .int si, .ref ms, .int sn, .ref mp, .ref my, .ref mc, .int la, .ref mk, .ref mw, .int ah, .int ri, .int lh, .ref mo, .ref mq, .ref mi, .ref mz])), (mb, .inl (cI, 6, .inl fb))] [.ref o, .int x] (S := Unit) (fun r u => r = farT fb x n) (fun u => [(o, .inr (8, [.int (nI n), .ref me, .ref ml, .ref mb, .int fi, .int (nI nl), .ref mt, .int si, .ref ms, .int sn, .ref mp, .ref my, .ref mc, .int la, .ref mk, .ref mw, .int ah, .int ri, .int lh, .ref mo, .ref mq, .ref mi, .ref mz])), (mb, .inl (cI, 6, .inl fb))]) := by
  refine si_of (cc := cX8_contentOf) (maxL := 4) (by decide) rfl (Nat.le_of_ble_eq_true rfl) ?_
  intro p e s m args below meth c A ls Q E hret
  obtain ⟨hx, hb, -, hml, hown, hts, -, hin, hA, hK, hP, hD, hS, hl, hN⟩ := E
  have hown : s.vm.findClass RX8 = some m.cls := hown
  have hl : lv_has ls 4 [(0, .ref o), (1, .int x)] := hl
  have SF : CallFix p m c cX8_contentOf 4 s args wsX8_contentOf RX8 := ⟨hx, hb, hml, hown, hts⟩
  have hw0 := hts (.fieldLink RX8 7 "LatestSetsModel" "members" "I") (by decide +kernel)
  have hi8 : ∀ x ∈ wsX80, x ∈ wsX8_contentOf := by decide +kernel
  have hw2 := hts (.fieldLink RX8 20 "LatestSetsModel" "best" "[I") (by decide +kernel)
  refine lv_iconst (v := nI 0) hx hb dX8_contentOf_0 (by decide) ?_
  refine lv_istore_n (lv' := [(2, .int (nI 0)), (0, .ref o), (1, .int x)]) hx hb dX8_contentOf_1 rfl hl (by decide) rfl (fun ls hl => ?_)
  refine lv_iconst (v := nI 0) hx hb dX8_contentOf_2 (by decide) ?_
  refine lv_istore_n (lv' := [(3, .int (nI 0)), (2, .int (nI 0)), (0, .ref o), (1, .int x)]) hx hb dX8_contentOf_3 rfl hl (by decide) rfl (fun ls hl => ?_)
  have L4 : ∀ (n9 : Nat) (k : Nat) (hk : k ≤ n), n - k < n9 → ∀ (H : Heap) (locs : List Loc), va_P D vwCl [(o, .inr (8, [.int (nI n), .ref me, .ref ml, .ref mb, .int fi, .int (nI nl), .ref mt, .int si, .ref ms, .int sn, .ref mp, .ref my, .ref mc, .int la, .ref mk, .ref mw, .int ah, .int ri, .int lh, .ref mo, .ref mq, .ref mi, .ref mz])), (mb, .inl (cI, 6, .inl fb))] H → va_D A [(o, .inr (8, [.int (nI n), .ref me, .ref ml, .ref mb, .int fi, .int (nI nl), .ref mt, .int si, .ref ms, .int sn, .ref mp, .ref my, .ref mc, .int la, .ref mk, .ref mw, .int ah, .int ri, .int lh, .ref mo, .ref mq, .ref mi, .ref mz])), (mb, .inl (cI, 6, .inl fb))] → va_S A s.heap H locs → ∀ (ls : Array Slot), lv_has ls 4 [(0, .ref o), (1, .int x), (2, .int (farT fb x k)), (3, .int (nI k))] → W p l e rm_X8_contentOf s m args below meth c H locs 0 0 Q (F0 m 4 ls []) := by
    intro n9
    induction n9 with
    | zero => intro k hk hm; exact absurd hm (Nat.not_lt_zero _)
    | succ n9 ih4 =>
      intro k hk hm4 H locs hP hD hS ls hl
      refine lv_iload_n hx hb dX8_contentOf_4 rfl (lv_at hl 3 rfl) ?_
      refine lv_aload_n hx hb dX8_contentOf_5 rfl (lv_at hl 0 rfl) ?_
      refine va_get (D := D) (ci := 8) (v := .int (nI n)) (C := RX8) (T := TX8) (N := 23) hx hb hts hi8 hown hK hP 0 rfl rfl 0 (by decide) hw0 (fun _ h9 => h9) rfl dX8_contentOf_6 ?_
      refine icmp_ge_n (a := k) (b := n) (tgt := 31) hx hb dX8_contentOf_9 (by decide) (by omega) (by omega) (fun c9 => ?_) (fun c9 => ?_)
      · refine lv_iload_n hx hb dX8_contentOf_31 rfl (lv_at hl 2 rfl) ?_
        exact hret (farT fb x k) (()) _ _ _ _ dX8_contentOf_32 (by rw [show k = n by omega]) hP hD hS
      · refine lv_iload_n hx hb dX8_contentOf_12 rfl (lv_at hl 2 rfl) ?_
        refine lv_iload_n hx hb dX8_contentOf_13 rfl (lv_at hl 1 rfl) ?_
        refine lv_aload_n hx hb dX8_contentOf_14 rfl (lv_at hl 0 rfl) ?_
        refine va_get (D := D) (ci := 8) (v := .ref mb) (C := RX8) (T := TX8) (N := 23) hx hb hts hi8 hown hK hP 0 rfl rfl 3 (by decide) hw2 (fun _ h9 => h9) rfl dX8_contentOf_15 ?_
        refine lv_iload_n hx hb dX8_contentOf_18 rfl (lv_at hl 3 rfl) ?_
        refine iald_n (k := k) hx hb hK hP 1 0 rfl rfl (by omega) (by omega) dX8_contentOf_19 ?_
        refine cal_i (run_S (As := [.int x, .int (fb k)]) (rest := [.int (farT fb x k)]) SF (c_apart l D cI cJ cZ cG cM x (fb k)) (va_cwS 2 hts gX8_contentOf_X8_apart rfl rfl rfl (by decide +kernel) ⟨Nat.le_of_ble_eq_true rfl, Nat.le_of_ble_eq_true rfl⟩) hN hK hP hD [] rfl (by decide) rfl hl.1 rfl (Nat.le_of_ble_eq_true rfl) dX8_contentOf_20 ⟨Nat.le_of_ble_eq_true rfl, Nat.le_of_ble_eq_true rfl⟩) ⟨rfl, rfl⟩ hP hD hS hA [] rfl (fun _ => rfl) (fun r20 _ H locs hw hP hD hS => ?_)
        have hP : va_P D vwCl [(o, .inr (8, [.int (nI n), .ref me, .ref ml, .ref mb, .int fi, .int (nI nl), .ref mt, .int si, .ref ms, .int sn, .ref mp, .ref my, .ref mc, .int la, .ref mk, .ref mw, .int ah, .int ri, .int lh, .ref mo, .ref mq, .ref mi, .ref mz])), (mb, .inl (cI, 6, .inl fb))] H := hP
        have hD : va_D A [(o, .inr (8, [.int (nI n), .ref me, .ref ml, .ref mb, .int fi, .int (nI nl), .ref mt, .int si, .ref ms, .int sn, .ref mp, .ref my, .ref mc, .int la, .ref mk, .ref mw, .int ah, .int ri, .int lh, .ref mo, .ref mq, .ref mi, .ref mz])), (mb, .inl (cI, 6, .inl fb))] := hD
        subst hw
        refine lv_iadd hx hb dX8_contentOf_23 ?_
        refine lv_istore_n (lv' := [(2, .int ((farT fb x k) + (apI x (fb k)))), (0, .ref o), (1, .int x), (3, .int (nI k))]) hx hb dX8_contentOf_24 rfl hl (by decide) rfl (fun ls hl => ?_)
        refine lv_iinc (v := nI (k + 1)) (lv' := [(3, .int (nI (k + 1))), (2, .int ((farT fb x k) + (apI x (fb k)))), (0, .ref o), (1, .int x)]) hx hb dX8_contentOf_25 hl (k := 3) rfl (nI_1 k) (by decide) rfl (fun ls hl => ?_)
        refine lv_goto (tgt := 4) hx hb dX8_contentOf_28 (by decide) ?_
        exact ih4 (k + 1) ((by omega)) (by omega) _ _ hP hD hS _ (lv_sub hl [2, 3, 1, 0] rfl)
  exact L4 _ 0 ((Nat.zero_le _)) (Nat.lt_succ_self _) _ _ hP hD hS _ (lv_sub hl [2, 3, 1, 0] rfl)

abbrev rm_X8_content : Room := { frames := 2, cells := 0, slots := 0, locals := 44 }
set_option maxHeartbeats 4000000 in
set_option maxRecDepth 100000 in
theorem m_content (l : Launch) (D : va_G) (cI cJ cZ cG cM : ClassId) (o me ml mb mt ms mp my mc mk mw mo mq mi mz : Nat) (fi si sn la ah ri lh : Int32) (n nl : Nat) (fb : Nat → Int32) (x : Int32) (h6 : n ≤ 6) :
    CI l yX8_content wsX8_content rm_X8_content D [(cI, .int), (cJ, .long), (cZ, .boolean), (cG, .object "LatestSets$Guild"), (cM, .array .int)] [(o, .inr (8, [.int (nI n), .ref me, .ref ml, .ref mb, .int fi, .int (nI nl), .ref mt, .int si, .ref ms, .int sn, .ref mp, .ref my, .ref mc, .int la, .ref mk, .ref mw, .int ah, .int ri, .int lh, .ref mo, .ref mq, .ref mi, .ref mz])), (mb, .inl (cI, 6, .inl fb))] [.ref o, .int x] (S := Unit) (fun r u => r = (if nI 0 ≤ x ∧ x ≤ nI 23 then farT fb x n else (-2))) (fun u => [(o, .inr (8, [.int (nI n), .ref me, .ref ml, .ref mb, .int fi, .int (nI nl), .ref mt, .int si, .ref ms, .int sn, .ref mp, .ref my, .ref mc, .int la, .ref mk, .ref mw, .int ah, .int ri, .int lh, .ref mo, .ref mq, .ref mi, .ref mz])), (mb, .inl (cI, 6, .inl fb))]) := by
  refine si_of (cc := cX8_content) (maxL := 2) (by decide) rfl (Nat.le_of_ble_eq_true rfl) ?_
  intro p e s m args below meth c A ls Q E hret
  obtain ⟨hx, hb, -, hml, hown, hts, -, hin, hA, hK, hP, hD, hS, hl, hN⟩ := E
  have hown : s.vm.findClass RX8 = some m.cls := hown
  have hl : lv_has ls 2 [(0, .ref o), (1, .int x)] := hl
  have SF : CallFix p m c cX8_content 2 s args wsX8_content RX8 := ⟨hx, hb, hml, hown, hts⟩
  refine lv_iload_n hx hb dX8_content_0 rfl (lv_at hl 1 rfl) ?_
  refine cal_i (run_S (As := [.int x]) (rest := []) SF (c_isHour8 l D cI cJ cZ cG cM x) (va_cwS 1 hts gX8_content_X8_isHour rfl rfl rfl (by decide +kernel) ⟨Nat.le_of_ble_eq_true rfl, Nat.le_of_ble_eq_true rfl⟩) hN hK hP hD [] rfl (by decide) rfl hl.1 rfl (Nat.le_of_ble_eq_true rfl) dX8_content_1 ⟨Nat.le_of_ble_eq_true rfl, Nat.le_of_ble_eq_true rfl⟩) ⟨rfl, rfl⟩ hP hD hS hA [] rfl (fun _ => rfl) (fun r1 _ H locs hw hP hD hS => ?_)
  have hP : va_P D vwCl [(o, .inr (8, [.int (nI n), .ref me, .ref ml, .ref mb, .int fi, .int (nI nl), .ref mt, .int si, .ref ms, .int sn, .ref mp, .ref my, .ref mc, .int la, .ref mk, .ref mw, .int ah, .int ri, .int lh, .ref mo, .ref mq, .ref mi, .ref mz])), (mb, .inl (cI, 6, .inl fb))] H := hP
  have hD : va_D A [(o, .inr (8, [.int (nI n), .ref me, .ref ml, .ref mb, .int fi, .int (nI nl), .ref mt, .int si, .ref ms, .int sn, .ref mp, .ref my, .ref mc, .int la, .ref mk, .ref mw, .int ah, .int ri, .int lh, .ref mo, .ref mq, .ref mi, .ref mz])), (mb, .inl (cI, 6, .inl fb))] := hD
  rcases hw with ⟨b1, rfl⟩ | ⟨b1, rfl⟩
  · refine lv_if_eq (tgt := 15) hx hb dX8_content_4 (by decide) (fun c9 => absurd c9 (by decide)) (fun _ => ?_)
    refine lv_aload_n hx hb dX8_content_7 rfl (lv_at hl 0 rfl) ?_
    refine lv_iload_n hx hb dX8_content_8 rfl (lv_at hl 1 rfl) ?_
    refine cal_i (run_V (As := [.int x]) (rest := []) SF (c_contentOf l D cI cJ cZ cG cM o me ml mb mt ms mp my mc mk mw mo mq mi mz fi si sn la ah ri lh n nl x fb h6) (cwV 1 hts gX8_content_X8_contentOf rfl rfl rfl (by decide +kernel) ⟨Nat.le_of_ble_eq_true rfl, Nat.le_of_ble_eq_true rfl⟩) hN hK hP hD [0, 1] rfl (by decide) 8 0 rfl rfl rfl rfl hl.1 rfl (Nat.le_of_ble_eq_true rfl) dX8_content_9 ⟨Nat.le_of_ble_eq_true rfl, Nat.le_of_ble_eq_true rfl⟩) ⟨rfl, rfl⟩ hP hD hS hA [0, 1] rfl (fun _ => rfl) (fun r9 _ H locs hw hP hD hS => ?_)
    have hP : va_P D vwCl [(o, .inr (8, [.int (nI n), .ref me, .ref ml, .ref mb, .int fi, .int (nI nl), .ref mt, .int si, .ref ms, .int sn, .ref mp, .ref my, .ref mc, .int la, .ref mk, .ref mw, .int ah, .int ri, .int lh, .ref mo, .ref mq, .ref mi, .ref mz])), (mb, .inl (cI, 6, .inl fb))] H := hP
    have hD : va_D A [(o, .inr (8, [.int (nI n), .ref me, .ref ml, .ref mb, .int fi, .int (nI nl), .ref mt, .int si, .ref ms, .int sn, .ref mp, .ref my, .ref mc, .int la, .ref mk, .ref mw, .int ah, .int ri, .int lh, .ref mo, .ref mq, .ref mi, .ref mz])), (mb, .inl (cI, 6, .inl fb))] := hD
    refine lv_goto (tgt := 17) hx hb dX8_content_12 (by decide) ?_
    exact hret r9 (()) _ _ _ _ dX8_content_17 (by rw [if_pos b1]; exact hw) hP hD hS
  · refine lv_if_eq (tgt := 15) hx hb dX8_content_4 (by decide) (fun _ => ?_) (fun c9 => absurd (by decide) c9)
    refine lv_bipush (v := (-2)) hx hb dX8_content_15 (by decide) ?_
    exact hret ((-2)) (()) _ _ _ _ dX8_content_17 (by rw [if_neg b1]) hP hD hS

abbrev rm_X8_seen : Room := { frames := 2, cells := 0, slots := 0, locals := 42 }
set_option maxHeartbeats 4000000 in
set_option maxRecDepth 100000 in
theorem m_seen (l : Launch) (D : va_G) (cI cJ cZ cG cM : ClassId) (o me ml mb mt ms mp my mc mk mw mo mq mi mz : Nat) (fi si sn la ah ri lh : Int32) (n nl : Nat) (ns : Nat) (fw : Nat → Int32) (x y : Int32) (hns : ns ≤ 6) :
    CI l yX8_seen wsX8_seen rm_X8_seen D [(cI, .int), (cJ, .long), (cZ, .boolean), (cG, .object "LatestSets$Guild"), (cM, .array .int)] [(o, .inr (8, [.int (nI n), .ref me, .ref ml, .ref mb, .int fi, .int (nI nl), .ref mt, .int (nI ns), .ref ms, .int sn, .ref mp, .ref my, .ref mc, .int la, .ref mk, .ref mw, .int ah, .int ri, .int lh, .ref mo, .ref mq, .ref mi, .ref mz])), (ms, .inl (cI, 12, .inl fw))] [.ref o, .int x, .int y] (S := (Nat × (Nat → Int32))) (fun r u => r = (if (nI 0 ≤ x ∧ x ≤ nI 30) ∧ (nI 0 ≤ y ∧ y ≤ nI 23) then (if ns < 6 then nI (ns + 1) else (-4)) else (-2)) ∧ u = (if ((nI 0 ≤ x ∧ x ≤ nI 30) ∧ (nI 0 ≤ y ∧ y ≤ nI 23)) ∧ ns < 6 then (ns + 1, upd (upd fw (2 * ns) x) (2 * ns + 1) y) else (ns, fw))) (fun u => [(o, .inr (8, [.int (nI n), .ref me, .ref ml, .ref mb, .int fi, .int (nI nl), .ref mt, .int (nI u.1), .ref ms, .int sn, .ref mp, .ref my, .ref mc, .int la, .ref mk, .ref mw, .int ah, .int ri, .int lh, .ref mo, .ref mq, .ref mi, .ref mz])), (ms, .inl (cI, 12, .inl u.2))]) := by
  refine si_of (cc := cX8_seen) (maxL := 3) (by decide) rfl (Nat.le_of_ble_eq_true rfl) ?_
  intro p e s m args below meth c A ls Q E hret
  obtain ⟨hx, hb, -, hml, hown, hts, -, hin, hA, hK, hP, hD, hS, hl, hN⟩ := E
  have hown : s.vm.findClass RX8 = some m.cls := hown
  have hl : lv_has ls 3 [(0, .ref o), (1, .int x), (2, .int y)] := hl
  have SF : CallFix p m c cX8_seen 3 s args wsX8_seen RX8 := ⟨hx, hb, hml, hown, hts⟩
  have hw0 := hts (.fieldLink RX8 66 "LatestSetsModel" "sights" "I") (by decide +kernel)
  have hi8 : ∀ x ∈ wsX80, x ∈ wsX8_seen := by decide +kernel
  have hw2 := hts (.fieldLink RX8 32 "LatestSetsModel" "sight" "[I") (by decide +kernel)
  refine lv_iload_n hx hb dX8_seen_0 rfl (lv_at hl 1 rfl) ?_
  refine lv_iconst (v := nI 0) hx hb dX8_seen_1 (by decide) ?_
  refine lv_bipush (v := nI 30) hx hb dX8_seen_2 (by decide) ?_
  refine cal_i (run_S (As := [.int x, .int (nI 0), .int (nI 30)]) (rest := []) SF (c_in8 l D cI cJ cZ cG cM x (nI 0) (nI 30)) (va_cwS 3 hts gX8_seen_X8_in rfl rfl rfl (by decide +kernel) ⟨Nat.le_of_ble_eq_true rfl, Nat.le_of_ble_eq_true rfl⟩) hN hK hP hD [] rfl (by decide) rfl hl.1 rfl (Nat.le_of_ble_eq_true rfl) dX8_seen_4 ⟨Nat.le_of_ble_eq_true rfl, Nat.le_of_ble_eq_true rfl⟩) ⟨rfl, rfl⟩ hP hD hS hA [] rfl (fun _ => rfl) (fun r4 _ H locs hw hP hD hS => ?_)
  have hP : va_P D vwCl [(o, .inr (8, [.int (nI n), .ref me, .ref ml, .ref mb, .int fi, .int (nI nl), .ref mt, .int (nI ns), .ref ms, .int sn, .ref mp, .ref my, .ref mc, .int la, .ref mk, .ref mw, .int ah, .int ri, .int lh, .ref mo, .ref mq, .ref mi, .ref mz])), (ms, .inl (cI, 12, .inl fw))] H := hP
  have hD : va_D A [(o, .inr (8, [.int (nI n), .ref me, .ref ml, .ref mb, .int fi, .int (nI nl), .ref mt, .int (nI ns), .ref ms, .int sn, .ref mp, .ref my, .ref mc, .int la, .ref mk, .ref mw, .int ah, .int ri, .int lh, .ref mo, .ref mq, .ref mi, .ref mz])), (ms, .inl (cI, 12, .inl fw))] := hD
  rcases hw with ⟨b4, rfl⟩ | ⟨b4, rfl⟩
  · refine lv_if_eq (tgt := 17) hx hb dX8_seen_7 (by decide) (fun c9 => absurd c9 (by decide)) (fun _ => ?_)
    refine lv_iload_n hx hb dX8_seen_10 rfl (lv_at hl 2 rfl) ?_
    refine cal_i (run_S (As := [.int y]) (rest := []) SF (c_isHour8 l D cI cJ cZ cG cM y) (va_cwS 1 hts gX8_seen_X8_isHour rfl rfl rfl (by decide +kernel) ⟨Nat.le_of_ble_eq_true rfl, Nat.le_of_ble_eq_true rfl⟩) hN hK hP hD [] rfl (by decide) rfl hl.1 rfl (Nat.le_of_ble_eq_true rfl) dX8_seen_11 ⟨Nat.le_of_ble_eq_true rfl, Nat.le_of_ble_eq_true rfl⟩) ⟨rfl, rfl⟩ hP hD hS hA [] rfl (fun _ => rfl) (fun r11 _ H locs hw hP hD hS => ?_)
    have hP : va_P D vwCl [(o, .inr (8, [.int (nI n), .ref me, .ref ml, .ref mb, .int fi, .int (nI nl), .ref mt, .int (nI ns), .ref ms, .int sn, .ref mp, .ref my, .ref mc, .int la, .ref mk, .ref mw, .int ah, .int ri, .int lh, .ref mo, .ref mq, .ref mi, .ref mz])), (ms, .inl (cI, 12, .inl fw))] H := hP
    have hD : va_D A [(o, .inr (8, [.int (nI n), .ref me, .ref ml, .ref mb, .int fi, .int (nI nl), .ref mt, .int (nI ns), .ref ms, .int sn, .ref mp, .ref my, .ref mc, .int la, .ref mk, .ref mw, .int ah, .int ri, .int lh, .ref mo, .ref mq, .ref mi, .ref mz])), (ms, .inl (cI, 12, .inl fw))] := hD
    rcases hw with ⟨b11, rfl⟩ | ⟨b11, rfl⟩
    · refine lv_if_ne (tgt := 20) hx hb dX8_seen_14 (by decide) (fun _ => ?_) (fun c9 => absurd c9 (by decide))
      refine lv_aload_n hx hb dX8_seen_20 rfl (lv_at hl 0 rfl) ?_
      refine va_get (D := D) (ci := 8) (v := .int (nI ns)) (C := RX8) (T := TX8) (N := 23) hx hb hts hi8 hown hK hP 0 rfl rfl 7 (by decide) hw0 (fun _ h9 => h9) rfl dX8_seen_21 ?_
      refine lv_bipush (v := nI 6) hx hb dX8_seen_24 (by decide) ?_
      refine icmp_ne_n (a := ns) (b := 6) (tgt := 32) hx hb dX8_seen_26 (by decide) (by omega) (by omega) (fun c26 => ?_) (fun c26 => ?_)
      · refine lv_aload_n hx hb dX8_seen_32 rfl (lv_at hl 0 rfl) ?_
        refine va_get (D := D) (ci := 8) (v := .ref ms) (C := RX8) (T := TX8) (N := 23) hx hb hts hi8 hown hK hP 0 rfl rfl 8 (by decide) hw2 (fun _ h9 => h9) rfl dX8_seen_33 ?_
        refine lv_iconst (v := nI 2) hx hb dX8_seen_36 (by decide) ?_
        refine lv_aload_n hx hb dX8_seen_37 rfl (lv_at hl 0 rfl) ?_
        refine va_get (D := D) (ci := 8) (v := .int (nI ns)) (C := RX8) (T := TX8) (N := 23) hx hb hts hi8 hown hK hP 0 rfl rfl 7 (by decide) hw0 (fun _ h9 => h9) rfl dX8_seen_38 ?_
        refine imul_n (a := 2) (b := ns) hx hb dX8_seen_41 ?_
        refine lv_iload_n hx hb dX8_seen_42 rfl (lv_at hl 1 rfl) ?_
        refine iast_n (k := 2 * ns) hx hb hK hP hD hS 1 0 rfl rfl (by omega) (by omega) dX8_seen_43 (fun H locs hP hD hS => ?_)
        have hP : va_P D vwCl [(o, .inr (8, [.int (nI n), .ref me, .ref ml, .ref mb, .int fi, .int (nI nl), .ref mt, .int (nI ns), .ref ms, .int sn, .ref mp, .ref my, .ref mc, .int la, .ref mk, .ref mw, .int ah, .int ri, .int lh, .ref mo, .ref mq, .ref mi, .ref mz])), (ms, .inl (cI, 12, .inl (upd fw (2 * ns) x)))] H := hP
        have hD : va_D A [(o, .inr (8, [.int (nI n), .ref me, .ref ml, .ref mb, .int fi, .int (nI nl), .ref mt, .int (nI ns), .ref ms, .int sn, .ref mp, .ref my, .ref mc, .int la, .ref mk, .ref mw, .int ah, .int ri, .int lh, .ref mo, .ref mq, .ref mi, .ref mz])), (ms, .inl (cI, 12, .inl (upd fw (2 * ns) x)))] := hD
        refine lv_aload_n hx hb dX8_seen_44 rfl (lv_at hl 0 rfl) ?_
        refine va_get (D := D) (ci := 8) (v := .ref ms) (C := RX8) (T := TX8) (N := 23) hx hb hts hi8 hown hK hP 0 rfl rfl 8 (by decide) hw2 (fun _ h9 => h9) rfl dX8_seen_45 ?_
        refine lv_iconst (v := nI 2) hx hb dX8_seen_48 (by decide) ?_
        refine lv_aload_n hx hb dX8_seen_49 rfl (lv_at hl 0 rfl) ?_
        refine va_get (D := D) (ci := 8) (v := .int (nI ns)) (C := RX8) (T := TX8) (N := 23) hx hb hts hi8 hown hK hP 0 rfl rfl 7 (by decide) hw0 (fun _ h9 => h9) rfl dX8_seen_50 ?_
        refine imul_n (a := 2) (b := ns) hx hb dX8_seen_53 ?_
        refine lv_iconst (v := nI 1) hx hb dX8_seen_54 (by decide) ?_
        refine iadd_n (a := 2 * ns) (b := 1) hx hb dX8_seen_55 ?_
        refine lv_iload_n hx hb dX8_seen_56 rfl (lv_at hl 2 rfl) ?_
        refine iast_n (k := (2 * ns) + 1) hx hb hK hP hD hS 1 0 rfl rfl (by omega) (by omega) dX8_seen_57 (fun H locs hP hD hS => ?_)
        have hP : va_P D vwCl [(o, .inr (8, [.int (nI n), .ref me, .ref ml, .ref mb, .int fi, .int (nI nl), .ref mt, .int (nI ns), .ref ms, .int sn, .ref mp, .ref my, .ref mc, .int la, .ref mk, .ref mw, .int ah, .int ri, .int lh, .ref mo, .ref mq, .ref mi, .ref mz])), (ms, .inl (cI, 12, .inl (upd (upd fw (2 * ns) x) ((2 * ns) + 1) y)))] H := hP
        have hD : va_D A [(o, .inr (8, [.int (nI n), .ref me, .ref ml, .ref mb, .int fi, .int (nI nl), .ref mt, .int (nI ns), .ref ms, .int sn, .ref mp, .ref my, .ref mc, .int la, .ref mk, .ref mw, .int ah, .int ri, .int lh, .ref mo, .ref mq, .ref mi, .ref mz])), (ms, .inl (cI, 12, .inl (upd (upd fw (2 * ns) x) ((2 * ns) + 1) y)))] := hD
        refine lv_aload_n hx hb dX8_seen_58 rfl (lv_at hl 0 rfl) ?_
        refine lv_dup hx hb dX8_seen_59 rfl ?_
        refine va_get (D := D) (ci := 8) (v := .int (nI ns)) (C := RX8) (T := TX8) (N := 23) hx hb hts hi8 hown hK hP 0 rfl rfl 7 (by decide) hw0 (fun _ h9 => h9) rfl dX8_seen_60 ?_
        refine lv_iconst (v := nI 1) hx hb dX8_seen_63 (by decide) ?_
        refine iadd_n (a := ns) (b := 1) hx hb dX8_seen_64 ?_
        refine va_put (D := D) (ci := 8) (v := .int (nI (ns + 1))) (ty := .int) (C := RX8) (T := TX8) (N := 23) hx hb hts hi8 tyX8 tyX8_ok nmX8 hown hK hP hD hS 0 rfl rfl 7 (by decide) hw0 (fun _ h9 => h9) rfl (by decide +kernel) rfl rfl (Nat.le_of_ble_eq_true rfl) dX8_seen_65 (fun H locs hP hD hS => ?_)
        have hP : va_P D vwCl [(o, .inr (8, [.int (nI n), .ref me, .ref ml, .ref mb, .int fi, .int (nI nl), .ref mt, .int (nI (ns + 1)), .ref ms, .int sn, .ref mp, .ref my, .ref mc, .int la, .ref mk, .ref mw, .int ah, .int ri, .int lh, .ref mo, .ref mq, .ref mi, .ref mz])), (ms, .inl (cI, 12, .inl (upd (upd fw (2 * ns) x) ((2 * ns) + 1) y)))] H := hP
        have hD : va_D A [(o, .inr (8, [.int (nI n), .ref me, .ref ml, .ref mb, .int fi, .int (nI nl), .ref mt, .int (nI (ns + 1)), .ref ms, .int sn, .ref mp, .ref my, .ref mc, .int la, .ref mk, .ref mw, .int ah, .int ri, .int lh, .ref mo, .ref mq, .ref mi, .ref mz])), (ms, .inl (cI, 12, .inl (upd (upd fw (2 * ns) x) ((2 * ns) + 1) y)))] := hD
        refine lv_aload_n hx hb dX8_seen_68 rfl (lv_at hl 0 rfl) ?_
        refine va_get (D := D) (ci := 8) (v := .int (nI (ns + 1))) (C := RX8) (T := TX8) (N := 23) hx hb hts hi8 hown hK hP 0 rfl rfl 7 (by decide) hw0 (fun _ h9 => h9) rfl dX8_seen_69 ?_
        exact hret (nI (ns + 1)) ((ns + 1, upd (upd fw (2 * ns) x) (2 * ns + 1) y)) _ _ _ _ dX8_seen_72 ⟨by rw [if_pos ⟨b4, b11⟩, if_pos (show ns < 6 by omega)], by rw [if_pos ⟨⟨b4, b11⟩, show ns < 6 by omega⟩]⟩ hP hD hS
      · refine lv_bipush (v := (-4)) hx hb dX8_seen_29 (by decide) ?_
        exact hret ((-4)) ((ns, fw)) _ _ _ _ dX8_seen_31 ⟨by rw [if_pos ⟨b4, b11⟩, if_neg (by omega)], by rw [if_neg (fun z => by omega)]⟩ hP hD hS
    · refine lv_if_ne (tgt := 20) hx hb dX8_seen_14 (by decide) (fun c9 => absurd c9 (by decide)) (fun _ => ?_)
      refine lv_bipush (v := (-2)) hx hb dX8_seen_17 (by decide) ?_
      exact hret ((-2)) ((ns, fw)) _ _ _ _ dX8_seen_19 ⟨by rw [if_neg (fun z => b11 z.2)], by rw [if_neg (fun z => b11 z.1.2)]⟩ hP hD hS
  · refine lv_if_eq (tgt := 17) hx hb dX8_seen_7 (by decide) (fun _ => ?_) (fun c9 => absurd (by decide) c9)
    refine lv_bipush (v := (-2)) hx hb dX8_seen_17 (by decide) ?_
    exact hret ((-2)) ((ns, fw)) _ _ _ _ dX8_seen_19 ⟨by rw [if_neg (fun z => b4 z.1)], by rw [if_neg (fun z => b4 z.1.1)]⟩ hP hD hS

abbrev rm_X8_forget : Room := { frames := 0, cells := 0, slots := 0, locals := 0 }
set_option maxHeartbeats 4000000 in
set_option maxRecDepth 100000 in
theorem m_forget (l : Launch) (D : va_G) (cI cJ cZ cG cM : ClassId) (o me ml mb mt ms mp my mc mk mw mo mq mi mz : Nat) (fi si sn la ah ri lh : Int32) (n nl : Nat) (ns : Nat) :
    CI l yX8_forget wsX8_forget rm_X8_forget D [(cI, .int), (cJ, .long), (cZ, .boolean), (cG, .object "LatestSets$Guild"), (cM, .array .int)] [(o, .inr (8, [.int (nI n), .ref me, .ref ml, .ref mb, .int fi, .int (nI nl), .ref mt, .int (nI ns), .ref ms, .int sn, .ref mp, .ref my, .ref mc, .int la, .ref mk, .ref mw, .int ah, .int ri, .int lh, .ref mo, .ref mq, .ref mi, .ref mz]))] [.ref o] (S := Unit) (fun r u => r = nI ns) (fun u => [(o, .inr (8, [.int (nI n), .ref me, .ref ml, .ref mb, .int fi, .int (nI nl), .ref mt, .int (nI 0), .ref ms, .int sn, .ref mp, .ref my, .ref mc, .int la, .ref mk, .ref mw, .int ah, .int ri, .int lh, .ref mo, .ref mq, .ref mi, .ref mz]))]) := by
  refine si_of (cc := cX8_forget) (maxL := 2) (by decide) rfl (Nat.le_of_ble_eq_true rfl) ?_
  intro p e s m args below meth c A ls Q E hret
  obtain ⟨hx, hb, -, hml, hown, hts, -, hin, hA, hK, hP, hD, hS, hl, hN⟩ := E
  have hown : s.vm.findClass RX8 = some m.cls := hown
  have hl : lv_has ls 2 [(0, .ref o)] := hl
  have SF : CallFix p m c cX8_forget 2 s args wsX8_forget RX8 := ⟨hx, hb, hml, hown, hts⟩
  have hw0 := hts (.fieldLink RX8 66 "LatestSetsModel" "sights" "I") (by decide +kernel)
  have hi8 : ∀ x ∈ wsX80, x ∈ wsX8_forget := by decide +kernel
  refine lv_aload_n hx hb dX8_forget_0 rfl (lv_at hl 0 rfl) ?_
  refine va_get (D := D) (ci := 8) (v := .int (nI ns)) (C := RX8) (T := TX8) (N := 23) hx hb hts hi8 hown hK hP 0 rfl rfl 7 (by decide) hw0 (fun _ h9 => h9) rfl dX8_forget_1 ?_
  refine lv_istore_n (lv' := [(1, .int (nI ns)), (0, .ref o)]) hx hb dX8_forget_4 rfl hl (by decide) rfl (fun ls hl => ?_)
  refine lv_aload_n hx hb dX8_forget_5 rfl (lv_at hl 1 rfl) ?_
  refine lv_iconst (v := nI 0) hx hb dX8_forget_6 (by decide) ?_
  refine va_put (D := D) (ci := 8) (v := .int (nI 0)) (ty := .int) (C := RX8) (T := TX8) (N := 23) hx hb hts hi8 tyX8 tyX8_ok nmX8 hown hK hP hD hS 0 rfl rfl 7 (by decide) hw0 (fun _ h9 => h9) rfl (by decide +kernel) rfl rfl (Nat.le_of_ble_eq_true rfl) dX8_forget_7 (fun H locs hP hD hS => ?_)
  have hP : va_P D vwCl [(o, .inr (8, [.int (nI n), .ref me, .ref ml, .ref mb, .int fi, .int (nI nl), .ref mt, .int (nI 0), .ref ms, .int sn, .ref mp, .ref my, .ref mc, .int la, .ref mk, .ref mw, .int ah, .int ri, .int lh, .ref mo, .ref mq, .ref mi, .ref mz]))] H := hP
  have hD : va_D A [(o, .inr (8, [.int (nI n), .ref me, .ref ml, .ref mb, .int fi, .int (nI nl), .ref mt, .int (nI 0), .ref ms, .int sn, .ref mp, .ref my, .ref mc, .int la, .ref mk, .ref mw, .int ah, .int ri, .int lh, .ref mo, .ref mq, .ref mi, .ref mz]))] := hD
  refine lv_iload_n hx hb dX8_forget_10 rfl (lv_at hl 0 rfl) ?_
  exact hret (nI ns) (()) _ _ _ _ dX8_forget_11 rfl hP hD hS


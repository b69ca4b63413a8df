abbrev rm_X8_in : Room := { frames := 0, cells := 0, slots := 0, locals := 0 }
set_option maxHeartbeats 4000000 in
set_option maxRecDepth 100000 in
theorem c_in8 (l : Launch) (D : va_G) (cI cJ cZ cG cM : ClassId) (v a b : Int32) :
    CI l yX8_in wsX8_in rm_X8_in D [(cI, .int), (cJ, .long), (cZ, .boolean), (cG, .object "LatestSets$Guild"), (cM, .array .int)] [] [.int v, .int a, .int b] (S := Unit) (fun r u => bz (a ≤ v ∧ v ≤ b) r) (fun u => []) := by
  refine sz_of (cc := cX8_in) (maxL := 3) (by decide) rfl (Nat.le_of_ble_eq_true rfl) ?_
  intro p e s m args below meth c A ls Q E hret
  obtain ⟨hx, hb, -, hml, hown, hts, -, hin, hA, hK, hP, hD, hS, hl, hN⟩ := E
  have hown : s.vm.findClass RX8 = some m.cls := hown
  have hl : lv_has ls 3 [(0, .int v), (1, .int a), (2, .int b)] := hl
  have SF : CallFix p m c cX8_in 3 s args wsX8_in RX8 := ⟨hx, hb, hml, hown, hts⟩
  refine lv_iload_n hx hb dX8_in_0 rfl (lv_at hl 0 rfl) ?_
  refine lv_iload_n hx hb dX8_in_1 rfl (lv_at hl 1 rfl) ?_
  refine lv_icmp_lt (tgt := 14) hx hb dX8_in_2 (by decide) (fun c2 => ?_) (fun c2 => ?_)
  · refine lv_iconst (v := nI 0) hx hb dX8_in_14 (by decide) ?_
    exact hret (nI 0) (()) _ _ _ _ dX8_in_15 rfl (bz0 (fun z => i_ltnle c2 z.1)) hP hD hS
  · refine lv_iload_n hx hb dX8_in_5 rfl (lv_at hl 0 rfl) ?_
    refine lv_iload_n hx hb dX8_in_6 rfl (lv_at hl 2 rfl) ?_
    refine lv_icmp_gt (tgt := 14) hx hb dX8_in_7 (by decide) (fun c7 => ?_) (fun c7 => ?_)
    · refine lv_iconst (v := nI 0) hx hb dX8_in_14 (by decide) ?_
      exact hret (nI 0) (()) _ _ _ _ dX8_in_15 rfl (bz0 (fun z => i_ltnle c7 z.2)) hP hD hS
    · refine lv_iconst (v := nI 1) hx hb dX8_in_10 (by decide) ?_
      refine lv_goto (tgt := 15) hx hb dX8_in_11 (by decide) ?_
      exact hret (nI 1) (()) _ _ _ _ dX8_in_15 rfl (bz1 ⟨i_nlt c2, i_nlt c7⟩) hP hD hS

abbrev rm_X8_isHour : Room := { frames := 1, cells := 0, slots := 0, locals := 22 }
set_option maxHeartbeats 4000000 in
set_option maxRecDepth 100000 in
theorem c_isHour8 (l : Launch) (D : va_G) (cI cJ cZ cG cM : ClassId) (v : Int32) :
    CI l yX8_isHour wsX8_isHour rm_X8_isHour D [(cI, .int), (cJ, .long), (cZ, .boolean), (cG, .object "LatestSets$Guild"), (cM, .array .int)] [] [.int v] (S := Unit) (fun r u => bz (nI 0 ≤ v ∧ v ≤ nI 23) r) (fun u => []) := by
  refine sz_of (cc := cX8_isHour) (maxL := 1) (by decide) rfl (Nat.le_of_ble_eq_true rfl) ?_
  intro p e s m args below meth c A ls Q E hret
  obtain ⟨hx, hb, -, hml, hown, hts, -, hin, hA, hK, hP, hD, hS, hl, hN⟩ := E
  have hown : s.vm.findClass RX8 = some m.cls := hown
  have hl : lv_has ls 1 [(0, .int v)] := hl
  have SF : CallFix p m c cX8_isHour 1 s args wsX8_isHour RX8 := ⟨hx, hb, hml, hown, hts⟩
  refine lv_iload_n hx hb dX8_isHour_0 rfl (lv_at hl 0 rfl) ?_
  refine lv_iconst (v := nI 0) hx hb dX8_isHour_1 (by decide) ?_
  refine lv_bipush (v := nI 23) hx hb dX8_isHour_2 (by decide) ?_
  refine cal_i (run_S (As := [.int v, .int (nI 0), .int (nI 23)]) (rest := []) SF (c_in8 l D cI cJ cZ cG cM v (nI 0) (nI 23)) (va_cwS 3 hts gX8_isHour_X8_in rfl rfl rfl (by decide +kernel) ⟨Nat.le_of_ble_eq_true rfl, Nat.le_of_ble_eq_true rfl⟩) hN hK hP hD [] rfl (by decide) rfl hl.1 rfl (Nat.le_of_ble_eq_true rfl) dX8_isHour_4 ⟨Nat.le_of_ble_eq_true rfl, Nat.le_of_ble_eq_true rfl⟩) ⟨rfl, rfl⟩ hP hD hS hA [] rfl (fun _ => rfl) (fun r4 _ H locs hw hP hD hS => ?_)
  have hP : va_P D vwCl [] H := hP
  have hD : va_D A [] := hD
  rcases hw with ⟨b4, rfl⟩ | ⟨b4, rfl⟩
  · exact hret (nI 1) (()) _ _ _ _ dX8_isHour_7 rfl (bz1 b4) hP hD hS
  · exact hret (nI 0) (()) _ _ _ _ dX8_isHour_7 rfl (bz0 b4) hP hD hS

abbrev rm_X8_isMember : Room := { frames := 1, cells := 0, slots := 0, locals := 22 }
set_option maxHeartbeats 4000000 in
set_option maxRecDepth 100000 in
theorem c_isMember8 (l : Launch) (D : va_G) (cI cJ cZ cG cM : ClassId) (o me ml mb mt ms mp my mc mk mw mo mq mi mz : Nat) (fi si sn la ah ri lh : Int32) (n nl : Nat) (v : Int32) (h1 : 1 ≤ n) (h6 : n ≤ 6) :
    CI l yX8_isMember wsX8_isMember rm_X8_isMember D [(cI, .int), (cJ, .long), (cZ, .boolean), (cG, .object "LatestSets$Guild"), (cM, .array .int)] [(o, .inr (8, [.int (nI n), .ref me, .ref ml, .ref mb, .int fi, .int (nI nl), .ref mt, .int si, .ref ms, .int sn, .ref mp, .ref my, .ref mc, .int la, .ref mk, .ref mw, .int ah, .int ri, .int lh, .ref mo, .ref mq, .ref mi, .ref mz]))] [.ref o, .int v] (S := Unit) (fun r u => bz (nI 0 ≤ v ∧ v < nI n) r) (fun u => [(o, .inr (8, [.int (nI n), .ref me, .ref ml, .ref mb, .int fi, .int (nI nl), .ref mt, .int si, .ref ms, .int sn, .ref mp, .ref my, .ref mc, .int la, .ref mk, .ref mw, .int ah, .int ri, .int lh, .ref mo, .ref mq, .ref mi, .ref mz]))]) := by
  refine sz_of (cc := cX8_isMember) (maxL := 2) (by decide) rfl (Nat.le_of_ble_eq_true rfl) ?_
  intro p e s m args below meth c A ls Q E hret
  obtain ⟨hx, hb, -, hml, hown, hts, -, hin, hA, hK, hP, hD, hS, hl, hN⟩ := E
  have hown : s.vm.findClass RX8 = some m.cls := hown
  have hl : lv_has ls 2 [(0, .ref o), (1, .int v)] := hl
  have SF : CallFix p m c cX8_isMember 2 s args wsX8_isMember RX8 := ⟨hx, hb, hml, hown, hts⟩
  have hw0 := hts (.fieldLink RX8 7 "LatestSetsModel" "members" "I") (by decide +kernel)
  have hi8 : ∀ x ∈ wsX80, x ∈ wsX8_isMember := by decide +kernel
  refine lv_iload_n hx hb dX8_isMember_0 rfl (lv_at hl 1 rfl) ?_
  refine lv_iconst (v := nI 0) hx hb dX8_isMember_1 (by decide) ?_
  refine lv_aload_n hx hb dX8_isMember_2 rfl (lv_at hl 0 rfl) ?_
  refine va_get (D := D) (ci := 8) (v := .int (nI n)) (C := RX8) (T := TX8) (N := 23) hx hb hts hi8 hown hK hP 0 rfl rfl 0 (by decide) hw0 (fun _ h9 => h9) rfl dX8_isMember_3 ?_
  refine lv_iconst (v := nI 1) hx hb dX8_isMember_6 (by decide) ?_
  refine isub_n (a := n) (b := 1) hx hb dX8_isMember_7 (by omega) ?_
  refine cal_i (run_S (As := [.int v, .int (nI 0), .int (nI (n - 1))]) (rest := []) SF (c_in8 l D cI cJ cZ cG cM v (nI 0) (nI (n - 1))) (va_cwS 3 hts gX8_isMember_X8_in rfl rfl rfl (by decide +kernel) ⟨Nat.le_of_ble_eq_true rfl, Nat.le_of_ble_eq_true rfl⟩) hN hK hP hD [] rfl (by decide) rfl hl.1 rfl (Nat.le_of_ble_eq_true rfl) dX8_isMember_8 ⟨Nat.le_of_ble_eq_true rfl, Nat.le_of_ble_eq_true rfl⟩) ⟨rfl, rfl⟩ hP hD hS hA [] rfl (fun _ => rfl) (fun r8 _ H locs hw hP hD hS => ?_)
  have hP : va_P D vwCl [(o, .inr (8, [.int (nI n), .ref me, .ref ml, .ref mb, .int fi, .int (nI nl), .ref mt, .int si, .ref ms, .int sn, .ref mp, .ref my, .ref mc, .int la, .ref mk, .ref mw, .int ah, .int ri, .int lh, .ref mo, .ref mq, .ref mi, .ref mz]))] H := hP
  have hD : va_D A [(o, .inr (8, [.int (nI n), .ref me, .ref ml, .ref mb, .int fi, .int (nI nl), .ref mt, .int si, .ref ms, .int sn, .ref mp, .ref my, .ref mc, .int la, .ref mk, .ref mw, .int ah, .int ri, .int lh, .ref mo, .ref mq, .ref mi, .ref mz]))] := hD
  rcases hw with ⟨b8, rfl⟩ | ⟨b8, rfl⟩
  · exact hret (nI 1) (()) _ _ _ _ dX8_isMember_11 rfl (bz1 ((mem_iff h1 h6).mp b8)) hP hD hS
  · exact hret (nI 0) (()) _ _ _ _ dX8_isMember_11 rfl (bz0 (fun z => b8 ((mem_iff h1 h6).mpr z))) hP hD hS

abbrev rm_X8_isLeaf : Room := { frames := 0, cells := 0, slots := 0, locals := 0 }
set_option maxHeartbeats 4000000 in
set_option maxRecDepth 100000 in
theorem c_isLeaf (l : Launch) (D : va_G) (cI cJ cZ cG cM : ClassId) (x : Int32) :
    CI l yX8_isLeaf wsX8_isLeaf rm_X8_isLeaf D [(cI, .int), (cJ, .long), (cZ, .boolean), (cG, .object "LatestSets$Guild"), (cM, .array .int)] [] [.int x] (S := Unit) (fun r u => bz (isLf x) r) (fun u => []) := by
  refine sz_of (cc := cX8_isLeaf) (maxL := 1) (by decide) rfl (Nat.le_of_ble_eq_true rfl) ?_
  intro p e s m args below meth c A ls Q E hret
  obtain ⟨hx, hb, -, hml, hown, hts, -, hin, hA, hK, hP, hD, hS, hl, hN⟩ := E
  have hown : s.vm.findClass RX8 = some m.cls := hown
  have hl : lv_has ls 1 [(0, .int x)] := hl
  have SF : CallFix p m c cX8_isLeaf 1 s args wsX8_isLeaf RX8 := ⟨hx, hb, hml, hown, hts⟩
  refine lv_iload_n hx hb dX8_isLeaf_0 rfl (lv_at hl 0 rfl) ?_
  refine lv_bipush (v := nI 108) hx hb dX8_isLeaf_1 (by decide) ?_
  refine lv_icmp_eq (tgt := 30) hx hb dX8_isLeaf_3 (by decide) (fun c3 => ?_) (fun c3 => ?_)
  · refine lv_iconst (v := nI 1) hx hb dX8_isLeaf_30 (by decide) ?_
    refine lv_goto (tgt := 35) hx hb dX8_isLeaf_31 (by decide) ?_
    exact hret (nI 1) (()) _ _ _ _ dX8_isLeaf_35 rfl (bz1 (Or.inl c3)) hP hD hS
  · refine lv_iload_n hx hb dX8_isLeaf_6 rfl (lv_at hl 0 rfl) ?_
    refine lv_bipush (v := nI 102) hx hb dX8_isLeaf_7 (by decide) ?_
    refine lv_icmp_eq (tgt := 30) hx hb dX8_isLeaf_9 (by decide) (fun c9 => ?_) (fun c9 => ?_)
    · refine lv_iconst (v := nI 1) hx hb dX8_isLeaf_30 (by decide) ?_
      refine lv_goto (tgt := 35) hx hb dX8_isLeaf_31 (by decide) ?_
      exact hret (nI 1) (()) _ _ _ _ dX8_isLeaf_35 rfl (bz1 (Or.inr (Or.inl c9))) hP hD hS
    · refine lv_iload_n hx hb dX8_isLeaf_12 rfl (lv_at hl 0 rfl) ?_
      refine lv_bipush (v := nI 109) hx hb dX8_isLeaf_13 (by decide) ?_
      refine lv_icmp_eq (tgt := 30) hx hb dX8_isLeaf_15 (by decide) (fun c15 => ?_) (fun c15 => ?_)
      · refine lv_iconst (v := nI 1) hx hb dX8_isLeaf_30 (by decide) ?_
        refine lv_goto (tgt := 35) hx hb dX8_isLeaf_31 (by decide) ?_
        exact hret (nI 1) (()) _ _ _ _ dX8_isLeaf_35 rfl (bz1 (Or.inr (Or.inr (Or.inl c15)))) hP hD hS
      · refine lv_iload_n hx hb dX8_isLeaf_18 rfl (lv_at hl 0 rfl) ?_
        refine lv_bipush (v := nI 112) hx hb dX8_isLeaf_19 (by decide) ?_
        refine lv_icmp_eq (tgt := 30) hx hb dX8_isLeaf_21 (by decide) (fun c21 => ?_) (fun c21 => ?_)
        · refine lv_iconst (v := nI 1) hx hb dX8_isLeaf_30 (by decide) ?_
          refine lv_goto (tgt := 35) hx hb dX8_isLeaf_31 (by decide) ?_
          exact hret (nI 1) (()) _ _ _ _ dX8_isLeaf_35 rfl (bz1 (Or.inr (Or.inr (Or.inr (Or.inl c21))))) hP hD hS
        · refine lv_iload_n hx hb dX8_isLeaf_24 rfl (lv_at hl 0 rfl) ?_
          refine lv_bipush (v := nI 104) hx hb dX8_isLeaf_25 (by decide) ?_
          refine lv_icmp_ne (tgt := 34) hx hb dX8_isLeaf_27 (by decide) (fun c27 => ?_) (fun c27 => ?_)
          · refine lv_iconst (v := nI 0) hx hb dX8_isLeaf_34 (by decide) ?_
            exact hret (nI 0) (()) _ _ _ _ dX8_isLeaf_35 rfl (bz0 (by rintro (z | z | z | z | z) <;> contradiction)) hP hD hS
          · refine lv_iconst (v := nI 1) hx hb dX8_isLeaf_30 (by decide) ?_
            refine lv_goto (tgt := 35) hx hb dX8_isLeaf_31 (by decide) ?_
            exact hret (nI 1) (()) _ _ _ _ dX8_isLeaf_35 rfl (bz1 (Or.inr (Or.inr (Or.inr (Or.inr c27))))) hP hD hS

abbrev rm_X8_isPair : Room := { frames := 0, cells := 0, slots := 0, locals := 0 }
set_option maxHeartbeats 4000000 in
set_option maxRecDepth 100000 in
theorem c_isPair (l : Launch) (D : va_G) (cI cJ cZ cG cM : ClassId) (x : Int32) :
    CI l yX8_isPair wsX8_isPair rm_X8_isPair D [(cI, .int), (cJ, .long), (cZ, .boolean), (cG, .object "LatestSets$Guild"), (cM, .array .int)] [] [.int x] (S := Unit) (fun r u => bz (isPr x) r) (fun u => []) := by
  refine sz_of (cc := cX8_isPair) (maxL := 1) (by decide) rfl (Nat.le_of_ble_eq_true rfl) ?_
  intro p e s m args below meth c A ls Q E hret
  obtain ⟨hx, hb, -, hml, hown, hts, -, hin, hA, hK, hP, hD, hS, hl, hN⟩ := E
  have hown : s.vm.findClass RX8 = some m.cls := hown
  have hl : lv_has ls 1 [(0, .int x)] := hl
  have SF : CallFix p m c cX8_isPair 1 s args wsX8_isPair RX8 := ⟨hx, hb, hml, hown, hts⟩
  refine lv_iload_n hx hb dX8_isPair_0 rfl (lv_at hl 0 rfl) ?_
  refine lv_bipush (v := nI 60) hx hb dX8_isPair_1 (by decide) ?_
  refine lv_icmp_eq (tgt := 18) hx hb dX8_isPair_3 (by decide) (fun c3 => ?_) (fun c3 => ?_)
  · refine lv_iconst (v := nI 1) hx hb dX8_isPair_18 (by decide) ?_
    refine lv_goto (tgt := 23) hx hb dX8_isPair_19 (by decide) ?_
    exact hret (nI 1) (()) _ _ _ _ dX8_isPair_23 rfl (bz1 (Or.inl c3)) hP hD hS
  · refine lv_iload_n hx hb dX8_isPair_6 rfl (lv_at hl 0 rfl) ?_
    refine lv_bipush (v := nI 62) hx hb dX8_isPair_7 (by decide) ?_
    refine lv_icmp_eq (tgt := 18) hx hb dX8_isPair_9 (by decide) (fun c9 => ?_) (fun c9 => ?_)
    · refine lv_iconst (v := nI 1) hx hb dX8_isPair_18 (by decide) ?_
      refine lv_goto (tgt := 23) hx hb dX8_isPair_19 (by decide) ?_
      exact hret (nI 1) (()) _ _ _ _ dX8_isPair_23 rfl (bz1 (Or.inr (Or.inl c9))) hP hD hS
    · refine lv_iload_n hx hb dX8_isPair_12 rfl (lv_at hl 0 rfl) ?_
      refine lv_bipush (v := nI 47) hx hb dX8_isPair_13 (by decide) ?_
      refine lv_icmp_ne (tgt := 22) hx hb dX8_isPair_15 (by decide) (fun c15 => ?_) (fun c15 => ?_)
      · refine lv_iconst (v := nI 0) hx hb dX8_isPair_22 (by decide) ?_
        exact hret (nI 0) (()) _ _ _ _ dX8_isPair_23 rfl (bz0 (by rintro (z | z | z) <;> contradiction)) hP hD hS
      · refine lv_iconst (v := nI 1) hx hb dX8_isPair_18 (by decide) ?_
        refine lv_goto (tgt := 23) hx hb dX8_isPair_19 (by decide) ?_
        exact hret (nI 1) (()) _ _ _ _ dX8_isPair_23 rfl (bz1 (Or.inr (Or.inr c15))) hP hD hS

abbrev rm_X8_isShift : Room := { frames := 0, cells := 0, slots := 0, locals := 0 }
set_option maxHeartbeats 4000000 in
set_option maxRecDepth 100000 in
theorem c_isShift (l : Launch) (D : va_G) (cI cJ cZ cG cM : ClassId) (x : Int32) :
    CI l yX8_isShift wsX8_isShift rm_X8_isShift D [(cI, .int), (cJ, .long), (cZ, .boolean), (cG, .object "LatestSets$Guild"), (cM, .array .int)] [] [.int x] (S := Unit) (fun r u => bz (isSh x) r) (fun u => []) := by
  refine sz_of (cc := cX8_isShift) (maxL := 1) (by decide) rfl (Nat.le_of_ble_eq_true rfl) ?_
  intro p e s m args below meth c A ls Q E hret
  obtain ⟨hx, hb, -, hml, hown, hts, -, hin, hA, hK, hP, hD, hS, hl, hN⟩ := E
  have hown : s.vm.findClass RX8 = some m.cls := hown
  have hl : lv_has ls 1 [(0, .int x)] := hl
  have SF : CallFix p m c cX8_isShift 1 s args wsX8_isShift RX8 := ⟨hx, hb, hml, hown, hts⟩
  refine lv_iload_n hx hb dX8_isShift_0 rfl (lv_at hl 0 rfl) ?_
  refine lv_bipush (v := nI 45) hx hb dX8_isShift_1 (by decide) ?_
  refine lv_icmp_eq (tgt := 12) hx hb dX8_isShift_3 (by decide) (fun c3 => ?_) (fun c3 => ?_)
  · refine lv_iconst (v := nI 1) hx hb dX8_isShift_12 (by decide) ?_
    refine lv_goto (tgt := 17) hx hb dX8_isShift_13 (by decide) ?_
    exact hret (nI 1) (()) _ _ _ _ dX8_isShift_17 rfl (bz1 (Or.inl c3)) hP hD hS
  · refine lv_iload_n hx hb dX8_isShift_6 rfl (lv_at hl 0 rfl) ?_
    refine lv_bipush (v := nI 43) hx hb dX8_isShift_7 (by decide) ?_
    refine lv_icmp_ne (tgt := 16) hx hb dX8_isShift_9 (by decide) (fun c9 => ?_) (fun c9 => ?_)
    · refine lv_iconst (v := nI 0) hx hb dX8_isShift_16 (by decide) ?_
      exact hret (nI 0) (()) _ _ _ _ dX8_isShift_17 rfl (bz0 (by rintro (z | z) <;> contradiction)) hP hD hS
    · refine lv_iconst (v := nI 1) hx hb dX8_isShift_12 (by decide) ?_
      refine lv_goto (tgt := 17) hx hb dX8_isShift_13 (by decide) ?_
      exact hret (nI 1) (()) _ _ _ _ dX8_isShift_17 rfl (bz1 (Or.inr c9)) hP hD hS

abbrev rm_X8_cut : Room := { frames := 0, cells := 0, slots := 0, locals := 0 }
set_option maxHeartbeats 4000000 in
set_option maxRecDepth 100000 in
theorem c_cut (l : Launch) (D : va_G) (cI cJ cZ cG cM : ClassId) (v : Int32) :
    CI l yX8_cut wsX8_cut rm_X8_cut D [(cI, .int), (cJ, .long), (cZ, .boolean), (cG, .object "LatestSets$Guild"), (cM, .array .int)] [] [.int v] (S := Unit) (fun r u => r = clp v) (fun u => []) := by
  refine si_of (cc := cX8_cut) (maxL := 1) (by decide) rfl (Nat.le_of_ble_eq_true rfl) ?_
  intro p e s m args below meth c A ls Q E hret
  obtain ⟨hx, hb, -, hml, hown, hts, -, hin, hA, hK, hP, hD, hS, hl, hN⟩ := E
  have hown : s.vm.findClass RX8 = some m.cls := hown
  have hl : lv_has ls 1 [(0, .int v)] := hl
  have SF : CallFix p m c cX8_cut 1 s args wsX8_cut RX8 := ⟨hx, hb, hml, hown, hts⟩
  refine lv_iload_n hx hb dX8_cut_0 rfl (lv_at hl 0 rfl) ?_
  refine lv_if_ge (tgt := 8) hx hb dX8_cut_1 (by decide) (fun c1 => ?_) (fun c1 => ?_)
  · refine lv_iload_n hx hb dX8_cut_8 rfl (lv_at hl 0 rfl) ?_
    refine lv_bipush (v := nI 23) hx hb dX8_cut_9 (by decide) ?_
    refine lv_icmp_le (tgt := 19) hx hb dX8_cut_11 (by decide) (fun c11 => ?_) (fun c11 => ?_)
    · refine lv_iload_n hx hb dX8_cut_19 rfl (lv_at hl 0 rfl) ?_
      exact hret v (()) _ _ _ _ dX8_cut_20 (clp_mid c1 c11) hP hD hS
    · refine lv_bipush (v := nI 23) hx hb dX8_cut_14 (by decide) ?_
      refine lv_goto (tgt := 20) hx hb dX8_cut_16 (by decide) ?_
      exact hret (nI 23) (()) _ _ _ _ dX8_cut_20 (clp_hi c11) hP hD hS
  · refine lv_iconst (v := nI 0) hx hb dX8_cut_4 (by decide) ?_
    refine lv_goto (tgt := 20) hx hb dX8_cut_5 (by decide) ?_
    exact hret (nI 0) (()) _ _ _ _ dX8_cut_20 (clp_neg c1) hP hD hS

abbrev rm_X8_comesAt : Room := { frames := 0, cells := 0, slots := 0, locals := 0 }
set_option maxHeartbeats 4000000 in
set_option maxRecDepth 100000 in
theorem c_comesAt (l : Launch) (D : va_G) (cI cJ cZ cG cM : ClassId) (o me ml mb mt ms mp my mc mk mw mo mq mi mz : Nat) (fi si sn la ah ri lh : Int32) (n nl : Nat) (k : Nat) (h : Int32) (fe fb : Nat → Int32) (hk : k < 6) :
    CI l yX8_comesAt wsX8_comesAt rm_X8_comesAt D [(cI, .int), (cJ, .long), (cZ, .boolean), (cG, .object "LatestSets$Guild"), (cM, .array .int)] [(o, .inr (8, [.int (nI n), .ref me, .ref ml, .ref mb, .int fi, .int (nI nl), .ref mt, .int si, .ref ms, .int sn, .ref mp, .ref my, .ref mc, .int la, .ref mk, .ref mw, .int ah, .int ri, .int lh, .ref mo, .ref mq, .ref mi, .ref mz])), (me, .inl (cI, 6, .inl fe)), (my, .inl (cI, 6, .inl fb))] [.ref o, .int (nI k), .int h] (S := Unit) (fun r u => r = cmB h (fe k) la (fb k)) (fun u => [(o, .inr (8, [.int (nI n), .ref me, .ref ml, .ref mb, .int fi, .int (nI nl), .ref mt, .int si, .ref ms, .int sn, .ref mp, .ref my, .ref mc, .int la, .ref mk, .ref mw, .int ah, .int ri, .int lh, .ref mo, .ref mq, .ref mi, .ref mz])), (me, .inl (cI, 6, .inl fe)), (my, .inl (cI, 6, .inl fb))]) := by
  refine si_of (cc := cX8_comesAt) (maxL := 5) (by decide) rfl (Nat.le_of_ble_eq_true rfl) ?_
  intro p e s m args below meth c A ls Q E hret
  obtain ⟨hx, hb, -, hml, hown, hts, -, hin, hA, hK, hP, hD, hS, hl, hN⟩ := E
  have hown : s.vm.findClass RX8 = some m.cls := hown
  have hl : lv_has ls 5 [(0, .ref o), (1, .int (nI k)), (2, .int h)] := hl
  have SF : CallFix p m c cX8_comesAt 5 s args wsX8_comesAt RX8 := ⟨hx, hb, hml, hown, hts⟩
  have hw0 := hts (.fieldLink RX8 13 "LatestSetsModel" "early" "[I") (by decide +kernel)
  have hi8 : ∀ x ∈ wsX80, x ∈ wsX8_comesAt := by decide +kernel
  have hw2 := hts (.fieldLink RX8 93 "LatestSetsModel" "later" "I") (by decide +kernel)
  have hw3 := hts (.fieldLink RX8 38 "LatestSetsModel" "by" "[I") (by decide +kernel)
  refine lv_aload_n hx hb dX8_comesAt_0 rfl (lv_at hl 0 rfl) ?_
  refine va_get (D := D) (ci := 8) (v := .ref me) (C := RX8) (T := TX8) (N := 23) hx hb hts hi8 hown hK hP 0 rfl rfl 1 (by decide) hw0 (fun _ h9 => h9) rfl dX8_comesAt_1 ?_
  refine lv_iload_n hx hb dX8_comesAt_4 rfl (lv_at hl 1 rfl) ?_
  refine iald_n (k := k) hx hb hK hP 1 0 rfl rfl (by omega) (by omega) dX8_comesAt_5 ?_
  refine lv_aload_n hx hb dX8_comesAt_6 rfl (lv_at hl 0 rfl) ?_
  refine va_get (D := D) (ci := 8) (v := .int la) (C := RX8) (T := TX8) (N := 23) hx hb hts hi8 hown hK hP 0 rfl rfl 13 (by decide) hw2 (fun _ h9 => h9) rfl dX8_comesAt_7 ?_
  refine lv_iadd hx hb dX8_comesAt_10 ?_
  refine lv_bipush (v := nI 23) hx hb dX8_comesAt_11 (by decide) ?_
  refine lv_icmp_le (tgt := 21) hx hb dX8_comesAt_13 (by decide) (fun c13 => ?_) (fun c13 => ?_)
  · refine lv_aload_n hx hb dX8_comesAt_21 rfl (lv_at hl 0 rfl) ?_
    refine va_get (D := D) (ci := 8) (v := .ref me) (C := RX8) (T := TX8) (N := 23) hx hb hts hi8 hown hK hP 0 rfl rfl 1 (by decide) hw0 (fun _ h9 => h9) rfl dX8_comesAt_22 ?_
    refine lv_iload_n hx hb dX8_comesAt_25 rfl (lv_at hl 1 rfl) ?_
    refine iald_n (k := k) hx hb hK hP 1 0 rfl rfl (by omega) (by omega) dX8_comesAt_26 ?_
    refine lv_aload_n hx hb dX8_comesAt_27 rfl (lv_at hl 0 rfl) ?_
    refine va_get (D := D) (ci := 8) (v := .int la) (C := RX8) (T := TX8) (N := 23) hx hb hts hi8 hown hK hP 0 rfl rfl 13 (by decide) hw2 (fun _ h9 => h9) rfl dX8_comesAt_28 ?_
    refine lv_iadd hx hb dX8_comesAt_31 ?_
    refine lv_istore_n (lv' := [(3, .int ((fe k) + la)), (0, .ref o), (1, .int (nI k)), (2, .int h)]) hx hb dX8_comesAt_32 rfl hl (by decide) rfl (fun ls hl => ?_)
    refine lv_iload_n hx hb dX8_comesAt_33 rfl (lv_at hl 3 rfl) ?_
    refine lv_iload_n hx hb dX8_comesAt_34 rfl (lv_at hl 0 rfl) ?_
    refine lv_icmp_le (tgt := 42) hx hb dX8_comesAt_35 (by decide) (fun c35 => ?_) (fun c35 => ?_)
    · refine lv_iload_n hx hb dX8_comesAt_42 rfl (lv_at hl 0 rfl) ?_
      refine lv_aload_n hx hb dX8_comesAt_43 rfl (lv_at hl 1 rfl) ?_
      refine va_get (D := D) (ci := 8) (v := .ref my) (C := RX8) (T := TX8) (N := 23) hx hb hts hi8 hown hK hP 0 rfl rfl 11 (by decide) hw3 (fun _ h9 => h9) rfl dX8_comesAt_44 ?_
      refine lv_iload_n hx hb dX8_comesAt_47 rfl (lv_at hl 2 rfl) ?_
      refine iald_n (k := k) hx hb hK hP 2 0 rfl rfl (by omega) (by omega) dX8_comesAt_48 ?_
      refine lv_iadd hx hb dX8_comesAt_49 ?_
      refine lv_istore (lv' := [(4, .int (((fe k) + la) + (fb k))), (3, .int ((fe k) + la)), (0, .ref o), (1, .int (nI k)), (2, .int h)]) hx hb dX8_comesAt_50 hl (by decide) rfl (fun ls hl => ?_)
      refine lv_iload hx hb dX8_comesAt_52 (lv_at hl 0 rfl) ?_
      refine lv_bipush (v := nI 23) hx hb dX8_comesAt_54 (by decide) ?_
      refine lv_icmp_le (tgt := 64) hx hb dX8_comesAt_56 (by decide) (fun c56 => ?_) (fun c56 => ?_)
      · refine lv_iload hx hb dX8_comesAt_64 (lv_at hl 0 rfl) ?_
        exact hret (((fe k) + la) + (fb k)) (()) _ _ _ _ dX8_comesAt_66 (by unfold cmB cut23 mx2; rw [if_pos c13, if_pos c35, if_pos c56]) hP hD hS
      · refine lv_bipush (v := nI 23) hx hb dX8_comesAt_59 (by decide) ?_
        refine lv_goto (tgt := 66) hx hb dX8_comesAt_61 (by decide) ?_
        exact hret (nI 23) (()) _ _ _ _ dX8_comesAt_66 (by unfold cmB cut23 mx2; rw [if_pos c13, if_pos c35, if_neg c56]) hP hD hS
    · refine lv_iload_n hx hb dX8_comesAt_38 rfl (lv_at hl 3 rfl) ?_
      refine lv_goto (tgt := 43) hx hb dX8_comesAt_39 (by decide) ?_
      refine lv_aload_n hx hb dX8_comesAt_43 rfl (lv_at hl 1 rfl) ?_
      refine va_get (D := D) (ci := 8) (v := .ref my) (C := RX8) (T := TX8) (N := 23) hx hb hts hi8 hown hK hP 0 rfl rfl 11 (by decide) hw3 (fun _ h9 => h9) rfl dX8_comesAt_44 ?_
      refine lv_iload_n hx hb dX8_comesAt_47 rfl (lv_at hl 2 rfl) ?_
      refine iald_n (k := k) hx hb hK hP 2 0 rfl rfl (by omega) (by omega) dX8_comesAt_48 ?_
      refine lv_iadd hx hb dX8_comesAt_49 ?_
      refine lv_istore (lv' := [(4, .int (h + (fb k))), (3, .int ((fe k) + la)), (0, .ref o), (1, .int (nI k)), (2, .int h)]) hx hb dX8_comesAt_50 hl (by decide) rfl (fun ls hl => ?_)
      refine lv_iload hx hb dX8_comesAt_52 (lv_at hl 0 rfl) ?_
      refine lv_bipush (v := nI 23) hx hb dX8_comesAt_54 (by decide) ?_
      refine lv_icmp_le (tgt := 64) hx hb dX8_comesAt_56 (by decide) (fun c56 => ?_) (fun c56 => ?_)
      · refine lv_iload hx hb dX8_comesAt_64 (lv_at hl 0 rfl) ?_
        exact hret (h + (fb k)) (()) _ _ _ _ dX8_comesAt_66 (by unfold cmB cut23 mx2; rw [if_pos c13, if_neg c35, if_pos c56]) hP hD hS
      · refine lv_bipush (v := nI 23) hx hb dX8_comesAt_59 (by decide) ?_
        refine lv_goto (tgt := 66) hx hb dX8_comesAt_61 (by decide) ?_
        exact hret (nI 23) (()) _ _ _ _ dX8_comesAt_66 (by unfold cmB cut23 mx2; rw [if_pos c13, if_neg c35, if_neg c56]) hP hD hS
  · refine lv_bipush (v := nI 23) hx hb dX8_comesAt_16 (by decide) ?_
    refine lv_goto (tgt := 32) hx hb dX8_comesAt_18 (by decide) ?_
    refine lv_istore_n (lv' := [(3, .int (nI 23)), (0, .ref o), (1, .int (nI k)), (2, .int h)]) hx hb dX8_comesAt_32 rfl hl (by decide) rfl (fun ls hl => ?_)
    refine lv_iload_n hx hb dX8_comesAt_33 rfl (lv_at hl 3 rfl) ?_
    refine lv_iload_n hx hb dX8_comesAt_34 rfl (lv_at hl 0 rfl) ?_
    refine lv_icmp_le (tgt := 42) hx hb dX8_comesAt_35 (by decide) (fun c35 => ?_) (fun c35 => ?_)
    · refine lv_iload_n hx hb dX8_comesAt_42 rfl (lv_at hl 0 rfl) ?_
      refine lv_aload_n hx hb dX8_comesAt_43 rfl (lv_at hl 1 rfl) ?_
      refine va_get (D := D) (ci := 8) (v := .ref my) (C := RX8) (T := TX8) (N := 23) hx hb hts hi8 hown hK hP 0 rfl rfl 11 (by decide) hw3 (fun _ h9 => h9) rfl dX8_comesAt_44 ?_
      refine lv_iload_n hx hb dX8_comesAt_47 rfl (lv_at hl 2 rfl) ?_
      refine iald_n (k := k) hx hb hK hP 2 0 rfl rfl (by omega) (by omega) dX8_comesAt_48 ?_
      refine lv_iadd hx hb dX8_comesAt_49 ?_
      refine lv_istore (lv' := [(4, .int ((nI 23) + (fb k))), (3, .int (nI 23)), (0, .ref o), (1, .int (nI k)), (2, .int h)]) hx hb dX8_comesAt_50 hl (by decide) rfl (fun ls hl => ?_)
      refine lv_iload hx hb dX8_comesAt_52 (lv_at hl 0 rfl) ?_
      refine lv_bipush (v := nI 23) hx hb dX8_comesAt_54 (by decide) ?_
      refine lv_icmp_le (tgt := 64) hx hb dX8_comesAt_56 (by decide) (fun c56 => ?_) (fun c56 => ?_)
      · refine lv_iload hx hb dX8_comesAt_64 (lv_at hl 0 rfl) ?_
        exact hret ((nI 23) + (fb k)) (()) _ _ _ _ dX8_comesAt_66 (by unfold cmB cut23 mx2; rw [if_neg c13, if_pos c35, if_pos c56]) hP hD hS
      · refine lv_bipush (v := nI 23) hx hb dX8_comesAt_59 (by decide) ?_
        refine lv_goto (tgt := 66) hx hb dX8_comesAt_61 (by decide) ?_
        exact hret (nI 23) (()) _ _ _ _ dX8_comesAt_66 (by unfold cmB cut23 mx2; rw [if_neg c13, if_pos c35, if_neg c56]) hP hD hS
    · refine lv_iload_n hx hb dX8_comesAt_38 rfl (lv_at hl 3 rfl) ?_
      refine lv_goto (tgt := 43) hx hb dX8_comesAt_39 (by decide) ?_
      refine lv_aload_n hx hb dX8_comesAt_43 rfl (lv_at hl 1 rfl) ?_
      refine va_get (D := D) (ci := 8) (v := .ref my) (C := RX8) (T := TX8) (N := 23) hx hb hts hi8 hown hK hP 0 rfl rfl 11 (by decide) hw3 (fun _ h9 => h9) rfl dX8_comesAt_44 ?_
      refine lv_iload_n hx hb dX8_comesAt_47 rfl (lv_at hl 2 rfl) ?_
      refine iald_n (k := k) hx hb hK hP 2 0 rfl rfl (by omega) (by omega) dX8_comesAt_48 ?_
      refine lv_iadd hx hb dX8_comesAt_49 ?_
      refine lv_istore (lv' := [(4, .int (h + (fb k))), (3, .int (nI 23)), (0, .ref o), (1, .int (nI k)), (2, .int h)]) hx hb dX8_comesAt_50 hl (by decide) rfl (fun ls hl => ?_)
      refine lv_iload hx hb dX8_comesAt_52 (lv_at hl 0 rfl) ?_
      refine lv_bipush (v := nI 23) hx hb dX8_comesAt_54 (by decide) ?_
      refine lv_icmp_le (tgt := 64) hx hb dX8_comesAt_56 (by decide) (fun c56 => ?_) (fun c56 => ?_)
      · refine lv_iload hx hb dX8_comesAt_64 (lv_at hl 0 rfl) ?_
        exact hret (h + (fb k)) (()) _ _ _ _ dX8_comesAt_66 (by unfold cmB cut23 mx2; rw [if_neg c13, if_neg c35, if_pos c56]) hP hD hS
      · refine lv_bipush (v := nI 23) hx hb dX8_comesAt_59 (by decide) ?_
        refine lv_goto (tgt := 66) hx hb dX8_comesAt_61 (by decide) ?_
        exact hret (nI 23) (()) _ _ _ _ dX8_comesAt_66 (by unfold cmB cut23 mx2; rw [if_neg c13, if_neg c35, if_neg c56]) hP hD hS

abbrev rm_X8_layCame : Room := { frames := 1, cells := 0, slots := 0, locals := 24 }
set_option maxHeartbeats 4000000 in
set_option maxRecDepth 100000 in
theorem c_layCame (l : Launch) (D : va_G) (cI cJ cZ cG cM : ClassId) (o me ml mb mt ms mp my mc mk mw mo mq mi mz : Nat) (fi si sn la ah ri lh : Int32) (n nl : Nat) (h : Int32) (fe fb cm : Nat → Int32) (h6 : n ≤ 6) :
    CV l yX8_layCame wsX8_layCame rm_X8_layCame D [(cI, .int), (cJ, .long), (cZ, .boolean), (cG, .object "LatestSets$Guild"), (cM, .array .int)] [(o, .inr (8, [.int (nI n), .ref me, .ref ml, .ref mb, .int fi, .int (nI nl), .ref mt, .int si, .ref ms, .int sn, .ref mp, .ref my, .ref mc, .int la, .ref mk, .ref mw, .int ah, .int ri, .int lh, .ref mo, .ref mq, .ref mi, .ref mz])), (me, .inl (cI, 6, .inl fe)), (my, .inl (cI, 6, .inl fb)), (mc, .inl (cI, 6, .inl cm))] [.ref o, .int h] (S := Unit) (fun u => True) (fun u => [(o, .inr (8, [.int (nI n), .ref me, .ref ml, .ref mb, .int fi, .int (nI nl), .ref mt, .int si, .ref ms, .int sn, .ref mp, .ref my, .ref mc, .int la, .ref mk, .ref mw, .int ah, .int ri, .int lh, .ref mo, .ref mq, .ref mi, .ref mz])), (me, .inl (cI, 6, .inl fe)), (my, .inl (cI, 6, .inl fb)), (mc, .inl (cI, 6, .inl (arrS cm (fun m9 => cmB h (fe m9) la (fb m9)) n)))]) := by
  refine sv_of (cc := cX8_layCame) (maxL := 5) (by decide) rfl (Nat.le_of_ble_eq_true rfl) ?_
  intro p e s m args below meth c A ls Q E hret
  obtain ⟨hx, hb, -, hml, hown, hts, -, hin, hA, hK, hP, hD, hS, hl, hN⟩ := E
  have hown : s.vm.findClass RX8 = some m.cls := hown
  have hl : lv_has ls 5 [(0, .ref o), (1, .int h)] := hl
  have SF : CallFix p m c cX8_layCame 5 s args wsX8_layCame RX8 := ⟨hx, hb, hml, hown, hts⟩
  have hw0 := hts (.fieldLink RX8 7 "LatestSetsModel" "members" "I") (by decide +kernel)
  have hi8 : ∀ x ∈ wsX80, x ∈ wsX8_layCame := by decide +kernel
  have hw2 := hts (.fieldLink RX8 41 "LatestSetsModel" "came" "[I") (by decide +kernel)
  refine lv_iconst (v := nI 0) hx hb dX8_layCame_0 (by decide) ?_
  refine lv_istore_n (lv' := [(2, .int (nI 0)), (0, .ref o), (1, .int h)]) hx hb dX8_layCame_1 rfl hl (by decide) rfl (fun ls hl => ?_)
  have L2 : ∀ (n9 : Nat) (k : Nat) (hk : k ≤ n), n - k < n9 → ∀ (H : Heap) (locs : List Loc), va_P D vwCl [(o, .inr (8, [.int (nI n), .ref me, .ref ml, .ref mb, .int fi, .int (nI nl), .ref mt, .int si, .ref ms, .int sn, .ref mp, .ref my, .ref mc, .int la, .ref mk, .ref mw, .int ah, .int ri, .int lh, .ref mo, .ref mq, .ref mi, .ref mz])), (me, .inl (cI, 6, .inl fe)), (my, .inl (cI, 6, .inl fb)), (mc, .inl (cI, 6, .inl (arrS cm (fun m9 => cmB h (fe m9) la (fb m9)) k)))] H → va_D A [(o, .inr (8, [.int (nI n), .ref me, .ref ml, .ref mb, .int fi, .int (nI nl), .ref mt, .int si, .ref ms, .int sn, .ref mp, .ref my, .ref mc, .int la, .ref mk, .ref mw, .int ah, .int ri, .int lh, .ref mo, .ref mq, .ref mi, .ref mz])), (me, .inl (cI, 6, .inl fe)), (my, .inl (cI, 6, .inl fb)), (mc, .inl (cI, 6, .inl (arrS cm (fun m9 => cmB h (fe m9) la (fb m9)) k)))] → va_S A s.heap H locs → ∀ (ls : Array Slot), lv_has ls 5 [(0, .ref o), (1, .int h), (2, .int (nI k))] → W p l e rm_X8_layCame s m args below meth c H locs 0 0 Q (F0 m 2 ls []) := by
    intro n9
    induction n9 with
    | zero => intro k hk hm; exact absurd hm (Nat.not_lt_zero _)
    | succ n9 ih2 =>
      intro k hk hm2 H locs hP hD hS ls hl
      refine lv_iload_n hx hb dX8_layCame_2 rfl (lv_at hl 2 rfl) ?_
      refine lv_aload_n hx hb dX8_layCame_3 rfl (lv_at hl 0 rfl) ?_
      refine va_get (D := D) (ci := 8) (v := .int (nI n)) (C := RX8) (T := TX8) (N := 23) hx hb hts hi8 hown hK hP 0 rfl rfl 0 (by decide) hw0 (fun _ h9 => h9) rfl dX8_layCame_4 ?_
      refine icmp_ge_n (a := k) (b := n) (tgt := 74) hx hb dX8_layCame_7 (by decide) (by omega) (by omega) (fun c7 => ?_) (fun c7 => ?_)
      · have e9 : k = n := by omega
        subst e9
        exact hret (()) _ _ _ _ dX8_layCame_74 trivial hP hD hS
      · refine lv_aload_n hx hb dX8_layCame_10 rfl (lv_at hl 0 rfl) ?_
        refine lv_iload_n hx hb dX8_layCame_11 rfl (lv_at hl 2 rfl) ?_
        refine lv_iload_n hx hb dX8_layCame_12 rfl (lv_at hl 1 rfl) ?_
        refine cal_i (run_V (As := [.int (nI k), .int h]) (rest := []) SF (c_comesAt l D cI cJ cZ cG cM o me ml mb mt ms mp my mc mk mw mo mq mi mz fi si sn la ah ri lh n nl k h fe fb (by omega)) (cwV 2 hts gX8_layCame_X8_comesAt rfl rfl rfl (by decide +kernel) ⟨Nat.le_of_ble_eq_true rfl, Nat.le_of_ble_eq_true rfl⟩) hN hK hP hD [0, 1, 2] rfl (by decide) 8 0 rfl rfl rfl rfl hl.1 rfl (Nat.le_of_ble_eq_true rfl) dX8_layCame_13 ⟨Nat.le_of_ble_eq_true rfl, Nat.le_of_ble_eq_true rfl⟩) ⟨rfl, rfl⟩ hP hD hS hA [0, 1, 2] rfl (fun _ => rfl) (fun r9 _ H locs hw hP hD hS => ?_)
        have hP : va_P D vwCl [(o, .inr (8, [.int (nI n), .ref me, .ref ml, .ref mb, .int fi, .int (nI nl), .ref mt, .int si, .ref ms, .int sn, .ref mp, .ref my, .ref mc, .int la, .ref mk, .ref mw, .int ah, .int ri, .int lh, .ref mo, .ref mq, .ref mi, .ref mz])), (me, .inl (cI, 6, .inl fe)), (my, .inl (cI, 6, .inl fb)), (mc, .inl (cI, 6, .inl (arrS cm (fun m9 => cmB h (fe m9) la (fb m9)) k)))] H := hP
        have hD : va_D A [(o, .inr (8, [.int (nI n), .ref me, .ref ml, .ref mb, .int fi, .int (nI nl), .ref mt, .int si, .ref ms, .int sn, .ref mp, .ref my, .ref mc, .int la, .ref mk, .ref mw, .int ah, .int ri, .int lh, .ref mo, .ref mq, .ref mi, .ref mz])), (me, .inl (cI, 6, .inl fe)), (my, .inl (cI, 6, .inl fb)), (mc, .inl (cI, 6, .inl (arrS cm (fun m9 => cmB h (fe m9) la (fb m9)) k)))] := hD
        subst hw
        refine lv_istore_n (lv' := [(3, .int (cmB h (fe k) la (fb k))), (0, .ref o), (1, .int h), (2, .int (nI k))]) hx hb dX8_layCame_16 rfl hl (by decide) rfl (fun ls hl => ?_)
        refine lv_iload_n hx hb dX8_layCame_17 rfl (lv_at hl 3 rfl) ?_
        refine lv_istore (lv' := [(4, .int (nI k)), (3, .int (cmB h (fe k) la (fb k))), (0, .ref o), (1, .int h), (2, .int (nI k))]) hx hb dX8_layCame_18 hl (by decide) rfl (fun ls hl => ?_)
        have L20 : ∀ (n9 : Nat) (j : Nat) (f1 : Nat → Int32) (hj : j < 6) (he : insG f1 ((fun m9 => cmB h (fe m9) la (fb m9)) k) j = insG (arrS cm (fun m9 => cmB h (fe m9) la (fb m9)) k) ((fun m9 => cmB h (fe m9) la (fb m9)) k) k), j < n9 → ∀ (H : Heap) (locs : List Loc), va_P D vwCl [(o, .inr (8, [.int (nI n), .ref me, .ref ml, .ref mb, .int fi, .int (nI nl), .ref mt, .int si, .ref ms, .int sn, .ref mp, .ref my, .ref mc, .int la, .ref mk, .ref mw, .int ah, .int ri, .int lh, .ref mo, .ref mq, .ref mi, .ref mz])), (me, .inl (cI, 6, .inl fe)), (my, .inl (cI, 6, .inl fb)), (mc, .inl (cI, 6, .inl f1))] H → va_D A [(o, .inr (8, [.int (nI n), .ref me, .ref ml, .ref mb, .int fi, .int (nI nl), .ref mt, .int si, .ref ms, .int sn, .ref mp, .ref my, .ref mc, .int la, .ref mk, .ref mw, .int ah, .int ri, .int lh, .ref mo, .ref mq, .ref mi, .ref mz])), (me, .inl (cI, 6, .inl fe)), (my, .inl (cI, 6, .inl fb)), (mc, .inl (cI, 6, .inl f1))] → va_S A s.heap H locs → ∀ (ls : Array Slot), lv_has ls 5 [(0, .ref o), (1, .int h), (2, .int (nI k)), (3, .int (cmB h (fe k) la (fb k))), (4, .int (nI j))] → W p l e rm_X8_layCame s m args below meth c H locs 0 0 Q (F0 m 20 ls []) := by
          intro n9
          induction n9 with
          | zero => intro j f1 hj he hm; exact absurd hm (Nat.not_lt_zero _)
          | succ n9 ih20 =>
            intro j f1 hj he hm20 H locs hP hD hS ls hl
            refine lv_iload hx hb dX8_layCame_20 (lv_at hl 4 rfl) ?_
            refine if_le_n (a := j) (tgt := 60) hx hb dX8_layCame_22 (by decide) (by omega) (fun c22 => ?_) (fun c22 => ?_)
            · refine lv_aload_n hx hb dX8_layCame_60 rfl (lv_at hl 0 rfl) ?_
              refine va_get (D := D) (ci := 8) (v := .ref mc) (C := RX8) (T := TX8) (N := 23) hx hb hts hi8 hown hK hP 0 rfl rfl 12 (by decide) hw2 (fun _ h9 => h9) rfl dX8_layCame_61 ?_
              refine lv_iload hx hb dX8_layCame_64 (lv_at hl 4 rfl) ?_
              refine lv_iload_n hx hb dX8_layCame_66 rfl (lv_at hl 3 rfl) ?_
              refine iast_n (k := j) hx hb hK hP hD hS 3 0 rfl rfl (by omega) (by omega) dX8_layCame_67 (fun H locs hP hD hS => ?_)
              have hP : va_P D vwCl [(o, .inr (8, [.int (nI n), .ref me, .ref ml, .ref mb, .int fi, .int (nI nl), .ref mt, .int si, .ref ms, .int sn, .ref mp, .ref my, .ref mc, .int la, .ref mk, .ref mw, .int ah, .int ri, .int lh, .ref mo, .ref mq, .ref mi, .ref mz])), (me, .inl (cI, 6, .inl fe)), (my, .inl (cI, 6, .inl fb)), (mc, .inl (cI, 6, .inl (upd f1 j (cmB h (fe k) la (fb k)))))] H := hP
              have hD : va_D A [(o, .inr (8, [.int (nI n), .ref me, .ref ml, .ref mb, .int fi, .int (nI nl), .ref mt, .int si, .ref ms, .int sn, .ref mp, .ref my, .ref mc, .int la, .ref mk, .ref mw, .int ah, .int ri, .int lh, .ref mo, .ref mq, .ref mi, .ref mz])), (me, .inl (cI, 6, .inl fe)), (my, .inl (cI, 6, .inl fb)), (mc, .inl (cI, 6, .inl (upd f1 j (cmB h (fe k) la (fb k)))))] := hD
              have e9 : upd f1 j ((fun m9 => cmB h (fe m9) la (fb m9)) k) = insG (arrS cm (fun m9 => cmB h (fe m9) la (fb m9)) k) ((fun m9 => cmB h (fe m9) la (fb m9)) k) k := by rw [← he, c22]; rfl
              change va_P D vwCl [(o, .inr (8, [.int (nI n), .ref me, .ref ml, .ref mb, .int fi, .int (nI nl), .ref mt, .int si, .ref ms, .int sn, .ref mp, .ref my, .ref mc, .int la, .ref mk, .ref mw, .int ah, .int ri, .int lh, .ref mo, .ref mq, .ref mi, .ref mz])), (me, .inl (cI, 6, .inl fe)), (my, .inl (cI, 6, .inl fb)), (mc, .inl (cI, 6, .inl (upd f1 j ((fun m9 => cmB h (fe m9) la (fb m9)) k))))] H at hP
              change va_D A [(o, .inr (8, [.int (nI n), .ref me, .ref ml, .ref mb, .int fi, .int (nI nl), .ref mt, .int si, .ref ms, .int sn, .ref mp, .ref my, .ref mc, .int la, .ref mk, .ref mw, .int ah, .int ri, .int lh, .ref mo, .ref mq, .ref mi, .ref mz])), (me, .inl (cI, 6, .inl fe)), (my, .inl (cI, 6, .inl fb)), (mc, .inl (cI, 6, .inl (upd f1 j ((fun m9 => cmB h (fe m9) la (fb m9)) k))))] at hD
              rw [e9] at hP hD
              refine lv_iinc (v := nI (k + 1)) (lv' := [(2, .int (nI (k + 1))), (0, .ref o), (1, .int h), (3, .int (cmB h (fe k) la (fb k))), (4, .int (nI j))]) hx hb dX8_layCame_68 hl (k := 2) rfl (nI_1 k) (by decide) rfl (fun ls hl => ?_)
              refine lv_goto (tgt := 2) hx hb dX8_layCame_71 (by decide) ?_
              exact ih2 (k + 1) ((by omega)) (by omega) _ _ hP hD hS _ (lv_sub hl [1, 2, 0] rfl)
            · refine lv_aload_n hx hb dX8_layCame_25 rfl (lv_at hl 0 rfl) ?_
              refine va_get (D := D) (ci := 8) (v := .ref mc) (C := RX8) (T := TX8) (N := 23) hx hb hts hi8 hown hK hP 0 rfl rfl 12 (by decide) hw2 (fun _ h9 => h9) rfl dX8_layCame_26 ?_
              refine lv_iload hx hb dX8_layCame_29 (lv_at hl 4 rfl) ?_
              refine lv_iconst (v := nI 1) hx hb dX8_layCame_31 (by decide) ?_
              refine isub_n (a := j) (b := 1) hx hb dX8_layCame_32 (by omega) ?_
              refine iald_n (k := j - 1) hx hb hK hP 3 0 rfl rfl (by omega) (by omega) dX8_layCame_33 ?_
              refine lv_iload_n hx hb dX8_layCame_34 rfl (lv_at hl 3 rfl) ?_
              refine lv_icmp_le (tgt := 60) hx hb dX8_layCame_35 (by decide) (fun c35 => ?_) (fun c35 => ?_)
              · refine lv_aload_n hx hb dX8_layCame_60 rfl (lv_at hl 0 rfl) ?_
                refine va_get (D := D) (ci := 8) (v := .ref mc) (C := RX8) (T := TX8) (N := 23) hx hb hts hi8 hown hK hP 0 rfl rfl 12 (by decide) hw2 (fun _ h9 => h9) rfl dX8_layCame_61 ?_
                refine lv_iload hx hb dX8_layCame_64 (lv_at hl 4 rfl) ?_
                refine lv_iload_n hx hb dX8_layCame_66 rfl (lv_at hl 3 rfl) ?_
                refine iast_n (k := j) hx hb hK hP hD hS 3 0 rfl rfl (by omega) (by omega) dX8_layCame_67 (fun H locs hP hD hS => ?_)
                have hP : va_P D vwCl [(o, .inr (8, [.int (nI n), .ref me, .ref ml, .ref mb, .int fi, .int (nI nl), .ref mt, .int si, .ref ms, .int sn, .ref mp, .ref my, .ref mc, .int la, .ref mk, .ref mw, .int ah, .int ri, .int lh, .ref mo, .ref mq, .ref mi, .ref mz])), (me, .inl (cI, 6, .inl fe)), (my, .inl (cI, 6, .inl fb)), (mc, .inl (cI, 6, .inl (upd f1 j (cmB h (fe k) la (fb k)))))] H := hP
                have hD : va_D A [(o, .inr (8, [.int (nI n), .ref me, .ref ml, .ref mb, .int fi, .int (nI nl), .ref mt, .int si, .ref ms, .int sn, .ref mp, .ref my, .ref mc, .int la, .ref mk, .ref mw, .int ah, .int ri, .int lh, .ref mo, .ref mq, .ref mi, .ref mz])), (me, .inl (cI, 6, .inl fe)), (my, .inl (cI, 6, .inl fb)), (mc, .inl (cI, 6, .inl (upd f1 j (cmB h (fe k) la (fb k)))))] := hD
                have e9 : upd f1 j ((fun m9 => cmB h (fe m9) la (fb m9)) k) = insG (arrS cm (fun m9 => cmB h (fe m9) la (fb m9)) k) ((fun m9 => cmB h (fe m9) la (fb m9)) k) k := by rw [← he]; obtain ⟨i, rfl⟩ : ∃ i, j = i + 1 := ⟨j - 1, by omega⟩; exact (if_pos c35).symm
                change va_P D vwCl [(o, .inr (8, [.int (nI n), .ref me, .ref ml, .ref mb, .int fi, .int (nI nl), .ref mt, .int si, .ref ms, .int sn, .ref mp, .ref my, .ref mc, .int la, .ref mk, .ref mw, .int ah, .int ri, .int lh, .ref mo, .ref mq, .ref mi, .ref mz])), (me, .inl (cI, 6, .inl fe)), (my, .inl (cI, 6, .inl fb)), (mc, .inl (cI, 6, .inl (upd f1 j ((fun m9 => cmB h (fe m9) la (fb m9)) k))))] H at hP
                change va_D A [(o, .inr (8, [.int (nI n), .ref me, .ref ml, .ref mb, .int fi, .int (nI nl), .ref mt, .int si, .ref ms, .int sn, .ref mp, .ref my, .ref mc, .int la, .ref mk, .ref mw, .int ah, .int ri, .int lh, .ref mo, .ref mq, .ref mi, .ref mz])), (me, .inl (cI, 6, .inl fe)), (my, .inl (cI, 6, .inl fb)), (mc, .inl (cI, 6, .inl (upd f1 j ((fun m9 => cmB h (fe m9) la (fb m9)) k))))] at hD
                rw [e9] at hP hD
                refine lv_iinc (v := nI (k + 1)) (lv' := [(2, .int (nI (k + 1))), (0, .ref o), (1, .int h), (3, .int (cmB h (fe k) la (fb k))), (4, .int (nI j))]) hx hb dX8_layCame_68 hl (k := 2) rfl (nI_1 k) (by decide) rfl (fun ls hl => ?_)
                refine lv_goto (tgt := 2) hx hb dX8_layCame_71 (by decide) ?_
                exact ih2 (k + 1) ((by omega)) (by omega) _ _ hP hD hS _ (lv_sub hl [1, 2, 0] rfl)
              · refine lv_aload_n hx hb dX8_layCame_38 rfl (lv_at hl 0 rfl) ?_
                refine va_get (D := D) (ci := 8) (v := .ref mc) (C := RX8) (T := TX8) (N := 23) hx hb hts hi8 hown hK hP 0 rfl rfl 12 (by decide) hw2 (fun _ h9 => h9) rfl dX8_layCame_39 ?_
                refine lv_iload hx hb dX8_layCame_42 (lv_at hl 4 rfl) ?_
                refine lv_aload_n hx hb dX8_layCame_44 rfl (lv_at hl 0 rfl) ?_
                refine va_get (D := D) (ci := 8) (v := .ref mc) (C := RX8) (T := TX8) (N := 23) hx hb hts hi8 hown hK hP 0 rfl rfl 12 (by decide) hw2 (fun _ h9 => h9) rfl dX8_layCame_45 ?_
                refine lv_iload hx hb dX8_layCame_48 (lv_at hl 4 rfl) ?_
                refine lv_iconst (v := nI 1) hx hb dX8_layCame_50 (by decide) ?_
                refine isub_n (a := j) (b := 1) hx hb dX8_layCame_51 (by omega) ?_
                refine iald_n (k := j - 1) hx hb hK hP 3 0 rfl rfl (by omega) (by omega) dX8_layCame_52 ?_
                refine iast_n (k := j) hx hb hK hP hD hS 3 0 rfl rfl (by omega) (by omega) dX8_layCame_53 (fun H locs hP hD hS => ?_)
                have hP : va_P D vwCl [(o, .inr (8, [.int (nI n), .ref me, .ref ml, .ref mb, .int fi, .int (nI nl), .ref mt, .int si, .ref ms, .int sn, .ref mp, .ref my, .ref mc, .int la, .ref mk, .ref mw, .int ah, .int ri, .int lh, .ref mo, .ref mq, .ref mi, .ref mz])), (me, .inl (cI, 6, .inl fe)), (my, .inl (cI, 6, .inl fb)), (mc, .inl (cI, 6, .inl (upd f1 j (f1 (j - 1)))))] H := hP
                have hD : va_D A [(o, .inr (8, [.int (nI n), .ref me, .ref ml, .ref mb, .int fi, .int (nI nl), .ref mt, .int si, .ref ms, .int sn, .ref mp, .ref my, .ref mc, .int la, .ref mk, .ref mw, .int ah, .int ri, .int lh, .ref mo, .ref mq, .ref mi, .ref mz])), (me, .inl (cI, 6, .inl fe)), (my, .inl (cI, 6, .inl fb)), (mc, .inl (cI, 6, .inl (upd f1 j (f1 (j - 1)))))] := hD
                refine lv_iinc (v := nI (j - 1)) (lv' := [(4, .int (nI (j - 1))), (0, .ref o), (1, .int h), (2, .int (nI k)), (3, .int (cmB h (fe k) la (fb k)))]) hx hb dX8_layCame_54 hl (k := 4) rfl (by have h9 : 1 ≤ j := (by omega); rw [show j = (j - 1) + 1 by omega]; exact pk_m1 _) (by decide) rfl (fun ls hl => ?_)
                refine lv_goto (tgt := 20) hx hb dX8_layCame_57 (by decide) ?_
                exact ih20 (j - 1) (upd f1 j (f1 (j - 1))) ((by omega)) ((by rw [← he]; obtain ⟨i, rfl⟩ : ∃ i, j = i + 1 := ⟨j - 1, by omega⟩; exact (if_neg c35).symm)) (by omega) _ _ hP hD hS _ (lv_sub hl [1, 2, 3, 4, 0] rfl)
        exact L20 _ k (arrS cm (fun m9 => cmB h (fe m9) la (fb m9)) k) ((by omega)) rfl (Nat.lt_succ_self _) _ _ hP hD hS _ (lv_sub hl [2, 3, 4, 1, 0] rfl)
  exact L2 _ 0 ((Nat.zero_le _)) (Nat.lt_succ_self _) _ _ hP hD hS _ (lv_sub hl [1, 2, 0] rfl)

abbrev rm_X8_leafOf : Room := { frames := 0, cells := 0, slots := 0, locals := 0 }
set_option maxHeartbeats 4000000 in
set_option maxRecDepth 100000 in
theorem c_leafOf (l : Launch) (D : va_G) (cI cJ cZ cG cM : ClassId) (o me ml mb mt ms mp my mc mk mw mo mq mi mz : Nat) (fi si sn la ah ri lh : Int32) (n nl : Nat) (x h : Int32) (cm : Nat → Int32) (hl9 : isLf x) (h1 : 1 ≤ n) (h6 : n ≤ 6) :
    CI l yX8_leafOf wsX8_leafOf rm_X8_leafOf D [(cI, .int), (cJ, .long), (cZ, .boolean), (cG, .object "LatestSets$Guild"), (cM, .array .int)] [(o, .inr (8, [.int (nI n), .ref me, .ref ml, .ref mb, .int fi, .int (nI nl), .ref mt, .int si, .ref ms, .int sn, .ref mp, .ref my, .ref mc, .int la, .ref mk, .ref mw, .int ah, .int ri, .int lh, .ref mo, .ref mq, .ref mi, .ref mz])), (mc, .inl (cI, 6, .inl cm))] [.ref o, .int x, .int h] (S := Unit) (fun r u => r = lfC cm n h x) (fun u => [(o, .inr (8, [.int (nI n), .ref me, .ref ml, .ref mb, .int fi, .int (nI nl), .ref mt, .int si, .ref ms, .int sn, .ref mp, .ref my, .ref mc, .int la, .ref mk, .ref mw, .int ah, .int ri, .int lh, .ref mo, .ref mq, .ref mi, .ref mz])), (mc, .inl (cI, 6, .inl cm))]) := by
  refine si_of (cc := cX8_leafOf) (maxL := 3) (by decide) rfl (Nat.le_of_ble_eq_true rfl) ?_
  intro p e s m args below meth c A ls Q E hret
  obtain ⟨hx, hb, -, hml, hown, hts, -, hin, hA, hK, hP, hD, hS, hl, hN⟩ := E
  have hown : s.vm.findClass RX8 = some m.cls := hown
  have hl : lv_has ls 3 [(0, .ref o), (1, .int x), (2, .int h)] := hl
  have SF : CallFix p m c cX8_leafOf 3 s args wsX8_leafOf RX8 := ⟨hx, hb, hml, hown, hts⟩
  have hw0 := hts (.fieldLink RX8 41 "LatestSetsModel" "came" "[I") (by decide +kernel)
  have hi8 : ∀ x ∈ wsX80, x ∈ wsX8_leafOf := by decide +kernel
  have hw2 := hts (.fieldLink RX8 7 "LatestSetsModel" "members" "I") (by decide +kernel)
  refine lv_iload_n hx hb dX8_leafOf_0 rfl (lv_at hl 1 rfl) ?_
  by_cases e102 : x = nI 102
  · refine lv_lookup (off := 55) (tgt := 56) hx hb dX8_leafOf_1 (by decide +kernel) (by rw [e102]; decide +kernel) (by decide) ?_
    refine lv_aload_n hx hb dX8_leafOf_56 rfl (lv_at hl 0 rfl) ?_
    refine va_get (D := D) (ci := 8) (v := .ref mc) (C := RX8) (T := TX8) (N := 23) hx hb hts hi8 hown hK hP 0 rfl rfl 12 (by decide) hw0 (fun _ h9 => h9) rfl dX8_leafOf_57 ?_
    refine lv_iconst (v := nI 0) hx hb dX8_leafOf_60 (by decide) ?_
    refine iald_n (k := 0) hx hb hK hP 1 0 rfl rfl (by omega) (by omega) dX8_leafOf_61 ?_
    exact hret (cm 0) (()) _ _ _ _ dX8_leafOf_62 (by rw [e102]; rfl) hP hD hS
  · skip
    by_cases e108 : x = nI 108
    · refine lv_lookup (off := 43) (tgt := 44) hx hb dX8_leafOf_1 (by decide +kernel) (by rw [e108]; decide +kernel) (by decide) ?_
      refine lv_aload_n hx hb dX8_leafOf_44 rfl (lv_at hl 0 rfl) ?_
      refine va_get (D := D) (ci := 8) (v := .ref mc) (C := RX8) (T := TX8) (N := 23) hx hb hts hi8 hown hK hP 0 rfl rfl 12 (by decide) hw0 (fun _ h9 => h9) rfl dX8_leafOf_45 ?_
      refine lv_aload_n hx hb dX8_leafOf_48 rfl (lv_at hl 0 rfl) ?_
      refine va_get (D := D) (ci := 8) (v := .int (nI n)) (C := RX8) (T := TX8) (N := 23) hx hb hts hi8 hown hK hP 0 rfl rfl 0 (by decide) hw2 (fun _ h9 => h9) rfl dX8_leafOf_49 ?_
      refine lv_iconst (v := nI 1) hx hb dX8_leafOf_52 (by decide) ?_
      refine isub_n (a := n) (b := 1) hx hb dX8_leafOf_53 (by omega) ?_
      refine iald_n (k := n - 1) hx hb hK hP 1 0 rfl rfl (by omega) (by omega) dX8_leafOf_54 ?_
      exact hret (cm (n - 1)) (()) _ _ _ _ dX8_leafOf_55 (by rw [e108]; rfl) hP hD hS
    · skip
      by_cases e109 : x = nI 109
      · refine lv_lookup (off := 62) (tgt := 63) hx hb dX8_leafOf_1 (by decide +kernel) (by rw [e109]; decide +kernel) (by decide) ?_
        refine lv_aload_n hx hb dX8_leafOf_63 rfl (lv_at hl 0 rfl) ?_
        refine va_get (D := D) (ci := 8) (v := .ref mc) (C := RX8) (T := TX8) (N := 23) hx hb hts hi8 hown hK hP 0 rfl rfl 12 (by decide) hw0 (fun _ h9 => h9) rfl dX8_leafOf_64 ?_
        refine lv_aload_n hx hb dX8_leafOf_67 rfl (lv_at hl 0 rfl) ?_
        refine va_get (D := D) (ci := 8) (v := .int (nI n)) (C := RX8) (T := TX8) (N := 23) hx hb hts hi8 hown hK hP 0 rfl rfl 0 (by decide) hw2 (fun _ h9 => h9) rfl dX8_leafOf_68 ?_
        refine lv_iconst (v := nI 1) hx hb dX8_leafOf_71 (by decide) ?_
        refine isub_n (a := n) (b := 1) hx hb dX8_leafOf_72 (by omega) ?_
        refine lv_iconst (v := nI 2) hx hb dX8_leafOf_73 (by decide) ?_
        refine idiv_n (a := n - 1) (b := 2) hx hb dX8_leafOf_74 (by omega) (by omega) (by omega) ?_
        refine iald_n (k := (n - 1) / 2) hx hb hK hP 1 0 rfl rfl (by omega) (by omega) dX8_leafOf_75 ?_
        exact hret (cm ((n - 1) / 2)) (()) _ _ _ _ dX8_leafOf_76 (by rw [e109]; rfl) hP hD hS
      · skip
        by_cases e112 : x = nI 112
        · refine lv_lookup (off := 76) (tgt := 77) hx hb dX8_leafOf_1 (by decide +kernel) (by rw [e112]; decide +kernel) (by decide) ?_
          refine lv_aload_n hx hb dX8_leafOf_77 rfl (lv_at hl 0 rfl) ?_
          refine va_get (D := D) (ci := 8) (v := .ref mc) (C := RX8) (T := TX8) (N := 23) hx hb hts hi8 hown hK hP 0 rfl rfl 12 (by decide) hw0 (fun _ h9 => h9) rfl dX8_leafOf_78 ?_
          refine lv_aload_n hx hb dX8_leafOf_81 rfl (lv_at hl 0 rfl) ?_
          refine va_get (D := D) (ci := 8) (v := .int (nI n)) (C := RX8) (T := TX8) (N := 23) hx hb hts hi8 hown hK hP 0 rfl rfl 0 (by decide) hw2 (fun _ h9 => h9) rfl dX8_leafOf_82 ?_
          refine lv_iconst (v := nI 1) hx hb dX8_leafOf_85 (by decide) ?_
          refine icmp_ne_n (a := n) (b := 1) (tgt := 93) hx hb dX8_leafOf_86 (by decide) (by omega) (by omega) (fun c86 => ?_) (fun c86 => ?_)
          · refine lv_aload_n hx hb dX8_leafOf_93 rfl (lv_at hl 0 rfl) ?_
            refine va_get (D := D) (ci := 8) (v := .int (nI n)) (C := RX8) (T := TX8) (N := 23) hx hb hts hi8 hown hK hP 0 rfl rfl 0 (by decide) hw2 (fun _ h9 => h9) rfl dX8_leafOf_94 ?_
            refine lv_iconst (v := nI 2) hx hb dX8_leafOf_97 (by decide) ?_
            refine isub_n (a := n) (b := 2) hx hb dX8_leafOf_98 (by omega) ?_
            refine iald_n (k := n - 2) hx hb hK hP 1 0 rfl rfl (by omega) (by omega) dX8_leafOf_99 ?_
            exact hret (cm (n - 2)) (()) _ _ _ _ dX8_leafOf_100 (by rw [e112]; rfl) hP hD hS
          · refine lv_iconst (v := nI 0) hx hb dX8_leafOf_89 (by decide) ?_
            refine lv_goto (tgt := 99) hx hb dX8_leafOf_90 (by decide) ?_
            refine iald_n (k := 0) hx hb hK hP 1 0 rfl rfl (by omega) (by omega) dX8_leafOf_99 ?_
            exact hret (cm 0) (()) _ _ _ _ dX8_leafOf_100 (by rw [e112]; show cm 0 = cm (n - 1 - 1); rw [c86]) hP hD hS
        · skip
          refine lv_lookup (off := 100) (tgt := 101) hx hb dX8_leafOf_1 (by decide +kernel) (by show Op.lookupswitch.offset [(102, 55), (108, 43), (109, 62), (112, 76)] (100) _ = _; rw [Op.lookupswitch.offset_cons, if_neg (show ¬ ((102 : Int) = _) from ne_toI (c := 102) (by decide) e102), Op.lookupswitch.offset_cons, if_neg (show ¬ ((108 : Int) = _) from ne_toI (c := 108) (by decide) e108), Op.lookupswitch.offset_cons, if_neg (show ¬ ((109 : Int) = _) from ne_toI (c := 109) (by decide) e109), Op.lookupswitch.offset_cons, if_neg (show ¬ ((112 : Int) = _) from ne_toI (c := 112) (by decide) e112), Op.lookupswitch.offset_nil]) (by decide) ?_
          refine lv_iload_n hx hb dX8_leafOf_101 rfl (lv_at hl 2 rfl) ?_
          exact hret h (()) _ _ _ _ dX8_leafOf_102 (by rcases hl9 with z | z | z | z | z <;> first | exact absurd z e108 | exact absurd z e102 | exact absurd z e109 | exact absurd z e112 | (rw [z]; rfl)) hP hD hS

abbrev rm_X8_nextOf : Room := { frames := 2, cells := 0, slots := 0, locals := 48 }
set_option maxHeartbeats 4000000 in
set_option maxRecDepth 100000 in
theorem c_nextOf (l : Launch) (D : va_G) (cI cJ cZ cG cM : ClassId) (o me ml mb mt ms mp my mc mk mw mo mq mi mz : Nat) (fi si sn la ah ri lh : Int32) (n nl : Nat) (h : Int32) (fe fb cm0 fk fs : Nat → Int32) (hV : VL fs nl) (h1 : 1 ≤ n) (h6 : n ≤ 6) :
    CI l yX8_nextOf wsX8_nextOf rm_X8_nextOf D [(cI, .int), (cJ, .long), (cZ, .boolean), (cG, .object "LatestSets$Guild"), (cM, .array .int)] [(o, .inr (8, [.int (nI n), .ref me, .ref ml, .ref mb, .int fi, .int (nI nl), .ref mt, .int si, .ref ms, .int sn, .ref mp, .ref my, .ref mc, .int la, .ref mk, .ref mw, .int ah, .int ri, .int lh, .ref mo, .ref mq, .ref mi, .ref mz])), (me, .inl (cI, 6, .inl fe)), (my, .inl (cI, 6, .inl fb)), (mc, .inl (cI, 6, .inl cm0)), (mk, .inl (cI, 24, .inl fk)), (mt, .inl (cI, 20, .inl fs))] [.ref o, .int h] (S := ((Nat → Int32) × (Nat → Int32))) (fun r u => r = nxG fs nl n fe fb la h) (fun u => [(o, .inr (8, [.int (nI n), .ref me, .ref ml, .ref mb, .int fi, .int (nI nl), .ref mt, .int si, .ref ms, .int sn, .ref mp, .ref my, .ref mc, .int la, .ref mk, .ref mw, .int ah, .int ri, .int lh, .ref mo, .ref mq, .ref mi, .ref mz])), (me, .inl (cI, 6, .inl fe)), (my, .inl (cI, 6, .inl fb)), (mc, .inl (cI, 6, .inl u.1)), (mk, .inl (cI, 24, .inl u.2)), (mt, .inl (cI, 20, .inl fs))]) := by
  refine si_of (cc := cX8_nextOf) (maxL := 8) (by decide) rfl (Nat.le_of_ble_eq_true rfl) ?_
  intro p e s m args below meth c A ls Q E hret
  obtain ⟨hx, hb, -, hml, hown, hts, -, hin, hA, hK, hP, hD, hS, hl, hN⟩ := E
  have hown : s.vm.findClass RX8 = some m.cls := hown
  have hl : lv_has ls 8 [(0, .ref o), (1, .int h)] := hl
  have SF : CallFix p m c cX8_nextOf 8 s args wsX8_nextOf RX8 := ⟨hx, hb, hml, hown, hts⟩
  have hw0 := hts (.fieldLink RX8 26 "LatestSetsModel" "size" "I") (by decide +kernel)
  have hi8 : ∀ x ∈ wsX80, x ∈ wsX8_nextOf := by decide +kernel
  have hw2 := hts (.fieldLink RX8 44 "LatestSetsModel" "stack" "[I") (by decide +kernel)
  have hw3 := hts (.fieldLink RX8 29 "LatestSetsModel" "text" "[I") (by decide +kernel)
  refine lv_aload_n hx hb dX8_nextOf_0 rfl (lv_at hl 0 rfl) ?_
  refine lv_iload_n hx hb dX8_nextOf_1 rfl (lv_at hl 1 rfl) ?_
  refine cal_v (run_V (As := [.int h]) (rest := []) SF (c_layCame l D cI cJ cZ cG cM o me ml mb mt ms mp my mc mk mw mo mq mi mz fi si sn la ah ri lh n nl h fe fb cm0 h6) (cwV 1 hts gX8_nextOf_X8_layCame rfl rfl rfl (by decide +kernel) ⟨Nat.le_of_ble_eq_true rfl, Nat.le_of_ble_eq_true rfl⟩) hN hK hP hD [0, 1, 2, 3] rfl (by decide) 8 0 rfl rfl rfl rfl hl.1 rfl (Nat.le_of_ble_eq_true rfl) dX8_nextOf_2 ⟨Nat.le_of_ble_eq_true rfl, Nat.le_of_ble_eq_true rfl⟩) ⟨rfl, rfl⟩ hP hD hS hA [0, 1, 2, 3] rfl (fun _ => rfl) (fun _ H locs hw hP hD hS => ?_)
  have hP : va_P D vwCl [(o, .inr (8, [.int (nI n), .ref me, .ref ml, .ref mb, .int fi, .int (nI nl), .ref mt, .int si, .ref ms, .int sn, .ref mp, .ref my, .ref mc, .int la, .ref mk, .ref mw, .int ah, .int ri, .int lh, .ref mo, .ref mq, .ref mi, .ref mz])), (me, .inl (cI, 6, .inl fe)), (my, .inl (cI, 6, .inl fb)), (mc, .inl (cI, 6, .inl ((arrS cm0 (fun m9 => cmB h (fe m9) la (fb m9)) n)))), (mk, .inl (cI, 24, .inl fk)), (mt, .inl (cI, 20, .inl fs))] H := hP
  have hD : va_D A [(o, .inr (8, [.int (nI n), .ref me, .ref ml, .ref mb, .int fi, .int (nI nl), .ref mt, .int si, .ref ms, .int sn, .ref mp, .ref my, .ref mc, .int la, .ref mk, .ref mw, .int ah, .int ri, .int lh, .ref mo, .ref mq, .ref mi, .ref mz])), (me, .inl (cI, 6, .inl fe)), (my, .inl (cI, 6, .inl fb)), (mc, .inl (cI, 6, .inl ((arrS cm0 (fun m9 => cmB h (fe m9) la (fb m9)) n)))), (mk, .inl (cI, 24, .inl fk)), (mt, .inl (cI, 20, .inl fs))] := hD
  obtain ⟨cm, hcm⟩ : ∃ z, z = (arrS cm0 (fun m9 => cmB h (fe m9) la (fb m9)) n) := ⟨_, rfl⟩
  rw [← hcm] at hP hD
  have hn20 := hV.1
  have hnp := VL_pos hV
  refine lv_iconst (v := nI 0) hx hb dX8_nextOf_5 (by decide) ?_
  refine lv_istore_n (lv' := [(2, .int (nI 0)), (0, .ref o), (1, .int h)]) hx hb dX8_nextOf_6 rfl hl (by decide) rfl (fun ls hl => ?_)
  refine lv_aload_n hx hb dX8_nextOf_7 rfl (lv_at hl 1 rfl) ?_
  refine va_get (D := D) (ci := 8) (v := .int (nI nl)) (C := RX8) (T := TX8) (N := 23) hx hb hts hi8 hown hK hP 0 rfl rfl 5 (by decide) hw0 (fun _ h9 => h9) rfl dX8_nextOf_8 ?_
  refine lv_iconst (v := nI 1) hx hb dX8_nextOf_11 (by decide) ?_
  refine lv_isub hx hb dX8_nextOf_12 ?_
  refine lv_topi (fun y9 e9 => ?_)
  have e9 : nI nl + (-1) = y9 := (e9.trans (i_sub1 _)).symm
  subst e9
  refine lv_istore_n (lv' := [(3, .int (nI nl + (-1))), (2, .int (nI 0)), (0, .ref o), (1, .int h)]) hx hb dX8_nextOf_13 rfl hl (by decide) rfl (fun ls hl => ?_)
  have L14 : ∀ (n9 : Nat) (q r : Nat) (L : List Int32) (f : Nat → Int32) (hq : q + r = nl) (hL : L = ev fs (lfC cm n h) r q) (hs : stk f L), q < n9 → ∀ (H : Heap) (locs : List Loc), va_P D vwCl [(o, .inr (8, [.int (nI n), .ref me, .ref ml, .ref mb, .int fi, .int (nI nl), .ref mt, .int si, .ref ms, .int sn, .ref mp, .ref my, .ref mc, .int la, .ref mk, .ref mw, .int ah, .int ri, .int lh, .ref mo, .ref mq, .ref mi, .ref mz])), (me, .inl (cI, 6, .inl fe)), (my, .inl (cI, 6, .inl fb)), (mc, .inl (cI, 6, .inl cm)), (mk, .inl (cI, 24, .inl f)), (mt, .inl (cI, 20, .inl fs))] H → va_D A [(o, .inr (8, [.int (nI n), .ref me, .ref ml, .ref mb, .int fi, .int (nI nl), .ref mt, .int si, .ref ms, .int sn, .ref mp, .ref my, .ref mc, .int la, .ref mk, .ref mw, .int ah, .int ri, .int lh, .ref mo, .ref mq, .ref mi, .ref mz])), (me, .inl (cI, 6, .inl fe)), (my, .inl (cI, 6, .inl fb)), (mc, .inl (cI, 6, .inl cm)), (mk, .inl (cI, 24, .inl f)), (mt, .inl (cI, 20, .inl fs))] → va_S A s.heap H locs → ∀ (ls : Array Slot), lv_has ls 8 [(0, .ref o), (1, .int h), (2, .int (nI L.length)), (3, .int (nI q + (-1)))] → W p l e rm_X8_nextOf s m args below meth c H locs 0 0 Q (F0 m 14 ls []) := by
    intro n9
    induction n9 with
    | zero => intro q r L f hq hL hs hm; exact absurd hm (Nat.not_lt_zero _)
    | succ n9 ih14 =>
      intro q r L f hq hL hs hm14 H locs hP hD hS ls hl
      rcases Nat.eq_zero_or_pos q with e9 | e9
      · subst e9
        have e8 : nI 0 + (-1) = (-1 : Int32) := by decide
        rw [e8] at hl
        have hlen := ev_len (lf := lfC cm n h) hV r 0 (by omega)
        rw [← hL] at hlen
        obtain ⟨a1, t1, rfl⟩ := len1 (L := L) (by rw [hlen]; exact Nat.le_of_eq rfl)
        have ht1 : t1 = [] := List.eq_nil_of_length_eq_zero (by have : (a1 :: t1).length = 1 := hlen; simpa using this)
        subst ht1
        refine lv_iload_n hx hb dX8_nextOf_14 rfl (lv_at hl 3 rfl) ?_
        refine lv_if_lt (tgt := 266) hx hb dX8_nextOf_15 (by decide) (fun _ => ?_) (fun c9 => absurd (by decide) c9)
        refine lv_aload_n hx hb dX8_nextOf_266 rfl (lv_at hl 0 rfl) ?_
        refine va_get (D := D) (ci := 8) (v := .ref mk) (C := RX8) (T := TX8) (N := 23) hx hb hts hi8 hown hK hP 0 rfl rfl 14 (by decide) hw2 (fun _ h9 => h9) rfl dX8_nextOf_267 ?_
        refine lv_iconst (v := nI 0) hx hb dX8_nextOf_270 (by decide) ?_
        refine iald_n (k := 0) hx hb hK hP 4 0 rfl rfl (by omega) (by omega) dX8_nextOf_271 ?_
        rw [show f 0 = a1 from hs.1]
        refine cal_i (run_S (As := [.int a1]) (rest := []) SF (c_cut l D cI cJ cZ cG cM a1) (va_cwS 1 hts gX8_nextOf_X8_cut rfl rfl rfl (by decide +kernel) ⟨Nat.le_of_ble_eq_true rfl, Nat.le_of_ble_eq_true rfl⟩) hN hK hP hD [] rfl (by decide) rfl hl.1 rfl (Nat.le_of_ble_eq_true rfl) dX8_nextOf_272 ⟨Nat.le_of_ble_eq_true rfl, Nat.le_of_ble_eq_true rfl⟩) ⟨rfl, rfl⟩ hP hD hS hA [] rfl (fun _ => rfl) (fun r9 _ H locs hw hP hD hS => ?_)
        have hP : va_P D vwCl [(o, .inr (8, [.int (nI n), .ref me, .ref ml, .ref mb, .int fi, .int (nI nl), .ref mt, .int si, .ref ms, .int sn, .ref mp, .ref my, .ref mc, .int la, .ref mk, .ref mw, .int ah, .int ri, .int lh, .ref mo, .ref mq, .ref mi, .ref mz])), (me, .inl (cI, 6, .inl fe)), (my, .inl (cI, 6, .inl fb)), (mc, .inl (cI, 6, .inl cm)), (mk, .inl (cI, 24, .inl f)), (mt, .inl (cI, 20, .inl fs))] H := hP
        have hD : va_D A [(o, .inr (8, [.int (nI n), .ref me, .ref ml, .ref mb, .int fi, .int (nI nl), .ref mt, .int si, .ref ms, .int sn, .ref mp, .ref my, .ref mc, .int la, .ref mk, .ref mw, .int ah, .int ri, .int lh, .ref mo, .ref mq, .ref mi, .ref mz])), (me, .inl (cI, 6, .inl fe)), (my, .inl (cI, 6, .inl fb)), (mc, .inl (cI, 6, .inl cm)), (mk, .inl (cI, 24, .inl f)), (mt, .inl (cI, 20, .inl fs))] := hD
        have hw9 : r9 = clp (mdB fs nl cm n h) := by rw [hw]; unfold mdB; rw [show nl = r by omega, ← hL]; rfl
        exact hret r9 ((cm, f)) _ _ _ _ dX8_nextOf_275 (by rw [hw9, hcm]; exact nxH_of cm0 h1 h) hP hD hS
      · obtain ⟨q, rfl⟩ : ∃ i, q = i + 1 := ⟨q - 1, by omega⟩
        rw [pk_m1] at hl
        obtain ⟨v1, v2, v3⟩ := hV.2.1 q (by omega)
        have hlen := ev_len (lf := lfC cm n h) hV r (q + 1) (by omega)
        have hle := ev_le (sg := fs) (lf := lfC cm n h) r (q + 1)
        rw [← hL] at hlen hle
        refine lv_iload_n hx hb dX8_nextOf_14 rfl (lv_at hl 3 rfl) ?_
        refine lv_if_lt (tgt := 266) hx hb dX8_nextOf_15 (by decide) (fun c15 => ?_) (fun c15 => ?_)
        · exact absurd c15 (nI_pos (by omega))
        · refine lv_aload_n hx hb dX8_nextOf_18 rfl (lv_at hl 0 rfl) ?_
          refine va_get (D := D) (ci := 8) (v := .ref mt) (C := RX8) (T := TX8) (N := 23) hx hb hts hi8 hown hK hP 0 rfl rfl 6 (by decide) hw3 (fun _ h9 => h9) rfl dX8_nextOf_19 ?_
          refine lv_iload_n hx hb dX8_nextOf_22 rfl (lv_at hl 3 rfl) ?_
          refine iald_n (k := q) hx hb hK hP 5 0 rfl rfl (by omega) (by omega) dX8_nextOf_23 ?_
          refine lv_istore (lv' := [(4, .int (fs q)), (0, .ref o), (1, .int h), (2, .int (nI L.length)), (3, .int (nI q))]) hx hb dX8_nextOf_24 hl (by decide) rfl (fun ls hl => ?_)
          have J61 : ∀ (v9 : Int32) (hd9 : (v9 = nI 1 ∧ dgt (fs q)) ∨ (v9 = nI 0 ∧ gds (fs q) ∧ (ps fs q).2 = false)), ∀ (H : Heap) (locs : List Loc), va_P D vwCl [(o, .inr (8, [.int (nI n), .ref me, .ref ml, .ref mb, .int fi, .int (nI nl), .ref mt, .int si, .ref ms, .int sn, .ref mp, .ref my, .ref mc, .int la, .ref mk, .ref mw, .int ah, .int ri, .int lh, .ref mo, .ref mq, .ref mi, .ref mz])), (me, .inl (cI, 6, .inl fe)), (my, .inl (cI, 6, .inl fb)), (mc, .inl (cI, 6, .inl cm)), (mk, .inl (cI, 24, .inl f)), (mt, .inl (cI, 20, .inl fs))] H → va_D A [(o, .inr (8, [.int (nI n), .ref me, .ref ml, .ref mb, .int fi, .int (nI nl), .ref mt, .int si, .ref ms, .int sn, .ref mp, .ref my, .ref mc, .int la, .ref mk, .ref mw, .int ah, .int ri, .int lh, .ref mo, .ref mq, .ref mi, .ref mz])), (me, .inl (cI, 6, .inl fe)), (my, .inl (cI, 6, .inl fb)), (mc, .inl (cI, 6, .inl cm)), (mk, .inl (cI, 24, .inl f)), (mt, .inl (cI, 20, .inl fs))] → va_S A s.heap H locs → ∀ (ls : Array Slot), lv_has ls 8 [(4, .int (fs q)), (0, .ref o), (1, .int h), (2, .int (nI L.length)), (3, .int (nI q))] → W p l e rm_X8_nextOf s m args below meth c H locs 0 0 Q (F0 m 61 ls [.int v9]) := by
            intro v9 hd9 H locs hP hD hS ls hl
            rcases hd9 with ⟨rfl, hdq⟩ | ⟨rfl, nd9, hf⟩
            · refine lv_istore (lv' := [(5, .int (nI 1)), (4, .int (fs q)), (0, .ref o), (1, .int h), (2, .int (nI L.length)), (3, .int (nI q))]) hx hb dX8_nextOf_61 hl (by decide) rfl (fun ls hl => ?_)
              refine lv_iload hx hb dX8_nextOf_63 (lv_at hl 0 rfl) ?_
              refine lv_if_ne (tgt := 260) hx hb dX8_nextOf_65 (by decide) (fun _ => ?_) (fun c9 => absurd c9 (by decide))
              refine lv_iinc (v := nI q + (-1)) (lv' := [(3, .int (nI q + (-1))), (5, .int (nI 1)), (4, .int (fs q)), (0, .ref o), (1, .int h), (2, .int (nI L.length))]) hx hb dX8_nextOf_260 hl (k := 5) rfl rfl (by decide) rfl (fun ls hl => ?_)
              refine lv_goto (tgt := 14) hx hb dX8_nextOf_263 (by decide) ?_
              exact ih14 q (r + 1) L f ((by omega)) ((by show _ = stp _ (fs q) (fs (q + 1)) (ev fs _ r (q + 1)); rw [stp_dg hdq, ← hL])) hs (by omega) _ _ hP hD hS _ (lv_sub hl [3, 4, 5, 0] rfl)
            · refine lv_istore (lv' := [(5, .int (nI 0)), (4, .int (fs q)), (0, .ref o), (1, .int h), (2, .int (nI L.length)), (3, .int (nI q))]) hx hb dX8_nextOf_61 hl (by decide) rfl (fun ls hl => ?_)
              refine lv_iload hx hb dX8_nextOf_63 (lv_at hl 0 rfl) ?_
              refine lv_if_ne (tgt := 260) hx hb dX8_nextOf_65 (by decide) (fun c9 => absurd c9 (by decide)) (fun _ => ?_)
              rw [ps_f hf] at hlen
              refine lv_iload hx hb dX8_nextOf_68 (lv_at hl 1 rfl) ?_
              refine cal_i (run_S (As := [.int (fs q)]) (rest := []) SF (c_isLeaf l D cI cJ cZ cG cM (fs q)) (va_cwS 1 hts gX8_nextOf_X8_isLeaf rfl rfl rfl (by decide +kernel) ⟨Nat.le_of_ble_eq_true rfl, Nat.le_of_ble_eq_true rfl⟩) hN hK hP hD [] rfl (by decide) rfl hl.1 rfl (Nat.le_of_ble_eq_true rfl) dX8_nextOf_70 ⟨Nat.le_of_ble_eq_true rfl, Nat.le_of_ble_eq_true rfl⟩) ⟨rfl, rfl⟩ hP hD hS hA [] rfl (fun _ => rfl) (fun r70 _ H locs hw hP hD hS => ?_)
              have hP : va_P D vwCl [(o, .inr (8, [.int (nI n), .ref me, .ref ml, .ref mb, .int fi, .int (nI nl), .ref mt, .int si, .ref ms, .int sn, .ref mp, .ref my, .ref mc, .int la, .ref mk, .ref mw, .int ah, .int ri, .int lh, .ref mo, .ref mq, .ref mi, .ref mz])), (me, .inl (cI, 6, .inl fe)), (my, .inl (cI, 6, .inl fb)), (mc, .inl (cI, 6, .inl cm)), (mk, .inl (cI, 24, .inl f)), (mt, .inl (cI, 20, .inl fs))] H := hP
              have hD : va_D A [(o, .inr (8, [.int (nI n), .ref me, .ref ml, .ref mb, .int fi, .int (nI nl), .ref mt, .int si, .ref ms, .int sn, .ref mp, .ref my, .ref mc, .int la, .ref mk, .ref mw, .int ah, .int ri, .int lh, .ref mo, .ref mq, .ref mi, .ref mz])), (me, .inl (cI, 6, .inl fe)), (my, .inl (cI, 6, .inl fb)), (mc, .inl (cI, 6, .inl cm)), (mk, .inl (cI, 24, .inl f)), (mt, .inl (cI, 20, .inl fs))] := hD
              rcases hw with ⟨b70, rfl⟩ | ⟨b70, rfl⟩
              · refine lv_if_eq (tgt := 95) hx hb dX8_nextOf_73 (by decide) (fun c9 => absurd c9 (by decide)) (fun _ => ?_)
                refine lv_aload_n hx hb dX8_nextOf_76 rfl (lv_at hl 2 rfl) ?_
                refine va_get (D := D) (ci := 8) (v := .ref mk) (C := RX8) (T := TX8) (N := 23) hx hb hts hi8 hown hK hP 0 rfl rfl 14 (by decide) hw2 (fun _ h9 => h9) rfl dX8_nextOf_77 ?_
                refine lv_iload_n hx hb dX8_nextOf_80 rfl (lv_at hl 4 rfl) ?_
                refine lv_aload_n hx hb dX8_nextOf_81 rfl (lv_at hl 2 rfl) ?_
                refine lv_iload hx hb dX8_nextOf_82 (lv_at hl 1 rfl) ?_
                refine lv_iload_n hx hb dX8_nextOf_84 rfl (lv_at hl 3 rfl) ?_
                refine cal_i (run_V (As := [.int (fs q), .int h]) (rest := [.int (nI L.length), .ref mk]) SF (c_leafOf l D cI cJ cZ cG cM o me ml mb mt ms mp my mc mk mw mo mq mi mz fi si sn la ah ri lh n nl (fs q) h cm b70 h1 h6) (cwV 2 hts gX8_nextOf_X8_leafOf rfl rfl rfl (by decide +kernel) ⟨Nat.le_of_ble_eq_true rfl, Nat.le_of_ble_eq_true rfl⟩) hN hK hP hD [0, 3] rfl (by decide) 8 0 rfl rfl rfl rfl hl.1 rfl (Nat.le_of_ble_eq_true rfl) dX8_nextOf_85 ⟨Nat.le_of_ble_eq_true rfl, Nat.le_of_ble_eq_true rfl⟩) ⟨rfl, rfl⟩ hP hD hS hA [0, 3] rfl (fun _ => rfl) (fun r9 _ H locs hw hP hD hS => ?_)
                have hP : va_P D vwCl [(o, .inr (8, [.int (nI n), .ref me, .ref ml, .ref mb, .int fi, .int (nI nl), .ref mt, .int si, .ref ms, .int sn, .ref mp, .ref my, .ref mc, .int la, .ref mk, .ref mw, .int ah, .int ri, .int lh, .ref mo, .ref mq, .ref mi, .ref mz])), (me, .inl (cI, 6, .inl fe)), (my, .inl (cI, 6, .inl fb)), (mc, .inl (cI, 6, .inl cm)), (mk, .inl (cI, 24, .inl f)), (mt, .inl (cI, 20, .inl fs))] H := hP
                have hD : va_D A [(o, .inr (8, [.int (nI n), .ref me, .ref ml, .ref mb, .int fi, .int (nI nl), .ref mt, .int si, .ref ms, .int sn, .ref mp, .ref my, .ref mc, .int la, .ref mk, .ref mw, .int ah, .int ri, .int lh, .ref mo, .ref mq, .ref mi, .ref mz])), (me, .inl (cI, 6, .inl fe)), (my, .inl (cI, 6, .inl fb)), (mc, .inl (cI, 6, .inl cm)), (mk, .inl (cI, 24, .inl f)), (mt, .inl (cI, 20, .inl fs))] := hD
                subst hw
                refine iast_n (k := L.length) hx hb hK hP hD hS 4 0 rfl rfl (by omega) (by omega) dX8_nextOf_88 (fun H locs hP hD hS => ?_)
                have hP : va_P D vwCl [(o, .inr (8, [.int (nI n), .ref me, .ref ml, .ref mb, .int fi, .int (nI nl), .ref mt, .int si, .ref ms, .int sn, .ref mp, .ref my, .ref mc, .int la, .ref mk, .ref mw, .int ah, .int ri, .int lh, .ref mo, .ref mq, .ref mi, .ref mz])), (me, .inl (cI, 6, .inl fe)), (my, .inl (cI, 6, .inl fb)), (mc, .inl (cI, 6, .inl cm)), (mk, .inl (cI, 24, .inl (upd f L.length (lfC cm n h (fs q))))), (mt, .inl (cI, 20, .inl fs))] H := hP
                have hD : va_D A [(o, .inr (8, [.int (nI n), .ref me, .ref ml, .ref mb, .int fi, .int (nI nl), .ref mt, .int si, .ref ms, .int sn, .ref mp, .ref my, .ref mc, .int la, .ref mk, .ref mw, .int ah, .int ri, .int lh, .ref mo, .ref mq, .ref mi, .ref mz])), (me, .inl (cI, 6, .inl fe)), (my, .inl (cI, 6, .inl fb)), (mc, .inl (cI, 6, .inl cm)), (mk, .inl (cI, 24, .inl (upd f L.length (lfC cm n h (fs q))))), (mt, .inl (cI, 20, .inl fs))] := hD
                refine lv_iinc (v := nI (L.length + 1)) (lv' := [(2, .int (nI (L.length + 1))), (5, .int (nI 0)), (4, .int (fs q)), (0, .ref o), (1, .int h), (3, .int (nI q))]) hx hb dX8_nextOf_89 hl (k := 4) rfl (nI_1 L.length) (by decide) rfl (fun ls hl => ?_)
                refine lv_goto (tgt := 260) hx hb dX8_nextOf_92 (by decide) ?_
                refine lv_iinc (v := nI q + (-1)) (lv' := [(3, .int (nI q + (-1))), (2, .int (nI (L.length + 1))), (5, .int (nI 0)), (4, .int (fs q)), (0, .ref o), (1, .int h)]) hx hb dX8_nextOf_260 hl (k := 5) rfl rfl (by decide) rfl (fun ls hl => ?_)
                refine lv_goto (tgt := 14) hx hb dX8_nextOf_263 (by decide) ?_
                exact ih14 q (r + 1) (lfC cm n h (fs q) :: L) (upd f L.length (lfC cm n h (fs q))) ((by omega)) ((by show _ = stp _ (fs q) (fs (q + 1)) (ev fs _ r (q + 1)); rw [stp_lf b70, ← hL])) ((stk_push hs)) (by omega) _ _ hP hD hS _ (lv_sub hl [4, 5, 1, 0] rfl)
              · refine lv_if_eq (tgt := 95) hx hb dX8_nextOf_73 (by decide) (fun _ => ?_) (fun c9 => absurd (by decide) c9)
                refine lv_iload hx hb dX8_nextOf_95 (lv_at hl 1 rfl) ?_
                refine lv_bipush (v := nI 126) hx hb dX8_nextOf_97 (by decide) ?_
                refine lv_icmp_ne (tgt := 124) hx hb dX8_nextOf_99 (by decide) (fun c99 => ?_) (fun c99 => ?_)
                · refine lv_iload hx hb dX8_nextOf_124 (lv_at hl 1 rfl) ?_
                  refine cal_i (run_S (As := [.int (fs q)]) (rest := []) SF (c_isShift l D cI cJ cZ cG cM (fs q)) (va_cwS 1 hts gX8_nextOf_X8_isShift rfl rfl rfl (by decide +kernel) ⟨Nat.le_of_ble_eq_true rfl, Nat.le_of_ble_eq_true rfl⟩) hN hK hP hD [] rfl (by decide) rfl hl.1 rfl (Nat.le_of_ble_eq_true rfl) dX8_nextOf_126 ⟨Nat.le_of_ble_eq_true rfl, Nat.le_of_ble_eq_true rfl⟩) ⟨rfl, rfl⟩ hP hD hS hA [] rfl (fun _ => rfl) (fun r126 _ H locs hw hP hD hS => ?_)
                  have hP : va_P D vwCl [(o, .inr (8, [.int (nI n), .ref me, .ref ml, .ref mb, .int fi, .int (nI nl), .ref mt, .int si, .ref ms, .int sn, .ref mp, .ref my, .ref mc, .int la, .ref mk, .ref mw, .int ah, .int ri, .int lh, .ref mo, .ref mq, .ref mi, .ref mz])), (me, .inl (cI, 6, .inl fe)), (my, .inl (cI, 6, .inl fb)), (mc, .inl (cI, 6, .inl cm)), (mk, .inl (cI, 24, .inl f)), (mt, .inl (cI, 20, .inl fs))] H := hP
                  have hD : va_D A [(o, .inr (8, [.int (nI n), .ref me, .ref ml, .ref mb, .int fi, .int (nI nl), .ref mt, .int si, .ref ms, .int sn, .ref mp, .ref my, .ref mc, .int la, .ref mk, .ref mw, .int ah, .int ri, .int lh, .ref mo, .ref mq, .ref mi, .ref mz])), (me, .inl (cI, 6, .inl fe)), (my, .inl (cI, 6, .inl fb)), (mc, .inl (cI, 6, .inl cm)), (mk, .inl (cI, 24, .inl f)), (mt, .inl (cI, 20, .inl fs))] := hD
                  rcases hw with ⟨b126, rfl⟩ | ⟨b126, rfl⟩
                  · refine lv_if_eq (tgt := 174) hx hb dX8_nextOf_129 (by decide) (fun c9 => absurd c9 (by decide)) (fun _ => ?_)
                    have hp : pN (fs q) = 1 := by exact pN_sh b126
                    simp only [hp] at hlen
                    obtain ⟨a1, t1, rfl⟩ := len1 (L := L) (by omega)
                    simp only [List.length_cons] at hlen hle
                    have hq1 : q + 1 < nl := by
                      rcases Nat.lt_or_ge (q + 1) nl with z | z
                      · exact z
                      · have e9 := VL_sh hV (by omega) b126
                        rw [show q + 1 = nl by omega, VL_end hV] at e9
                        exact absurd e9 Bool.false_ne_true
                    refine lv_aload_n hx hb dX8_nextOf_132 rfl (lv_at hl 2 rfl) ?_
                    refine va_get (D := D) (ci := 8) (v := .ref mt) (C := RX8) (T := TX8) (N := 23) hx hb hts hi8 hown hK hP 0 rfl rfl 6 (by decide) hw3 (fun _ h9 => h9) rfl dX8_nextOf_133 ?_
                    refine lv_iload_n hx hb dX8_nextOf_136 rfl (lv_at hl 5 rfl) ?_
                    refine lv_iconst (v := nI 1) hx hb dX8_nextOf_137 (by decide) ?_
                    refine iadd_n (a := q) (b := 1) hx hb dX8_nextOf_138 ?_
                    refine iald_n (k := q + 1) hx hb hK hP 5 0 rfl rfl (by omega) (by omega) dX8_nextOf_139 ?_
                    refine lv_bipush (v := nI 48) hx hb dX8_nextOf_140 (by decide) ?_
                    refine lv_isub hx hb dX8_nextOf_142 ?_
                    refine lv_istore (lv' := [(6, .int ((fs (q + 1)) - (nI 48))), (5, .int (nI 0)), (4, .int (fs q)), (0, .ref o), (1, .int h), (2, .int (nI (t1.length + 1))), (3, .int (nI q))]) hx hb dX8_nextOf_143 hl (by decide) rfl (fun ls hl => ?_)
                    refine lv_aload_n hx hb dX8_nextOf_145 rfl (lv_at hl 3 rfl) ?_
                    refine va_get (D := D) (ci := 8) (v := .ref mk) (C := RX8) (T := TX8) (N := 23) hx hb hts hi8 hown hK hP 0 rfl rfl 14 (by decide) hw2 (fun _ h9 => h9) rfl dX8_nextOf_146 ?_
                    refine lv_iload_n hx hb dX8_nextOf_149 rfl (lv_at hl 5 rfl) ?_
                    refine lv_iconst (v := nI 1) hx hb dX8_nextOf_150 (by decide) ?_
                    refine isub_n (a := t1.length + 1) (b := 1) hx hb dX8_nextOf_151 (by omega) ?_
                    refine lv_dup2_11 hx hb dX8_nextOf_152 rfl rfl ?_
                    refine iald_n (k := t1.length) hx hb hK hP 4 0 rfl rfl (by omega) (by omega) dX8_nextOf_153 ?_
                    rw [hs.1]
                    refine lv_iload hx hb dX8_nextOf_154 (lv_at hl 2 rfl) ?_
                    refine lv_bipush (v := nI 45) hx hb dX8_nextOf_156 (by decide) ?_
                    refine lv_icmp_ne (tgt := 167) hx hb dX8_nextOf_158 (by decide) (fun c158 => ?_) (fun c158 => ?_)
                    · refine lv_iload hx hb dX8_nextOf_167 (lv_at hl 0 rfl) ?_
                      refine lv_iadd hx hb dX8_nextOf_169 ?_
                      refine iast_n (k := t1.length) hx hb hK hP hD hS 4 0 rfl rfl (by omega) (by omega) dX8_nextOf_170 (fun H locs hP hD hS => ?_)
                      have hP : va_P D vwCl [(o, .inr (8, [.int (nI n), .ref me, .ref ml, .ref mb, .int fi, .int (nI nl), .ref mt, .int si, .ref ms, .int sn, .ref mp, .ref my, .ref mc, .int la, .ref mk, .ref mw, .int ah, .int ri, .int lh, .ref mo, .ref mq, .ref mi, .ref mz])), (me, .inl (cI, 6, .inl fe)), (my, .inl (cI, 6, .inl fb)), (mc, .inl (cI, 6, .inl cm)), (mk, .inl (cI, 24, .inl (upd f t1.length (a1 + ((fs (q + 1)) - (nI 48)))))), (mt, .inl (cI, 20, .inl fs))] H := hP
                      have hD : va_D A [(o, .inr (8, [.int (nI n), .ref me, .ref ml, .ref mb, .int fi, .int (nI nl), .ref mt, .int si, .ref ms, .int sn, .ref mp, .ref my, .ref mc, .int la, .ref mk, .ref mw, .int ah, .int ri, .int lh, .ref mo, .ref mq, .ref mi, .ref mz])), (me, .inl (cI, 6, .inl fe)), (my, .inl (cI, 6, .inl fb)), (mc, .inl (cI, 6, .inl cm)), (mk, .inl (cI, 24, .inl (upd f t1.length (a1 + ((fs (q + 1)) - (nI 48)))))), (mt, .inl (cI, 20, .inl fs))] := hD
                      refine lv_goto (tgt := 260) hx hb dX8_nextOf_171 (by decide) ?_
                      refine lv_iinc (v := nI q + (-1)) (lv' := [(3, .int (nI q + (-1))), (6, .int ((fs (q + 1)) - (nI 48))), (5, .int (nI 0)), (4, .int (fs q)), (0, .ref o), (1, .int h), (2, .int (nI (t1.length + 1)))]) hx hb dX8_nextOf_260 hl (k := 6) rfl rfl (by decide) rfl (fun ls hl => ?_)
                      refine lv_goto (tgt := 14) hx hb dX8_nextOf_263 (by decide) ?_
                      exact ih14 q (r + 1) ((a1 + (fs (q + 1) - nI 48)) :: t1) (upd f t1.length (a1 + ((fs (q + 1)) - (nI 48)))) ((by omega)) ((by show _ = stp _ (fs q) (fs (q + 1)) (ev fs _ r (q + 1)); rw [← hL, stp_pl (by rcases b126 with z | z; exact absurd z c158; exact z)])) ((stk_push hs.2)) (by omega) _ _ hP hD hS _ (lv_sub hl [4, 5, 6, 0] rfl)
                    · refine lv_iload hx hb dX8_nextOf_161 (lv_at hl 0 rfl) ?_
                      refine lv_ineg hx hb dX8_nextOf_163 ?_
                      refine lv_goto (tgt := 169) hx hb dX8_nextOf_164 (by decide) ?_
                      refine lv_iadd hx hb dX8_nextOf_169 ?_
                      refine lv_topi (fun y9 e9 => ?_)
                      have e9 : a1 - (fs (q + 1) - nI 48) = y9 := (e9.trans ((Int32.sub_eq_add_neg ..).symm)).symm
                      subst e9
                      refine iast_n (k := t1.length) hx hb hK hP hD hS 4 0 rfl rfl (by omega) (by omega) dX8_nextOf_170 (fun H locs hP hD hS => ?_)
                      have hP : va_P D vwCl [(o, .inr (8, [.int (nI n), .ref me, .ref ml, .ref mb, .int fi, .int (nI nl), .ref mt, .int si, .ref ms, .int sn, .ref mp, .ref my, .ref mc, .int la, .ref mk, .ref mw, .int ah, .int ri, .int lh, .ref mo, .ref mq, .ref mi, .ref mz])), (me, .inl (cI, 6, .inl fe)), (my, .inl (cI, 6, .inl fb)), (mc, .inl (cI, 6, .inl cm)), (mk, .inl (cI, 24, .inl (upd f t1.length (a1 - (fs (q + 1) - nI 48))))), (mt, .inl (cI, 20, .inl fs))] H := hP
                      have hD : va_D A [(o, .inr (8, [.int (nI n), .ref me, .ref ml, .ref mb, .int fi, .int (nI nl), .ref mt, .int si, .ref ms, .int sn, .ref mp, .ref my, .ref mc, .int la, .ref mk, .ref mw, .int ah, .int ri, .int lh, .ref mo, .ref mq, .ref mi, .ref mz])), (me, .inl (cI, 6, .inl fe)), (my, .inl (cI, 6, .inl fb)), (mc, .inl (cI, 6, .inl cm)), (mk, .inl (cI, 24, .inl (upd f t1.length (a1 - (fs (q + 1) - nI 48))))), (mt, .inl (cI, 20, .inl fs))] := hD
                      refine lv_goto (tgt := 260) hx hb dX8_nextOf_171 (by decide) ?_
                      refine lv_iinc (v := nI q + (-1)) (lv' := [(3, .int (nI q + (-1))), (6, .int ((fs (q + 1)) - (nI 48))), (5, .int (nI 0)), (4, .int (fs q)), (0, .ref o), (1, .int h), (2, .int (nI (t1.length + 1)))]) hx hb dX8_nextOf_260 hl (k := 6) rfl rfl (by decide) rfl (fun ls hl => ?_)
                      refine lv_goto (tgt := 14) hx hb dX8_nextOf_263 (by decide) ?_
                      exact ih14 q (r + 1) ((a1 - (fs (q + 1) - nI 48)) :: t1) (upd f t1.length (a1 - (fs (q + 1) - nI 48))) ((by omega)) ((by show _ = stp _ (fs q) (fs (q + 1)) (ev fs _ r (q + 1)); rw [← hL, stp_mi c158])) ((stk_push hs.2)) (by omega) _ _ hP hD hS _ (lv_sub hl [4, 5, 6, 0] rfl)
                  · refine lv_if_eq (tgt := 174) hx hb dX8_nextOf_129 (by decide) (fun _ => ?_) (fun c9 => absurd (by decide) c9)
                    have hpr : isPr (fs q) := by
                      rcases nd9 with z | z | z | z
                      · exact absurd z b70
                      · exact z
                      · exact absurd z b126
                      · exact absurd z c99
                    have hp : pN (fs q) = 2 := if_pos hpr
                    simp only [hp] at hlen
                    obtain ⟨a1, a2, t1, rfl⟩ := len2 (L := L) (by omega)
                    simp only [List.length_cons] at hlen hle
                    refine lv_aload_n hx hb dX8_nextOf_174 rfl (lv_at hl 2 rfl) ?_
                    refine va_get (D := D) (ci := 8) (v := .ref mk) (C := RX8) (T := TX8) (N := 23) hx hb hts hi8 hown hK hP 0 rfl rfl 14 (by decide) hw2 (fun _ h9 => h9) rfl dX8_nextOf_175 ?_
                    refine lv_iload_n hx hb dX8_nextOf_178 rfl (lv_at hl 4 rfl) ?_
                    refine lv_iconst (v := nI 1) hx hb dX8_nextOf_179 (by decide) ?_
                    refine isub_n (a := t1.length + 2) (b := 1) hx hb dX8_nextOf_180 (by omega) ?_
                    refine iald_n (k := t1.length + 1) hx hb hK hP 4 0 rfl rfl (by omega) (by omega) dX8_nextOf_181 ?_
                    refine lv_topi (fun y9 e9 => ?_)
                    have e9 : a1 = y9 := (e9.trans (hs.1)).symm
                    subst e9
                    refine lv_istore (lv' := [(6, .int a1), (5, .int (nI 0)), (4, .int (fs q)), (0, .ref o), (1, .int h), (2, .int (nI (t1.length + 2))), (3, .int (nI q))]) hx hb dX8_nextOf_182 hl (by decide) rfl (fun ls hl => ?_)
                    refine lv_aload_n hx hb dX8_nextOf_184 rfl (lv_at hl 3 rfl) ?_
                    refine va_get (D := D) (ci := 8) (v := .ref mk) (C := RX8) (T := TX8) (N := 23) hx hb hts hi8 hown hK hP 0 rfl rfl 14 (by decide) hw2 (fun _ h9 => h9) rfl dX8_nextOf_185 ?_
                    refine lv_iload_n hx hb dX8_nextOf_188 rfl (lv_at hl 5 rfl) ?_
                    refine lv_iconst (v := nI 2) hx hb dX8_nextOf_189 (by decide) ?_
                    refine isub_n (a := t1.length + 2) (b := 2) hx hb dX8_nextOf_190 (by omega) ?_
                    refine iald_n (k := t1.length) hx hb hK hP 4 0 rfl rfl (by omega) (by omega) dX8_nextOf_191 ?_
                    refine lv_topi (fun y9 e9 => ?_)
                    have e9 : a2 = y9 := (e9.trans (hs.2.1)).symm
                    subst e9
                    refine lv_istore (lv' := [(7, .int a2), (6, .int a1), (5, .int (nI 0)), (4, .int (fs q)), (0, .ref o), (1, .int h), (2, .int (nI (t1.length + 2))), (3, .int (nI q))]) hx hb dX8_nextOf_192 hl (by decide) rfl (fun ls hl => ?_)
                    refine lv_iinc (v := nI (t1.length + 1)) (lv' := [(2, .int (nI (t1.length + 1))), (7, .int a2), (6, .int a1), (5, .int (nI 0)), (4, .int (fs q)), (0, .ref o), (1, .int h), (3, .int (nI q))]) hx hb dX8_nextOf_194 hl (k := 6) rfl (by have h9 : 1 ≤ t1.length + 2 := (by omega); rw [show t1.length + 2 = ((t1.length + 2) - 1) + 1 by omega]; exact pk_m1 _) (by decide) rfl (fun ls hl => ?_)
                    refine lv_aload_n hx hb dX8_nextOf_197 rfl (lv_at hl 5 rfl) ?_
                    refine va_get (D := D) (ci := 8) (v := .ref mk) (C := RX8) (T := TX8) (N := 23) hx hb hts hi8 hown hK hP 0 rfl rfl 14 (by decide) hw2 (fun _ h9 => h9) rfl dX8_nextOf_198 ?_
                    refine lv_iload_n hx hb dX8_nextOf_201 rfl (lv_at hl 0 rfl) ?_
                    refine lv_iconst (v := nI 1) hx hb dX8_nextOf_202 (by decide) ?_
                    refine isub_n (a := t1.length + 1) (b := 1) hx hb dX8_nextOf_203 (by omega) ?_
                    refine lv_iload hx hb dX8_nextOf_204 (lv_at hl 4 rfl) ?_
                    refine lv_bipush (v := nI 60) hx hb dX8_nextOf_206 (by decide) ?_
                    refine lv_icmp_ne (tgt := 228) hx hb dX8_nextOf_208 (by decide) (fun c208 => ?_) (fun c208 => ?_)
                    · refine lv_iload hx hb dX8_nextOf_228 (lv_at hl 4 rfl) ?_
                      refine lv_bipush (v := nI 62) hx hb dX8_nextOf_230 (by decide) ?_
                      refine lv_icmp_ne (tgt := 252) hx hb dX8_nextOf_232 (by decide) (fun c232 => ?_) (fun c232 => ?_)
                      · refine lv_iload hx hb dX8_nextOf_252 (lv_at hl 2 rfl) ?_
                        refine lv_iload hx hb dX8_nextOf_254 (lv_at hl 1 rfl) ?_
                        refine lv_iadd hx hb dX8_nextOf_256 ?_
                        refine lv_iconst (v := nI 2) hx hb dX8_nextOf_257 (by decide) ?_
                        refine lv_idiv hx hb dX8_nextOf_258 (by decide) ?_
                        refine iast_n (k := t1.length) hx hb hK hP hD hS 4 0 rfl rfl (by omega) (by omega) dX8_nextOf_259 (fun H locs hP hD hS => ?_)
                        have hP : va_P D vwCl [(o, .inr (8, [.int (nI n), .ref me, .ref ml, .ref mb, .int fi, .int (nI nl), .ref mt, .int si, .ref ms, .int sn, .ref mp, .ref my, .ref mc, .int la, .ref mk, .ref mw, .int ah, .int ri, .int lh, .ref mo, .ref mq, .ref mi, .ref mz])), (me, .inl (cI, 6, .inl fe)), (my, .inl (cI, 6, .inl fb)), (mc, .inl (cI, 6, .inl cm)), (mk, .inl (cI, 24, .inl (upd f t1.length ((a1 + a2) / (nI 2))))), (mt, .inl (cI, 20, .inl fs))] H := hP
                        have hD : va_D A [(o, .inr (8, [.int (nI n), .ref me, .ref ml, .ref mb, .int fi, .int (nI nl), .ref mt, .int si, .ref ms, .int sn, .ref mp, .ref my, .ref mc, .int la, .ref mk, .ref mw, .int ah, .int ri, .int lh, .ref mo, .ref mq, .ref mi, .ref mz])), (me, .inl (cI, 6, .inl fe)), (my, .inl (cI, 6, .inl fb)), (mc, .inl (cI, 6, .inl cm)), (mk, .inl (cI, 24, .inl (upd f t1.length ((a1 + a2) / (nI 2))))), (mt, .inl (cI, 20, .inl fs))] := hD
                        refine lv_iinc (v := nI q + (-1)) (lv' := [(3, .int (nI q + (-1))), (2, .int (nI (t1.length + 1))), (7, .int a2), (6, .int a1), (5, .int (nI 0)), (4, .int (fs q)), (0, .ref o), (1, .int h)]) hx hb dX8_nextOf_260 hl (k := 7) rfl rfl (by decide) rfl (fun ls hl => ?_)
                        refine lv_goto (tgt := 14) hx hb dX8_nextOf_263 (by decide) ?_
                        exact ih14 q (r + 1) (((a1 + a2) / nI 2) :: t1) (upd f t1.length ((a1 + a2) / (nI 2))) ((by omega)) ((by show _ = stp _ (fs q) (fs (q + 1)) (ev fs _ r (q + 1)); rw [← hL, stp_dv (by rcases hpr with z | z | z; exact absurd z c208; exact absurd z c232; exact z)])) ((stk_push hs.2.2)) (by omega) _ _ hP hD hS _ (lv_sub hl [6, 7, 1, 0] rfl)
                      · refine lv_iload hx hb dX8_nextOf_235 (lv_at hl 2 rfl) ?_
                        refine lv_iload hx hb dX8_nextOf_237 (lv_at hl 1 rfl) ?_
                        refine lv_icmp_le (tgt := 247) hx hb dX8_nextOf_239 (by decide) (fun c239 => ?_) (fun c239 => ?_)
                        · refine lv_iload hx hb dX8_nextOf_247 (lv_at hl 1 rfl) ?_
                          refine lv_goto (tgt := 259) hx hb dX8_nextOf_249 (by decide) ?_
                          refine lv_topi (fun y9 e9 => ?_)
                          have e9 : mxI a1 a2 = y9 := (e9.trans (mx_le c239)).symm
                          subst e9
                          refine iast_n (k := t1.length) hx hb hK hP hD hS 4 0 rfl rfl (by omega) (by omega) dX8_nextOf_259 (fun H locs hP hD hS => ?_)
                          have hP : va_P D vwCl [(o, .inr (8, [.int (nI n), .ref me, .ref ml, .ref mb, .int fi, .int (nI nl), .ref mt, .int si, .ref ms, .int sn, .ref mp, .ref my, .ref mc, .int la, .ref mk, .ref mw, .int ah, .int ri, .int lh, .ref mo, .ref mq, .ref mi, .ref mz])), (me, .inl (cI, 6, .inl fe)), (my, .inl (cI, 6, .inl fb)), (mc, .inl (cI, 6, .inl cm)), (mk, .inl (cI, 24, .inl (upd f t1.length (mxI a1 a2)))), (mt, .inl (cI, 20, .inl fs))] H := hP
                          have hD : va_D A [(o, .inr (8, [.int (nI n), .ref me, .ref ml, .ref mb, .int fi, .int (nI nl), .ref mt, .int si, .ref ms, .int sn, .ref mp, .ref my, .ref mc, .int la, .ref mk, .ref mw, .int ah, .int ri, .int lh, .ref mo, .ref mq, .ref mi, .ref mz])), (me, .inl (cI, 6, .inl fe)), (my, .inl (cI, 6, .inl fb)), (mc, .inl (cI, 6, .inl cm)), (mk, .inl (cI, 24, .inl (upd f t1.length (mxI a1 a2)))), (mt, .inl (cI, 20, .inl fs))] := hD
                          refine lv_iinc (v := nI q + (-1)) (lv' := [(3, .int (nI q + (-1))), (2, .int (nI (t1.length + 1))), (7, .int a2), (6, .int a1), (5, .int (nI 0)), (4, .int (fs q)), (0, .ref o), (1, .int h)]) hx hb dX8_nextOf_260 hl (k := 7) rfl rfl (by decide) rfl (fun ls hl => ?_)
                          refine lv_goto (tgt := 14) hx hb dX8_nextOf_263 (by decide) ?_
                          exact ih14 q (r + 1) (mxI a1 a2 :: t1) (upd f t1.length (mxI a1 a2)) ((by omega)) ((by show _ = stp _ (fs q) (fs (q + 1)) (ev fs _ r (q + 1)); rw [← hL, stp_gt c232])) ((stk_push hs.2.2)) (by omega) _ _ hP hD hS _ (lv_sub hl [6, 7, 1, 0] rfl)
                        · refine lv_iload hx hb dX8_nextOf_242 (lv_at hl 2 rfl) ?_
                          refine lv_goto (tgt := 259) hx hb dX8_nextOf_244 (by decide) ?_
                          refine lv_topi (fun y9 e9 => ?_)
                          have e9 : mxI a1 a2 = y9 := (e9.trans (mx_gt c239)).symm
                          subst e9
                          refine iast_n (k := t1.length) hx hb hK hP hD hS 4 0 rfl rfl (by omega) (by omega) dX8_nextOf_259 (fun H locs hP hD hS => ?_)
                          have hP : va_P D vwCl [(o, .inr (8, [.int (nI n), .ref me, .ref ml, .ref mb, .int fi, .int (nI nl), .ref mt, .int si, .ref ms, .int sn, .ref mp, .ref my, .ref mc, .int la, .ref mk, .ref mw, .int ah, .int ri, .int lh, .ref mo, .ref mq, .ref mi, .ref mz])), (me, .inl (cI, 6, .inl fe)), (my, .inl (cI, 6, .inl fb)), (mc, .inl (cI, 6, .inl cm)), (mk, .inl (cI, 24, .inl (upd f t1.length (mxI a1 a2)))), (mt, .inl (cI, 20, .inl fs))] H := hP
                          have hD : va_D A [(o, .inr (8, [.int (nI n), .ref me, .ref ml, .ref mb, .int fi, .int (nI nl), .ref mt, .int si, .ref ms, .int sn, .ref mp, .ref my, .ref mc, .int la, .ref mk, .ref mw, .int ah, .int ri, .int lh, .ref mo, .ref mq, .ref mi, .ref mz])), (me, .inl (cI, 6, .inl fe)), (my, .inl (cI, 6, .inl fb)), (mc, .inl (cI, 6, .inl cm)), (mk, .inl (cI, 24, .inl (upd f t1.length (mxI a1 a2)))), (mt, .inl (cI, 20, .inl fs))] := hD
                          refine lv_iinc (v := nI q + (-1)) (lv' := [(3, .int (nI q + (-1))), (2, .int (nI (t1.length + 1))), (7, .int a2), (6, .int a1), (5, .int (nI 0)), (4, .int (fs q)), (0, .ref o), (1, .int h)]) hx hb dX8_nextOf_260 hl (k := 7) rfl rfl (by decide) rfl (fun ls hl => ?_)
                          refine lv_goto (tgt := 14) hx hb dX8_nextOf_263 (by decide) ?_
                          exact ih14 q (r + 1) (mxI a1 a2 :: t1) (upd f t1.length (mxI a1 a2)) ((by omega)) ((by show _ = stp _ (fs q) (fs (q + 1)) (ev fs _ r (q + 1)); rw [← hL, stp_gt c232])) ((stk_push hs.2.2)) (by omega) _ _ hP hD hS _ (lv_sub hl [6, 7, 1, 0] rfl)
                    · refine lv_iload hx hb dX8_nextOf_211 (lv_at hl 2 rfl) ?_
                      refine lv_iload hx hb dX8_nextOf_213 (lv_at hl 1 rfl) ?_
                      refine lv_icmp_ge (tgt := 223) hx hb dX8_nextOf_215 (by decide) (fun c215 => ?_) (fun c215 => ?_)
                      · refine lv_iload hx hb dX8_nextOf_223 (lv_at hl 1 rfl) ?_
                        refine lv_goto (tgt := 259) hx hb dX8_nextOf_225 (by decide) ?_
                        refine lv_topi (fun y9 e9 => ?_)
                        have e9 : mnI a1 a2 = y9 := (e9.trans (mn_ge c215)).symm
                        subst e9
                        refine iast_n (k := t1.length) hx hb hK hP hD hS 4 0 rfl rfl (by omega) (by omega) dX8_nextOf_259 (fun H locs hP hD hS => ?_)
                        have hP : va_P D vwCl [(o, .inr (8, [.int (nI n), .ref me, .ref ml, .ref mb, .int fi, .int (nI nl), .ref mt, .int si, .ref ms, .int sn, .ref mp, .ref my, .ref mc, .int la, .ref mk, .ref mw, .int ah, .int ri, .int lh, .ref mo, .ref mq, .ref mi, .ref mz])), (me, .inl (cI, 6, .inl fe)), (my, .inl (cI, 6, .inl fb)), (mc, .inl (cI, 6, .inl cm)), (mk, .inl (cI, 24, .inl (upd f t1.length (mnI a1 a2)))), (mt, .inl (cI, 20, .inl fs))] H := hP
                        have hD : va_D A [(o, .inr (8, [.int (nI n), .ref me, .ref ml, .ref mb, .int fi, .int (nI nl), .ref mt, .int si, .ref ms, .int sn, .ref mp, .ref my, .ref mc, .int la, .ref mk, .ref mw, .int ah, .int ri, .int lh, .ref mo, .ref mq, .ref mi, .ref mz])), (me, .inl (cI, 6, .inl fe)), (my, .inl (cI, 6, .inl fb)), (mc, .inl (cI, 6, .inl cm)), (mk, .inl (cI, 24, .inl (upd f t1.length (mnI a1 a2)))), (mt, .inl (cI, 20, .inl fs))] := hD
                        refine lv_iinc (v := nI q + (-1)) (lv' := [(3, .int (nI q + (-1))), (2, .int (nI (t1.length + 1))), (7, .int a2), (6, .int a1), (5, .int (nI 0)), (4, .int (fs q)), (0, .ref o), (1, .int h)]) hx hb dX8_nextOf_260 hl (k := 7) rfl rfl (by decide) rfl (fun ls hl => ?_)
                        refine lv_goto (tgt := 14) hx hb dX8_nextOf_263 (by decide) ?_
                        exact ih14 q (r + 1) (mnI a1 a2 :: t1) (upd f t1.length (mnI a1 a2)) ((by omega)) ((by show _ = stp _ (fs q) (fs (q + 1)) (ev fs _ r (q + 1)); rw [← hL, stp_lt c208])) ((stk_push hs.2.2)) (by omega) _ _ hP hD hS _ (lv_sub hl [6, 7, 1, 0] rfl)
                      · refine lv_iload hx hb dX8_nextOf_218 (lv_at hl 2 rfl) ?_
                        refine lv_goto (tgt := 259) hx hb dX8_nextOf_220 (by decide) ?_
                        refine lv_topi (fun y9 e9 => ?_)
                        have e9 : mnI a1 a2 = y9 := (e9.trans (mn_lt c215)).symm
                        subst e9
                        refine iast_n (k := t1.length) hx hb hK hP hD hS 4 0 rfl rfl (by omega) (by omega) dX8_nextOf_259 (fun H locs hP hD hS => ?_)
                        have hP : va_P D vwCl [(o, .inr (8, [.int (nI n), .ref me, .ref ml, .ref mb, .int fi, .int (nI nl), .ref mt, .int si, .ref ms, .int sn, .ref mp, .ref my, .ref mc, .int la, .ref mk, .ref mw, .int ah, .int ri, .int lh, .ref mo, .ref mq, .ref mi, .ref mz])), (me, .inl (cI, 6, .inl fe)), (my, .inl (cI, 6, .inl fb)), (mc, .inl (cI, 6, .inl cm)), (mk, .inl (cI, 24, .inl (upd f t1.length (mnI a1 a2)))), (mt, .inl (cI, 20, .inl fs))] H := hP
                        have hD : va_D A [(o, .inr (8, [.int (nI n), .ref me, .ref ml, .ref mb, .int fi, .int (nI nl), .ref mt, .int si, .ref ms, .int sn, .ref mp, .ref my, .ref mc, .int la, .ref mk, .ref mw, .int ah, .int ri, .int lh, .ref mo, .ref mq, .ref mi, .ref mz])), (me, .inl (cI, 6, .inl fe)), (my, .inl (cI, 6, .inl fb)), (mc, .inl (cI, 6, .inl cm)), (mk, .inl (cI, 24, .inl (upd f t1.length (mnI a1 a2)))), (mt, .inl (cI, 20, .inl fs))] := hD
                        refine lv_iinc (v := nI q + (-1)) (lv' := [(3, .int (nI q + (-1))), (2, .int (nI (t1.length + 1))), (7, .int a2), (6, .int a1), (5, .int (nI 0)), (4, .int (fs q)), (0, .ref o), (1, .int h)]) hx hb dX8_nextOf_260 hl (k := 7) rfl rfl (by decide) rfl (fun ls hl => ?_)
                        refine lv_goto (tgt := 14) hx hb dX8_nextOf_263 (by decide) ?_
                        exact ih14 q (r + 1) (mnI a1 a2 :: t1) (upd f t1.length (mnI a1 a2)) ((by omega)) ((by show _ = stp _ (fs q) (fs (q + 1)) (ev fs _ r (q + 1)); rw [← hL, stp_lt c208])) ((stk_push hs.2.2)) (by omega) _ _ hP hD hS _ (lv_sub hl [6, 7, 1, 0] rfl)
                · have hp : pN (fs q) = 1 := by rw [c99]; decide
                  simp only [hp] at hlen
                  obtain ⟨a1, t1, rfl⟩ := len1 (L := L) (by omega)
                  simp only [List.length_cons] at hlen hle
                  refine lv_aload_n hx hb dX8_nextOf_102 rfl (lv_at hl 2 rfl) ?_
                  refine va_get (D := D) (ci := 8) (v := .ref mk) (C := RX8) (T := TX8) (N := 23) hx hb hts hi8 hown hK hP 0 rfl rfl 14 (by decide) hw2 (fun _ h9 => h9) rfl dX8_nextOf_103 ?_
                  refine lv_iload_n hx hb dX8_nextOf_106 rfl (lv_at hl 4 rfl) ?_
                  refine lv_iconst (v := nI 1) hx hb dX8_nextOf_107 (by decide) ?_
                  refine isub_n (a := t1.length + 1) (b := 1) hx hb dX8_nextOf_108 (by omega) ?_
                  refine lv_bipush (v := nI 23) hx hb dX8_nextOf_109 (by decide) ?_
                  refine lv_aload_n hx hb dX8_nextOf_111 rfl (lv_at hl 2 rfl) ?_
                  refine va_get (D := D) (ci := 8) (v := .ref mk) (C := RX8) (T := TX8) (N := 23) hx hb hts hi8 hown hK hP 0 rfl rfl 14 (by decide) hw2 (fun _ h9 => h9) rfl dX8_nextOf_112 ?_
                  refine lv_iload_n hx hb dX8_nextOf_115 rfl (lv_at hl 4 rfl) ?_
                  refine lv_iconst (v := nI 1) hx hb dX8_nextOf_116 (by decide) ?_
                  refine isub_n (a := t1.length + 1) (b := 1) hx hb dX8_nextOf_117 (by omega) ?_
                  refine iald_n (k := t1.length) hx hb hK hP 4 0 rfl rfl (by omega) (by omega) dX8_nextOf_118 ?_
                  rw [hs.1]
                  refine lv_isub hx hb dX8_nextOf_119 ?_
                  refine iast_n (k := t1.length) hx hb hK hP hD hS 4 0 rfl rfl (by omega) (by omega) dX8_nextOf_120 (fun H locs hP hD hS => ?_)
                  have hP : va_P D vwCl [(o, .inr (8, [.int (nI n), .ref me, .ref ml, .ref mb, .int fi, .int (nI nl), .ref mt, .int si, .ref ms, .int sn, .ref mp, .ref my, .ref mc, .int la, .ref mk, .ref mw, .int ah, .int ri, .int lh, .ref mo, .ref mq, .ref mi, .ref mz])), (me, .inl (cI, 6, .inl fe)), (my, .inl (cI, 6, .inl fb)), (mc, .inl (cI, 6, .inl cm)), (mk, .inl (cI, 24, .inl (upd f t1.length ((nI 23) - a1)))), (mt, .inl (cI, 20, .inl fs))] H := hP
                  have hD : va_D A [(o, .inr (8, [.int (nI n), .ref me, .ref ml, .ref mb, .int fi, .int (nI nl), .ref mt, .int si, .ref ms, .int sn, .ref mp, .ref my, .ref mc, .int la, .ref mk, .ref mw, .int ah, .int ri, .int lh, .ref mo, .ref mq, .ref mi, .ref mz])), (me, .inl (cI, 6, .inl fe)), (my, .inl (cI, 6, .inl fb)), (mc, .inl (cI, 6, .inl cm)), (mk, .inl (cI, 24, .inl (upd f t1.length ((nI 23) - a1)))), (mt, .inl (cI, 20, .inl fs))] := hD
                  refine lv_goto (tgt := 260) hx hb dX8_nextOf_121 (by decide) ?_
                  refine lv_iinc (v := nI q + (-1)) (lv' := [(3, .int (nI q + (-1))), (5, .int (nI 0)), (4, .int (fs q)), (0, .ref o), (1, .int h), (2, .int (nI (t1.length + 1)))]) hx hb dX8_nextOf_260 hl (k := 5) rfl rfl (by decide) rfl (fun ls hl => ?_)
                  refine lv_goto (tgt := 14) hx hb dX8_nextOf_263 (by decide) ?_
                  exact ih14 q (r + 1) ((nI 23 - a1) :: t1) (upd f t1.length ((nI 23) - a1)) ((by omega)) ((by show _ = stp _ (fs q) (fs (q + 1)) (ev fs _ r (q + 1)); rw [← hL, stp_tl c99])) ((stk_push hs.2)) (by omega) _ _ hP hD hS _ (lv_sub hl [3, 4, 5, 0] rfl)
          refine lv_iload_n hx hb dX8_nextOf_26 rfl (lv_at hl 4 rfl) ?_
          refine if_le_n (a := q) (tgt := 60) hx hb dX8_nextOf_27 (by decide) (by omega) (fun c27 => ?_) (fun c27 => ?_)
          · refine lv_iconst (v := nI 0) hx hb dX8_nextOf_60 (by decide) ?_
            have nf9 : (ps fs q).2 = false := by cases e9 : (ps fs q).2 with | false => rfl | true => exact absurd e9 (fun z => by obtain ⟨k9, e9, -⟩ := ps_sh z; omega)
            have nd9 := v3 nf9
            exact J61 (nI 0) ((Or.inr ⟨rfl, nd9, nf9⟩)) _ _ hP hD hS _ (lv_sub hl [0, 1, 2, 3, 4] rfl)
          · refine lv_aload_n hx hb dX8_nextOf_30 rfl (lv_at hl 1 rfl) ?_
            refine va_get (D := D) (ci := 8) (v := .ref mt) (C := RX8) (T := TX8) (N := 23) hx hb hts hi8 hown hK hP 0 rfl rfl 6 (by decide) hw3 (fun _ h9 => h9) rfl dX8_nextOf_31 ?_
            refine lv_iload_n hx hb dX8_nextOf_34 rfl (lv_at hl 4 rfl) ?_
            refine lv_iconst (v := nI 1) hx hb dX8_nextOf_35 (by decide) ?_
            refine isub_n (a := q) (b := 1) hx hb dX8_nextOf_36 (by omega) ?_
            refine iald_n (k := q - 1) hx hb hK hP 5 0 rfl rfl (by omega) (by omega) dX8_nextOf_37 ?_
            refine cal_i (run_S (As := [.int (fs (q - 1))]) (rest := []) SF (c_isShift l D cI cJ cZ cG cM (fs (q - 1))) (va_cwS 1 hts gX8_nextOf_X8_isShift rfl rfl rfl (by decide +kernel) ⟨Nat.le_of_ble_eq_true rfl, Nat.le_of_ble_eq_true rfl⟩) hN hK hP hD [] rfl (by decide) rfl hl.1 rfl (Nat.le_of_ble_eq_true rfl) dX8_nextOf_38 ⟨Nat.le_of_ble_eq_true rfl, Nat.le_of_ble_eq_true rfl⟩) ⟨rfl, rfl⟩ hP hD hS hA [] rfl (fun _ => rfl) (fun r38 _ H locs hw hP hD hS => ?_)
            have hP : va_P D vwCl [(o, .inr (8, [.int (nI n), .ref me, .ref ml, .ref mb, .int fi, .int (nI nl), .ref mt, .int si, .ref ms, .int sn, .ref mp, .ref my, .ref mc, .int la, .ref mk, .ref mw, .int ah, .int ri, .int lh, .ref mo, .ref mq, .ref mi, .ref mz])), (me, .inl (cI, 6, .inl fe)), (my, .inl (cI, 6, .inl fb)), (mc, .inl (cI, 6, .inl cm)), (mk, .inl (cI, 24, .inl f)), (mt, .inl (cI, 20, .inl fs))] H := hP
            have hD : va_D A [(o, .inr (8, [.int (nI n), .ref me, .ref ml, .ref mb, .int fi, .int (nI nl), .ref mt, .int si, .ref ms, .int sn, .ref mp, .ref my, .ref mc, .int la, .ref mk, .ref mw, .int ah, .int ri, .int lh, .ref mo, .ref mq, .ref mi, .ref mz])), (me, .inl (cI, 6, .inl fe)), (my, .inl (cI, 6, .inl fb)), (mc, .inl (cI, 6, .inl cm)), (mk, .inl (cI, 24, .inl f)), (mt, .inl (cI, 20, .inl fs))] := hD
            rcases hw with ⟨b38, rfl⟩ | ⟨b38, rfl⟩
            · refine lv_if_eq (tgt := 60) hx hb dX8_nextOf_41 (by decide) (fun c9 => absurd c9 (by decide)) (fun _ => ?_)
              refine lv_iload hx hb dX8_nextOf_44 (lv_at hl 0 rfl) ?_
              refine lv_bipush (v := nI 48) hx hb dX8_nextOf_46 (by decide) ?_
              refine lv_bipush (v := nI 57) hx hb dX8_nextOf_48 (by decide) ?_
              refine cal_i (run_S (As := [.int (fs q), .int (nI 48), .int (nI 57)]) (rest := []) SF (c_in8 l D cI cJ cZ cG cM (fs q) (nI 48) (nI 57)) (va_cwS 3 hts gX8_nextOf_X8_in rfl rfl rfl (by decide +kernel) ⟨Nat.le_of_ble_eq_true rfl, Nat.le_of_ble_eq_true rfl⟩) hN hK hP hD [] rfl (by decide) rfl hl.1 rfl (Nat.le_of_ble_eq_true rfl) dX8_nextOf_50 ⟨Nat.le_of_ble_eq_true rfl, Nat.le_of_ble_eq_true rfl⟩) ⟨rfl, rfl⟩ hP hD hS hA [] rfl (fun _ => rfl) (fun r50 _ H locs hw hP hD hS => ?_)
              have hP : va_P D vwCl [(o, .inr (8, [.int (nI n), .ref me, .ref ml, .ref mb, .int fi, .int (nI nl), .ref mt, .int si, .ref ms, .int sn, .ref mp, .ref my, .ref mc, .int la, .ref mk, .ref mw, .int ah, .int ri, .int lh, .ref mo, .ref mq, .ref mi, .ref mz])), (me, .inl (cI, 6, .inl fe)), (my, .inl (cI, 6, .inl fb)), (mc, .inl (cI, 6, .inl cm)), (mk, .inl (cI, 24, .inl f)), (mt, .inl (cI, 20, .inl fs))] H := hP
              have hD : va_D A [(o, .inr (8, [.int (nI n), .ref me, .ref ml, .ref mb, .int fi, .int (nI nl), .ref mt, .int si, .ref ms, .int sn, .ref mp, .ref my, .ref mc, .int la, .ref mk, .ref mw, .int ah, .int ri, .int lh, .ref mo, .ref mq, .ref mi, .ref mz])), (me, .inl (cI, 6, .inl fe)), (my, .inl (cI, 6, .inl fb)), (mc, .inl (cI, 6, .inl cm)), (mk, .inl (cI, 24, .inl f)), (mt, .inl (cI, 20, .inl fs))] := hD
              rcases hw with ⟨b50, rfl⟩ | ⟨b50, rfl⟩
              · refine lv_if_eq (tgt := 60) hx hb dX8_nextOf_53 (by decide) (fun c9 => absurd c9 (by decide)) (fun _ => ?_)
                refine lv_iconst (v := nI 1) hx hb dX8_nextOf_56 (by decide) ?_
                refine lv_goto (tgt := 61) hx hb dX8_nextOf_57 (by decide) ?_
                exact J61 (nI 1) ((Or.inl ⟨rfl, b50⟩)) _ _ hP hD hS _ (lv_sub hl [0, 1, 2, 3, 4] rfl)
              · refine lv_if_eq (tgt := 60) hx hb dX8_nextOf_53 (by decide) (fun _ => ?_) (fun c9 => absurd (by decide) c9)
                refine lv_iconst (v := nI 0) hx hb dX8_nextOf_60 (by decide) ?_
                have nf9 : (ps fs q).2 = false := by cases e9 : (ps fs q).2 with | false => rfl | true => exact absurd e9 (fun z => b50 (v2 z))
                have nd9 := v3 nf9
                exact J61 (nI 0) ((Or.inr ⟨rfl, nd9, nf9⟩)) _ _ hP hD hS _ (lv_sub hl [0, 1, 2, 3, 4] rfl)
            · refine lv_if_eq (tgt := 60) hx hb dX8_nextOf_41 (by decide) (fun _ => ?_) (fun c9 => absurd (by decide) c9)
              refine lv_iconst (v := nI 0) hx hb dX8_nextOf_60 (by decide) ?_
              have nf9 : (ps fs q).2 = false := by cases e9 : (ps fs q).2 with | false => rfl | true => exact absurd e9 (fun z => by obtain ⟨k9, e9, s9⟩ := ps_sh z; exact b38 (by rw [show q - 1 = k9 by omega]; exact s9))
              have nd9 := v3 nf9
              exact J61 (nI 0) ((Or.inr ⟨rfl, nd9, nf9⟩)) _ _ hP hD hS _ (lv_sub hl [0, 1, 2, 3, 4] rfl)
  exact L14 _ nl 0 ([]) fk ((by omega)) rfl trivial (Nat.lt_succ_self _) _ _ hP hD hS _ (lv_sub hl [2, 3, 1, 0] rfl)

abbrev rm_X8_asTold : Room := { frames := 0, cells := 0, slots := 0, locals := 0 }
set_option maxHeartbeats 4000000 in
set_option maxRecDepth 100000 in
theorem c_asTold (l : Launch) (D : va_G) (cI cJ cZ cG cM : ClassId) (o me ml mb mt ms mp my mc mk mw mo mq mi mz : Nat) (fi si sn la ah ri lh : Int32) (n nl : Nat) (fl fb : Nat → Int32) :
    CV l yX8_asTold wsX8_asTold rm_X8_asTold D [(cI, .int), (cJ, .long), (cZ, .boolean), (cG, .object "LatestSets$Guild"), (cM, .array .int)] [(o, .inr (8, [.int (nI n), .ref me, .ref ml, .ref mb, .int fi, .int (nI nl), .ref mt, .int si, .ref ms, .int sn, .ref mp, .ref my, .ref mc, .int la, .ref mk, .ref mw, .int ah, .int ri, .int lh, .ref mo, .ref mq, .ref mi, .ref mz])), (ml, .inl (cI, 6, .inl fl)), (my, .inl (cI, 6, .inl fb))] [.ref o] (S := (Nat → Int32)) (fun u => ∀ j, j < 6 → u j = fl j) (fun u => [(o, .inr (8, [.int (nI n), .ref me, .ref ml, .ref mb, .int fi, .int (nI nl), .ref mt, .int si, .ref ms, .int sn, .ref mp, .ref my, .ref mc, .int (nI 0), .ref mk, .ref mw, .int ah, .int ri, .int lh, .ref mo, .ref mq, .ref mi, .ref mz])), (ml, .inl (cI, 6, .inl fl)), (my, .inl (cI, 6, .inl u))]) := by
  refine sv_of (cc := cX8_asTold) (maxL := 2) (by decide) rfl (Nat.le_of_ble_eq_true rfl) ?_
  intro p e s m args below meth c A ls Q E hret
  obtain ⟨hx, hb, -, hml, hown, hts, -, hin, hA, hK, hP, hD, hS, hl, hN⟩ := E
  have hown : s.vm.findClass RX8 = some m.cls := hown
  have hl : lv_has ls 2 [(0, .ref o)] := hl
  have SF : CallFix p m c cX8_asTold 2 s args wsX8_asTold RX8 := ⟨hx, hb, hml, hown, hts⟩
  have hw0 := hts (.fieldLink RX8 93 "LatestSetsModel" "later" "I") (by decide +kernel)
  have hi8 : ∀ x ∈ wsX80, x ∈ wsX8_asTold := by decide +kernel
  have hw2 := hts (.fieldLink RX8 38 "LatestSetsModel" "by" "[I") (by decide +kernel)
  have hw3 := hts (.fieldLink RX8 17 "LatestSetsModel" "late" "[I") (by decide +kernel)
  refine lv_aload_n hx hb dX8_asTold_0 rfl (lv_at hl 0 rfl) ?_
  refine lv_iconst (v := nI 0) hx hb dX8_asTold_1 (by decide) ?_
  refine va_put (D := D) (ci := 8) (v := .int (nI 0)) (ty := .int) (C := RX8) (T := TX8) (N := 23) hx hb hts hi8 tyX8 tyX8_ok nmX8 hown hK hP hD hS 0 rfl rfl 13 (by decide) hw0 (fun _ h9 => h9) rfl (by decide +kernel) rfl rfl (Nat.le_of_ble_eq_true rfl) dX8_asTold_2 (fun H locs hP hD hS => ?_)
  have hP : va_P D vwCl [(o, .inr (8, [.int (nI n), .ref me, .ref ml, .ref mb, .int fi, .int (nI nl), .ref mt, .int si, .ref ms, .int sn, .ref mp, .ref my, .ref mc, .int (nI 0), .ref mk, .ref mw, .int ah, .int ri, .int lh, .ref mo, .ref mq, .ref mi, .ref mz])), (ml, .inl (cI, 6, .inl fl)), (my, .inl (cI, 6, .inl fb))] H := hP
  have hD : va_D A [(o, .inr (8, [.int (nI n), .ref me, .ref ml, .ref mb, .int fi, .int (nI nl), .ref mt, .int si, .ref ms, .int sn, .ref mp, .ref my, .ref mc, .int (nI 0), .ref mk, .ref mw, .int ah, .int ri, .int lh, .ref mo, .ref mq, .ref mi, .ref mz])), (ml, .inl (cI, 6, .inl fl)), (my, .inl (cI, 6, .inl fb))] := hD
  refine lv_iconst (v := nI 0) hx hb dX8_asTold_5 (by decide) ?_
  refine lv_istore_n (lv' := [(1, .int (nI 0)), (0, .ref o)]) hx hb dX8_asTold_6 rfl hl (by decide) rfl (fun ls hl => ?_)
  have L7 : ∀ (n9 : Nat) (k : Nat) (f : Nat → Int32) (hk : k ≤ 6) (hf : ∀ j, j < k → f j = fl j), 6 - k < n9 → ∀ (H : Heap) (locs : List Loc), va_P D vwCl [(o, .inr (8, [.int (nI n), .ref me, .ref ml, .ref mb, .int fi, .int (nI nl), .ref mt, .int si, .ref ms, .int sn, .ref mp, .ref my, .ref mc, .int (nI 0), .ref mk, .ref mw, .int ah, .int ri, .int lh, .ref mo, .ref mq, .ref mi, .ref mz])), (ml, .inl (cI, 6, .inl fl)), (my, .inl (cI, 6, .inl f))] H → va_D A [(o, .inr (8, [.int (nI n), .ref me, .ref ml, .ref mb, .int fi, .int (nI nl), .ref mt, .int si, .ref ms, .int sn, .ref mp, .ref my, .ref mc, .int (nI 0), .ref mk, .ref mw, .int ah, .int ri, .int lh, .ref mo, .ref mq, .ref mi, .ref mz])), (ml, .inl (cI, 6, .inl fl)), (my, .inl (cI, 6, .inl f))] → va_S A s.heap H locs → ∀ (ls : Array Slot), lv_has ls 2 [(0, .ref o), (1, .int (nI k))] → W p l e rm_X8_asTold s m args below meth c H locs 0 0 Q (F0 m 7 ls []) := by
    intro n9
    induction n9 with
    | zero => intro k f hk hf hm; exact absurd hm (Nat.not_lt_zero _)
    | succ n9 ih7 =>
      intro k f hk hf hm7 H locs hP hD hS ls hl
      refine lv_iload_n hx hb dX8_asTold_7 rfl (lv_at hl 1 rfl) ?_
      refine lv_bipush (v := nI 6) hx hb dX8_asTold_8 (by decide) ?_
      refine icmp_ge_n (a := k) (b := 6) (tgt := 31) hx hb dX8_asTold_10 (by decide) (by omega) (by omega) (fun c10 => ?_) (fun c10 => ?_)
      · exact hret f _ _ _ _ dX8_asTold_31 (fun j hj => hf j (by omega)) hP hD hS
      · refine lv_aload_n hx hb dX8_asTold_13 rfl (lv_at hl 0 rfl) ?_
        refine va_get (D := D) (ci := 8) (v := .ref my) (C := RX8) (T := TX8) (N := 23) hx hb hts hi8 hown hK hP 0 rfl rfl 11 (by decide) hw2 (fun _ h9 => h9) rfl dX8_asTold_14 ?_
        refine lv_iload_n hx hb dX8_asTold_17 rfl (lv_at hl 1 rfl) ?_
        refine lv_aload_n hx hb dX8_asTold_18 rfl (lv_at hl 0 rfl) ?_
        refine va_get (D := D) (ci := 8) (v := .ref ml) (C := RX8) (T := TX8) (N := 23) hx hb hts hi8 hown hK hP 0 rfl rfl 2 (by decide) hw3 (fun _ h9 => h9) rfl dX8_asTold_19 ?_
        refine lv_iload_n hx hb dX8_asTold_22 rfl (lv_at hl 1 rfl) ?_
        refine iald_n (k := k) hx hb hK hP 1 0 rfl rfl (by omega) (by omega) dX8_asTold_23 ?_
        refine iast_n (k := k) hx hb hK hP hD hS 2 0 rfl rfl (by omega) (by omega) dX8_asTold_24 (fun H locs hP hD hS => ?_)
        have hP : va_P D vwCl [(o, .inr (8, [.int (nI n), .ref me, .ref ml, .ref mb, .int fi, .int (nI nl), .ref mt, .int si, .ref ms, .int sn, .ref mp, .ref my, .ref mc, .int (nI 0), .ref mk, .ref mw, .int ah, .int ri, .int lh, .ref mo, .ref mq, .ref mi, .ref mz])), (ml, .inl (cI, 6, .inl fl)), (my, .inl (cI, 6, .inl (upd f k (fl k))))] H := hP
        have hD : va_D A [(o, .inr (8, [.int (nI n), .ref me, .ref ml, .ref mb, .int fi, .int (nI nl), .ref mt, .int si, .ref ms, .int sn, .ref mp, .ref my, .ref mc, .int (nI 0), .ref mk, .ref mw, .int ah, .int ri, .int lh, .ref mo, .ref mq, .ref mi, .ref mz])), (ml, .inl (cI, 6, .inl fl)), (my, .inl (cI, 6, .inl (upd f k (fl k))))] := hD
        refine lv_iinc (v := nI (k + 1)) (lv' := [(1, .int (nI (k + 1))), (0, .ref o)]) hx hb dX8_asTold_25 hl (k := 1) rfl (nI_1 k) (by decide) rfl (fun ls hl => ?_)
        refine lv_goto (tgt := 7) hx hb dX8_asTold_28 (by decide) ?_
        exact ih7 (k + 1) (upd f k (fl k)) ((by omega)) ((fun j hj => by by_cases e9 : j = k; (subst e9; exact pk_us); (rw [pk_un e9]; exact hf j (by omega)))) (by omega) _ _ hP hD hS _ (lv_sub hl [1, 0] rfl)
  exact L7 _ 0 fb ((by omega)) ((fun j hj => absurd hj (Nat.not_lt_zero j))) (Nat.lt_succ_self _) _ _ hP hD hS _ (lv_sub hl [1, 0] rfl)

abbrev rm_X8_hourOf : Room := { frames := 3, cells := 0, slots := 0, locals := 75 }
set_option maxHeartbeats 4000000 in
set_option maxRecDepth 100000 in
theorem c_hourOf (l : Launch) (D : va_G) (cI cJ cZ cG cM : ClassId) (o me ml mb mt ms mp my mc mk mw mo mq mi mz : Nat) (fi si sn la ah ri lh : Int32) (n nl : Nat) (h : Int32) (wk : Nat) (fe fb cm fk fs : Nat → Int32) (hV : VL fs nl) (h1 : 1 ≤ n) (h6 : n ≤ 6) (hwk : wk < 1000) :
    CI l yX8_hourOf wsX8_hourOf rm_X8_hourOf D [(cI, .int), (cJ, .long), (cZ, .boolean), (cG, .object "LatestSets$Guild"), (cM, .array .int)] [(o, .inr (8, [.int (nI n), .ref me, .ref ml, .ref mb, .int fi, .int (nI nl), .ref mt, .int si, .ref ms, .int sn, .ref mp, .ref my, .ref mc, .int la, .ref mk, .ref mw, .int ah, .int ri, .int lh, .ref mo, .ref mq, .ref mi, .ref mz])), (me, .inl (cI, 6, .inl fe)), (my, .inl (cI, 6, .inl fb)), (mc, .inl (cI, 6, .inl cm)), (mk, .inl (cI, 24, .inl fk)), (mt, .inl (cI, 20, .inl fs))] [.ref o, .int h, .int (nI wk)] (S := ((Nat → Int32) × (Nat → Int32))) (fun r u => r = itH (nxG fs nl n fe fb la) wk h) (fun u => [(o, .inr (8, [.int (nI n), .ref me, .ref ml, .ref mb, .int fi, .int (nI nl), .ref mt, .int si, .ref ms, .int sn, .ref mp, .ref my, .ref mc, .int la, .ref mk, .ref mw, .int ah, .int ri, .int lh, .ref mo, .ref mq, .ref mi, .ref mz])), (me, .inl (cI, 6, .inl fe)), (my, .inl (cI, 6, .inl fb)), (mc, .inl (cI, 6, .inl u.1)), (mk, .inl (cI, 24, .inl u.2)), (mt, .inl (cI, 20, .inl fs))]) := by
  refine si_of (cc := cX8_hourOf) (maxL := 5) (by decide) rfl (Nat.le_of_ble_eq_true rfl) ?_
  intro p e s m args below meth c A ls Q E hret
  obtain ⟨hx, hb, -, hml, hown, hts, -, hin, hA, hK, hP, hD, hS, hl, hN⟩ := E
  have hown : s.vm.findClass RX8 = some m.cls := hown
  have hl : lv_has ls 5 [(0, .ref o), (1, .int h), (2, .int (nI wk))] := hl
  have SF : CallFix p m c cX8_hourOf 5 s args wsX8_hourOf RX8 := ⟨hx, hb, hml, hown, hts⟩
  refine lv_iload_n hx hb dX8_hourOf_0 rfl (lv_at hl 1 rfl) ?_
  refine lv_istore_n (lv' := [(3, .int h), (0, .ref o), (1, .int h), (2, .int (nI wk))]) hx hb dX8_hourOf_1 rfl hl (by decide) rfl (fun ls hl => ?_)
  refine lv_iconst (v := nI 0) hx hb dX8_hourOf_2 (by decide) ?_
  refine lv_istore (lv' := [(4, .int (nI 0)), (3, .int h), (0, .ref o), (1, .int h), (2, .int (nI wk))]) hx hb dX8_hourOf_3 hl (by decide) rfl (fun ls hl => ?_)
  have L5 : ∀ (n9 : Nat) (k : Nat) (cm fk : Nat → Int32) (hk : k ≤ wk), wk - k < n9 → ∀ (H : Heap) (locs : List Loc), va_P D vwCl [(o, .inr (8, [.int (nI n), .ref me, .ref ml, .ref mb, .int fi, .int (nI nl), .ref mt, .int si, .ref ms, .int sn, .ref mp, .ref my, .ref mc, .int la, .ref mk, .ref mw, .int ah, .int ri, .int lh, .ref mo, .ref mq, .ref mi, .ref mz])), (me, .inl (cI, 6, .inl fe)), (my, .inl (cI, 6, .inl fb)), (mc, .inl (cI, 6, .inl cm)), (mk, .inl (cI, 24, .inl fk)), (mt, .inl (cI, 20, .inl fs))] H → va_D A [(o, .inr (8, [.int (nI n), .ref me, .ref ml, .ref mb, .int fi, .int (nI nl), .ref mt, .int si, .ref ms, .int sn, .ref mp, .ref my, .ref mc, .int la, .ref mk, .ref mw, .int ah, .int ri, .int lh, .ref mo, .ref mq, .ref mi, .ref mz])), (me, .inl (cI, 6, .inl fe)), (my, .inl (cI, 6, .inl fb)), (mc, .inl (cI, 6, .inl cm)), (mk, .inl (cI, 24, .inl fk)), (mt, .inl (cI, 20, .inl fs))] → va_S A s.heap H locs → ∀ (ls : Array Slot), lv_has ls 5 [(0, .ref o), (1, .int h), (2, .int (nI wk)), (3, .int (itH (nxG fs nl n fe fb la) k h)), (4, .int (nI k))] → W p l e rm_X8_hourOf s m args below meth c H locs 0 0 Q (F0 m 5 ls []) := by
    intro n9
    induction n9 with
    | zero => intro k cm fk hk hm; exact absurd hm (Nat.not_lt_zero _)
    | succ n9 ih5 =>
      intro k cm fk hk hm5 H locs hP hD hS ls hl
      refine lv_iload hx hb dX8_hourOf_5 (lv_at hl 4 rfl) ?_
      refine lv_iload_n hx hb dX8_hourOf_7 rfl (lv_at hl 2 rfl) ?_
      refine icmp_ge_n (a := k) (b := wk) (tgt := 23) hx hb dX8_hourOf_8 (by decide) (by omega) (by omega) (fun c8 => ?_) (fun c8 => ?_)
      · refine lv_iload_n hx hb dX8_hourOf_23 rfl (lv_at hl 3 rfl) ?_
        exact hret (itH (nxG fs nl n fe fb la) k h) ((cm, fk)) _ _ _ _ dX8_hourOf_24 (by rw [show k = wk by omega]) hP hD hS
      · refine lv_aload_n hx hb dX8_hourOf_11 rfl (lv_at hl 0 rfl) ?_
        refine lv_iload_n hx hb dX8_hourOf_12 rfl (lv_at hl 3 rfl) ?_
        refine cal_i (run_V (As := [.int (itH (nxG fs nl n fe fb la) k h)]) (rest := []) SF (c_nextOf l D cI cJ cZ cG cM o me ml mb mt ms mp my mc mk mw mo mq mi mz fi si sn la ah ri lh n nl (itH (nxG fs nl n fe fb la) k h) fe fb cm fk fs hV h1 h6) (cwV 1 hts gX8_hourOf_X8_nextOf rfl rfl rfl (by decide +kernel) ⟨Nat.le_of_ble_eq_true rfl, Nat.le_of_ble_eq_true rfl⟩) hN hK hP hD [0, 1, 2, 3, 4, 5] rfl (by decide) 8 0 rfl rfl rfl rfl hl.1 rfl (Nat.le_of_ble_eq_true rfl) dX8_hourOf_13 ⟨Nat.le_of_ble_eq_true rfl, Nat.le_of_ble_eq_true rfl⟩) ⟨rfl, rfl⟩ hP hD hS hA [0, 1, 2, 3, 4, 5] rfl (fun _ => rfl) (fun r13 u13 H locs hw hP hD hS => ?_)
        have hP : va_P D vwCl [(o, .inr (8, [.int (nI n), .ref me, .ref ml, .ref mb, .int fi, .int (nI nl), .ref mt, .int si, .ref ms, .int sn, .ref mp, .ref my, .ref mc, .int la, .ref mk, .ref mw, .int ah, .int ri, .int lh, .ref mo, .ref mq, .ref mi, .ref mz])), (me, .inl (cI, 6, .inl fe)), (my, .inl (cI, 6, .inl fb)), (mc, .inl (cI, 6, .inl u13.1)), (mk, .inl (cI, 24, .inl u13.2)), (mt, .inl (cI, 20, .inl fs))] H := hP
        have hD : va_D A [(o, .inr (8, [.int (nI n), .ref me, .ref ml, .ref mb, .int fi, .int (nI nl), .ref mt, .int si, .ref ms, .int sn, .ref mp, .ref my, .ref mc, .int la, .ref mk, .ref mw, .int ah, .int ri, .int lh, .ref mo, .ref mq, .ref mi, .ref mz])), (me, .inl (cI, 6, .inl fe)), (my, .inl (cI, 6, .inl fb)), (mc, .inl (cI, 6, .inl u13.1)), (mk, .inl (cI, 24, .inl u13.2)), (mt, .inl (cI, 20, .inl fs))] := hD
        refine lv_istore_n (lv' := [(3, .int r13), (0, .ref o), (1, .int h), (2, .int (nI wk)), (4, .int (nI k))]) hx hb dX8_hourOf_16 rfl hl (by decide) rfl (fun ls hl => ?_)
        refine lv_iinc (v := nI (k + 1)) (lv' := [(4, .int (nI (k + 1))), (3, .int r13), (0, .ref o), (1, .int h), (2, .int (nI wk))]) hx hb dX8_hourOf_17 hl (k := 4) rfl (nI_1 k) (by decide) rfl (fun ls hl => ?_)
        refine lv_goto (tgt := 5) hx hb dX8_hourOf_20 (by decide) ?_
        change r13 = itH (nxG fs nl n fe fb la) (k + 1) h at hw
        rw [hw] at hl
        exact ih5 (k + 1) u13.1 u13.2 ((by omega)) (by omega) _ _ hP hD hS _ (lv_sub hl [2, 3, 4, 1, 0] rfl)
  exact L5 _ 0 cm fk ((Nat.zero_le _)) (Nat.lt_succ_self _) _ _ hP hD hS _ (lv_sub hl [2, 3, 4, 1, 0] rfl)

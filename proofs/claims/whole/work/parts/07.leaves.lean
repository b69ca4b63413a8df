abbrev rm_J7_fill_53178 : Room := { frames := 0, cells := 0, slots := 0, locals := 0 }
set_option maxHeartbeats 4000000 in
set_option maxRecDepth 100000 in
theorem c_fillI (l : Launch) (D : va_G) (cI cJ cZ cG cM : ClassId) (a n : Nat) (f : Nat → Int32) (v : Int32) (hn : n < 1000000) :
    CV l yJ7_fill_53178 wsJ7_fill_53178 rm_J7_fill_53178 D [(cI, .int), (cJ, .long), (cZ, .boolean), (cG, .object "LatestSets$Guild"), (cM, .array .int)] [(a, .inl (cI, n, .inl f))] [.ref a, .int v] (S := Unit) (fun u => True) (fun u => [(a, .inl (cI, n, .inl (filI f v n)))]) := by
  refine sv_of (cc := cJ7_fill_53178) (maxL := 4) (by decide) rfl (Nat.le_of_ble_eq_true rfl) ?_
  intro p e s m args below meth c A ls Q E hret
  obtain ⟨hx, hb, -, hml, hown, hts, -, hin, hA, hK, hP, hD, hS, hl, hN⟩ := E
  have hown : s.vm.findClass RJ7 = some m.cls := hown
  have hl : lv_has ls 4 [(0, .ref a), (1, .int v)] := hl
  have SF : CallFix p m c cJ7_fill_53178 4 s args wsJ7_fill_53178 RJ7 := ⟨hx, hb, hml, hown, hts⟩
  refine lv_iconst (v := nI 0) hx hb dJ7_fill_53178_0 (by decide) ?_
  refine lv_istore_n (lv' := [(2, .int (nI 0)), (0, .ref a), (1, .int v)]) hx hb dJ7_fill_53178_1 rfl hl (by decide) rfl (fun ls hl => ?_)
  refine lv_aload_n hx hb dJ7_fill_53178_2 rfl (lv_at hl 1 rfl) ?_
  refine va_alen (v := nI n) hx hb hK hP 0 0 rfl rfl rfl dJ7_fill_53178_3 ?_
  refine lv_istore_n (lv' := [(3, .int (nI n)), (2, .int (nI 0)), (0, .ref a), (1, .int v)]) hx hb dJ7_fill_53178_4 rfl hl (by decide) rfl (fun ls hl => ?_)
  have L5 : ∀ (n9 : Nat) (k : Nat) (hk : k ≤ n), n - k < n9 → ∀ (H : Heap) (locs : List Loc), va_P D vwCl [(a, .inl (cI, n, .inl (filI f v k)))] H → va_D A [(a, .inl (cI, n, .inl (filI f v k)))] → va_S A s.heap H locs → ∀ (ls : Array Slot), lv_has ls 4 [(0, .ref a), (1, .int v), (2, .int (nI k)), (3, .int (nI n))] → W p l e rm_J7_fill_53178 s m args below meth c H locs 0 0 Q (F0 m 5 ls []) := by
    intro n9
    induction n9 with
    | zero => intro k hk hm; exact absurd hm (Nat.not_lt_zero _)
    | succ n9 ih5 =>
      intro k hk hm5 H locs hP hD hS ls hl
      refine lv_iload_n hx hb dJ7_fill_53178_5 rfl (lv_at hl 2 rfl) ?_
      refine lv_iload_n hx hb dJ7_fill_53178_6 rfl (lv_at hl 3 rfl) ?_
      refine icmp_ge_n (a := k) (b := n) (tgt := 20) hx hb dJ7_fill_53178_7 (by decide) (by omega) (by omega) (fun c7 => ?_) (fun c7 => ?_)
      · have e9 : k = n := by omega
        subst e9
        exact hret (()) _ _ _ _ dJ7_fill_53178_20 trivial hP hD hS
      · refine lv_aload_n hx hb dJ7_fill_53178_10 rfl (lv_at hl 0 rfl) ?_
        refine lv_iload_n hx hb dJ7_fill_53178_11 rfl (lv_at hl 2 rfl) ?_
        refine lv_iload_n hx hb dJ7_fill_53178_12 rfl (lv_at hl 1 rfl) ?_
        refine iast_n (k := k) hx hb hK hP hD hS 0 0 rfl rfl (by omega) (by omega) dJ7_fill_53178_13 (fun H locs hP hD hS => ?_)
        have hP : va_P D vwCl [(a, .inl (cI, n, .inl (upd (filI f v k) k v)))] H := hP
        have hD : va_D A [(a, .inl (cI, n, .inl (upd (filI f v k) k v)))] := hD
        refine lv_iinc (v := nI (k + 1)) (lv' := [(2, .int (nI (k + 1))), (0, .ref a), (1, .int v), (3, .int (nI n))]) hx hb dJ7_fill_53178_14 hl (k := 2) rfl (nI_1 k) (by decide) rfl (fun ls hl => ?_)
        refine lv_goto (tgt := 5) hx hb dJ7_fill_53178_17 (by decide) ?_
        exact ih5 (k + 1) ((by omega)) (by omega) _ _ hP hD hS _ (lv_sub hl [1, 2, 0, 3] rfl)
  exact L5 _ 0 ((Nat.zero_le _)) (Nat.lt_succ_self _) _ _ hP hD hS _ (lv_sub hl [2, 3, 1, 0] rfl)

abbrev rm_J7_fill_d0a16 : Room := { frames := 0, cells := 0, slots := 0, locals := 0 }
set_option maxHeartbeats 4000000 in
set_option maxRecDepth 100000 in
theorem c_fillJ (l : Launch) (D : va_G) (cI cJ cZ cG cM : ClassId) (a n : Nat) (f : Nat → Int64) (v : Int64) (hn : n < 1000000) :
    CV l yJ7_fill_d0a16 wsJ7_fill_d0a16 rm_J7_fill_d0a16 D [(cI, .int), (cJ, .long), (cZ, .boolean), (cG, .object "LatestSets$Guild"), (cM, .array .int)] [(a, .inl (cJ, n, .inr (.inl f)))] [.ref a, .long v] (S := Unit) (fun u => True) (fun u => [(a, .inl (cJ, n, .inr (.inl (filJ f v n))))]) := by
  refine sv_of (cc := cJ7_fill_d0a16) (maxL := 5) (by decide) rfl (Nat.le_of_ble_eq_true rfl) ?_
  intro p e s m args below meth c A ls Q E hret
  obtain ⟨hx, hb, -, hml, hown, hts, -, hin, hA, hK, hP, hD, hS, hl, hN⟩ := E
  have hown : s.vm.findClass RJ7 = some m.cls := hown
  have hl : lv_has ls 5 [(0, .ref a), (1, .long v)] := hl
  have SF : CallFix p m c cJ7_fill_d0a16 5 s args wsJ7_fill_d0a16 RJ7 := ⟨hx, hb, hml, hown, hts⟩
  refine lv_iconst (v := nI 0) hx hb dJ7_fill_d0a16_0 (by decide) ?_
  refine lv_istore_n (lv' := [(3, .int (nI 0)), (0, .ref a), (1, .long v)]) hx hb dJ7_fill_d0a16_1 rfl hl (by decide) rfl (fun ls hl => ?_)
  refine lv_aload_n hx hb dJ7_fill_d0a16_2 rfl (lv_at hl 1 rfl) ?_
  refine va_alen (v := nI n) hx hb hK hP 0 1 rfl rfl rfl dJ7_fill_d0a16_3 ?_
  refine lv_istore (lv' := [(4, .int (nI n)), (3, .int (nI 0)), (0, .ref a), (1, .long v)]) hx hb dJ7_fill_d0a16_4 hl (by decide) rfl (fun ls hl => ?_)
  have L6 : ∀ (n9 : Nat) (k : Nat) (hk : k ≤ n), n - k < n9 → ∀ (H : Heap) (locs : List Loc), va_P D vwCl [(a, .inl (cJ, n, .inr (.inl (filJ f v k))))] H → va_D A [(a, .inl (cJ, n, .inr (.inl (filJ f v k))))] → va_S A s.heap H locs → ∀ (ls : Array Slot), lv_has ls 5 [(0, .ref a), (1, .long v), (3, .int (nI k)), (4, .int (nI n))] → W p l e rm_J7_fill_d0a16 s m args below meth c H locs 0 0 Q (F0 m 6 ls []) := by
    intro n9
    induction n9 with
    | zero => intro k hk hm; exact absurd hm (Nat.not_lt_zero _)
    | succ n9 ih6 =>
      intro k hk hm6 H locs hP hD hS ls hl
      refine lv_iload_n hx hb dJ7_fill_d0a16_6 rfl (lv_at hl 2 rfl) ?_
      refine lv_iload hx hb dJ7_fill_d0a16_7 (lv_at hl 3 rfl) ?_
      refine icmp_ge_n (a := k) (b := n) (tgt := 22) hx hb dJ7_fill_d0a16_9 (by decide) (by omega) (by omega) (fun c9 => ?_) (fun c9 => ?_)
      · have e9 : k = n := by omega
        subst e9
        exact hret (()) _ _ _ _ dJ7_fill_d0a16_22 trivial hP hD hS
      · refine lv_aload_n hx hb dJ7_fill_d0a16_12 rfl (lv_at hl 0 rfl) ?_
        refine lv_iload_n hx hb dJ7_fill_d0a16_13 rfl (lv_at hl 2 rfl) ?_
        refine lv_lload_n hx hb dJ7_fill_d0a16_14 rfl (lv_at hl 1 rfl) ?_
        refine last_n (k := k) hx hb hK hP hD hS 0 1 rfl rfl (by omega) (by omega) dJ7_fill_d0a16_15 (fun H locs hP hD hS => ?_)
        have hP : va_P D vwCl [(a, .inl (cJ, n, .inr (.inl (vp_updL (filJ f v k) k v))))] H := hP
        have hD : va_D A [(a, .inl (cJ, n, .inr (.inl (vp_updL (filJ f v k) k v))))] := hD
        refine lv_iinc (v := nI (k + 1)) (lv' := [(3, .int (nI (k + 1))), (0, .ref a), (1, .long v), (4, .int (nI n))]) hx hb dJ7_fill_d0a16_16 hl (k := 2) rfl (nI_1 k) (by decide) rfl (fun ls hl => ?_)
        refine lv_goto (tgt := 6) hx hb dJ7_fill_d0a16_19 (by decide) ?_
        exact ih6 (k + 1) ((by omega)) (by omega) _ _ hP hD hS _ (lv_sub hl [1, 2, 0, 3] rfl)
  exact L6 _ 0 ((Nat.zero_le _)) (Nat.lt_succ_self _) _ _ hP hD hS _ (lv_sub hl [2, 3, 1, 0] rfl)

abbrev rm_X7_within : Room := { frames := 0, cells := 0, slots := 0, locals := 0 }
set_option maxHeartbeats 4000000 in
set_option maxRecDepth 100000 in
theorem c_within (l : Launch) (D : va_G) (cI cJ cZ cG cM : ClassId) (v a b : Int32) :
    CI l yX7_within wsX7_within rm_X7_within D [(cI, .int), (cJ, .long), (cZ, .boolean), (cG, .object "LatestSets$Guild"), (cM, .array .int)] [] [.int v, .int a, .int b] (S := Unit) (fun r u => bz (a ≤ v ∧ v ≤ b) r) (fun u => []) := by
  refine sz_of (cc := cX7_within) (maxL := 3) (by decide) rfl (Nat.le_of_ble_eq_true rfl) ?_
  intro p e s m args below meth c A ls Q E hret
  obtain ⟨hx, hb, -, hml, hown, hts, -, hin, hA, hK, hP, hD, hS, hl, hN⟩ := E
  have hown : s.vm.findClass RX7 = some m.cls := hown
  have hl : lv_has ls 3 [(0, .int v), (1, .int a), (2, .int b)] := hl
  have SF : CallFix p m c cX7_within 3 s args wsX7_within RX7 := ⟨hx, hb, hml, hown, hts⟩
  refine lv_iload_n hx hb dX7_within_0 rfl (lv_at hl 0 rfl) ?_
  refine lv_iload_n hx hb dX7_within_1 rfl (lv_at hl 1 rfl) ?_
  refine lv_icmp_lt (tgt := 14) hx hb dX7_within_2 (by decide) (fun c2 => ?_) (fun c2 => ?_)
  · refine lv_iconst (v := nI 0) hx hb dX7_within_14 (by decide) ?_
    exact hret (nI 0) (()) _ _ _ _ dX7_within_15 rfl (bz0 (fun z => i_ltnle c2 z.1)) hP hD hS
  · refine lv_iload_n hx hb dX7_within_5 rfl (lv_at hl 0 rfl) ?_
    refine lv_iload_n hx hb dX7_within_6 rfl (lv_at hl 2 rfl) ?_
    refine lv_icmp_gt (tgt := 14) hx hb dX7_within_7 (by decide) (fun c7 => ?_) (fun c7 => ?_)
    · refine lv_iconst (v := nI 0) hx hb dX7_within_14 (by decide) ?_
      exact hret (nI 0) (()) _ _ _ _ dX7_within_15 rfl (bz0 (fun z => i_ltnle c7 z.2)) hP hD hS
    · refine lv_iconst (v := nI 1) hx hb dX7_within_10 (by decide) ?_
      refine lv_goto (tgt := 15) hx hb dX7_within_11 (by decide) ?_
      exact hret (nI 1) (()) _ _ _ _ dX7_within_15 rfl (bz1 ⟨i_nlt c2, i_nlt c7⟩) hP hD hS

abbrev rm_X7_isHour : Room := { frames := 0, cells := 0, slots := 0, locals := 0 }
set_option maxHeartbeats 4000000 in
set_option maxRecDepth 100000 in
theorem c_isHour (l : Launch) (D : va_G) (cI cJ cZ cG cM : ClassId) (v : Int32) :
    CI l yX7_isHour wsX7_isHour rm_X7_isHour D [(cI, .int), (cJ, .long), (cZ, .boolean), (cG, .object "LatestSets$Guild"), (cM, .array .int)] [] [.int v] (S := Unit) (fun r u => bz (nI 0 ≤ v ∧ v ≤ nI 23) r) (fun u => []) := by
  refine sz_of (cc := cX7_isHour) (maxL := 1) (by decide) rfl (Nat.le_of_ble_eq_true rfl) ?_
  intro p e s m args below meth c A ls Q E hret
  obtain ⟨hx, hb, -, hml, hown, hts, -, hin, hA, hK, hP, hD, hS, hl, hN⟩ := E
  have hown : s.vm.findClass RX7 = some m.cls := hown
  have hl : lv_has ls 1 [(0, .int v)] := hl
  have SF : CallFix p m c cX7_isHour 1 s args wsX7_isHour RX7 := ⟨hx, hb, hml, hown, hts⟩
  refine lv_iload_n hx hb dX7_isHour_0 rfl (lv_at hl 0 rfl) ?_
  refine lv_if_lt (tgt := 14) hx hb dX7_isHour_1 (by decide) (fun c1 => ?_) (fun c1 => ?_)
  · refine lv_iconst (v := nI 0) hx hb dX7_isHour_14 (by decide) ?_
    exact hret (nI 0) (()) _ _ _ _ dX7_isHour_15 rfl (bz0 (fun z => i_ltnle c1 z.1)) hP hD hS
  · refine lv_iload_n hx hb dX7_isHour_4 rfl (lv_at hl 0 rfl) ?_
    refine lv_bipush (v := nI 23) hx hb dX7_isHour_5 (by decide) ?_
    refine lv_icmp_gt (tgt := 14) hx hb dX7_isHour_7 (by decide) (fun c7 => ?_) (fun c7 => ?_)
    · refine lv_iconst (v := nI 0) hx hb dX7_isHour_14 (by decide) ?_
      exact hret (nI 0) (()) _ _ _ _ dX7_isHour_15 rfl (bz0 (fun z => i_ltnle c7 z.2)) hP hD hS
    · refine lv_iconst (v := nI 1) hx hb dX7_isHour_10 (by decide) ?_
      refine lv_goto (tgt := 15) hx hb dX7_isHour_11 (by decide) ?_
      exact hret (nI 1) (()) _ _ _ _ dX7_isHour_15 rfl (bz1 ⟨i_nlt c1, i_nlt c7⟩) hP hD hS

abbrev rm_X7_comingAt : Room := { frames := 1, cells := 0, slots := 0, locals := 21 }
set_option maxHeartbeats 4000000 in
set_option maxRecDepth 100000 in
theorem c_comingAt (l : Launch) (D : va_G) (cI cJ cZ cG cM : ClassId) (h ea la : Int32) :
    CI l yX7_comingAt wsX7_comingAt rm_X7_comingAt D [(cI, .int), (cJ, .long), (cZ, .boolean), (cG, .object "LatestSets$Guild"), (cM, .array .int)] [] [.int h, .int ea, .int la] (S := Unit) (fun r u => r = cmA h ea la) (fun u => []) := by
  refine si_of (cc := cX7_comingAt) (maxL := 3) (by decide) rfl (Nat.le_of_ble_eq_true rfl) ?_
  intro p e s m args below meth c A ls Q E hret
  obtain ⟨hx, hb, -, hml, hown, hts, -, hin, hA, hK, hP, hD, hS, hl, hN⟩ := E
  have hown : s.vm.findClass RX7 = some m.cls := hown
  have hl : lv_has ls 3 [(0, .int h), (1, .int ea), (2, .int la)] := hl
  have SF : CallFix p m c cX7_comingAt 3 s args wsX7_comingAt RX7 := ⟨hx, hb, hml, hown, hts⟩
  have hw0 := hts (.methodLink RX7 213 Lib.Math.max.name) (by decide +kernel)
  have hw1 := hts (.static Lib.Math.max.name) (by decide +kernel)
  have hw2 := hts (.initialized "java/lang/Math") (by decide +kernel)
  have hw3 := hts (.code Lib.Math.max.name Lib.Math.max.code 2 (some .int)) (by decide +kernel)
  have hw4 := hts (.methodLink RX7 218 Lib.Math.min.name) (by decide +kernel)
  have hw5 := hts (.static Lib.Math.min.name) (by decide +kernel)
  have hw6 := hts (.code Lib.Math.min.name Lib.Math.min.code 2 (some .int)) (by decide +kernel)
  refine lv_bipush (v := nI 23) hx hb dX7_comingAt_0 (by decide) ?_
  refine lv_iload_n hx hb dX7_comingAt_2 rfl (lv_at hl 0 rfl) ?_
  refine lv_iload_n hx hb dX7_comingAt_3 rfl (lv_at hl 1 rfl) ?_
  refine va_mmax hx hb (by rw [hml]; exact hl.1.symm) hown hw0 hw1 hw2 hw3 (Nat.le_of_ble_eq_true rfl) (Nat.le_of_ble_eq_true rfl) (Nat.zero_le _) (Nat.zero_le _) dX7_comingAt_4 ?_
  refine lv_iload_n hx hb dX7_comingAt_7 rfl (lv_at hl 2 rfl) ?_
  refine lv_iadd hx hb dX7_comingAt_8 ?_
  refine va_mmin hx hb (by rw [hml]; exact hl.1.symm) hown hw4 hw5 hw2 hw6 (Nat.le_of_ble_eq_true rfl) (Nat.le_of_ble_eq_true rfl) (Nat.zero_le _) (Nat.zero_le _) dX7_comingAt_9 ?_
  exact hret (mnI (nI 23) ((mxI h ea) + la)) (()) _ _ _ _ dX7_comingAt_12 rfl hP hD hS

abbrev rm_X4_take : Room := { frames := 1, cells := 0, slots := 0, locals := 26 }
set_option maxHeartbeats 4000000 in
set_option maxRecDepth 100000 in
theorem c_take (l : Launch) (D : va_G) (cI cJ cZ cG cM : ClassId) (w sg a : Nat) (f g : Nat → Int32) (na k : Nat) (le : Int32) (h1 : k ≤ na) (h2 : na < 1000000) (h3 : k ≤ 20) :
    CV l yX4_take wsX4_take rm_X4_take D [(cI, .int), (cJ, .long), (cZ, .boolean), (cG, .object "LatestSets$Guild"), (cM, .array .int)] [(w, .inr (4, [.ref sg, .int le])), (sg, .inl (cI, 20, .inl f)), (a, .inl (cI, na, .inl g))] [.ref w, .ref a, .int (nI k)] (S := Unit) (fun u => True) (fun u => [(w, .inr (4, [.ref sg, .int (nI k)])), (sg, .inl (cI, 20, .inl (va_cpy g f 0 0 k))), (a, .inl (cI, na, .inl g))]) := by
  refine sv_of (cc := cX4_take) (maxL := 3) (by decide) rfl (Nat.le_of_ble_eq_true rfl) ?_
  intro p e s m args below meth c A ls Q E hret
  obtain ⟨hx, hb, -, hml, hown, hts, -, hin, hA, hK, hP, hD, hS, hl, hN⟩ := E
  have hown : s.vm.findClass RX4 = some m.cls := hown
  have hl : lv_has ls 3 [(0, .ref w), (1, .ref a), (2, .int (nI k))] := hl
  have SF : CallFix p m c cX4_take 3 s args wsX4_take RX4 := ⟨hx, hb, hml, hown, hts⟩
  have hw0 := hts (.methodLink RX4 19 Lib.Math.min.name) (by decide +kernel)
  have hw1 := hts (.static Lib.Math.min.name) (by decide +kernel)
  have hw2 := hts (.initialized "java/lang/Math") (by decide +kernel)
  have hw3 := hts (.code Lib.Math.min.name Lib.Math.min.code 2 (some .int)) (by decide +kernel)
  have hw4 := hts (.fieldLink RX4 15 "LatestSets$Law" "length" "I") (by decide +kernel)
  have hi4 : ∀ x ∈ wsX40, x ∈ wsX4_take := by decide +kernel
  have hw6 := hts (.fieldLink RX4 9 "LatestSets$Law" "signs" "[I") (by decide +kernel)
  have hw7 := hts (.methodLink RX4 25 arraycopyName) (by decide +kernel)
  have hw8 := hts (.native arraycopyName) (by decide +kernel)
  have hw9 := hts (.static arraycopyName) (by decide +kernel)
  have hw10 := hts (.initialized "java/lang/System") (by decide +kernel)
  refine lv_aload_n hx hb dX4_take_0 rfl (lv_at hl 0 rfl) ?_
  refine lv_iload_n hx hb dX4_take_1 rfl (lv_at hl 2 rfl) ?_
  refine lv_bipush (v := nI 20) hx hb dX4_take_2 (by decide) ?_
  refine va_mmin hx hb (by rw [hml]; exact hl.1.symm) hown hw0 hw1 hw2 hw3 (Nat.le_of_ble_eq_true rfl) (Nat.le_of_ble_eq_true rfl) (Nat.zero_le _) (Nat.zero_le _) dX4_take_4 ?_
  refine lv_topi (fun y9 e9 => ?_)
  have e9 : y9 = nI k := e9.trans (mnI_l h3 (by omega))
  subst e9
  refine va_put (D := D) (ci := 4) (v := .int (nI k)) (ty := .int) (C := RX4) (T := TX4) (N := 2) hx hb hts hi4 tyX4 tyX4_ok nmX4 hown hK hP hD hS 0 rfl rfl 1 (by decide) hw4 (fun _ h9 => h9) rfl (by decide +kernel) rfl rfl (Nat.le_of_ble_eq_true rfl) dX4_take_7 (fun H locs hP hD hS => ?_)
  have hP : va_P D vwCl [(w, .inr (4, [.ref sg, .int (nI k)])), (sg, .inl (cI, 20, .inl f)), (a, .inl (cI, na, .inl g))] H := hP
  have hD : va_D A [(w, .inr (4, [.ref sg, .int (nI k)])), (sg, .inl (cI, 20, .inl f)), (a, .inl (cI, na, .inl g))] := hD
  refine lv_aload_n hx hb dX4_take_10 rfl (lv_at hl 1 rfl) ?_
  refine lv_iconst (v := nI 0) hx hb dX4_take_11 (by decide) ?_
  refine lv_aload_n hx hb dX4_take_12 rfl (lv_at hl 0 rfl) ?_
  refine va_get (D := D) (ci := 4) (v := .ref sg) (C := RX4) (T := TX4) (N := 2) hx hb hts hi4 hown hK hP 0 rfl rfl 0 (by decide) hw6 (fun _ h9 => h9) rfl dX4_take_13 ?_
  refine lv_iconst (v := nI 0) hx hb dX4_take_16 (by decide) ?_
  refine lv_aload_n hx hb dX4_take_17 rfl (lv_at hl 0 rfl) ?_
  refine va_get (D := D) (ci := 4) (v := .int (nI k)) (C := RX4) (T := TX4) (N := 2) hx hb hts hi4 hown hK hP 0 rfl rfl 1 (by decide) hw4 (fun _ h9 => h9) rfl dX4_take_18 ?_
  refine copy_n (sp := 0) (dp := 0) (n := k) hx hb (by rw [hml]; exact hl.1.symm) hown hw7 hw8 hw9 hw10 hK hP hD hS 2 1 0 rfl rfl rfl (by omega) (by omega) (by omega) (by omega) (by omega) (Nat.le_of_ble_eq_true rfl) (Nat.le_of_ble_eq_true rfl) dX4_take_21 (fun H locs hP hD hS => ?_)
  have hP : va_P D vwCl [(w, .inr (4, [.ref sg, .int (nI k)])), (sg, .inl (cI, 20, .inl (va_cpy g f 0 0 k))), (a, .inl (cI, na, .inl g))] H := hP
  have hD : va_D A [(w, .inr (4, [.ref sg, .int (nI k)])), (sg, .inl (cI, 20, .inl (va_cpy g f 0 0 k))), (a, .inl (cI, na, .inl g))] := hD
  exact hret (()) _ _ _ _ dX4_take_24 trivial hP hD hS

abbrev rm_X4_signOf : Room := { frames := 0, cells := 0, slots := 0, locals := 0 }
set_option maxHeartbeats 4000000 in
set_option maxRecDepth 100000 in
theorem c_signOf (l : Launch) (D : va_G) (cI cJ cZ cG cM : ClassId) (k : Nat) (hk : k < 4) :
    CI l yX4_signOf wsX4_signOf rm_X4_signOf D [(cI, .int), (cJ, .long), (cZ, .boolean), (cG, .object "LatestSets$Guild"), (cM, .array .int)] [] [.int (nI k)] (S := Unit) (fun r u => r = nI (sgN k)) (fun u => []) := by
  refine si_of (cc := cX4_signOf) (maxL := 1) (by decide) rfl (Nat.le_of_ble_eq_true rfl) ?_
  intro p e s m args below meth c A ls Q E hret
  obtain ⟨hx, hb, -, hml, hown, hts, -, hin, hA, hK, hP, hD, hS, hl, hN⟩ := E
  have hown : s.vm.findClass RX4 = some m.cls := hown
  have hl : lv_has ls 1 [(0, .int (nI k))] := hl
  have SF : CallFix p m c cX4_signOf 1 s args wsX4_signOf RX4 := ⟨hx, hb, hml, hown, hts⟩
  rcases (show k = 0 ∨ k = 1 ∨ k = 2 ∨ k = 3 by omega) with rfl | rfl | rfl | rfl
  · refine lv_iload_n hx hb dX4_signOf_0 rfl (lv_at hl 0 rfl) ?_
    refine lv_tableIn (off := 27) (tgt := 28) hx hb dX4_signOf_1 (by decide) (by decide) (by decide +kernel) (by decide) ?_
    refine lv_bipush (v := nI 108) hx hb dX4_signOf_28 (by decide) ?_
    exact hret (nI 108) (()) _ _ _ _ dX4_signOf_30 rfl hP hD hS
  · refine lv_iload_n hx hb dX4_signOf_0 rfl (lv_at hl 0 rfl) ?_
    refine lv_tableIn (off := 30) (tgt := 31) hx hb dX4_signOf_1 (by decide) (by decide) (by decide +kernel) (by decide) ?_
    refine lv_bipush (v := nI 109) hx hb dX4_signOf_31 (by decide) ?_
    exact hret (nI 109) (()) _ _ _ _ dX4_signOf_33 rfl hP hD hS
  · refine lv_iload_n hx hb dX4_signOf_0 rfl (lv_at hl 0 rfl) ?_
    refine lv_tableIn (off := 33) (tgt := 34) hx hb dX4_signOf_1 (by decide) (by decide) (by decide +kernel) (by decide) ?_
    refine lv_bipush (v := nI 112) hx hb dX4_signOf_34 (by decide) ?_
    exact hret (nI 112) (()) _ _ _ _ dX4_signOf_36 rfl hP hD hS
  · refine lv_iload_n hx hb dX4_signOf_0 rfl (lv_at hl 0 rfl) ?_
    refine lv_tableOut (tgt := 37) hx hb dX4_signOf_1 (by decide) (by decide) ?_
    refine lv_bipush (v := nI 102) hx hb dX4_signOf_37 (by decide) ?_
    exact hret (nI 102) (()) _ _ _ _ dX4_signOf_39 rfl hP hD hS

abbrev rm_X4_takeNumber : Room := { frames := 1, cells := 0, slots := 0, locals := 20 }
set_option maxHeartbeats 4000000 in
set_option maxRecDepth 100000 in
theorem c_takeNumber (l : Launch) (D : va_G) (cI cJ cZ cG cM : ClassId) (w sg : Nat) (f : Nat → Int32) (q : Nat) (le : Int32) (hq : q < 24) :
    CV l yX4_takeNumber wsX4_takeNumber rm_X4_takeNumber D [(cI, .int), (cJ, .long), (cZ, .boolean), (cG, .object "LatestSets$Guild"), (cM, .array .int)] [(w, .inr (4, [.ref sg, .int le])), (sg, .inl (cI, 20, .inl f))] [.ref w, .int (nI q)] (S := Unit) (fun u => True) (fun u => [(w, .inr (4, [.ref sg, .int (nI 3)])), (sg, .inl (cI, 20, .inl (upd (upd (upd f 0 (nI 45)) 1 (nI (48 + q % 6))) 2 (nI (sgN (q / 6))))))]) := by
  refine sv_of (cc := cX4_takeNumber) (maxL := 2) (by decide) rfl (Nat.le_of_ble_eq_true rfl) ?_
  intro p e s m args below meth c A ls Q E hret
  obtain ⟨hx, hb, -, hml, hown, hts, -, hin, hA, hK, hP, hD, hS, hl, hN⟩ := E
  have hown : s.vm.findClass RX4 = some m.cls := hown
  have hl : lv_has ls 2 [(0, .ref w), (1, .int (nI q))] := hl
  have SF : CallFix p m c cX4_takeNumber 2 s args wsX4_takeNumber RX4 := ⟨hx, hb, hml, hown, hts⟩
  have hw0 := hts (.fieldLink RX4 9 "LatestSets$Law" "signs" "[I") (by decide +kernel)
  have hi4 : ∀ x ∈ wsX40, x ∈ wsX4_takeNumber := by decide +kernel
  have hw2 := hts (.fieldLink RX4 15 "LatestSets$Law" "length" "I") (by decide +kernel)
  refine lv_aload_n hx hb dX4_takeNumber_0 rfl (lv_at hl 0 rfl) ?_
  refine va_get (D := D) (ci := 4) (v := .ref sg) (C := RX4) (T := TX4) (N := 2) hx hb hts hi4 hown hK hP 0 rfl rfl 0 (by decide) hw0 (fun _ h9 => h9) rfl dX4_takeNumber_1 ?_
  refine lv_iconst (v := nI 0) hx hb dX4_takeNumber_4 (by decide) ?_
  refine lv_bipush (v := nI 45) hx hb dX4_takeNumber_5 (by decide) ?_
  refine iast_n (k := 0) hx hb hK hP hD hS 1 0 rfl rfl (by omega) (by omega) dX4_takeNumber_7 (fun H locs hP hD hS => ?_)
  have hP : va_P D vwCl [(w, .inr (4, [.ref sg, .int le])), (sg, .inl (cI, 20, .inl (upd f 0 (nI 45))))] H := hP
  have hD : va_D A [(w, .inr (4, [.ref sg, .int le])), (sg, .inl (cI, 20, .inl (upd f 0 (nI 45))))] := hD
  refine lv_aload_n hx hb dX4_takeNumber_8 rfl (lv_at hl 0 rfl) ?_
  refine va_get (D := D) (ci := 4) (v := .ref sg) (C := RX4) (T := TX4) (N := 2) hx hb hts hi4 hown hK hP 0 rfl rfl 0 (by decide) hw0 (fun _ h9 => h9) rfl dX4_takeNumber_9 ?_
  refine lv_iconst (v := nI 1) hx hb dX4_takeNumber_12 (by decide) ?_
  refine lv_bipush (v := nI 48) hx hb dX4_takeNumber_13 (by decide) ?_
  refine lv_iload_n hx hb dX4_takeNumber_15 rfl (lv_at hl 1 rfl) ?_
  refine lv_bipush (v := nI 6) hx hb dX4_takeNumber_16 (by decide) ?_
  refine irem_n (a := q) (b := 6) hx hb dX4_takeNumber_18 (by omega) (by omega) (by omega) ?_
  refine iadd_n (a := 48) (b := q % 6) hx hb dX4_takeNumber_19 ?_
  refine iast_n (k := 1) hx hb hK hP hD hS 1 0 rfl rfl (by omega) (by omega) dX4_takeNumber_20 (fun H locs hP hD hS => ?_)
  have hP : va_P D vwCl [(w, .inr (4, [.ref sg, .int le])), (sg, .inl (cI, 20, .inl (upd (upd f 0 (nI 45)) 1 (nI (48 + (q % 6))))))] H := hP
  have hD : va_D A [(w, .inr (4, [.ref sg, .int le])), (sg, .inl (cI, 20, .inl (upd (upd f 0 (nI 45)) 1 (nI (48 + (q % 6))))))] := hD
  refine lv_aload_n hx hb dX4_takeNumber_21 rfl (lv_at hl 0 rfl) ?_
  refine va_get (D := D) (ci := 4) (v := .ref sg) (C := RX4) (T := TX4) (N := 2) hx hb hts hi4 hown hK hP 0 rfl rfl 0 (by decide) hw0 (fun _ h9 => h9) rfl dX4_takeNumber_22 ?_
  refine lv_iconst (v := nI 2) hx hb dX4_takeNumber_25 (by decide) ?_
  refine lv_iload_n hx hb dX4_takeNumber_26 rfl (lv_at hl 1 rfl) ?_
  refine lv_bipush (v := nI 6) hx hb dX4_takeNumber_27 (by decide) ?_
  refine idiv_n (a := q) (b := 6) hx hb dX4_takeNumber_29 (by omega) (by omega) (by omega) ?_
  refine cal_i (run_S (As := [.int (nI (q / 6))]) (rest := [.int (nI 2), .ref sg]) SF (c_signOf l D cI cJ cZ cG cM (q / 6) (by omega)) (va_cwS 1 hts gX4_takeNumber_X4_signOf rfl rfl rfl (by decide +kernel) ⟨Nat.le_of_ble_eq_true rfl, Nat.le_of_ble_eq_true rfl⟩) hN hK hP hD [] rfl (by decide) rfl hl.1 rfl (Nat.le_of_ble_eq_true rfl) dX4_takeNumber_30 ⟨Nat.le_of_ble_eq_true rfl, Nat.le_of_ble_eq_true rfl⟩) ⟨rfl, rfl⟩ hP hD hS hA [] rfl (fun _ => rfl) (fun r30 _ H locs hw hP hD hS => ?_)
  have hP : va_P D vwCl [(w, .inr (4, [.ref sg, .int le])), (sg, .inl (cI, 20, .inl (upd (upd f 0 (nI 45)) 1 (nI (48 + (q % 6))))))] H := hP
  have hD : va_D A [(w, .inr (4, [.ref sg, .int le])), (sg, .inl (cI, 20, .inl (upd (upd f 0 (nI 45)) 1 (nI (48 + (q % 6))))))] := hD
  subst hw
  refine iast_n (k := 2) hx hb hK hP hD hS 1 0 rfl rfl (by omega) (by omega) dX4_takeNumber_33 (fun H locs hP hD hS => ?_)
  have hP : va_P D vwCl [(w, .inr (4, [.ref sg, .int le])), (sg, .inl (cI, 20, .inl (upd (upd (upd f 0 (nI 45)) 1 (nI (48 + (q % 6)))) 2 (nI (sgN (q / 6))))))] H := hP
  have hD : va_D A [(w, .inr (4, [.ref sg, .int le])), (sg, .inl (cI, 20, .inl (upd (upd (upd f 0 (nI 45)) 1 (nI (48 + (q % 6)))) 2 (nI (sgN (q / 6))))))] := hD
  refine lv_aload_n hx hb dX4_takeNumber_34 rfl (lv_at hl 0 rfl) ?_
  refine lv_iconst (v := nI 3) hx hb dX4_takeNumber_35 (by decide) ?_
  refine va_put (D := D) (ci := 4) (v := .int (nI 3)) (ty := .int) (C := RX4) (T := TX4) (N := 2) hx hb hts hi4 tyX4 tyX4_ok nmX4 hown hK hP hD hS 0 rfl rfl 1 (by decide) hw2 (fun _ h9 => h9) rfl (by decide +kernel) rfl rfl (Nat.le_of_ble_eq_true rfl) dX4_takeNumber_36 (fun H locs hP hD hS => ?_)
  have hP : va_P D vwCl [(w, .inr (4, [.ref sg, .int (nI 3)])), (sg, .inl (cI, 20, .inl (upd (upd (upd f 0 (nI 45)) 1 (nI (48 + (q % 6)))) 2 (nI (sgN (q / 6))))))] H := hP
  have hD : va_D A [(w, .inr (4, [.ref sg, .int (nI 3)])), (sg, .inl (cI, 20, .inl (upd (upd (upd f 0 (nI 45)) 1 (nI (48 + (q % 6)))) 2 (nI (sgN (q / 6))))))] := hD
  exact hret (()) _ _ _ _ dX4_takeNumber_39 trivial hP hD hS

abbrev rm_X5_write : Room := { frames := 0, cells := 0, slots := 0, locals := 0 }
set_option maxHeartbeats 4000000 in
set_option maxRecDepth 100000 in
theorem c_write (l : Launch) (D : va_G) (cI cJ cZ cG cM : ClassId) (p9 ps : Nat) (f : Nat → Int32) (k : Nat) (x : Int32) (hk : k < 48) :
    CI l yX5_write wsX5_write rm_X5_write D [(cI, .int), (cJ, .long), (cZ, .boolean), (cG, .object "LatestSets$Guild"), (cM, .array .int)] [(p9, .inr (5, [.ref ps, .int (nI k)])), (ps, .inl (cI, 48, .inl f))] [.ref p9, .int x] (S := Unit) (fun r u => r = nI (k + 1)) (fun u => [(p9, .inr (5, [.ref ps, .int (nI (k + 1))])), (ps, .inl (cI, 48, .inl (upd f k x)))]) := by
  refine si_of (cc := cX5_write) (maxL := 2) (by decide) rfl (Nat.le_of_ble_eq_true rfl) ?_
  intro p e s m args below meth c A ls Q E hret
  obtain ⟨hx, hb, -, hml, hown, hts, -, hin, hA, hK, hP, hD, hS, hl, hN⟩ := E
  have hown : s.vm.findClass RX5 = some m.cls := hown
  have hl : lv_has ls 2 [(0, .ref p9), (1, .int x)] := hl
  have SF : CallFix p m c cX5_write 2 s args wsX5_write RX5 := ⟨hx, hb, hml, hown, hts⟩
  have hw0 := hts (.fieldLink RX5 15 "LatestSets$Pad" "count" "I") (by decide +kernel)
  have hi5 : ∀ x ∈ wsX50, x ∈ wsX5_write := by decide +kernel
  have hw2 := hts (.fieldLink RX5 9 "LatestSets$Pad" "signs" "[I") (by decide +kernel)
  refine lv_aload_n hx hb dX5_write_0 rfl (lv_at hl 0 rfl) ?_
  refine va_get (D := D) (ci := 5) (v := .int (nI k)) (C := RX5) (T := TX5) (N := 2) hx hb hts hi5 hown hK hP 0 rfl rfl 1 (by decide) hw0 (fun _ h9 => h9) rfl dX5_write_1 ?_
  refine lv_bipush (v := nI 48) hx hb dX5_write_4 (by decide) ?_
  refine icmp_ge_n (a := k) (b := 48) (tgt := 29) hx hb dX5_write_6 (by decide) (by omega) (by omega) (fun c6 => ?_) (fun c6 => ?_)
  · exact absurd c6 (by omega)
  · refine lv_aload_n hx hb dX5_write_9 rfl (lv_at hl 0 rfl) ?_
    refine va_get (D := D) (ci := 5) (v := .ref ps) (C := RX5) (T := TX5) (N := 2) hx hb hts hi5 hown hK hP 0 rfl rfl 0 (by decide) hw2 (fun _ h9 => h9) rfl dX5_write_10 ?_
    refine lv_aload_n hx hb dX5_write_13 rfl (lv_at hl 0 rfl) ?_
    refine va_get (D := D) (ci := 5) (v := .int (nI k)) (C := RX5) (T := TX5) (N := 2) hx hb hts hi5 hown hK hP 0 rfl rfl 1 (by decide) hw0 (fun _ h9 => h9) rfl dX5_write_14 ?_
    refine lv_iload_n hx hb dX5_write_17 rfl (lv_at hl 1 rfl) ?_
    refine iast_n (k := k) hx hb hK hP hD hS 1 0 rfl rfl (by omega) (by omega) dX5_write_18 (fun H locs hP hD hS => ?_)
    have hP : va_P D vwCl [(p9, .inr (5, [.ref ps, .int (nI k)])), (ps, .inl (cI, 48, .inl (upd f k x)))] H := hP
    have hD : va_D A [(p9, .inr (5, [.ref ps, .int (nI k)])), (ps, .inl (cI, 48, .inl (upd f k x)))] := hD
    refine lv_aload_n hx hb dX5_write_19 rfl (lv_at hl 0 rfl) ?_
    refine lv_dup hx hb dX5_write_20 rfl ?_
    refine va_get (D := D) (ci := 5) (v := .int (nI k)) (C := RX5) (T := TX5) (N := 2) hx hb hts hi5 hown hK hP 0 rfl rfl 1 (by decide) hw0 (fun _ h9 => h9) rfl dX5_write_21 ?_
    refine lv_iconst (v := nI 1) hx hb dX5_write_24 (by decide) ?_
    refine iadd_n (a := k) (b := 1) hx hb dX5_write_25 ?_
    refine va_put (D := D) (ci := 5) (v := .int (nI (k + 1))) (ty := .int) (C := RX5) (T := TX5) (N := 2) hx hb hts hi5 tyX5 tyX5_ok nmX5 hown hK hP hD hS 0 rfl rfl 1 (by decide) hw0 (fun _ h9 => h9) rfl (by decide +kernel) rfl rfl (Nat.le_of_ble_eq_true rfl) dX5_write_26 (fun H locs hP hD hS => ?_)
    have hP : va_P D vwCl [(p9, .inr (5, [.ref ps, .int (nI (k + 1))])), (ps, .inl (cI, 48, .inl (upd f k x)))] H := hP
    have hD : va_D A [(p9, .inr (5, [.ref ps, .int (nI (k + 1))])), (ps, .inl (cI, 48, .inl (upd f k x)))] := hD
    refine lv_aload_n hx hb dX5_write_29 rfl (lv_at hl 0 rfl) ?_
    refine va_get (D := D) (ci := 5) (v := .int (nI (k + 1))) (C := RX5) (T := TX5) (N := 2) hx hb hts hi5 hown hK hP 0 rfl rfl 1 (by decide) hw0 (fun _ h9 => h9) rfl dX5_write_30 ?_
    exact hret (nI (k + 1)) (()) _ _ _ _ dX5_write_33 rfl hP hD hS

abbrev rm_X5_partsOf : Room := { frames := 0, cells := 0, slots := 0, locals := 0 }
set_option maxHeartbeats 4000000 in
set_option maxRecDepth 100000 in
theorem c_partsOf (l : Launch) (D : va_G) (cI cJ cZ cG cM : ClassId) (x : Int32) :
    CI l yX5_partsOf wsX5_partsOf rm_X5_partsOf D [(cI, .int), (cJ, .long), (cZ, .boolean), (cG, .object "LatestSets$Guild"), (cM, .array .int)] [] [.int x] (S := Unit) (fun r u => r = prt x) (fun u => []) := by
  refine si_of (cc := cX5_partsOf) (maxL := 1) (by decide) rfl (Nat.le_of_ble_eq_true rfl) ?_
  intro p e s m args below meth c A ls Q E hret
  obtain ⟨hx, hb, -, hml, hown, hts, -, hin, hA, hK, hP, hD, hS, hl, hN⟩ := E
  have hown : s.vm.findClass RX5 = some m.cls := hown
  have hl : lv_has ls 1 [(0, .int x)] := hl
  have SF : CallFix p m c cX5_partsOf 1 s args wsX5_partsOf RX5 := ⟨hx, hb, hml, hown, hts⟩
  refine lv_iload_n hx hb dX5_partsOf_0 rfl (lv_at hl 0 rfl) ?_
  by_cases e43 : x = nI 43
  · refine lv_lookup (off := 101) (tgt := 102) hx hb dX5_partsOf_1 (by decide +kernel) (by rw [e43]; decide +kernel) (by decide) ?_
    refine lv_iconst (v := nI 1) hx hb dX5_partsOf_102 (by decide) ?_
    exact hret (nI 1) (()) _ _ _ _ dX5_partsOf_103 (by rw [e43]; decide) hP hD hS
  · skip
    by_cases e45 : x = nI 45
    · refine lv_lookup (off := 101) (tgt := 102) hx hb dX5_partsOf_1 (by decide +kernel) (by rw [e45]; decide +kernel) (by decide) ?_
      refine lv_iconst (v := nI 1) hx hb dX5_partsOf_102 (by decide) ?_
      exact hret (nI 1) (()) _ _ _ _ dX5_partsOf_103 (by rw [e45]; decide) hP hD hS
    · skip
      by_cases e47 : x = nI 47
      · refine lv_lookup (off := 103) (tgt := 104) hx hb dX5_partsOf_1 (by decide +kernel) (by rw [e47]; decide +kernel) (by decide) ?_
        refine lv_iconst (v := nI 2) hx hb dX5_partsOf_104 (by decide) ?_
        exact hret (nI 2) (()) _ _ _ _ dX5_partsOf_105 (by rw [e47]; decide) hP hD hS
      · skip
        by_cases e60 : x = nI 60
        · refine lv_lookup (off := 103) (tgt := 104) hx hb dX5_partsOf_1 (by decide +kernel) (by rw [e60]; decide +kernel) (by decide) ?_
          refine lv_iconst (v := nI 2) hx hb dX5_partsOf_104 (by decide) ?_
          exact hret (nI 2) (()) _ _ _ _ dX5_partsOf_105 (by rw [e60]; decide) hP hD hS
        · skip
          by_cases e62 : x = nI 62
          · refine lv_lookup (off := 103) (tgt := 104) hx hb dX5_partsOf_1 (by decide +kernel) (by rw [e62]; decide +kernel) (by decide) ?_
            refine lv_iconst (v := nI 2) hx hb dX5_partsOf_104 (by decide) ?_
            exact hret (nI 2) (()) _ _ _ _ dX5_partsOf_105 (by rw [e62]; decide) hP hD hS
          · skip
            by_cases e102 : x = nI 102
            · refine lv_lookup (off := 99) (tgt := 100) hx hb dX5_partsOf_1 (by decide +kernel) (by rw [e102]; decide +kernel) (by decide) ?_
              refine lv_iconst (v := nI 0) hx hb dX5_partsOf_100 (by decide) ?_
              exact hret (nI 0) (()) _ _ _ _ dX5_partsOf_101 (by rw [e102]; decide) hP hD hS
            · skip
              by_cases e104 : x = nI 104
              · refine lv_lookup (off := 99) (tgt := 100) hx hb dX5_partsOf_1 (by decide +kernel) (by rw [e104]; decide +kernel) (by decide) ?_
                refine lv_iconst (v := nI 0) hx hb dX5_partsOf_100 (by decide) ?_
                exact hret (nI 0) (()) _ _ _ _ dX5_partsOf_101 (by rw [e104]; decide) hP hD hS
              · skip
                by_cases e108 : x = nI 108
                · refine lv_lookup (off := 99) (tgt := 100) hx hb dX5_partsOf_1 (by decide +kernel) (by rw [e108]; decide +kernel) (by decide) ?_
                  refine lv_iconst (v := nI 0) hx hb dX5_partsOf_100 (by decide) ?_
                  exact hret (nI 0) (()) _ _ _ _ dX5_partsOf_101 (by rw [e108]; decide) hP hD hS
                · skip
                  by_cases e109 : x = nI 109
                  · refine lv_lookup (off := 99) (tgt := 100) hx hb dX5_partsOf_1 (by decide +kernel) (by rw [e109]; decide +kernel) (by decide) ?_
                    refine lv_iconst (v := nI 0) hx hb dX5_partsOf_100 (by decide) ?_
                    exact hret (nI 0) (()) _ _ _ _ dX5_partsOf_101 (by rw [e109]; decide) hP hD hS
                  · skip
                    by_cases e112 : x = nI 112
                    · refine lv_lookup (off := 99) (tgt := 100) hx hb dX5_partsOf_1 (by decide +kernel) (by rw [e112]; decide +kernel) (by decide) ?_
                      refine lv_iconst (v := nI 0) hx hb dX5_partsOf_100 (by decide) ?_
                      exact hret (nI 0) (()) _ _ _ _ dX5_partsOf_101 (by rw [e112]; decide) hP hD hS
                    · skip
                      by_cases e126 : x = nI 126
                      · refine lv_lookup (off := 101) (tgt := 102) hx hb dX5_partsOf_1 (by decide +kernel) (by rw [e126]; decide +kernel) (by decide) ?_
                        refine lv_iconst (v := nI 1) hx hb dX5_partsOf_102 (by decide) ?_
                        exact hret (nI 1) (()) _ _ _ _ dX5_partsOf_103 (by rw [e126]; decide) hP hD hS
                      · skip
                        refine lv_lookup (off := 105) (tgt := 106) hx hb dX5_partsOf_1 (by decide +kernel) (by show Op.lookupswitch.offset [(43, 101), (45, 101), (47, 103), (60, 103), (62, 103), (102, 99), (104, 99), (108, 99), (109, 99), (112, 99), (126, 101)] (105) _ = _; rw [Op.lookupswitch.offset_cons, if_neg (show ¬ ((43 : Int) = _) from ne_toI (c := 43) (by decide) e43), Op.lookupswitch.offset_cons, if_neg (show ¬ ((45 : Int) = _) from ne_toI (c := 45) (by decide) e45), Op.lookupswitch.offset_cons, if_neg (show ¬ ((47 : Int) = _) from ne_toI (c := 47) (by decide) e47), Op.lookupswitch.offset_cons, if_neg (show ¬ ((60 : Int) = _) from ne_toI (c := 60) (by decide) e60), Op.lookupswitch.offset_cons, if_neg (show ¬ ((62 : Int) = _) from ne_toI (c := 62) (by decide) e62), Op.lookupswitch.offset_cons, if_neg (show ¬ ((102 : Int) = _) from ne_toI (c := 102) (by decide) e102), Op.lookupswitch.offset_cons, if_neg (show ¬ ((104 : Int) = _) from ne_toI (c := 104) (by decide) e104), Op.lookupswitch.offset_cons, if_neg (show ¬ ((108 : Int) = _) from ne_toI (c := 108) (by decide) e108), Op.lookupswitch.offset_cons, if_neg (show ¬ ((109 : Int) = _) from ne_toI (c := 109) (by decide) e109), Op.lookupswitch.offset_cons, if_neg (show ¬ ((112 : Int) = _) from ne_toI (c := 112) (by decide) e112), Op.lookupswitch.offset_cons, if_neg (show ¬ ((126 : Int) = _) from ne_toI (c := 126) (by decide) e126), Op.lookupswitch.offset_nil]) (by decide) ?_
                        refine lv_iconst (v := (-1)) hx hb dX5_partsOf_106 (by decide) ?_
                        exact hret ((-1)) (()) _ _ _ _ dX5_partsOf_107 (by unfold prt; rw [if_neg (by rintro (h | h | h | h | h) <;> contradiction), if_neg (by rintro (h | h | h) <;> contradiction), if_neg (by rintro ((h | h) | h) <;> contradiction)]) hP hD hS

abbrev rm_X3_assemble : Room := { frames := 1, cells := 0, slots := 0, locals := 23 }
set_option maxHeartbeats 4000000 in
set_option maxRecDepth 100000 in
theorem c_assemble (l : Launch) (D : va_G) (cI cJ cZ cG cM : ClassId) (g ge gl gb gw gsw gsh : Nat) (si fi : Int32) (n : Nat) (k : Nat) (fe fl fb : Nat → Int32) :
    CV l yX3_assemble wsX3_assemble rm_X3_assemble D [(cI, .int), (cJ, .long), (cZ, .boolean), (cG, .object "LatestSets$Guild"), (cM, .array .int)] [(g, .inr (3, [.ref ge, .ref gl, .ref gb, .ref gw, .ref gsw, .ref gsh, .int si, .int (nI n), .int fi])), (ge, .inl (cI, 6, .inl fe)), (gl, .inl (cI, 6, .inl fl)), (gb, .inl (cI, 6, .inl fb))] [.ref g, .int (nI k)] (S := Unit) (fun u => True) (fun u => [(g, .inr (3, [.ref ge, .ref gl, .ref gb, .ref gw, .ref gsw, .ref gsh, .int (nI 0), .int (nI k), .int fi])), (ge, .inl (cI, 6, .inl (filI fe (nI 0) 6))), (gl, .inl (cI, 6, .inl (filI fl (nI 0) 6))), (gb, .inl (cI, 6, .inl (filI fb (nI 12) 6)))]) := by
  refine sv_of (cc := cX3_assemble) (maxL := 2) (by decide) rfl (Nat.le_of_ble_eq_true rfl) ?_
  intro p e s m args below meth c A ls Q E hret
  obtain ⟨hx, hb, -, hml, hown, hts, -, hin, hA, hK, hP, hD, hS, hl, hN⟩ := E
  have hown : s.vm.findClass RX3 = some m.cls := hown
  have hl : lv_has ls 2 [(0, .ref g), (1, .int (nI k))] := hl
  have SF : CallFix p m c cX3_assemble 2 s args wsX3_assemble RX3 := ⟨hx, hb, hml, hown, hts⟩
  have hw0 := hts (.fieldLink RX3 38 "LatestSets$Guild" "count" "I") (by decide +kernel)
  have hi3 : ∀ x ∈ wsX30, x ∈ wsX3_assemble := by decide +kernel
  have hw2 := hts (.fieldLink RX3 47 "LatestSets$Guild" "sights" "I") (by decide +kernel)
  have hw3 := hts (.fieldLink RX3 9 "LatestSets$Guild" "early" "[I") (by decide +kernel)
  have hw4 := hts (.fieldLink RX3 15 "LatestSets$Guild" "late" "[I") (by decide +kernel)
  have hw5 := hts (.fieldLink RX3 18 "LatestSets$Guild" "best" "[I") (by decide +kernel)
  refine lv_aload_n hx hb dX3_assemble_0 rfl (lv_at hl 0 rfl) ?_
  refine lv_iload_n hx hb dX3_assemble_1 rfl (lv_at hl 1 rfl) ?_
  refine va_put (D := D) (ci := 3) (v := .int (nI k)) (ty := .int) (C := RX3) (T := TX3) (N := 9) hx hb hts hi3 tyX3 tyX3_ok nmX3 hown hK hP hD hS 0 rfl rfl 7 (by decide) hw0 (fun _ h9 => h9) rfl (by decide +kernel) rfl rfl (Nat.le_of_ble_eq_true rfl) dX3_assemble_2 (fun H locs hP hD hS => ?_)
  have hP : va_P D vwCl [(g, .inr (3, [.ref ge, .ref gl, .ref gb, .ref gw, .ref gsw, .ref gsh, .int si, .int (nI k), .int fi])), (ge, .inl (cI, 6, .inl fe)), (gl, .inl (cI, 6, .inl fl)), (gb, .inl (cI, 6, .inl fb))] H := hP
  have hD : va_D A [(g, .inr (3, [.ref ge, .ref gl, .ref gb, .ref gw, .ref gsw, .ref gsh, .int si, .int (nI k), .int fi])), (ge, .inl (cI, 6, .inl fe)), (gl, .inl (cI, 6, .inl fl)), (gb, .inl (cI, 6, .inl fb))] := hD
  refine lv_aload_n hx hb dX3_assemble_5 rfl (lv_at hl 0 rfl) ?_
  refine lv_iconst (v := nI 0) hx hb dX3_assemble_6 (by decide) ?_
  refine va_put (D := D) (ci := 3) (v := .int (nI 0)) (ty := .int) (C := RX3) (T := TX3) (N := 9) hx hb hts hi3 tyX3 tyX3_ok nmX3 hown hK hP hD hS 0 rfl rfl 6 (by decide) hw2 (fun _ h9 => h9) rfl (by decide +kernel) rfl rfl (Nat.le_of_ble_eq_true rfl) dX3_assemble_7 (fun H locs hP hD hS => ?_)
  have hP : va_P D vwCl [(g, .inr (3, [.ref ge, .ref gl, .ref gb, .ref gw, .ref gsw, .ref gsh, .int (nI 0), .int (nI k), .int fi])), (ge, .inl (cI, 6, .inl fe)), (gl, .inl (cI, 6, .inl fl)), (gb, .inl (cI, 6, .inl fb))] H := hP
  have hD : va_D A [(g, .inr (3, [.ref ge, .ref gl, .ref gb, .ref gw, .ref gsw, .ref gsh, .int (nI 0), .int (nI k), .int fi])), (ge, .inl (cI, 6, .inl fe)), (gl, .inl (cI, 6, .inl fl)), (gb, .inl (cI, 6, .inl fb))] := hD
  refine lv_aload_n hx hb dX3_assemble_10 rfl (lv_at hl 0 rfl) ?_
  refine va_get (D := D) (ci := 3) (v := .ref ge) (C := RX3) (T := TX3) (N := 9) hx hb hts hi3 hown hK hP 0 rfl rfl 0 (by decide) hw3 (fun _ h9 => h9) rfl dX3_assemble_11 ?_
  refine lv_iconst (v := nI 0) hx hb dX3_assemble_14 (by decide) ?_
  refine cal_v (run_S (As := [.ref ge, .int (nI 0)]) (rest := []) SF (c_fillI l D cI cJ cZ cG cM ge 6 fe (nI 0) (by omega)) (va_cwS 2 hts gX3_assemble_J7_fill_53178 rfl rfl rfl (by decide +kernel) ⟨Nat.le_of_ble_eq_true rfl, Nat.le_of_ble_eq_true rfl⟩) hN hK hP hD [1] rfl (by decide) rfl hl.1 rfl (Nat.le_of_ble_eq_true rfl) dX3_assemble_15 ⟨Nat.le_of_ble_eq_true rfl, Nat.le_of_ble_eq_true rfl⟩) ⟨rfl, rfl⟩ hP hD hS hA [1] rfl (fun _ => rfl) (fun _ H locs hw hP hD hS => ?_)
  have hP : va_P D vwCl [(g, .inr (3, [.ref ge, .ref gl, .ref gb, .ref gw, .ref gsw, .ref gsh, .int (nI 0), .int (nI k), .int fi])), (ge, .inl (cI, 6, .inl (filI fe ((nI 0)) 6))), (gl, .inl (cI, 6, .inl fl)), (gb, .inl (cI, 6, .inl fb))] H := hP
  have hD : va_D A [(g, .inr (3, [.ref ge, .ref gl, .ref gb, .ref gw, .ref gsw, .ref gsh, .int (nI 0), .int (nI k), .int fi])), (ge, .inl (cI, 6, .inl (filI fe ((nI 0)) 6))), (gl, .inl (cI, 6, .inl fl)), (gb, .inl (cI, 6, .inl fb))] := hD
  refine lv_aload_n hx hb dX3_assemble_18 rfl (lv_at hl 0 rfl) ?_
  refine va_get (D := D) (ci := 3) (v := .ref gl) (C := RX3) (T := TX3) (N := 9) hx hb hts hi3 hown hK hP 0 rfl rfl 1 (by decide) hw4 (fun _ h9 => h9) rfl dX3_assemble_19 ?_
  refine lv_iconst (v := nI 0) hx hb dX3_assemble_22 (by decide) ?_
  refine cal_v (run_S (As := [.ref gl, .int (nI 0)]) (rest := []) SF (c_fillI l D cI cJ cZ cG cM gl 6 fl (nI 0) (by omega)) (va_cwS 2 hts gX3_assemble_J7_fill_53178 rfl rfl rfl (by decide +kernel) ⟨Nat.le_of_ble_eq_true rfl, Nat.le_of_ble_eq_true rfl⟩) hN hK hP hD [2] rfl (by decide) rfl hl.1 rfl (Nat.le_of_ble_eq_true rfl) dX3_assemble_23 ⟨Nat.le_of_ble_eq_true rfl, Nat.le_of_ble_eq_true rfl⟩) ⟨rfl, rfl⟩ hP hD hS hA [2] rfl (fun _ => rfl) (fun _ H locs hw hP hD hS => ?_)
  have hP : va_P D vwCl [(g, .inr (3, [.ref ge, .ref gl, .ref gb, .ref gw, .ref gsw, .ref gsh, .int (nI 0), .int (nI k), .int fi])), (ge, .inl (cI, 6, .inl (filI fe ((nI 0)) 6))), (gl, .inl (cI, 6, .inl (filI fl ((nI 0)) 6))), (gb, .inl (cI, 6, .inl fb))] H := hP
  have hD : va_D A [(g, .inr (3, [.ref ge, .ref gl, .ref gb, .ref gw, .ref gsw, .ref gsh, .int (nI 0), .int (nI k), .int fi])), (ge, .inl (cI, 6, .inl (filI fe ((nI 0)) 6))), (gl, .inl (cI, 6, .inl (filI fl ((nI 0)) 6))), (gb, .inl (cI, 6, .inl fb))] := hD
  refine lv_aload_n hx hb dX3_assemble_26 rfl (lv_at hl 0 rfl) ?_
  refine va_get (D := D) (ci := 3) (v := .ref gb) (C := RX3) (T := TX3) (N := 9) hx hb hts hi3 hown hK hP 0 rfl rfl 2 (by decide) hw5 (fun _ h9 => h9) rfl dX3_assemble_27 ?_
  refine lv_bipush (v := nI 12) hx hb dX3_assemble_30 (by decide) ?_
  refine cal_v (run_S (As := [.ref gb, .int (nI 12)]) (rest := []) SF (c_fillI l D cI cJ cZ cG cM gb 6 fb (nI 12) (by omega)) (va_cwS 2 hts gX3_assemble_J7_fill_53178 rfl rfl rfl (by decide +kernel) ⟨Nat.le_of_ble_eq_true rfl, Nat.le_of_ble_eq_true rfl⟩) hN hK hP hD [3] rfl (by decide) rfl hl.1 rfl (Nat.le_of_ble_eq_true rfl) dX3_assemble_32 ⟨Nat.le_of_ble_eq_true rfl, Nat.le_of_ble_eq_true rfl⟩) ⟨rfl, rfl⟩ hP hD hS hA [3] rfl (fun _ => rfl) (fun _ H locs hw hP hD hS => ?_)
  have hP : va_P D vwCl [(g, .inr (3, [.ref ge, .ref gl, .ref gb, .ref gw, .ref gsw, .ref gsh, .int (nI 0), .int (nI k), .int fi])), (ge, .inl (cI, 6, .inl (filI fe ((nI 0)) 6))), (gl, .inl (cI, 6, .inl (filI fl ((nI 0)) 6))), (gb, .inl (cI, 6, .inl (filI fb ((nI 12)) 6)))] H := hP
  have hD : va_D A [(g, .inr (3, [.ref ge, .ref gl, .ref gb, .ref gw, .ref gsw, .ref gsh, .int (nI 0), .int (nI k), .int fi])), (ge, .inl (cI, 6, .inl (filI fe ((nI 0)) 6))), (gl, .inl (cI, 6, .inl (filI fl ((nI 0)) 6))), (gb, .inl (cI, 6, .inl (filI fb ((nI 12)) 6)))] := hD
  exact hret (()) _ _ _ _ dX3_assemble_35 trivial hP hD hS

abbrev rm_X3_has : Room := { frames := 0, cells := 0, slots := 0, locals := 0 }
set_option maxHeartbeats 4000000 in
set_option maxRecDepth 100000 in
theorem c_has (l : Launch) (D : va_G) (cI cJ cZ cG cM : ClassId) (g ge gl gb gw gsw gsh : Nat) (si fi : Int32) (n : Nat) (x : Int32) :
    CI l yX3_has wsX3_has rm_X3_has D [(cI, .int), (cJ, .long), (cZ, .boolean), (cG, .object "LatestSets$Guild"), (cM, .array .int)] [(g, .inr (3, [.ref ge, .ref gl, .ref gb, .ref gw, .ref gsw, .ref gsh, .int si, .int (nI n), .int fi]))] [.ref g, .int x] (S := Unit) (fun r u => bz (nI 0 ≤ x ∧ x < nI n) r) (fun u => [(g, .inr (3, [.ref ge, .ref gl, .ref gb, .ref gw, .ref gsw, .ref gsh, .int si, .int (nI n), .int fi]))]) := by
  refine sz_of (cc := cX3_has) (maxL := 2) (by decide) rfl (Nat.le_of_ble_eq_true rfl) ?_
  intro p e s m args below meth c A ls Q E hret
  obtain ⟨hx, hb, -, hml, hown, hts, -, hin, hA, hK, hP, hD, hS, hl, hN⟩ := E
  have hown : s.vm.findClass RX3 = some m.cls := hown
  have hl : lv_has ls 2 [(0, .ref g), (1, .int x)] := hl
  have SF : CallFix p m c cX3_has 2 s args wsX3_has RX3 := ⟨hx, hb, hml, hown, hts⟩
  have hw0 := hts (.fieldLink RX3 38 "LatestSets$Guild" "count" "I") (by decide +kernel)
  have hi3 : ∀ x ∈ wsX30, x ∈ wsX3_has := by decide +kernel
  refine lv_iload_n hx hb dX3_has_0 rfl (lv_at hl 1 rfl) ?_
  refine lv_if_lt (tgt := 16) hx hb dX3_has_1 (by decide) (fun c1 => ?_) (fun c1 => ?_)
  · refine lv_iconst (v := nI 0) hx hb dX3_has_16 (by decide) ?_
    exact hret (nI 0) (()) _ _ _ _ dX3_has_17 rfl (bz0 (fun z => i_ltnle c1 z.1)) hP hD hS
  · refine lv_iload_n hx hb dX3_has_4 rfl (lv_at hl 1 rfl) ?_
    refine lv_aload_n hx hb dX3_has_5 rfl (lv_at hl 0 rfl) ?_
    refine va_get (D := D) (ci := 3) (v := .int (nI n)) (C := RX3) (T := TX3) (N := 9) hx hb hts hi3 hown hK hP 0 rfl rfl 7 (by decide) hw0 (fun _ h9 => h9) rfl dX3_has_6 ?_
    refine lv_icmp_ge (tgt := 16) hx hb dX3_has_9 (by decide) (fun c9 => ?_) (fun c9 => ?_)
    · refine lv_iconst (v := nI 0) hx hb dX3_has_16 (by decide) ?_
      exact hret (nI 0) (()) _ _ _ _ dX3_has_17 rfl (bz0 (fun z => i_ltnle z.2 c9)) hP hD hS
    · refine lv_iconst (v := nI 1) hx hb dX3_has_12 (by decide) ?_
      refine lv_goto (tgt := 17) hx hb dX3_has_13 (by decide) ?_
      exact hret (nI 1) (()) _ _ _ _ dX3_has_17 rfl (bz1 ⟨i_nlt c1, i_nle c9⟩) hP hD hS

abbrev rm_X3_rowOf : Room := { frames := 0, cells := 0, slots := 0, locals := 0 }
set_option maxHeartbeats 4000000 in
set_option maxRecDepth 100000 in
theorem c_rowOf (l : Launch) (D : va_G) (cI cJ cZ cG cM : ClassId) (g ge gl gb gw gsw gsh : Nat) (si fi : Int32) (n : Nat) (x : Int32) :
    CR l yX3_rowOf wsX3_rowOf rm_X3_rowOf D [(cI, .int), (cJ, .long), (cZ, .boolean), (cG, .object "LatestSets$Guild"), (cM, .array .int)] [(g, .inr (3, [.ref ge, .ref gl, .ref gb, .ref gw, .ref gsw, .ref gsh, .int si, .int (nI n), .int fi]))] [.ref g, .int x] (S := Nat) (fun u => u = rowA ge gl gb x) (fun u => u) (fun u => [(g, .inr (3, [.ref ge, .ref gl, .ref gb, .ref gw, .ref gsw, .ref gsh, .int si, .int (nI n), .int fi]))]) := by
  refine sr_of (Or.inr ⟨_, rfl⟩) (cc := cX3_rowOf) (maxL := 2) (by decide) rfl (Nat.le_of_ble_eq_true rfl) ?_
  intro p e s m args below meth c A ls Q E hret
  obtain ⟨hx, hb, -, hml, hown, hts, -, hin, hA, hK, hP, hD, hS, hl, hN⟩ := E
  have hown : s.vm.findClass RX3 = some m.cls := hown
  have hl : lv_has ls 2 [(0, .ref g), (1, .int x)] := hl
  have SF : CallFix p m c cX3_rowOf 2 s args wsX3_rowOf RX3 := ⟨hx, hb, hml, hown, hts⟩
  have hw0 := hts (.fieldLink RX3 18 "LatestSets$Guild" "best" "[I") (by decide +kernel)
  have hi3 : ∀ x ∈ wsX30, x ∈ wsX3_rowOf := by decide +kernel
  have hw2 := hts (.fieldLink RX3 15 "LatestSets$Guild" "late" "[I") (by decide +kernel)
  have hw3 := hts (.fieldLink RX3 9 "LatestSets$Guild" "early" "[I") (by decide +kernel)
  refine lv_iload_n hx hb dX3_rowOf_0 rfl (lv_at hl 1 rfl) ?_
  refine lv_if_ne (tgt := 9) hx hb dX3_rowOf_1 (by decide) (fun c1 => ?_) (fun c1 => ?_)
  · refine lv_iload_n hx hb dX3_rowOf_9 rfl (lv_at hl 1 rfl) ?_
    refine lv_iconst (v := nI 1) hx hb dX3_rowOf_10 (by decide) ?_
    refine lv_icmp_ne (tgt := 21) hx hb dX3_rowOf_11 (by decide) (fun c11 => ?_) (fun c11 => ?_)
    · refine lv_aload_n hx hb dX3_rowOf_21 rfl (lv_at hl 0 rfl) ?_
      refine va_get (D := D) (ci := 3) (v := .ref gb) (C := RX3) (T := TX3) (N := 9) hx hb hts hi3 hown hK hP 0 rfl rfl 2 (by decide) hw0 (fun _ h9 => h9) rfl dX3_rowOf_22 ?_
      exact hret gb _ _ _ _ dX3_rowOf_25 (by rw [rowA, if_neg c1, if_neg c11]) hP hD hS
    · refine lv_aload_n hx hb dX3_rowOf_14 rfl (lv_at hl 0 rfl) ?_
      refine va_get (D := D) (ci := 3) (v := .ref gl) (C := RX3) (T := TX3) (N := 9) hx hb hts hi3 hown hK hP 0 rfl rfl 1 (by decide) hw2 (fun _ h9 => h9) rfl dX3_rowOf_15 ?_
      refine lv_goto (tgt := 25) hx hb dX3_rowOf_18 (by decide) ?_
      exact hret gl _ _ _ _ dX3_rowOf_25 (by rw [rowA, if_neg c1, if_pos c11]) hP hD hS
  · refine lv_aload_n hx hb dX3_rowOf_4 rfl (lv_at hl 0 rfl) ?_
    refine va_get (D := D) (ci := 3) (v := .ref ge) (C := RX3) (T := TX3) (N := 9) hx hb hts hi3 hown hK hP 0 rfl rfl 0 (by decide) hw3 (fun _ h9 => h9) rfl dX3_rowOf_5 ?_
    exact hret ge _ _ _ _ dX3_rowOf_8 (by rw [rowA, if_pos c1]) hP hD hS

abbrev rm_X3_addSight : Room := { frames := 0, cells := 0, slots := 0, locals := 0 }
set_option maxHeartbeats 4000000 in
set_option maxRecDepth 100000 in
theorem c_addSight (l : Launch) (D : va_G) (cI cJ cZ cG cM : ClassId) (g ge gl gb gw gsw gsh : Nat) (fi : Int32) (n : Nat) (k : Nat) (f h : Nat → Int32) (x y : Int32) (hk : k < 6) :
    CI l yX3_addSight wsX3_addSight rm_X3_addSight D [(cI, .int), (cJ, .long), (cZ, .boolean), (cG, .object "LatestSets$Guild"), (cM, .array .int)] [(g, .inr (3, [.ref ge, .ref gl, .ref gb, .ref gw, .ref gsw, .ref gsh, .int (nI k), .int (nI n), .int fi])), (gsw, .inl (cI, 6, .inl f)), (gsh, .inl (cI, 6, .inl h))] [.ref g, .int x, .int y] (S := Unit) (fun r u => r = nI (k + 1)) (fun u => [(g, .inr (3, [.ref ge, .ref gl, .ref gb, .ref gw, .ref gsw, .ref gsh, .int (nI (k + 1)), .int (nI n), .int fi])), (gsw, .inl (cI, 6, .inl (upd f k x))), (gsh, .inl (cI, 6, .inl (upd h k y)))]) := by
  refine si_of (cc := cX3_addSight) (maxL := 3) (by decide) rfl (Nat.le_of_ble_eq_true rfl) ?_
  intro p e s m args below meth c A ls Q E hret
  obtain ⟨hx, hb, -, hml, hown, hts, -, hin, hA, hK, hP, hD, hS, hl, hN⟩ := E
  have hown : s.vm.findClass RX3 = some m.cls := hown
  have hl : lv_has ls 3 [(0, .ref g), (1, .int x), (2, .int y)] := hl
  have SF : CallFix p m c cX3_addSight 3 s args wsX3_addSight RX3 := ⟨hx, hb, hml, hown, hts⟩
  have hw0 := hts (.fieldLink RX3 47 "LatestSets$Guild" "sights" "I") (by decide +kernel)
  have hi3 : ∀ x ∈ wsX30, x ∈ wsX3_addSight := by decide +kernel
  have hw2 := hts (.fieldLink RX3 28 "LatestSets$Guild" "sightWeek" "[I") (by decide +kernel)
  have hw3 := hts (.fieldLink RX3 31 "LatestSets$Guild" "sightHour" "[I") (by decide +kernel)
  refine lv_aload_n hx hb dX3_addSight_0 rfl (lv_at hl 0 rfl) ?_
  refine va_get (D := D) (ci := 3) (v := .int (nI k)) (C := RX3) (T := TX3) (N := 9) hx hb hts hi3 hown hK hP 0 rfl rfl 6 (by decide) hw0 (fun _ h9 => h9) rfl dX3_addSight_1 ?_
  refine lv_bipush (v := nI 6) hx hb dX3_addSight_4 (by decide) ?_
  refine icmp_ge_n (a := k) (b := 6) (tgt := 39) hx hb dX3_addSight_6 (by decide) (by omega) (by omega) (fun c6 => ?_) (fun c6 => ?_)
  · exact absurd c6 (by omega)
  · refine lv_aload_n hx hb dX3_addSight_9 rfl (lv_at hl 0 rfl) ?_
    refine va_get (D := D) (ci := 3) (v := .ref gsw) (C := RX3) (T := TX3) (N := 9) hx hb hts hi3 hown hK hP 0 rfl rfl 4 (by decide) hw2 (fun _ h9 => h9) rfl dX3_addSight_10 ?_
    refine lv_aload_n hx hb dX3_addSight_13 rfl (lv_at hl 0 rfl) ?_
    refine va_get (D := D) (ci := 3) (v := .int (nI k)) (C := RX3) (T := TX3) (N := 9) hx hb hts hi3 hown hK hP 0 rfl rfl 6 (by decide) hw0 (fun _ h9 => h9) rfl dX3_addSight_14 ?_
    refine lv_iload_n hx hb dX3_addSight_17 rfl (lv_at hl 1 rfl) ?_
    refine iast_n (k := k) hx hb hK hP hD hS 1 0 rfl rfl (by omega) (by omega) dX3_addSight_18 (fun H locs hP hD hS => ?_)
    have hP : va_P D vwCl [(g, .inr (3, [.ref ge, .ref gl, .ref gb, .ref gw, .ref gsw, .ref gsh, .int (nI k), .int (nI n), .int fi])), (gsw, .inl (cI, 6, .inl (upd f k x))), (gsh, .inl (cI, 6, .inl h))] H := hP
    have hD : va_D A [(g, .inr (3, [.ref ge, .ref gl, .ref gb, .ref gw, .ref gsw, .ref gsh, .int (nI k), .int (nI n), .int fi])), (gsw, .inl (cI, 6, .inl (upd f k x))), (gsh, .inl (cI, 6, .inl h))] := hD
    refine lv_aload_n hx hb dX3_addSight_19 rfl (lv_at hl 0 rfl) ?_
    refine va_get (D := D) (ci := 3) (v := .ref gsh) (C := RX3) (T := TX3) (N := 9) hx hb hts hi3 hown hK hP 0 rfl rfl 5 (by decide) hw3 (fun _ h9 => h9) rfl dX3_addSight_20 ?_
    refine lv_aload_n hx hb dX3_addSight_23 rfl (lv_at hl 0 rfl) ?_
    refine va_get (D := D) (ci := 3) (v := .int (nI k)) (C := RX3) (T := TX3) (N := 9) hx hb hts hi3 hown hK hP 0 rfl rfl 6 (by decide) hw0 (fun _ h9 => h9) rfl dX3_addSight_24 ?_
    refine lv_iload_n hx hb dX3_addSight_27 rfl (lv_at hl 2 rfl) ?_
    refine iast_n (k := k) hx hb hK hP hD hS 2 0 rfl rfl (by omega) (by omega) dX3_addSight_28 (fun H locs hP hD hS => ?_)
    have hP : va_P D vwCl [(g, .inr (3, [.ref ge, .ref gl, .ref gb, .ref gw, .ref gsw, .ref gsh, .int (nI k), .int (nI n), .int fi])), (gsw, .inl (cI, 6, .inl (upd f k x))), (gsh, .inl (cI, 6, .inl (upd h k y)))] H := hP
    have hD : va_D A [(g, .inr (3, [.ref ge, .ref gl, .ref gb, .ref gw, .ref gsw, .ref gsh, .int (nI k), .int (nI n), .int fi])), (gsw, .inl (cI, 6, .inl (upd f k x))), (gsh, .inl (cI, 6, .inl (upd h k y)))] := hD
    refine lv_aload_n hx hb dX3_addSight_29 rfl (lv_at hl 0 rfl) ?_
    refine lv_dup hx hb dX3_addSight_30 rfl ?_
    refine va_get (D := D) (ci := 3) (v := .int (nI k)) (C := RX3) (T := TX3) (N := 9) hx hb hts hi3 hown hK hP 0 rfl rfl 6 (by decide) hw0 (fun _ h9 => h9) rfl dX3_addSight_31 ?_
    refine lv_iconst (v := nI 1) hx hb dX3_addSight_34 (by decide) ?_
    refine iadd_n (a := k) (b := 1) hx hb dX3_addSight_35 ?_
    refine va_put (D := D) (ci := 3) (v := .int (nI (k + 1))) (ty := .int) (C := RX3) (T := TX3) (N := 9) hx hb hts hi3 tyX3 tyX3_ok nmX3 hown hK hP hD hS 0 rfl rfl 6 (by decide) hw0 (fun _ h9 => h9) rfl (by decide +kernel) rfl rfl (Nat.le_of_ble_eq_true rfl) dX3_addSight_36 (fun H locs hP hD hS => ?_)
    have hP : va_P D vwCl [(g, .inr (3, [.ref ge, .ref gl, .ref gb, .ref gw, .ref gsw, .ref gsh, .int (nI (k + 1)), .int (nI n), .int fi])), (gsw, .inl (cI, 6, .inl (upd f k x))), (gsh, .inl (cI, 6, .inl (upd h k y)))] H := hP
    have hD : va_D A [(g, .inr (3, [.ref ge, .ref gl, .ref gb, .ref gw, .ref gsw, .ref gsh, .int (nI (k + 1)), .int (nI n), .int fi])), (gsw, .inl (cI, 6, .inl (upd f k x))), (gsh, .inl (cI, 6, .inl (upd h k y)))] := hD
    refine lv_aload_n hx hb dX3_addSight_39 rfl (lv_at hl 0 rfl) ?_
    refine va_get (D := D) (ci := 3) (v := .int (nI (k + 1))) (C := RX3) (T := TX3) (N := 9) hx hb hts hi3 hown hK hP 0 rfl rfl 6 (by decide) hw0 (fun _ h9 => h9) rfl dX3_addSight_40 ?_
    exact hret (nI (k + 1)) (()) _ _ _ _ dX3_addSight_43 rfl hP hD hS

abbrev rm_X3_farFromBest : Room := { frames := 1, cells := 0, slots := 0, locals := 21 }
set_option maxHeartbeats 4000000 in
set_option maxRecDepth 100000 in
theorem c_farFromBest (l : Launch) (D : va_G) (cI cJ cZ cG cM : ClassId) (g ge gl gb gw gsw gsh : Nat) (si fi : Int32) (n : Nat) (x : Int32) (fb : Nat → Int32) (hn : n ≤ 6) :
    CI l yX3_farFromBest wsX3_farFromBest rm_X3_farFromBest D [(cI, .int), (cJ, .long), (cZ, .boolean), (cG, .object "LatestSets$Guild"), (cM, .array .int)] [(g, .inr (3, [.ref ge, .ref gl, .ref gb, .ref gw, .ref gsw, .ref gsh, .int si, .int (nI n), .int fi])), (gb, .inl (cI, 6, .inl fb))] [.ref g, .int x] (S := Unit) (fun r u => r = farS fb x n) (fun u => [(g, .inr (3, [.ref ge, .ref gl, .ref gb, .ref gw, .ref gsw, .ref gsh, .int si, .int (nI n), .int fi])), (gb, .inl (cI, 6, .inl fb))]) := by
  refine si_of (cc := cX3_farFromBest) (maxL := 4) (by decide) rfl (Nat.le_of_ble_eq_true rfl) ?_
  intro p e s m args below meth c A ls Q E hret
  obtain ⟨hx, hb, -, hml, hown, hts, -, hin, hA, hK, hP, hD, hS, hl, hN⟩ := E
  have hown : s.vm.findClass RX3 = some m.cls := hown
  have hl : lv_has ls 4 [(0, .ref g), (1, .int x)] := hl
  have SF : CallFix p m c cX3_farFromBest 4 s args wsX3_farFromBest RX3 := ⟨hx, hb, hml, hown, hts⟩
  have hw0 := hts (.fieldLink RX3 38 "LatestSets$Guild" "count" "I") (by decide +kernel)
  have hi3 : ∀ x ∈ wsX30, x ∈ wsX3_farFromBest := by decide +kernel
  have hw2 := hts (.fieldLink RX3 18 "LatestSets$Guild" "best" "[I") (by decide +kernel)
  have hw3 := hts (.methodLink RX3 73 Lib.Math.abs.name) (by decide +kernel)
  have hw4 := hts (.static Lib.Math.abs.name) (by decide +kernel)
  have hw5 := hts (.initialized "java/lang/Math") (by decide +kernel)
  have hw6 := hts (.code Lib.Math.abs.name Lib.Math.abs.code 1 (some .int)) (by decide +kernel)
  refine lv_iconst (v := nI 0) hx hb dX3_farFromBest_0 (by decide) ?_
  refine lv_istore_n (lv' := [(2, .int (nI 0)), (0, .ref g), (1, .int x)]) hx hb dX3_farFromBest_1 rfl hl (by decide) rfl (fun ls hl => ?_)
  refine lv_iconst (v := nI 0) hx hb dX3_farFromBest_2 (by decide) ?_
  refine lv_istore_n (lv' := [(3, .int (nI 0)), (2, .int (nI 0)), (0, .ref g), (1, .int x)]) hx hb dX3_farFromBest_3 rfl hl (by decide) rfl (fun ls hl => ?_)
  have L4 : ∀ (n9 : Nat) (k : Nat) (hk : k ≤ n), n - k < n9 → ∀ (H : Heap) (locs : List Loc), va_P D vwCl [(g, .inr (3, [.ref ge, .ref gl, .ref gb, .ref gw, .ref gsw, .ref gsh, .int si, .int (nI n), .int fi])), (gb, .inl (cI, 6, .inl fb))] H → va_D A [(g, .inr (3, [.ref ge, .ref gl, .ref gb, .ref gw, .ref gsw, .ref gsh, .int si, .int (nI n), .int fi])), (gb, .inl (cI, 6, .inl fb))] → va_S A s.heap H locs → ∀ (ls : Array Slot), lv_has ls 4 [(0, .ref g), (1, .int x), (2, .int (farS fb x k)), (3, .int (nI k))] → W p l e rm_X3_farFromBest s m args below meth c H locs 0 0 Q (F0 m 4 ls []) := by
    intro n9
    induction n9 with
    | zero => intro k hk hm; exact absurd hm (Nat.not_lt_zero _)
    | succ n9 ih4 =>
      intro k hk hm4 H locs hP hD hS ls hl
      refine lv_iload_n hx hb dX3_farFromBest_4 rfl (lv_at hl 3 rfl) ?_
      refine lv_aload_n hx hb dX3_farFromBest_5 rfl (lv_at hl 0 rfl) ?_
      refine va_get (D := D) (ci := 3) (v := .int (nI n)) (C := RX3) (T := TX3) (N := 9) hx hb hts hi3 hown hK hP 0 rfl rfl 7 (by decide) hw0 (fun _ h9 => h9) rfl dX3_farFromBest_6 ?_
      refine icmp_ge_n (a := k) (b := n) (tgt := 32) hx hb dX3_farFromBest_9 (by decide) (by omega) (by omega) (fun c9 => ?_) (fun c9 => ?_)
      · refine lv_iload_n hx hb dX3_farFromBest_32 rfl (lv_at hl 2 rfl) ?_
        exact hret (farS fb x k) (()) _ _ _ _ dX3_farFromBest_33 (by rw [show k = n by omega]) hP hD hS
      · refine lv_iload_n hx hb dX3_farFromBest_12 rfl (lv_at hl 2 rfl) ?_
        refine lv_iload_n hx hb dX3_farFromBest_13 rfl (lv_at hl 1 rfl) ?_
        refine lv_aload_n hx hb dX3_farFromBest_14 rfl (lv_at hl 0 rfl) ?_
        refine va_get (D := D) (ci := 3) (v := .ref gb) (C := RX3) (T := TX3) (N := 9) hx hb hts hi3 hown hK hP 0 rfl rfl 2 (by decide) hw2 (fun _ h9 => h9) rfl dX3_farFromBest_15 ?_
        refine lv_iload_n hx hb dX3_farFromBest_18 rfl (lv_at hl 3 rfl) ?_
        refine iald_n (k := k) hx hb hK hP 1 0 rfl rfl (by omega) (by omega) dX3_farFromBest_19 ?_
        refine lv_isub hx hb dX3_farFromBest_20 ?_
        refine va_mabs hx hb (by rw [hml]; exact hl.1.symm) hown hw3 hw4 hw5 hw6 (Nat.le_of_ble_eq_true rfl) (Nat.le_of_ble_eq_true rfl) (Nat.zero_le _) (Nat.zero_le _) dX3_farFromBest_21 ?_
        refine lv_iadd hx hb dX3_farFromBest_24 ?_
        refine lv_istore_n (lv' := [(2, .int ((farS fb x k) + (abI (x - (fb k))))), (0, .ref g), (1, .int x), (3, .int (nI k))]) hx hb dX3_farFromBest_25 rfl hl (by decide) rfl (fun ls hl => ?_)
        refine lv_iinc (v := nI (k + 1)) (lv' := [(3, .int (nI (k + 1))), (2, .int ((farS fb x k) + (abI (x - (fb k))))), (0, .ref g), (1, .int x)]) hx hb dX3_farFromBest_26 hl (k := 3) rfl (nI_1 k) (by decide) rfl (fun ls hl => ?_)
        refine lv_goto (tgt := 4) hx hb dX3_farFromBest_29 (by decide) ?_
        exact ih4 (k + 1) ((by omega)) (by omega) _ _ hP hD hS _ (lv_sub hl [2, 3, 1, 0] rfl)
  exact L4 _ 0 ((Nat.zero_le _)) (Nat.lt_succ_self _) _ _ hP hD hS _ (lv_sub hl [2, 3, 1, 0] rfl)

abbrev rm_X0_tryAsTold : Room := { frames := 1, cells := 0, slots := 0, locals := 26 }
set_option maxHeartbeats 4000000 in
set_option maxRecDepth 100000 in
theorem c_tryAsTold (l : Launch) (D : va_G) (cI cJ cZ cG cM : ClassId) (b bt bc bs : Nat) (g ge gl gb gw gsw gsh : Nat) (si fi : Int32) (n : Nat) (hg : Int32) (ft fl : Nat → Int32) :
    CV l yX0_tryAsTold wsX0_tryAsTold rm_X0_tryAsTold D [(cI, .int), (cJ, .long), (cZ, .boolean), (cG, .object "LatestSets$Guild"), (cM, .array .int)] [(b, .inr (0, [.ref g, .ref bt, .ref bc, .ref bs, .int hg])), (g, .inr (3, [.ref ge, .ref gl, .ref gb, .ref gw, .ref gsw, .ref gsh, .int si, .int (nI n), .int fi])), (bt, .inl (cI, 6, .inl ft)), (gl, .inl (cI, 6, .inl fl))] [.ref b] (S := Unit) (fun u => True) (fun u => [(b, .inr (0, [.ref g, .ref bt, .ref bc, .ref bs, .int hg])), (g, .inr (3, [.ref ge, .ref gl, .ref gb, .ref gw, .ref gsw, .ref gsh, .int si, .int (nI n), .int fi])), (bt, .inl (cI, 6, .inl (va_cpy fl ft 0 0 6))), (gl, .inl (cI, 6, .inl fl))]) := by
  refine sv_of (cc := cX0_tryAsTold) (maxL := 1) (by decide) rfl (Nat.le_of_ble_eq_true rfl) ?_
  intro p e s m args below meth c A ls Q E hret
  obtain ⟨hx, hb, -, hml, hown, hts, -, hin, hA, hK, hP, hD, hS, hl, hN⟩ := E
  have hown : s.vm.findClass RX0 = some m.cls := hown
  have hl : lv_has ls 1 [(0, .ref b)] := hl
  have SF : CallFix p m c cX0_tryAsTold 1 s args wsX0_tryAsTold RX0 := ⟨hx, hb, hml, hown, hts⟩
  have hw0 := hts (.fieldLink RX0 21 "LatestSets$Board" "guild" "LLatestSets$Guild;") (by decide +kernel)
  have hi0 : ∀ x ∈ wsX00, x ∈ wsX0_tryAsTold := by decide +kernel
  have hw2 := hts (.fieldLink RX0 25 "LatestSets$Guild" "late" "[I") (by decide +kernel)
  have hi3 : ∀ x ∈ wsX30, x ∈ wsX0_tryAsTold := by decide +kernel
  have hw4 := hts (.fieldLink RX0 9 "LatestSets$Board" "trial" "[I") (by decide +kernel)
  have hw5 := hts (.methodLink RX0 30 arraycopyName) (by decide +kernel)
  have hw6 := hts (.native arraycopyName) (by decide +kernel)
  have hw7 := hts (.static arraycopyName) (by decide +kernel)
  have hw8 := hts (.initialized "java/lang/System") (by decide +kernel)
  refine lv_aload_n hx hb dX0_tryAsTold_0 rfl (lv_at hl 0 rfl) ?_
  refine va_get (D := D) (ci := 0) (v := .ref g) (C := RX0) (T := TX0) (N := 5) hx hb hts hi0 hown hK hP 0 rfl rfl 0 (by decide) hw0 (fun _ h9 => h9) rfl dX0_tryAsTold_1 ?_
  refine va_get (D := D) (ci := 3) (v := .ref gl) (C := RX3) (T := TX3) (N := 9) hx hb hts hi3 hown hK hP 1 rfl rfl 1 (by decide) hw2 (fun _ h9 => h9) rfl dX0_tryAsTold_4 ?_
  refine lv_iconst (v := nI 0) hx hb dX0_tryAsTold_7 (by decide) ?_
  refine lv_aload_n hx hb dX0_tryAsTold_8 rfl (lv_at hl 0 rfl) ?_
  refine va_get (D := D) (ci := 0) (v := .ref bt) (C := RX0) (T := TX0) (N := 5) hx hb hts hi0 hown hK hP 0 rfl rfl 1 (by decide) hw4 (fun _ h9 => h9) rfl dX0_tryAsTold_9 ?_
  refine lv_iconst (v := nI 0) hx hb dX0_tryAsTold_12 (by decide) ?_
  refine lv_bipush (v := nI 6) hx hb dX0_tryAsTold_13 (by decide) ?_
  refine copy_n (sp := 0) (dp := 0) (n := 6) hx hb (by rw [hml]; exact hl.1.symm) hown hw5 hw6 hw7 hw8 hK hP hD hS 3 2 0 rfl rfl rfl (by omega) (by omega) (by omega) (by omega) (by omega) (Nat.le_of_ble_eq_true rfl) (Nat.le_of_ble_eq_true rfl) dX0_tryAsTold_15 (fun H locs hP hD hS => ?_)
  have hP : va_P D vwCl [(b, .inr (0, [.ref g, .ref bt, .ref bc, .ref bs, .int hg])), (g, .inr (3, [.ref ge, .ref gl, .ref gb, .ref gw, .ref gsw, .ref gsh, .int si, .int (nI n), .int fi])), (bt, .inl (cI, 6, .inl (va_cpy fl ft 0 0 6))), (gl, .inl (cI, 6, .inl fl))] H := hP
  have hD : va_D A [(b, .inr (0, [.ref g, .ref bt, .ref bc, .ref bs, .int hg])), (g, .inr (3, [.ref ge, .ref gl, .ref gb, .ref gw, .ref gsw, .ref gsh, .int si, .int (nI n), .int fi])), (bt, .inl (cI, 6, .inl (va_cpy fl ft 0 0 6))), (gl, .inl (cI, 6, .inl fl))] := hD
  exact hret (()) _ _ _ _ dX0_tryAsTold_18 trivial hP hD hS

abbrev rm_X0_placeOf : Room := { frames := 1, cells := 0, slots := 0, locals := 21 }
set_option maxHeartbeats 4000000 in
set_option maxRecDepth 100000 in
theorem c_placeOf (l : Launch) (D : va_G) (cI cJ cZ cG cM : ClassId) (b bt bc bs : Nat) (g ge gl gb gw gsw gsh : Nat) (si fi : Int32) (n : Nat) (hg : Int32) (x : Int32) (h1 : 1 ≤ n) (h6 : n ≤ 6) :
    CI l yX0_placeOf wsX0_placeOf rm_X0_placeOf D [(cI, .int), (cJ, .long), (cZ, .boolean), (cG, .object "LatestSets$Guild"), (cM, .array .int)] [(b, .inr (0, [.ref g, .ref bt, .ref bc, .ref bs, .int hg])), (g, .inr (3, [.ref ge, .ref gl, .ref gb, .ref gw, .ref gsw, .ref gsh, .int si, .int (nI n), .int fi]))] [.ref b, .int x] (S := Unit) (fun r u => r = nI (plc x n)) (fun u => [(b, .inr (0, [.ref g, .ref bt, .ref bc, .ref bs, .int hg])), (g, .inr (3, [.ref ge, .ref gl, .ref gb, .ref gw, .ref gsw, .ref gsh, .int si, .int (nI n), .int fi]))]) := by
  refine si_of (cc := cX0_placeOf) (maxL := 3) (by decide) rfl (Nat.le_of_ble_eq_true rfl) ?_
  intro p e s m args below meth c A ls Q E hret
  obtain ⟨hx, hb, -, hml, hown, hts, -, hin, hA, hK, hP, hD, hS, hl, hN⟩ := E
  have hown : s.vm.findClass RX0 = some m.cls := hown
  have hl : lv_has ls 3 [(0, .ref b), (1, .int x)] := hl
  have SF : CallFix p m c cX0_placeOf 3 s args wsX0_placeOf RX0 := ⟨hx, hb, hml, hown, hts⟩
  have hw0 := hts (.fieldLink RX0 21 "LatestSets$Board" "guild" "LLatestSets$Guild;") (by decide +kernel)
  have hi0 : ∀ x ∈ wsX00, x ∈ wsX0_placeOf := by decide +kernel
  have hw2 := hts (.fieldLink RX0 36 "LatestSets$Guild" "count" "I") (by decide +kernel)
  have hi3 : ∀ x ∈ wsX30, x ∈ wsX0_placeOf := by decide +kernel
  have hw4 := hts (.methodLink RX0 61 Lib.Math.max.name) (by decide +kernel)
  have hw5 := hts (.static Lib.Math.max.name) (by decide +kernel)
  have hw6 := hts (.initialized "java/lang/Math") (by decide +kernel)
  have hw7 := hts (.code Lib.Math.max.name Lib.Math.max.code 2 (some .int)) (by decide +kernel)
  refine lv_aload_n hx hb dX0_placeOf_0 rfl (lv_at hl 0 rfl) ?_
  refine va_get (D := D) (ci := 0) (v := .ref g) (C := RX0) (T := TX0) (N := 5) hx hb hts hi0 hown hK hP 0 rfl rfl 0 (by decide) hw0 (fun _ h9 => h9) rfl dX0_placeOf_1 ?_
  refine va_get (D := D) (ci := 3) (v := .int (nI n)) (C := RX3) (T := TX3) (N := 9) hx hb hts hi3 hown hK hP 1 rfl rfl 7 (by decide) hw2 (fun _ h9 => h9) rfl dX0_placeOf_4 ?_
  refine lv_iconst (v := nI 1) hx hb dX0_placeOf_7 (by decide) ?_
  refine isub_n (a := n) (b := 1) hx hb dX0_placeOf_8 (by omega) ?_
  refine lv_istore_n (lv' := [(2, .int (nI (n - 1))), (0, .ref b), (1, .int x)]) hx hb dX0_placeOf_9 rfl hl (by decide) rfl (fun ls hl => ?_)
  refine lv_iload_n hx hb dX0_placeOf_10 rfl (lv_at hl 2 rfl) ?_
  by_cases e108 : x = nI 108
  · refine lv_tableIn (off := 33) (tgt := 44) hx hb dX0_placeOf_11 (by rw [e108]; decide) (by rw [e108]; decide) (by rw [e108]; decide +kernel) (by decide) ?_
    refine lv_iload_n hx hb dX0_placeOf_44 rfl (lv_at hl 0 rfl) ?_
    exact hret (nI (n - 1)) (()) _ _ _ _ dX0_placeOf_45 (by subst e108; rfl) hP hD hS
  · skip
    by_cases e109 : x = nI 109
    · refine lv_tableIn (off := 35) (tgt := 46) hx hb dX0_placeOf_11 (by rw [e109]; decide) (by rw [e109]; decide) (by rw [e109]; decide +kernel) (by decide) ?_
      refine lv_iload_n hx hb dX0_placeOf_46 rfl (lv_at hl 0 rfl) ?_
      refine lv_iconst (v := nI 2) hx hb dX0_placeOf_47 (by decide) ?_
      refine idiv_n (a := n - 1) (b := 2) hx hb dX0_placeOf_48 (by omega) (by omega) (by omega) ?_
      exact hret (nI ((n - 1) / 2)) (()) _ _ _ _ dX0_placeOf_49 (by subst e109; rfl) hP hD hS
    · skip
      by_cases e110 : x = nI 110
      · refine lv_tableIn (off := 47) (tgt := 58) hx hb dX0_placeOf_11 (by rw [e110]; decide) (by rw [e110]; decide) (by rw [e110]; decide +kernel) (by decide) ?_
        refine lv_iconst (v := nI 0) hx hb dX0_placeOf_58 (by decide) ?_
        exact hret (nI 0) (()) _ _ _ _ dX0_placeOf_59 (by subst e110; rfl) hP hD hS
      · skip
        by_cases e111 : x = nI 111
        · refine lv_tableIn (off := 47) (tgt := 58) hx hb dX0_placeOf_11 (by rw [e111]; decide) (by rw [e111]; decide) (by rw [e111]; decide +kernel) (by decide) ?_
          refine lv_iconst (v := nI 0) hx hb dX0_placeOf_58 (by decide) ?_
          exact hret (nI 0) (()) _ _ _ _ dX0_placeOf_59 (by subst e111; rfl) hP hD hS
        · skip
          by_cases e112 : x = nI 112
          · refine lv_tableIn (off := 39) (tgt := 50) hx hb dX0_placeOf_11 (by rw [e112]; decide) (by rw [e112]; decide) (by rw [e112]; decide +kernel) (by decide) ?_
            refine lv_iconst (v := nI 0) hx hb dX0_placeOf_50 (by decide) ?_
            refine lv_iload_n hx hb dX0_placeOf_51 rfl (lv_at hl 0 rfl) ?_
            refine lv_iconst (v := nI 1) hx hb dX0_placeOf_52 (by decide) ?_
            refine lv_isub hx hb dX0_placeOf_53 ?_
            refine va_mmax hx hb (by rw [hml]; exact hl.1.symm) hown hw4 hw5 hw6 hw7 (Nat.le_of_ble_eq_true rfl) (Nat.le_of_ble_eq_true rfl) (Nat.zero_le _) (Nat.zero_le _) dX0_placeOf_54 ?_
            refine lv_topi (fun y9 e9 => ?_)
            have e9 : y9 = nI (n - 1 - 1) := e9.trans (mx_sub1 (by omega))
            subst e9
            exact hret (nI (n - 1 - 1)) (()) _ _ _ _ dX0_placeOf_57 (by subst e112; rfl) hP hD hS
          · skip
            refine lv_tableOut (tgt := 58) hx hb dX0_placeOf_11 (by have z108 := ne_toI (c := 108) (by decide) e108; have z109 := ne_toI (c := 109) (by decide) e109; have z110 := ne_toI (c := 110) (by decide) e110; have z111 := ne_toI (c := 111) (by decide) e111; have z112 := ne_toI (c := 112) (by decide) e112; omega) (by decide) ?_
            refine lv_iconst (v := nI 0) hx hb dX0_placeOf_58 (by decide) ?_
            exact hret (nI 0) (()) _ _ _ _ dX0_placeOf_59 (by unfold plc; rw [if_neg e108, if_neg e109, if_neg e112]) hP hD hS

abbrev rm_X0_push : Room := { frames := 0, cells := 0, slots := 0, locals := 0 }
set_option maxHeartbeats 4000000 in
set_option maxRecDepth 100000 in
theorem c_push (l : Launch) (D : va_G) (cI cJ cZ cG cM : ClassId) (b bt bc bs : Nat) (g : Nat) (k : Nat) (f : Nat → Int32) (x : Int32) (hk : k < 20) :
    CV l yX0_push wsX0_push rm_X0_push D [(cI, .int), (cJ, .long), (cZ, .boolean), (cG, .object "LatestSets$Guild"), (cM, .array .int)] [(b, .inr (0, [.ref g, .ref bt, .ref bc, .ref bs, .int (nI k)])), (bs, .inl (cI, 20, .inl f))] [.ref b, .int x] (S := Unit) (fun u => True) (fun u => [(b, .inr (0, [.ref g, .ref bt, .ref bc, .ref bs, .int (nI (k + 1))])), (bs, .inl (cI, 20, .inl (upd f k x)))]) := by
  refine sv_of (cc := cX0_push) (maxL := 2) (by decide) rfl (Nat.le_of_ble_eq_true rfl) ?_
  intro p e s m args below meth c A ls Q E hret
  obtain ⟨hx, hb, -, hml, hown, hts, -, hin, hA, hK, hP, hD, hS, hl, hN⟩ := E
  have hown : s.vm.findClass RX0 = some m.cls := hown
  have hl : lv_has ls 2 [(0, .ref b), (1, .int x)] := hl
  have SF : CallFix p m c cX0_push 2 s args wsX0_push RX0 := ⟨hx, hb, hml, hown, hts⟩
  have hw0 := hts (.fieldLink RX0 92 "LatestSets$Board" "height" "I") (by decide +kernel)
  have hi0 : ∀ x ∈ wsX00, x ∈ wsX0_push := by decide +kernel
  have hw2 := hts (.fieldLink RX0 18 "LatestSets$Board" "stack" "[I") (by decide +kernel)
  refine lv_aload_n hx hb dX0_push_0 rfl (lv_at hl 0 rfl) ?_
  refine va_get (D := D) (ci := 0) (v := .int (nI k)) (C := RX0) (T := TX0) (N := 5) hx hb hts hi0 hown hK hP 0 rfl rfl 4 (by decide) hw0 (fun _ h9 => h9) rfl dX0_push_1 ?_
  refine lv_bipush (v := nI 20) hx hb dX0_push_4 (by decide) ?_
  refine icmp_ge_n (a := k) (b := 20) (tgt := 29) hx hb dX0_push_6 (by decide) (by omega) (by omega) (fun c6 => ?_) (fun c6 => ?_)
  · exact absurd c6 (by omega)
  · refine lv_aload_n hx hb dX0_push_9 rfl (lv_at hl 0 rfl) ?_
    refine va_get (D := D) (ci := 0) (v := .ref bs) (C := RX0) (T := TX0) (N := 5) hx hb hts hi0 hown hK hP 0 rfl rfl 3 (by decide) hw2 (fun _ h9 => h9) rfl dX0_push_10 ?_
    refine lv_aload_n hx hb dX0_push_13 rfl (lv_at hl 0 rfl) ?_
    refine va_get (D := D) (ci := 0) (v := .int (nI k)) (C := RX0) (T := TX0) (N := 5) hx hb hts hi0 hown hK hP 0 rfl rfl 4 (by decide) hw0 (fun _ h9 => h9) rfl dX0_push_14 ?_
    refine lv_iload_n hx hb dX0_push_17 rfl (lv_at hl 1 rfl) ?_
    refine iast_n (k := k) hx hb hK hP hD hS 1 0 rfl rfl (by omega) (by omega) dX0_push_18 (fun H locs hP hD hS => ?_)
    have hP : va_P D vwCl [(b, .inr (0, [.ref g, .ref bt, .ref bc, .ref bs, .int (nI k)])), (bs, .inl (cI, 20, .inl (upd f k x)))] H := hP
    have hD : va_D A [(b, .inr (0, [.ref g, .ref bt, .ref bc, .ref bs, .int (nI k)])), (bs, .inl (cI, 20, .inl (upd f k x)))] := hD
    refine lv_aload_n hx hb dX0_push_19 rfl (lv_at hl 0 rfl) ?_
    refine lv_dup hx hb dX0_push_20 rfl ?_
    refine va_get (D := D) (ci := 0) (v := .int (nI k)) (C := RX0) (T := TX0) (N := 5) hx hb hts hi0 hown hK hP 0 rfl rfl 4 (by decide) hw0 (fun _ h9 => h9) rfl dX0_push_21 ?_
    refine lv_iconst (v := nI 1) hx hb dX0_push_24 (by decide) ?_
    refine iadd_n (a := k) (b := 1) hx hb dX0_push_25 ?_
    refine va_put (D := D) (ci := 0) (v := .int (nI (k + 1))) (ty := .int) (C := RX0) (T := TX0) (N := 5) hx hb hts hi0 tyX0 tyX0_ok nmX0 hown hK hP hD hS 0 rfl rfl 4 (by decide) hw0 (fun _ h9 => h9) rfl (by decide +kernel) rfl rfl (Nat.le_of_ble_eq_true rfl) dX0_push_26 (fun H locs hP hD hS => ?_)
    have hP : va_P D vwCl [(b, .inr (0, [.ref g, .ref bt, .ref bc, .ref bs, .int (nI (k + 1))])), (bs, .inl (cI, 20, .inl (upd f k x)))] H := hP
    have hD : va_D A [(b, .inr (0, [.ref g, .ref bt, .ref bc, .ref bs, .int (nI (k + 1))])), (bs, .inl (cI, 20, .inl (upd f k x)))] := hD
    exact hret (()) _ _ _ _ dX0_push_29 trivial hP hD hS

abbrev rm_X0_pop : Room := { frames := 0, cells := 0, slots := 0, locals := 0 }
set_option maxHeartbeats 4000000 in
set_option maxRecDepth 100000 in
theorem c_pop (l : Launch) (D : va_G) (cI cJ cZ cG cM : ClassId) (b bt bc bs : Nat) (g : Nat) (k : Nat) (f : Nat → Int32) (hk : k < 20) :
    CI l yX0_pop wsX0_pop rm_X0_pop D [(cI, .int), (cJ, .long), (cZ, .boolean), (cG, .object "LatestSets$Guild"), (cM, .array .int)] [(b, .inr (0, [.ref g, .ref bt, .ref bc, .ref bs, .int (nI (k + 1))])), (bs, .inl (cI, 20, .inl f))] [.ref b] (S := Unit) (fun r u => r = f k) (fun u => [(b, .inr (0, [.ref g, .ref bt, .ref bc, .ref bs, .int (nI k)])), (bs, .inl (cI, 20, .inl f))]) := by
  refine si_of (cc := cX0_pop) (maxL := 1) (by decide) rfl (Nat.le_of_ble_eq_true rfl) ?_
  intro p e s m args below meth c A ls Q E hret
  obtain ⟨hx, hb, -, hml, hown, hts, -, hin, hA, hK, hP, hD, hS, hl, hN⟩ := E
  have hown : s.vm.findClass RX0 = some m.cls := hown
  have hl : lv_has ls 1 [(0, .ref b)] := hl
  have SF : CallFix p m c cX0_pop 1 s args wsX0_pop RX0 := ⟨hx, hb, hml, hown, hts⟩
  have hw0 := hts (.fieldLink RX0 92 "LatestSets$Board" "height" "I") (by decide +kernel)
  have hi0 : ∀ x ∈ wsX00, x ∈ wsX0_pop := by decide +kernel
  have hw2 := hts (.fieldLink RX0 18 "LatestSets$Board" "stack" "[I") (by decide +kernel)
  refine lv_aload_n hx hb dX0_pop_0 rfl (lv_at hl 0 rfl) ?_
  refine va_get (D := D) (ci := 0) (v := .int (nI (k + 1))) (C := RX0) (T := TX0) (N := 5) hx hb hts hi0 hown hK hP 0 rfl rfl 4 (by decide) hw0 (fun _ h9 => h9) rfl dX0_pop_1 ?_
  refine if_le_n (a := k + 1) (tgt := 27) hx hb dX0_pop_4 (by decide) (by omega) (fun c4 => ?_) (fun c4 => ?_)
  · exact absurd c4 (by omega)
  · refine lv_aload_n hx hb dX0_pop_7 rfl (lv_at hl 0 rfl) ?_
    refine lv_dup hx hb dX0_pop_8 rfl ?_
    refine va_get (D := D) (ci := 0) (v := .int (nI (k + 1))) (C := RX0) (T := TX0) (N := 5) hx hb hts hi0 hown hK hP 0 rfl rfl 4 (by decide) hw0 (fun _ h9 => h9) rfl dX0_pop_9 ?_
    refine lv_iconst (v := nI 1) hx hb dX0_pop_12 (by decide) ?_
    refine isub_n (a := k + 1) (b := 1) hx hb dX0_pop_13 (by omega) ?_
    refine va_put (D := D) (ci := 0) (v := .int (nI k)) (ty := .int) (C := RX0) (T := TX0) (N := 5) hx hb hts hi0 tyX0 tyX0_ok nmX0 hown hK hP hD hS 0 rfl rfl 4 (by decide) hw0 (fun _ h9 => h9) rfl (by decide +kernel) rfl rfl (Nat.le_of_ble_eq_true rfl) dX0_pop_14 (fun H locs hP hD hS => ?_)
    have hP : va_P D vwCl [(b, .inr (0, [.ref g, .ref bt, .ref bc, .ref bs, .int (nI k)])), (bs, .inl (cI, 20, .inl f))] H := hP
    have hD : va_D A [(b, .inr (0, [.ref g, .ref bt, .ref bc, .ref bs, .int (nI k)])), (bs, .inl (cI, 20, .inl f))] := hD
    refine lv_aload_n hx hb dX0_pop_17 rfl (lv_at hl 0 rfl) ?_
    refine va_get (D := D) (ci := 0) (v := .ref bs) (C := RX0) (T := TX0) (N := 5) hx hb hts hi0 hown hK hP 0 rfl rfl 3 (by decide) hw2 (fun _ h9 => h9) rfl dX0_pop_18 ?_
    refine lv_aload_n hx hb dX0_pop_21 rfl (lv_at hl 0 rfl) ?_
    refine va_get (D := D) (ci := 0) (v := .int (nI k)) (C := RX0) (T := TX0) (N := 5) hx hb hts hi0 hown hK hP 0 rfl rfl 4 (by decide) hw0 (fun _ h9 => h9) rfl dX0_pop_22 ?_
    refine iald_n (k := k) hx hb hK hP 1 0 rfl rfl (by omega) (by omega) dX0_pop_25 ?_
    exact hret (f k) (()) _ _ _ _ dX0_pop_26 rfl hP hD hS

abbrev rm_X0_insert : Room := { frames := 0, cells := 0, slots := 0, locals := 0 }
set_option maxHeartbeats 4000000 in
set_option maxRecDepth 100000 in
theorem c_insert (l : Launch) (D : va_G) (cI cJ cZ cG cM : ClassId) (b bt bc bs : Nat) (g : Nat) (hg : Int32) (k : Nat) (f : Nat → Int32) (x : Int32) (hk : k < 6) :
    CV l yX0_insert wsX0_insert rm_X0_insert D [(cI, .int), (cJ, .long), (cZ, .boolean), (cG, .object "LatestSets$Guild"), (cM, .array .int)] [(b, .inr (0, [.ref g, .ref bt, .ref bc, .ref bs, .int hg])), (bc, .inl (cI, 6, .inl f))] [.ref b, .int (nI k), .int x] (S := Unit) (fun u => True) (fun u => [(b, .inr (0, [.ref g, .ref bt, .ref bc, .ref bs, .int hg])), (bc, .inl (cI, 6, .inl (insG f x k)))]) := by
  refine sv_of (cc := cX0_insert) (maxL := 4) (by decide) rfl (Nat.le_of_ble_eq_true rfl) ?_
  intro p e s m args below meth c A ls Q E hret
  obtain ⟨hx, hb, -, hml, hown, hts, -, hin, hA, hK, hP, hD, hS, hl, hN⟩ := E
  have hown : s.vm.findClass RX0 = some m.cls := hown
  have hl : lv_has ls 4 [(0, .ref b), (1, .int (nI k)), (2, .int x)] := hl
  have SF : CallFix p m c cX0_insert 4 s args wsX0_insert RX0 := ⟨hx, hb, hml, hown, hts⟩
  have hw0 := hts (.fieldLink RX0 15 "LatestSets$Board" "came" "[I") (by decide +kernel)
  have hi0 : ∀ x ∈ wsX00, x ∈ wsX0_insert := by decide +kernel
  refine lv_iload_n hx hb dX0_insert_0 rfl (lv_at hl 1 rfl) ?_
  refine lv_istore_n (lv' := [(3, .int (nI k)), (0, .ref b), (1, .int (nI k)), (2, .int x)]) hx hb dX0_insert_1 rfl hl (by decide) rfl (fun ls hl => ?_)
  have L2 : ∀ (n9 : Nat) (j : Nat) (f1 : Nat → Int32) (hj : j < 6) (he : insG f1 x j = insG f x k), j < n9 → ∀ (H : Heap) (locs : List Loc), va_P D vwCl [(b, .inr (0, [.ref g, .ref bt, .ref bc, .ref bs, .int hg])), (bc, .inl (cI, 6, .inl f1))] H → va_D A [(b, .inr (0, [.ref g, .ref bt, .ref bc, .ref bs, .int hg])), (bc, .inl (cI, 6, .inl f1))] → va_S A s.heap H locs → ∀ (ls : Array Slot), lv_has ls 4 [(0, .ref b), (1, .int (nI k)), (2, .int x), (3, .int (nI j))] → W p l e rm_X0_insert s m args below meth c H locs 0 0 Q (F0 m 2 ls []) := by
    intro n9
    induction n9 with
    | zero => intro j f1 hj he hm; exact absurd hm (Nat.not_lt_zero _)
    | succ n9 ih2 =>
      intro j f1 hj he hm2 H locs hP hD hS ls hl
      refine lv_iload_n hx hb dX0_insert_2 rfl (lv_at hl 3 rfl) ?_
      refine if_le_n (a := j) (tgt := 38) hx hb dX0_insert_3 (by decide) (by omega) (fun c3 => ?_) (fun c3 => ?_)
      · refine lv_aload_n hx hb dX0_insert_38 rfl (lv_at hl 0 rfl) ?_
        refine va_get (D := D) (ci := 0) (v := .ref bc) (C := RX0) (T := TX0) (N := 5) hx hb hts hi0 hown hK hP 0 rfl rfl 2 (by decide) hw0 (fun _ h9 => h9) rfl dX0_insert_39 ?_
        refine lv_iload_n hx hb dX0_insert_42 rfl (lv_at hl 3 rfl) ?_
        refine lv_iload_n hx hb dX0_insert_43 rfl (lv_at hl 2 rfl) ?_
        refine iast_n (k := j) hx hb hK hP hD hS 1 0 rfl rfl (by omega) (by omega) dX0_insert_44 (fun H locs hP hD hS => ?_)
        have hP : va_P D vwCl [(b, .inr (0, [.ref g, .ref bt, .ref bc, .ref bs, .int hg])), (bc, .inl (cI, 6, .inl (upd f1 j x)))] H := hP
        have hD : va_D A [(b, .inr (0, [.ref g, .ref bt, .ref bc, .ref bs, .int hg])), (bc, .inl (cI, 6, .inl (upd f1 j x)))] := hD
        have e9 : upd f1 j x = insG f x k := by rw [← he, c3]; rfl
        rw [e9] at hP hD
        exact hret (()) _ _ _ _ dX0_insert_45 trivial hP hD hS
      · refine lv_aload_n hx hb dX0_insert_6 rfl (lv_at hl 0 rfl) ?_
        refine va_get (D := D) (ci := 0) (v := .ref bc) (C := RX0) (T := TX0) (N := 5) hx hb hts hi0 hown hK hP 0 rfl rfl 2 (by decide) hw0 (fun _ h9 => h9) rfl dX0_insert_7 ?_
        refine lv_iload_n hx hb dX0_insert_10 rfl (lv_at hl 3 rfl) ?_
        refine lv_iconst (v := nI 1) hx hb dX0_insert_11 (by decide) ?_
        refine isub_n (a := j) (b := 1) hx hb dX0_insert_12 (by omega) ?_
        refine iald_n (k := j - 1) hx hb hK hP 1 0 rfl rfl (by omega) (by omega) dX0_insert_13 ?_
        refine lv_iload_n hx hb dX0_insert_14 rfl (lv_at hl 2 rfl) ?_
        refine lv_icmp_le (tgt := 38) hx hb dX0_insert_15 (by decide) (fun c15 => ?_) (fun c15 => ?_)
        · refine lv_aload_n hx hb dX0_insert_38 rfl (lv_at hl 0 rfl) ?_
          refine va_get (D := D) (ci := 0) (v := .ref bc) (C := RX0) (T := TX0) (N := 5) hx hb hts hi0 hown hK hP 0 rfl rfl 2 (by decide) hw0 (fun _ h9 => h9) rfl dX0_insert_39 ?_
          refine lv_iload_n hx hb dX0_insert_42 rfl (lv_at hl 3 rfl) ?_
          refine lv_iload_n hx hb dX0_insert_43 rfl (lv_at hl 2 rfl) ?_
          refine iast_n (k := j) hx hb hK hP hD hS 1 0 rfl rfl (by omega) (by omega) dX0_insert_44 (fun H locs hP hD hS => ?_)
          have hP : va_P D vwCl [(b, .inr (0, [.ref g, .ref bt, .ref bc, .ref bs, .int hg])), (bc, .inl (cI, 6, .inl (upd f1 j x)))] H := hP
          have hD : va_D A [(b, .inr (0, [.ref g, .ref bt, .ref bc, .ref bs, .int hg])), (bc, .inl (cI, 6, .inl (upd f1 j x)))] := hD
          have e9 : upd f1 j x = insG f x k := by rw [← he]; obtain ⟨i, rfl⟩ : ∃ i, j = i + 1 := ⟨j - 1, by omega⟩; exact (if_pos c15).symm
          rw [e9] at hP hD
          exact hret (()) _ _ _ _ dX0_insert_45 trivial hP hD hS
        · refine lv_aload_n hx hb dX0_insert_18 rfl (lv_at hl 0 rfl) ?_
          refine va_get (D := D) (ci := 0) (v := .ref bc) (C := RX0) (T := TX0) (N := 5) hx hb hts hi0 hown hK hP 0 rfl rfl 2 (by decide) hw0 (fun _ h9 => h9) rfl dX0_insert_19 ?_
          refine lv_iload_n hx hb dX0_insert_22 rfl (lv_at hl 3 rfl) ?_
          refine lv_aload_n hx hb dX0_insert_23 rfl (lv_at hl 0 rfl) ?_
          refine va_get (D := D) (ci := 0) (v := .ref bc) (C := RX0) (T := TX0) (N := 5) hx hb hts hi0 hown hK hP 0 rfl rfl 2 (by decide) hw0 (fun _ h9 => h9) rfl dX0_insert_24 ?_
          refine lv_iload_n hx hb dX0_insert_27 rfl (lv_at hl 3 rfl) ?_
          refine lv_iconst (v := nI 1) hx hb dX0_insert_28 (by decide) ?_
          refine isub_n (a := j) (b := 1) hx hb dX0_insert_29 (by omega) ?_
          refine iald_n (k := j - 1) hx hb hK hP 1 0 rfl rfl (by omega) (by omega) dX0_insert_30 ?_
          refine iast_n (k := j) hx hb hK hP hD hS 1 0 rfl rfl (by omega) (by omega) dX0_insert_31 (fun H locs hP hD hS => ?_)
          have hP : va_P D vwCl [(b, .inr (0, [.ref g, .ref bt, .ref bc, .ref bs, .int hg])), (bc, .inl (cI, 6, .inl (upd f1 j (f1 (j - 1)))))] H := hP
          have hD : va_D A [(b, .inr (0, [.ref g, .ref bt, .ref bc, .ref bs, .int hg])), (bc, .inl (cI, 6, .inl (upd f1 j (f1 (j - 1)))))] := hD
          refine lv_iinc (v := nI (j - 1)) (lv' := [(3, .int (nI (j - 1))), (0, .ref b), (1, .int (nI k)), (2, .int x)]) hx hb dX0_insert_32 hl (k := 3) rfl (by have h9 : 1 ≤ j := (by omega); rw [show j = (j - 1) + 1 by omega]; exact pk_m1 _) (by decide) rfl (fun ls hl => ?_)
          refine lv_goto (tgt := 2) hx hb dX0_insert_35 (by decide) ?_
          exact ih2 (j - 1) (upd f1 j (f1 (j - 1))) ((by omega)) ((by rw [← he]; obtain ⟨i, rfl⟩ : ∃ i, j = i + 1 := ⟨j - 1, by omega⟩; exact (if_neg c15).symm)) (by omega) _ _ hP hD hS _ (lv_sub hl [1, 2, 3, 0] rfl)
  exact L2 _ k f hk rfl (Nat.lt_succ_self _) _ _ hP hD hS _ (lv_sub hl [1, 2, 3, 0] rfl)

abbrev rm_X8_powerOf : Room := { frames := 0, cells := 0, slots := 0, locals := 0 }
set_option maxHeartbeats 1000000 in
set_option maxRecDepth 100000 in
theorem c_powerOf (l : Launch) (D : va_G) (cI cJ cZ cG cM : ClassId) (o me ml mb mt ms mp my mc mk mw mo mq mi mz : Nat) (fi si sn la ah ri lh : Int32) (n nl : Nat) (v k9 : Nat) (hk9 : k9 < 1000000) :
    CI l yX8_powerOf wsX8_powerOf rm_X8_powerOf D [(cI, .int), (cJ, .long), (cZ, .boolean), (cG, .object "LatestSets$Guild"), (cM, .array .int)] [(o, .inr (8, [.int (nI n), .ref me, .ref ml, .ref mb, .int fi, .int (nI nl), .ref mt, .int si, .ref ms, .int sn, .ref mp, .ref my, .ref mc, .int la, .ref mk, .ref mw, .int ah, .int ri, .int lh, .ref mo, .ref mq, .ref mi, .ref mz]))] [.ref o, .int (nI v), .int (nI k9)] (S := Unit) (fun r u => r = nI (v ^ k9)) (fun u => [(o, .inr (8, [.int (nI n), .ref me, .ref ml, .ref mb, .int fi, .int (nI nl), .ref mt, .int si, .ref ms, .int sn, .ref mp, .ref my, .ref mc, .int la, .ref mk, .ref mw, .int ah, .int ri, .int lh, .ref mo, .ref mq, .ref mi, .ref mz]))]) := by
  refine si_of (cc := cX8_powerOf) (maxL := 5) (by decide) rfl (Nat.le_of_ble_eq_true rfl) ?_
  intro p e s m args below meth c A ls Q E hret
  obtain ⟨hx, hb, -, hml, hown, hts, -, hin, hA, hK, hP, hD, hS, hl, hN⟩ := E
  have hown : s.vm.findClass RX8 = some m.cls := hown
  have hl : lv_has ls 5 [(0, .ref o), (1, .int (nI v)), (2, .int (nI k9))] := hl
  have SF : CallFix p m c cX8_powerOf 5 s args wsX8_powerOf RX8 := ⟨hx, hb, hml, hown, hts⟩
  refine lv_iconst (v := nI 1) hx hb dX8_powerOf_0 (by decide) ?_
  refine lv_istore_n (lv' := [(3, .int (nI 1)), (0, .ref o), (1, .int (nI v)), (2, .int (nI k9))]) hx hb dX8_powerOf_1 rfl hl (by decide) rfl (fun ls hl => ?_)
  refine lv_iconst (v := nI 0) hx hb dX8_powerOf_2 (by decide) ?_
  refine lv_istore (lv' := [(4, .int (nI 0)), (3, .int (nI 1)), (0, .ref o), (1, .int (nI v)), (2, .int (nI k9))]) hx hb dX8_powerOf_3 hl (by decide) rfl (fun ls hl => ?_)
  have L5 : ∀ (n9 : Nat) (k : Nat) (hk : k ≤ k9), k9 - k < n9 → ∀ (H : Heap) (locs : List Loc), va_P D vwCl [(o, .inr (8, [.int (nI n), .ref me, .ref ml, .ref mb, .int fi, .int (nI nl), .ref mt, .int si, .ref ms, .int sn, .ref mp, .ref my, .ref mc, .int la, .ref mk, .ref mw, .int ah, .int ri, .int lh, .ref mo, .ref mq, .ref mi, .ref mz]))] H → va_D A [(o, .inr (8, [.int (nI n), .ref me, .ref ml, .ref mb, .int fi, .int (nI nl), .ref mt, .int si, .ref ms, .int sn, .ref mp, .ref my, .ref mc, .int la, .ref mk, .ref mw, .int ah, .int ri, .int lh, .ref mo, .ref mq, .ref mi, .ref mz]))] → va_S A s.heap H locs → ∀ (ls : Array Slot), lv_has ls 5 [(0, .ref o), (1, .int (nI v)), (2, .int (nI k9)), (3, .int (nI (v ^ k))), (4, .int (nI k))] → W p l e rm_X8_powerOf s m args below meth c H locs 0 0 Q (F0 m 5 ls []) := by
    intro n9
    induction n9 with
    | zero => intro k hk hm; exact absurd hm (Nat.not_lt_zero _)
    | succ n9 ih5 =>
      intro k hk hm5 H locs hP hD hS ls hl
      refine lv_iload hx hb dX8_powerOf_5 (lv_at hl 4 rfl) ?_
      refine lv_iload_n hx hb dX8_powerOf_7 rfl (lv_at hl 2 rfl) ?_
      refine icmp_ge_n (a := k) (b := k9) (tgt := 21) hx hb dX8_powerOf_8 (by decide) (by omega) (by omega) (fun c8 => ?_) (fun c8 => ?_)
      · refine lv_iload_n hx hb dX8_powerOf_21 rfl (lv_at hl 3 rfl) ?_
        have e9 : k = k9 := by omega
        exact hret (nI (v ^ k)) (()) _ _ _ _ dX8_powerOf_22 (by rw [e9]) hP hD hS
      · refine lv_iload_n hx hb dX8_powerOf_11 rfl (lv_at hl 3 rfl) ?_
        refine lv_iload_n hx hb dX8_powerOf_12 rfl (lv_at hl 1 rfl) ?_
        refine imul_n (a := v ^ k) (b := v) hx hb dX8_powerOf_13 ?_
        refine lv_istore_n (lv' := [(3, .int (nI ((v ^ k) * v))), (0, .ref o), (1, .int (nI v)), (2, .int (nI k9)), (4, .int (nI k))]) hx hb dX8_powerOf_14 rfl hl (by decide) rfl (fun ls hl => ?_)
        refine lv_iinc (v := nI (k + 1)) (lv' := [(4, .int (nI (k + 1))), (3, .int (nI ((v ^ k) * v))), (0, .ref o), (1, .int (nI v)), (2, .int (nI k9))]) hx hb dX8_powerOf_15 hl (k := 4) rfl (nI_1 k) (by decide) rfl (fun ls hl => ?_)
        refine lv_goto (tgt := 5) hx hb dX8_powerOf_18 (by decide) ?_
        have e8 : nI ((v ^ k) * v) = nI (v ^ (k + 1)) := by rw [Nat.pow_succ]
        have hl : lv_has ls 5 [(4, .int (nI (k + 1))), (3, .int (nI (v ^ (k + 1)))), (0, .ref o), (1, .int (nI v)), (2, .int (nI k9))] := by rw [← e8]; exact hl
        exact ih5 (k + 1) ((by omega)) (by omega) _ _ hP hD hS _ (lv_sub hl [2, 3, 4, 1, 0] rfl)
  have e8 : nI 1 = nI (v ^ 0) := rfl
  have hl : lv_has ls 5 [(4, .int (nI 0)), (3, .int (nI (v ^ 0))), (0, .ref o), (1, .int (nI v)), (2, .int (nI k9))] := by rw [← e8]; exact hl
  exact L5 _ 0 ((Nat.zero_le _)) (Nat.lt_succ_self _) _ _ hP hD hS _ (lv_sub hl [2, 3, 4, 1, 0] rfl)

abbrev rm_X8_layBy : Room := { frames := 0, cells := 0, slots := 0, locals := 0 }
set_option maxHeartbeats 1000000 in
set_option maxRecDepth 100000 in
theorem c_layBy (l : Launch) (D : va_G) (cI cJ cZ cG cM : ClassId) (o me ml mb mt ms mp my mc mk mw mo mq mi mz : Nat) (fi si sn la ah ri lh : Int32) (n nl : Nat) (fb : Nat → Int32) (wy : Nat) (h6 : n ≤ 6) (hwy : wy < 4096) :
    CV l yX8_layBy wsX8_layBy rm_X8_layBy D [(cI, .int), (cJ, .long), (cZ, .boolean), (cG, .object "LatestSets$Guild"), (cM, .array .int)] [(o, .inr (8, [.int (nI n), .ref me, .ref ml, .ref mb, .int fi, .int (nI nl), .ref mt, .int si, .ref ms, .int sn, .ref mp, .ref my, .ref mc, .int la, .ref mk, .ref mw, .int ah, .int ri, .int lh, .ref mo, .ref mq, .ref mi, .ref mz])), (my, .inl (cI, 6, .inl fb))] [.ref o, .int (nI wy), .int (nI 4)] (S := (Nat → Int32)) (fun u => ∀ j, j < n → u j = nI (d4 n wy j)) (fun u => [(o, .inr (8, [.int (nI n), .ref me, .ref ml, .ref mb, .int fi, .int (nI nl), .ref mt, .int si, .ref ms, .int sn, .ref mp, .ref my, .ref mc, .int la, .ref mk, .ref mw, .int ah, .int ri, .int lh, .ref mo, .ref mq, .ref mi, .ref mz])), (my, .inl (cI, 6, .inl u))]) := by
  refine sv_of (cc := cX8_layBy) (maxL := 5) (by decide) rfl (Nat.le_of_ble_eq_true rfl) ?_
  intro p e s m args below meth c A ls Q E hret
  obtain ⟨hx, hb, -, hml, hown, hts, -, hin, hA, hK, hP, hD, hS, hl, hN⟩ := E
  have hown : s.vm.findClass RX8 = some m.cls := hown
  have hl : lv_has ls 5 [(0, .ref o), (1, .int (nI wy)), (2, .int (nI 4))] := hl
  have SF : CallFix p m c cX8_layBy 5 s args wsX8_layBy RX8 := ⟨hx, hb, hml, hown, hts⟩
  have hw0 := hts (.fieldLink RX8 7 "LatestSetsModel" "members" "I") (by decide +kernel)
  have hi8 : ∀ x ∈ wsX80, x ∈ wsX8_layBy := by decide +kernel
  have hw2 := hts (.fieldLink RX8 38 "LatestSetsModel" "by" "[I") (by decide +kernel)
  refine lv_iload_n hx hb dX8_layBy_0 rfl (lv_at hl 1 rfl) ?_
  refine lv_istore_n (lv' := [(3, .int (nI wy)), (0, .ref o), (1, .int (nI wy)), (2, .int (nI 4))]) hx hb dX8_layBy_1 rfl hl (by decide) rfl (fun ls hl => ?_)
  refine lv_aload_n hx hb dX8_layBy_2 rfl (lv_at hl 1 rfl) ?_
  refine va_get (D := D) (ci := 8) (v := .int (nI n)) (C := RX8) (T := TX8) (N := 23) hx hb hts hi8 hown hK hP 0 rfl rfl 0 (by decide) hw0 (fun _ h9 => h9) rfl dX8_layBy_3 ?_
  refine lv_iconst (v := nI 1) hx hb dX8_layBy_6 (by decide) ?_
  refine lv_isub hx hb dX8_layBy_7 ?_
  refine lv_topi (fun y9 e9 => ?_)
  have e9 : nI n + (-1) = y9 := (e9.trans (i_sub1 _)).symm
  subst e9
  refine lv_istore (lv' := [(4, .int (nI n + (-1))), (3, .int (nI wy)), (0, .ref o), (1, .int (nI wy)), (2, .int (nI 4))]) hx hb dX8_layBy_8 hl (by decide) rfl (fun ls hl => ?_)
  have L10 : ∀ (n9 : Nat) (q : Nat) (f : Nat → Int32) (hq : q ≤ n) (hf : ∀ j, q ≤ j → j < n → f j = nI (d4 n wy j)), q < n9 → ∀ (H : Heap) (locs : List Loc), va_P D vwCl [(o, .inr (8, [.int (nI n), .ref me, .ref ml, .ref mb, .int fi, .int (nI nl), .ref mt, .int si, .ref ms, .int sn, .ref mp, .ref my, .ref mc, .int la, .ref mk, .ref mw, .int ah, .int ri, .int lh, .ref mo, .ref mq, .ref mi, .ref mz])), (my, .inl (cI, 6, .inl f))] H → va_D A [(o, .inr (8, [.int (nI n), .ref me, .ref ml, .ref mb, .int fi, .int (nI nl), .ref mt, .int si, .ref ms, .int sn, .ref mp, .ref my, .ref mc, .int la, .ref mk, .ref mw, .int ah, .int ri, .int lh, .ref mo, .ref mq, .ref mi, .ref mz])), (my, .inl (cI, 6, .inl f))] → va_S A s.heap H locs → ∀ (ls : Array Slot), lv_has ls 5 [(0, .ref o), (1, .int (nI wy)), (2, .int (nI 4)), (3, .int (nI (wy / 4 ^ (n - q)))), (4, .int (nI q + (-1)))] → W p l e rm_X8_layBy s m args below meth c H locs 0 0 Q (F0 m 10 ls []) := by
    intro n9
    induction n9 with
    | zero => intro q f hq hf hm; exact absurd hm (Nat.not_lt_zero _)
    | succ n9 ih10 =>
      intro q f hq hf hm10 H locs hP hD hS ls hl
      rcases Nat.eq_zero_or_pos q with e9 | e9
      · subst e9
        have e8 : nI 0 + (-1) = (-1 : Int32) := by decide
        rw [e8] at hl
        refine lv_iload hx hb dX8_layBy_10 (lv_at hl 4 rfl) ?_
        refine lv_if_lt (tgt := 35) hx hb dX8_layBy_12 (by decide) (fun _ => ?_) (fun c9 => absurd (by decide) c9)
        exact hret f _ _ _ _ dX8_layBy_35 (fun j hj => hf j (Nat.zero_le _) hj) hP hD hS
      · obtain ⟨j, rfl⟩ : ∃ i, q = i + 1 := ⟨q - 1, by omega⟩
        rw [pk_m1] at hl
        have hdl := Nat.div_le_self wy (4 ^ (n - (j + 1)))
        refine lv_iload hx hb dX8_layBy_10 (lv_at hl 4 rfl) ?_
        refine lv_if_lt (tgt := 35) hx hb dX8_layBy_12 (by decide) (fun c12 => ?_) (fun c12 => ?_)
        · exact absurd c12 (nI_pos (by omega))
        · refine lv_aload_n hx hb dX8_layBy_15 rfl (lv_at hl 0 rfl) ?_
          refine va_get (D := D) (ci := 8) (v := .ref my) (C := RX8) (T := TX8) (N := 23) hx hb hts hi8 hown hK hP 0 rfl rfl 11 (by decide) hw2 (fun _ h9 => h9) rfl dX8_layBy_16 ?_
          refine lv_iload hx hb dX8_layBy_19 (lv_at hl 4 rfl) ?_
          refine lv_iload_n hx hb dX8_layBy_21 rfl (lv_at hl 3 rfl) ?_
          refine lv_iload_n hx hb dX8_layBy_22 rfl (lv_at hl 2 rfl) ?_
          refine irem_n (a := wy / 4 ^ (n - (j + 1))) (b := 4) hx hb dX8_layBy_23 (by omega) (by omega) (by omega) ?_
          refine lv_topi (fun y9 e9 => ?_)
          have e9 : nI (d4 n wy j) = y9 := (e9.trans (by unfold d4; rw [show n - 1 - j = n - (j + 1) by omega])).symm
          subst e9
          refine iast_n (k := j) hx hb hK hP hD hS 1 0 rfl rfl (by omega) (by omega) dX8_layBy_24 (fun H locs hP hD hS => ?_)
          have hP : va_P D vwCl [(o, .inr (8, [.int (nI n), .ref me, .ref ml, .ref mb, .int fi, .int (nI nl), .ref mt, .int si, .ref ms, .int sn, .ref mp, .ref my, .ref mc, .int la, .ref mk, .ref mw, .int ah, .int ri, .int lh, .ref mo, .ref mq, .ref mi, .ref mz])), (my, .inl (cI, 6, .inl (upd f j (nI (d4 n wy j)))))] H := hP
          have hD : va_D A [(o, .inr (8, [.int (nI n), .ref me, .ref ml, .ref mb, .int fi, .int (nI nl), .ref mt, .int si, .ref ms, .int sn, .ref mp, .ref my, .ref mc, .int la, .ref mk, .ref mw, .int ah, .int ri, .int lh, .ref mo, .ref mq, .ref mi, .ref mz])), (my, .inl (cI, 6, .inl (upd f j (nI (d4 n wy j)))))] := hD
          refine lv_iload_n hx hb dX8_layBy_25 rfl (lv_at hl 3 rfl) ?_
          refine lv_iload_n hx hb dX8_layBy_26 rfl (lv_at hl 2 rfl) ?_
          refine idiv_n (a := wy / 4 ^ (n - (j + 1))) (b := 4) hx hb dX8_layBy_27 (by omega) (by omega) (by omega) ?_
          refine lv_istore_n (lv' := [(3, .int (nI ((wy / 4 ^ (n - (j + 1))) / 4))), (0, .ref o), (1, .int (nI wy)), (2, .int (nI 4)), (4, .int (nI j))]) hx hb dX8_layBy_28 rfl hl (by decide) rfl (fun ls hl => ?_)
          refine lv_iinc (v := nI j + (-1)) (lv' := [(4, .int (nI j + (-1))), (3, .int (nI ((wy / 4 ^ (n - (j + 1))) / 4))), (0, .ref o), (1, .int (nI wy)), (2, .int (nI 4))]) hx hb dX8_layBy_29 hl (k := 4) rfl rfl (by decide) rfl (fun ls hl => ?_)
          refine lv_goto (tgt := 10) hx hb dX8_layBy_32 (by decide) ?_
          have e8 : nI ((wy / 4 ^ (n - (j + 1))) / 4) = nI (wy / 4 ^ (n - j)) := by rw [show n - j = n - (j + 1) + 1 by omega, Nat.pow_succ, Nat.div_div_eq_div_mul]
          have hl : lv_has ls 5 [(4, .int (nI j + (-1))), (3, .int (nI (wy / 4 ^ (n - j)))), (0, .ref o), (1, .int (nI wy)), (2, .int (nI 4))] := by rw [← e8]; exact hl
          exact ih10 j (upd f j (nI (d4 n wy j))) ((by omega)) ((fun i a9 b9 => by rcases Nat.lt_or_ge j i with z | z; (exact (pk_un (by omega)).trans (hf i z b9)); (rw [show i = j by omega, pk_us]))) (by omega) _ _ hP hD hS _ (lv_sub hl [2, 3, 4, 1, 0] rfl)
  have e8 : nI wy = nI (wy / 4 ^ (n - n)) := by rw [Nat.sub_self, Nat.pow_zero, Nat.div_one]
  have hl : lv_has ls 5 [(4, .int (nI n + (-1))), (3, .int (nI (wy / 4 ^ (n - n)))), (0, .ref o), (1, .int (nI wy)), (2, .int (nI 4))] := by rw [← e8]; exact hl
  exact L10 _ n fb ((Nat.le_refl _)) ((fun j a9 b9 => absurd a9 (by omega))) (Nat.lt_succ_self _) _ _ hP hD hS _ (lv_sub hl [2, 3, 4, 1, 0] rfl)

abbrev rm_X8_rest : Room := { frames := 1, cells := 0, slots := 0, locals := 24 }
set_option maxHeartbeats 1000000 in
set_option maxRecDepth 100000 in
theorem c_rest8 (l : Launch) (D : va_G) (cI cJ cZ cG cM : ClassId) (o me ml mb mt ms mp my mc mk mw mo mq mi mz : Nat) (fi si sn la ah ri lh : Int32) (n nl : Nat) (ff : Nat) (fs fe fbs nf : Nat → Int32) (h1 : 1 ≤ n) (h6 : n ≤ 6) (hff : ff ≤ 9) (hfb : ∀ j, j < n → ∃ b : Nat, b ≤ 23 ∧ fbs j = nI b) (x wy : Nat) (hwy : wy < 4 ^ n) (hnf : ∀ j, j < 4 ^ n → nf j = nI (nbN (fun z9 => nxG fs nl n fe z9 (nI 0)) n x j)) :
    CI l yX8_rest wsX8_rest rm_X8_rest D [(cI, .int), (cJ, .long), (cZ, .boolean), (cG, .object "LatestSets$Guild"), (cM, .array .int)] [(o, .inr (8, [.int (nI n), .ref me, .ref ml, .ref mb, .int (nI ff), .int (nI nl), .ref mt, .int si, .ref ms, .int sn, .ref mp, .ref my, .ref mc, .int la, .ref mk, .ref mw, .int ah, .int ri, .int lh, .ref mo, .ref mq, .ref mi, .ref mz])), (mb, .inl (cI, 6, .inl fbs)), (mo, .inl (cI, 4096, .inl nf))] [.ref o, .int (nI wy)] (S := Unit) (fun r u => bz ((RSb (fun j => nbN (fun z9 => nxG fs nl n fe z9 (nI 0)) n x j) ff n (fun j => (fbs j).toNatClampNeg)) wy = true) r) (fun u => [(o, .inr (8, [.int (nI n), .ref me, .ref ml, .ref mb, .int (nI ff), .int (nI nl), .ref mt, .int si, .ref ms, .int sn, .ref mp, .ref my, .ref mc, .int la, .ref mk, .ref mw, .int ah, .int ri, .int lh, .ref mo, .ref mq, .ref mi, .ref mz])), (mb, .inl (cI, 6, .inl fbs)), (mo, .inl (cI, 4096, .inl nf))]) := by
  refine sz_of (cc := cX8_rest) (maxL := 9) (by decide) rfl (Nat.le_of_ble_eq_true rfl) ?_
  intro p e s m args below meth c A ls Q E hret
  obtain ⟨hx, hb, -, hml, hown, hts, -, hin, hA, hK, hP, hD, hS, hl, hN⟩ := E
  have hown : s.vm.findClass RX8 = some m.cls := hown
  have hl : lv_has ls 9 [(0, .ref o), (1, .int (nI wy))] := hl
  have SF : CallFix p m c cX8_rest 9 s args wsX8_rest RX8 := ⟨hx, hb, hml, hown, hts⟩
  have hw0 := hts (.fieldLink RX8 7 "LatestSetsModel" "members" "I") (by decide +kernel)
  have hi8 : ∀ x ∈ wsX80, x ∈ wsX8_rest := by decide +kernel
  have hw2 := hts (.fieldLink RX8 50 "LatestSetsModel" "outcome" "[I") (by decide +kernel)
  have hw3 := hts (.fieldLink RX8 20 "LatestSetsModel" "best" "[I") (by decide +kernel)
  have hw4 := hts (.fieldLink RX8 23 "LatestSetsModel" "fine" "I") (by decide +kernel)
  have hp4 := p4_le h6
  refine lv_iconst (v := nI 1) hx hb dX8_rest_0 (by decide) ?_
  refine lv_istore_n (lv' := [(2, .int (nI 1)), (0, .ref o), (1, .int (nI wy))]) hx hb dX8_rest_1 rfl hl (by decide) rfl (fun ls hl => ?_)
  refine lv_iconst (v := nI 0) hx hb dX8_rest_2 (by decide) ?_
  refine lv_istore_n (lv' := [(3, .int (nI 0)), (2, .int (nI 1)), (0, .ref o), (1, .int (nI wy))]) hx hb dX8_rest_3 rfl hl (by decide) rfl (fun ls hl => ?_)
  have L4 : ∀ (n9 : Nat) (m9 : Nat) (hm9 : m9 ≤ n), n - m9 < n9 → ∀ (H : Heap) (locs : List Loc), va_P D vwCl [(o, .inr (8, [.int (nI n), .ref me, .ref ml, .ref mb, .int (nI ff), .int (nI nl), .ref mt, .int si, .ref ms, .int sn, .ref mp, .ref my, .ref mc, .int la, .ref mk, .ref mw, .int ah, .int ri, .int lh, .ref mo, .ref mq, .ref mi, .ref mz])), (mb, .inl (cI, 6, .inl fbs)), (mo, .inl (cI, 4096, .inl nf))] H → va_D A [(o, .inr (8, [.int (nI n), .ref me, .ref ml, .ref mb, .int (nI ff), .int (nI nl), .ref mt, .int si, .ref ms, .int sn, .ref mp, .ref my, .ref mc, .int la, .ref mk, .ref mw, .int ah, .int ri, .int lh, .ref mo, .ref mq, .ref mi, .ref mz])), (mb, .inl (cI, 6, .inl fbs)), (mo, .inl (cI, 4096, .inl nf))] → va_S A s.heap H locs → ∀ (ls : Array Slot), lv_has ls 9 [(0, .ref o), (1, .int (nI wy)), (2, .int (nI ((alB m9 (RSm (fun j => nbN (fun z9 => nxG fs nl n fe z9 (nI 0)) n x j) ff n (fun j => (fbs j).toNatClampNeg) wy)).toNat))), (3, .int (nI m9))] → W p l e rm_X8_rest s m args below meth c H locs 0 0 Q (F0 m 4 ls []) := by
    intro n9
    induction n9 with
    | zero => intro m9 hm9 hm; exact absurd hm (Nat.not_lt_zero _)
    | succ n9 ih4 =>
      intro m9 hm9 hm4 H locs hP hD hS ls hl
      refine lv_iload_n hx hb dX8_rest_4 rfl (lv_at hl 3 rfl) ?_
      refine lv_aload_n hx hb dX8_rest_5 rfl (lv_at hl 0 rfl) ?_
      refine va_get (D := D) (ci := 8) (v := .int (nI n)) (C := RX8) (T := TX8) (N := 23) hx hb hts hi8 hown hK hP 0 rfl rfl 0 (by decide) hw0 (fun _ h9 => h9) rfl dX8_rest_6 ?_
      refine icmp_ge_n (a := m9) (b := n) (tgt := 132) hx hb dX8_rest_9 (by decide) (by omega) (by omega) (fun c9 => ?_) (fun c9 => ?_)
      · have e9 : m9 = n := by omega
        rcases Bool.eq_false_or_eq_true (alB m9 (RSm (fun j => nbN (fun z9 => nxG fs nl n fe z9 (nI 0)) n x j) ff n (fun j => (fbs j).toNatClampNeg) wy)) with hb9 | hb9
        · have e8 : nI ((alB m9 (RSm (fun j => nbN (fun z9 => nxG fs nl n fe z9 (nI 0)) n x j) ff n (fun j => (fbs j).toNatClampNeg) wy)).toNat) = nI 1 := by rw [hb9]; rfl
          have hl : lv_has ls 9 [(0, .ref o), (1, .int (nI wy)), (2, .int (nI 1)), (3, .int (nI m9))] := by rw [← e8]; exact hl
          rw [e9] at hb9
          refine lv_iload_n hx hb dX8_rest_132 rfl (lv_at hl 2 rfl) ?_
          exact hret (nI 1) (()) _ _ _ _ dX8_rest_133 rfl (bz1 hb9) hP hD hS
        · have e8 : nI ((alB m9 (RSm (fun j => nbN (fun z9 => nxG fs nl n fe z9 (nI 0)) n x j) ff n (fun j => (fbs j).toNatClampNeg) wy)).toNat) = nI 0 := by rw [hb9]; rfl
          have hl : lv_has ls 9 [(0, .ref o), (1, .int (nI wy)), (2, .int (nI 0)), (3, .int (nI m9))] := by rw [← e8]; exact hl
          rw [e9] at hb9
          refine lv_iload_n hx hb dX8_rest_132 rfl (lv_at hl 2 rfl) ?_
          exact hret (nI 0) (()) _ _ _ _ dX8_rest_133 rfl (bz0 (fun z => absurd (hb9.symm.trans z) (by decide))) hP hD hS
      · have hm9l : m9 < n := by omega
        obtain ⟨hbe, hb23⟩ := fb_n hfb m9 hm9l
        have hd4 := d4_le n wy m9
        have hdm := d4_mul n wy m9
        have hn9 := nbN_le (G := (fun z9 => nxG fs nl n fe z9 (nI 0))) (fun _ => FR_G _ _ _ _ _ _) n x wy
        have hff9 : ff * d4 n wy m9 ≤ 9 * 3 := Nat.mul_le_mul hff hd4
        have hds := dsN_le hn9 hb23
        have hpp := p4_pos (n - 1 - m9)
        have hpl := p4_le (k := n - 1 - m9) (by omega)
        have hdv := Nat.div_le_self wy (4 ^ (n - 1 - m9))
        refine lv_aload_n hx hb dX8_rest_12 rfl (lv_at hl 0 rfl) ?_
        refine lv_iconst (v := nI 4) hx hb dX8_rest_13 (by decide) ?_
        refine lv_aload_n hx hb dX8_rest_14 rfl (lv_at hl 0 rfl) ?_
        refine va_get (D := D) (ci := 8) (v := .int (nI n)) (C := RX8) (T := TX8) (N := 23) hx hb hts hi8 hown hK hP 0 rfl rfl 0 (by decide) hw0 (fun _ h9 => h9) rfl dX8_rest_15 ?_
        refine lv_iconst (v := nI 1) hx hb dX8_rest_18 (by decide) ?_
        refine isub_n (a := n) (b := 1) hx hb dX8_rest_19 (by omega) ?_
        refine lv_iload_n hx hb dX8_rest_20 rfl (lv_at hl 3 rfl) ?_
        refine isub_n (a := n - 1) (b := m9) hx hb dX8_rest_21 (by omega) ?_
        refine cal_i (run_V (As := [.int (nI 4), .int (nI ((n - 1) - m9))]) (rest := []) SF (c_powerOf l D cI cJ cZ cG cM o me ml mb mt ms mp my mc mk mw mo mq mi mz (nI ff) si sn la ah ri lh n nl 4 ((n - 1) - m9) (by omega)) (cwV 2 hts gX8_rest_X8_powerOf rfl rfl rfl (by decide +kernel) ⟨Nat.le_of_ble_eq_true rfl, Nat.le_of_ble_eq_true rfl⟩) hN hK hP hD [0] rfl (by decide) 8 0 rfl rfl rfl rfl hl.1 rfl (Nat.le_of_ble_eq_true rfl) dX8_rest_22 ⟨Nat.le_of_ble_eq_true rfl, Nat.le_of_ble_eq_true rfl⟩) ⟨rfl, rfl⟩ hP hD hS hA [0] rfl (fun _ => rfl) (fun r22 _ H locs hw hP hD hS => ?_)
        have hP : va_P D vwCl [(o, .inr (8, [.int (nI n), .ref me, .ref ml, .ref mb, .int (nI ff), .int (nI nl), .ref mt, .int si, .ref ms, .int sn, .ref mp, .ref my, .ref mc, .int la, .ref mk, .ref mw, .int ah, .int ri, .int lh, .ref mo, .ref mq, .ref mi, .ref mz])), (mb, .inl (cI, 6, .inl fbs)), (mo, .inl (cI, 4096, .inl nf))] H := hP
        have hD : va_D A [(o, .inr (8, [.int (nI n), .ref me, .ref ml, .ref mb, .int (nI ff), .int (nI nl), .ref mt, .int si, .ref ms, .int sn, .ref mp, .ref my, .ref mc, .int la, .ref mk, .ref mw, .int ah, .int ri, .int lh, .ref mo, .ref mq, .ref mi, .ref mz])), (mb, .inl (cI, 6, .inl fbs)), (mo, .inl (cI, 4096, .inl nf))] := hD
        subst hw
        refine lv_istore (lv' := [(4, .int (nI (4 ^ (n - 1 - m9)))), (0, .ref o), (1, .int (nI wy)), (2, .int (nI ((alB m9 (RSm (fun j => nbN (fun z9 => nxG fs nl n fe z9 (nI 0)) n x j) ff n (fun j => (fbs j).toNatClampNeg) wy)).toNat))), (3, .int (nI m9))]) hx hb dX8_rest_25 hl (by decide) rfl (fun ls hl => ?_)
        refine lv_iload_n hx hb dX8_rest_27 rfl (lv_at hl 2 rfl) ?_
        refine lv_iload hx hb dX8_rest_28 (lv_at hl 0 rfl) ?_
        refine idiv_n (a := wy) (b := 4 ^ (n - 1 - m9)) hx hb dX8_rest_30 (by omega) (by omega) (by omega) ?_
        refine lv_iconst (v := nI 4) hx hb dX8_rest_31 (by decide) ?_
        refine irem_n (a := wy / (4 ^ (n - 1 - m9))) (b := 4) hx hb dX8_rest_32 (by omega) (by omega) (by omega) ?_
        refine lv_topi (fun y9 e9 => ?_)
        have e9 : nI (d4 n wy m9) = y9 := (e9.trans (rfl)).symm
        subst e9
        refine lv_istore (lv' := [(5, .int (nI (d4 n wy m9))), (4, .int (nI (4 ^ (n - 1 - m9)))), (0, .ref o), (1, .int (nI wy)), (2, .int (nI ((alB m9 (RSm (fun j => nbN (fun z9 => nxG fs nl n fe z9 (nI 0)) n x j) ff n (fun j => (fbs j).toNatClampNeg) wy)).toNat))), (3, .int (nI m9))]) hx hb dX8_rest_33 hl (by decide) rfl (fun ls hl => ?_)
        refine lv_aload_n hx hb dX8_rest_35 rfl (lv_at hl 2 rfl) ?_
        refine va_get (D := D) (ci := 8) (v := .ref mo) (C := RX8) (T := TX8) (N := 23) hx hb hts hi8 hown hK hP 0 rfl rfl 19 (by decide) hw2 (fun _ h9 => h9) rfl dX8_rest_36 ?_
        refine lv_iload_n hx hb dX8_rest_39 rfl (lv_at hl 3 rfl) ?_
        refine iald_n (k := wy) hx hb hK hP 2 0 rfl rfl (by omega) (by omega) dX8_rest_40 ?_
        refine lv_topi (fun y9 e9 => ?_)
        have e9 : nI (nbN (fun z9 => nxG fs nl n fe z9 (nI 0)) n x wy) = y9 := (e9.trans (hnf wy hwy)).symm
        subst e9
        refine lv_aload_n hx hb dX8_rest_41 rfl (lv_at hl 2 rfl) ?_
        refine va_get (D := D) (ci := 8) (v := .ref mb) (C := RX8) (T := TX8) (N := 23) hx hb hts hi8 hown hK hP 0 rfl rfl 3 (by decide) hw3 (fun _ h9 => h9) rfl dX8_rest_42 ?_
        refine lv_iload_n hx hb dX8_rest_45 rfl (lv_at hl 5 rfl) ?_
        refine iald_n (k := m9) hx hb hK hP 1 0 rfl rfl (by omega) (by omega) dX8_rest_46 ?_
        refine lv_topi (fun y9 e9 => ?_)
        have e9 : nI ((fbs m9).toNatClampNeg) = y9 := (e9.trans (hbe)).symm
        subst e9
        refine cal_i (run_S (As := [.int (nI (nbN (fun z9 => nxG fs nl n fe z9 (nI 0)) n x wy)), .int (nI ((fbs m9).toNatClampNeg))]) (rest := []) SF (c_apart l D cI cJ cZ cG cM (nI (nbN (fun z9 => nxG fs nl n fe z9 (nI 0)) n x wy)) (nI ((fbs m9).toNatClampNeg))) (va_cwS 2 hts gX8_rest_X8_apart rfl rfl rfl (by decide +kernel) ⟨Nat.le_of_ble_eq_true rfl, Nat.le_of_ble_eq_true rfl⟩) hN hK hP hD [] rfl (by decide) rfl hl.1 rfl (Nat.le_of_ble_eq_true rfl) dX8_rest_47 ⟨Nat.le_of_ble_eq_true rfl, Nat.le_of_ble_eq_true rfl⟩) ⟨rfl, rfl⟩ hP hD hS hA [] rfl (fun _ => rfl) (fun r47 _ H locs hw hP hD hS => ?_)
        have hP : va_P D vwCl [(o, .inr (8, [.int (nI n), .ref me, .ref ml, .ref mb, .int (nI ff), .int (nI nl), .ref mt, .int si, .ref ms, .int sn, .ref mp, .ref my, .ref mc, .int la, .ref mk, .ref mw, .int ah, .int ri, .int lh, .ref mo, .ref mq, .ref mi, .ref mz])), (mb, .inl (cI, 6, .inl fbs)), (mo, .inl (cI, 4096, .inl nf))] H := hP
        have hD : va_D A [(o, .inr (8, [.int (nI n), .ref me, .ref ml, .ref mb, .int (nI ff), .int (nI nl), .ref mt, .int si, .ref ms, .int sn, .ref mp, .ref my, .ref mc, .int la, .ref mk, .ref mw, .int ah, .int ri, .int lh, .ref mo, .ref mq, .ref mi, .ref mz])), (mb, .inl (cI, 6, .inl fbs)), (mo, .inl (cI, 4096, .inl nf))] := hD
        have hw : r47 = nI (dsN (nbN (fun z9 => nxG fs nl n fe z9 (nI 0)) n x wy) ((fbs m9).toNatClampNeg)) := hw.trans (apI_n (by omega) (by omega))
        subst hw
        refine lv_aload_n hx hb dX8_rest_50 rfl (lv_at hl 2 rfl) ?_
        refine va_get (D := D) (ci := 8) (v := .int (nI ff)) (C := RX8) (T := TX8) (N := 23) hx hb hts hi8 hown hK hP 0 rfl rfl 4 (by decide) hw4 (fun _ h9 => h9) rfl dX8_rest_51 ?_
        refine lv_iload hx hb dX8_rest_54 (lv_at hl 0 rfl) ?_
        refine imul_n (a := ff) (b := d4 n wy m9) hx hb dX8_rest_56 ?_
        refine iadd_n (a := dsN (nbN (fun z9 => nxG fs nl n fe z9 (nI 0)) n x wy) ((fbs m9).toNatClampNeg)) (b := ff * (d4 n wy m9)) hx hb dX8_rest_57 ?_
        refine lv_istore (lv' := [(6, .int (nI ((dsN (nbN (fun z9 => nxG fs nl n fe z9 (nI 0)) n x wy) ((fbs m9).toNatClampNeg)) + (ff * (d4 n wy m9))))), (5, .int (nI (d4 n wy m9))), (4, .int (nI (4 ^ (n - 1 - m9)))), (0, .ref o), (1, .int (nI wy)), (2, .int (nI ((alB m9 (RSm (fun j => nbN (fun z9 => nxG fs nl n fe z9 (nI 0)) n x j) ff n (fun j => (fbs j).toNatClampNeg) wy)).toNat))), (3, .int (nI m9))]) hx hb dX8_rest_58 hl (by decide) rfl (fun ls hl => ?_)
        refine lv_iconst (v := nI 0) hx hb dX8_rest_60 (by decide) ?_
        refine lv_istore (lv' := [(7, .int (nI 0)), (6, .int (nI ((dsN (nbN (fun z9 => nxG fs nl n fe z9 (nI 0)) n x wy) ((fbs m9).toNatClampNeg)) + (ff * (d4 n wy m9))))), (5, .int (nI (d4 n wy m9))), (4, .int (nI (4 ^ (n - 1 - m9)))), (0, .ref o), (1, .int (nI wy)), (2, .int (nI ((alB m9 (RSm (fun j => nbN (fun z9 => nxG fs nl n fe z9 (nI 0)) n x j) ff n (fun j => (fbs j).toNatClampNeg) wy)).toNat))), (3, .int (nI m9))]) hx hb dX8_rest_61 hl (by decide) rfl (fun ls hl => ?_)
        have L63 : ∀ (n9 : Nat) (q : Nat) (hq : q ≤ 4), 4 - q < n9 → ∀ (H : Heap) (locs : List Loc), va_P D vwCl [(o, .inr (8, [.int (nI n), .ref me, .ref ml, .ref mb, .int (nI ff), .int (nI nl), .ref mt, .int si, .ref ms, .int sn, .ref mp, .ref my, .ref mc, .int la, .ref mk, .ref mw, .int ah, .int ri, .int lh, .ref mo, .ref mq, .ref mi, .ref mz])), (mb, .inl (cI, 6, .inl fbs)), (mo, .inl (cI, 4096, .inl nf))] H → va_D A [(o, .inr (8, [.int (nI n), .ref me, .ref ml, .ref mb, .int (nI ff), .int (nI nl), .ref mt, .int si, .ref ms, .int sn, .ref mp, .ref my, .ref mc, .int la, .ref mk, .ref mw, .int ah, .int ri, .int lh, .ref mo, .ref mq, .ref mi, .ref mz])), (mb, .inl (cI, 6, .inl fbs)), (mo, .inl (cI, 4096, .inl nf))] → va_S A s.heap H locs → ∀ (ls : Array Slot), lv_has ls 9 [(0, .ref o), (1, .int (nI wy)), (2, .int (nI ((alB m9 (RSm (fun j => nbN (fun z9 => nxG fs nl n fe z9 (nI 0)) n x j) ff n (fun j => (fbs j).toNatClampNeg) wy) && alB q (RSq (fun j => nbN (fun z9 => nxG fs nl n fe z9 (nI 0)) n x j) ff n (fun j => (fbs j).toNatClampNeg) wy m9)).toNat))), (3, .int (nI m9)), (4, .int (nI (4 ^ (n - 1 - m9)))), (5, .int (nI (d4 n wy m9))), (6, .int (nI (dsN (nbN (fun z9 => nxG fs nl n fe z9 (nI 0)) n x wy) ((fbs m9).toNatClampNeg) + ff * d4 n wy m9))), (7, .int (nI q))] → W p l e rm_X8_rest s m args below meth c H locs 0 0 Q (F0 m 63 ls []) := by
          intro n9
          induction n9 with
          | zero => intro q hq hm; exact absurd hm (Nat.not_lt_zero _)
          | succ n9 ih63 =>
            intro q hq hm63 H locs hP hD hS ls hl
            have hb1 : (alB m9 (RSm (fun j => nbN (fun z9 => nxG fs nl n fe z9 (nI 0)) n x j) ff n (fun j => (fbs j).toNatClampNeg) wy) && alB q (RSq (fun j => nbN (fun z9 => nxG fs nl n fe z9 (nI 0)) n x j) ff n (fun j => (fbs j).toNatClampNeg) wy m9)).toNat ≤ 1 := Bool.toNat_le _
            refine lv_iload hx hb dX8_rest_63 (lv_at hl 7 rfl) ?_
            refine lv_iconst (v := nI 4) hx hb dX8_rest_65 (by decide) ?_
            refine icmp_ge_n (a := q) (b := 4) (tgt := 126) hx hb dX8_rest_66 (by decide) (by omega) (by omega) (fun c66 => ?_) (fun c66 => ?_)
            · refine lv_iinc (v := nI (m9 + 1)) (lv' := [(3, .int (nI (m9 + 1))), (0, .ref o), (1, .int (nI wy)), (2, .int (nI ((alB m9 (RSm (fun j => nbN (fun z9 => nxG fs nl n fe z9 (nI 0)) n x j) ff n (fun j => (fbs j).toNatClampNeg) wy) && alB q (RSq (fun j => nbN (fun z9 => nxG fs nl n fe z9 (nI 0)) n x j) ff n (fun j => (fbs j).toNatClampNeg) wy m9)).toNat))), (4, .int (nI (4 ^ (n - 1 - m9)))), (5, .int (nI (d4 n wy m9))), (6, .int (nI (dsN (nbN (fun z9 => nxG fs nl n fe z9 (nI 0)) n x wy) ((fbs m9).toNatClampNeg) + ff * d4 n wy m9))), (7, .int (nI q))]) hx hb dX8_rest_126 hl (k := 3) rfl (nI_1 m9) (by decide) rfl (fun ls hl => ?_)
              refine lv_goto (tgt := 4) hx hb dX8_rest_129 (by decide) ?_
              have eq9 : q = 4 := by omega
              have e8 : nI ((alB m9 (RSm (fun j => nbN (fun z9 => nxG fs nl n fe z9 (nI 0)) n x j) ff n (fun j => (fbs j).toNatClampNeg) wy) && alB q (RSq (fun j => nbN (fun z9 => nxG fs nl n fe z9 (nI 0)) n x j) ff n (fun j => (fbs j).toNatClampNeg) wy m9)).toNat) = nI ((alB (m9 + 1) (RSm (fun j => nbN (fun z9 => nxG fs nl n fe z9 (nI 0)) n x j) ff n (fun j => (fbs j).toNatClampNeg) wy)).toNat) := by subst eq9; rfl
              have hl : lv_has ls 9 [(3, .int (nI (m9 + 1))), (0, .ref o), (1, .int (nI wy)), (2, .int (nI ((alB (m9 + 1) (RSm (fun j => nbN (fun z9 => nxG fs nl n fe z9 (nI 0)) n x j) ff n (fun j => (fbs j).toNatClampNeg) wy)).toNat))), (4, .int (nI (4 ^ (n - 1 - m9)))), (5, .int (nI (d4 n wy m9))), (6, .int (nI (dsN (nbN (fun z9 => nxG fs nl n fe z9 (nI 0)) n x wy) ((fbs m9).toNatClampNeg) + ff * d4 n wy m9))), (7, .int (nI q))] := by rw [← e8]; exact hl
              exact ih4 (m9 + 1) ((by omega)) (by omega) _ _ hP hD hS _ (lv_sub hl [1, 2, 3, 0] rfl)
            · have hin := d4_in hm9l hwy (show q < 4 by omega)
              have hn8 := nbN_le (G := (fun z9 => nxG fs nl n fe z9 (nI 0))) (fun _ => FR_G _ _ _ _ _ _) n x (wy - d4 n wy m9 * 4 ^ (n - 1 - m9) + q * 4 ^ (n - 1 - m9))
              have hds8 := dsN_le hn8 hb23
              have hff8 : ff * q ≤ 9 * 3 := Nat.mul_le_mul hff (by omega)
              refine lv_iload_n hx hb dX8_rest_69 rfl (lv_at hl 1 rfl) ?_
              refine lv_iload hx hb dX8_rest_70 (lv_at hl 7 rfl) ?_
              refine lv_iload hx hb dX8_rest_72 (lv_at hl 5 rfl) ?_
              refine lv_isub hx hb dX8_rest_74 ?_
              refine lv_iload hx hb dX8_rest_75 (lv_at hl 4 rfl) ?_
              refine lv_imul hx hb dX8_rest_77 ?_
              refine lv_iadd hx hb dX8_rest_78 ?_
              refine lv_topi (fun y9 e9 => ?_)
              have e9 : nI (wy - d4 n wy m9 * 4 ^ (n - 1 - m9) + q * 4 ^ (n - 1 - m9)) = y9 := (e9.trans (dig_put hdm)).symm
              subst e9
              refine lv_istore (lv' := [(8, .int (nI (wy - d4 n wy m9 * 4 ^ (n - 1 - m9) + q * 4 ^ (n - 1 - m9)))), (0, .ref o), (1, .int (nI wy)), (2, .int (nI ((alB m9 (RSm (fun j => nbN (fun z9 => nxG fs nl n fe z9 (nI 0)) n x j) ff n (fun j => (fbs j).toNatClampNeg) wy) && alB q (RSq (fun j => nbN (fun z9 => nxG fs nl n fe z9 (nI 0)) n x j) ff n (fun j => (fbs j).toNatClampNeg) wy m9)).toNat))), (3, .int (nI m9)), (4, .int (nI (4 ^ (n - 1 - m9)))), (5, .int (nI (d4 n wy m9))), (6, .int (nI (dsN (nbN (fun z9 => nxG fs nl n fe z9 (nI 0)) n x wy) ((fbs m9).toNatClampNeg) + ff * d4 n wy m9))), (7, .int (nI q))]) hx hb dX8_rest_79 hl (by decide) rfl (fun ls hl => ?_)
              refine lv_iload_n hx hb dX8_rest_81 rfl (lv_at hl 3 rfl) ?_
              refine if_eq_n (a := (alB m9 (RSm (fun j => nbN (fun z9 => nxG fs nl n fe z9 (nI 0)) n x j) ff n (fun j => (fbs j).toNatClampNeg) wy) && alB q (RSq (fun j => nbN (fun z9 => nxG fs nl n fe z9 (nI 0)) n x j) ff n (fun j => (fbs j).toNatClampNeg) wy m9)).toNat) (tgt := 118) hx hb dX8_rest_82 (by decide) (by omega) (fun c82 => ?_) (fun c82 => ?_)
              · refine lv_iconst (v := nI 0) hx hb dX8_rest_118 (by decide) ?_
                refine lv_istore_n (lv' := [(2, .int (nI 0)), (8, .int (nI (wy - d4 n wy m9 * 4 ^ (n - 1 - m9) + q * 4 ^ (n - 1 - m9)))), (0, .ref o), (1, .int (nI wy)), (3, .int (nI m9)), (4, .int (nI (4 ^ (n - 1 - m9)))), (5, .int (nI (d4 n wy m9))), (6, .int (nI (dsN (nbN (fun z9 => nxG fs nl n fe z9 (nI 0)) n x wy) ((fbs m9).toNatClampNeg) + ff * d4 n wy m9))), (7, .int (nI q))]) hx hb dX8_rest_119 rfl hl (by decide) rfl (fun ls hl => ?_)
                refine lv_iinc (v := nI (q + 1)) (lv' := [(7, .int (nI (q + 1))), (2, .int (nI 0)), (8, .int (nI (wy - d4 n wy m9 * 4 ^ (n - 1 - m9) + q * 4 ^ (n - 1 - m9)))), (0, .ref o), (1, .int (nI wy)), (3, .int (nI m9)), (4, .int (nI (4 ^ (n - 1 - m9)))), (5, .int (nI (d4 n wy m9))), (6, .int (nI (dsN (nbN (fun z9 => nxG fs nl n fe z9 (nI 0)) n x wy) ((fbs m9).toNatClampNeg) + ff * d4 n wy m9)))]) hx hb dX8_rest_120 hl (k := 8) rfl (nI_1 q) (by decide) rfl (fun ls hl => ?_)
                refine lv_goto (tgt := 63) hx hb dX8_rest_123 (by decide) ?_
                have e8 : nI 0 = nI ((alB m9 (RSm (fun j => nbN (fun z9 => nxG fs nl n fe z9 (nI 0)) n x j) ff n (fun j => (fbs j).toNatClampNeg) wy) && alB (q + 1) (RSq (fun j => nbN (fun z9 => nxG fs nl n fe z9 (nI 0)) n x j) ff n (fun j => (fbs j).toNatClampNeg) wy m9)).toNat) := by show nI 0 = nI (alB m9 (RSm (fun j => nbN (fun z9 => nxG fs nl n fe z9 (nI 0)) n x j) ff n (fun j => (fbs j).toNatClampNeg) wy) && (alB q (RSq (fun j => nbN (fun z9 => nxG fs nl n fe z9 (nI 0)) n x j) ff n (fun j => (fbs j).toNatClampNeg) wy m9) && (RSq (fun j => nbN (fun z9 => nxG fs nl n fe z9 (nI 0)) n x j) ff n (fun j => (fbs j).toNatClampNeg) wy m9) q)).toNat; rw [← Bool.and_assoc, tN0 c82]; rfl
                have hl : lv_has ls 9 [(7, .int (nI (q + 1))), (2, .int (nI ((alB m9 (RSm (fun j => nbN (fun z9 => nxG fs nl n fe z9 (nI 0)) n x j) ff n (fun j => (fbs j).toNatClampNeg) wy) && alB (q + 1) (RSq (fun j => nbN (fun z9 => nxG fs nl n fe z9 (nI 0)) n x j) ff n (fun j => (fbs j).toNatClampNeg) wy m9)).toNat))), (8, .int (nI (wy - d4 n wy m9 * 4 ^ (n - 1 - m9) + q * 4 ^ (n - 1 - m9)))), (0, .ref o), (1, .int (nI wy)), (3, .int (nI m9)), (4, .int (nI (4 ^ (n - 1 - m9)))), (5, .int (nI (d4 n wy m9))), (6, .int (nI (dsN (nbN (fun z9 => nxG fs nl n fe z9 (nI 0)) n x wy) ((fbs m9).toNatClampNeg) + ff * d4 n wy m9)))] := by rw [← e8]; exact hl
                exact ih63 (q + 1) ((by omega)) (by omega) _ _ hP hD hS _ (lv_sub hl [3, 4, 1, 5, 6, 7, 8, 0] rfl)
              · refine lv_aload_n hx hb dX8_rest_85 rfl (lv_at hl 1 rfl) ?_
                refine va_get (D := D) (ci := 8) (v := .ref mo) (C := RX8) (T := TX8) (N := 23) hx hb hts hi8 hown hK hP 0 rfl rfl 19 (by decide) hw2 (fun _ h9 => h9) rfl dX8_rest_86 ?_
                refine lv_iload hx hb dX8_rest_89 (lv_at hl 0 rfl) ?_
                refine iald_n (k := wy - d4 n wy m9 * 4 ^ (n - 1 - m9) + q * 4 ^ (n - 1 - m9)) hx hb hK hP 2 0 rfl rfl (by omega) (by omega) dX8_rest_91 ?_
                refine lv_topi (fun y9 e9 => ?_)
                have e9 : nI (nbN (fun z9 => nxG fs nl n fe z9 (nI 0)) n x (wy - d4 n wy m9 * 4 ^ (n - 1 - m9) + q * 4 ^ (n - 1 - m9))) = y9 := (e9.trans (hnf _ hin)).symm
                subst e9
                refine lv_aload_n hx hb dX8_rest_92 rfl (lv_at hl 1 rfl) ?_
                refine va_get (D := D) (ci := 8) (v := .ref mb) (C := RX8) (T := TX8) (N := 23) hx hb hts hi8 hown hK hP 0 rfl rfl 3 (by decide) hw3 (fun _ h9 => h9) rfl dX8_rest_93 ?_
                refine lv_iload_n hx hb dX8_rest_96 rfl (lv_at hl 4 rfl) ?_
                refine iald_n (k := m9) hx hb hK hP 1 0 rfl rfl (by omega) (by omega) dX8_rest_97 ?_
                refine lv_topi (fun y9 e9 => ?_)
                have e9 : nI ((fbs m9).toNatClampNeg) = y9 := (e9.trans (hbe)).symm
                subst e9
                refine cal_i (run_S (As := [.int (nI (nbN (fun z9 => nxG fs nl n fe z9 (nI 0)) n x (wy - d4 n wy m9 * 4 ^ (n - 1 - m9) + q * 4 ^ (n - 1 - m9)))), .int (nI ((fbs m9).toNatClampNeg))]) (rest := []) SF (c_apart l D cI cJ cZ cG cM (nI (nbN (fun z9 => nxG fs nl n fe z9 (nI 0)) n x (wy - d4 n wy m9 * 4 ^ (n - 1 - m9) + q * 4 ^ (n - 1 - m9)))) (nI ((fbs m9).toNatClampNeg))) (va_cwS 2 hts gX8_rest_X8_apart rfl rfl rfl (by decide +kernel) ⟨Nat.le_of_ble_eq_true rfl, Nat.le_of_ble_eq_true rfl⟩) hN hK hP hD [] rfl (by decide) rfl hl.1 rfl (Nat.le_of_ble_eq_true rfl) dX8_rest_98 ⟨Nat.le_of_ble_eq_true rfl, Nat.le_of_ble_eq_true rfl⟩) ⟨rfl, rfl⟩ hP hD hS hA [] rfl (fun _ => rfl) (fun r98 _ H locs hw hP hD hS => ?_)
                have hP : va_P D vwCl [(o, .inr (8, [.int (nI n), .ref me, .ref ml, .ref mb, .int (nI ff), .int (nI nl), .ref mt, .int si, .ref ms, .int sn, .ref mp, .ref my, .ref mc, .int la, .ref mk, .ref mw, .int ah, .int ri, .int lh, .ref mo, .ref mq, .ref mi, .ref mz])), (mb, .inl (cI, 6, .inl fbs)), (mo, .inl (cI, 4096, .inl nf))] H := hP
                have hD : va_D A [(o, .inr (8, [.int (nI n), .ref me, .ref ml, .ref mb, .int (nI ff), .int (nI nl), .ref mt, .int si, .ref ms, .int sn, .ref mp, .ref my, .ref mc, .int la, .ref mk, .ref mw, .int ah, .int ri, .int lh, .ref mo, .ref mq, .ref mi, .ref mz])), (mb, .inl (cI, 6, .inl fbs)), (mo, .inl (cI, 4096, .inl nf))] := hD
                have hw : r98 = nI (dsN (nbN (fun z9 => nxG fs nl n fe z9 (nI 0)) n x (wy - d4 n wy m9 * 4 ^ (n - 1 - m9) + q * 4 ^ (n - 1 - m9))) ((fbs m9).toNatClampNeg)) := hw.trans (apI_n (by omega) (by omega))
                subst hw
                refine lv_aload_n hx hb dX8_rest_101 rfl (lv_at hl 1 rfl) ?_
                refine va_get (D := D) (ci := 8) (v := .int (nI ff)) (C := RX8) (T := TX8) (N := 23) hx hb hts hi8 hown hK hP 0 rfl rfl 4 (by decide) hw4 (fun _ h9 => h9) rfl dX8_rest_102 ?_
                refine lv_iload hx hb dX8_rest_105 (lv_at hl 8 rfl) ?_
                refine imul_n (a := ff) (b := q) hx hb dX8_rest_107 ?_
                refine iadd_n (a := dsN (nbN (fun z9 => nxG fs nl n fe z9 (nI 0)) n x (wy - d4 n wy m9 * 4 ^ (n - 1 - m9) + q * 4 ^ (n - 1 - m9))) ((fbs m9).toNatClampNeg)) (b := ff * q) hx hb dX8_rest_108 ?_
                refine lv_iload hx hb dX8_rest_109 (lv_at hl 7 rfl) ?_
                refine icmp_lt_n (a := (dsN (nbN (fun z9 => nxG fs nl n fe z9 (nI 0)) n x (wy - d4 n wy m9 * 4 ^ (n - 1 - m9) + q * 4 ^ (n - 1 - m9))) ((fbs m9).toNatClampNeg)) + (ff * q)) (b := dsN (nbN (fun z9 => nxG fs nl n fe z9 (nI 0)) n x wy) ((fbs m9).toNatClampNeg) + ff * d4 n wy m9) (tgt := 118) hx hb dX8_rest_111 (by decide) (by omega) (by omega) (fun c111 => ?_) (fun c111 => ?_)
                · refine lv_iconst (v := nI 0) hx hb dX8_rest_118 (by decide) ?_
                  refine lv_istore_n (lv' := [(2, .int (nI 0)), (8, .int (nI (wy - d4 n wy m9 * 4 ^ (n - 1 - m9) + q * 4 ^ (n - 1 - m9)))), (0, .ref o), (1, .int (nI wy)), (3, .int (nI m9)), (4, .int (nI (4 ^ (n - 1 - m9)))), (5, .int (nI (d4 n wy m9))), (6, .int (nI (dsN (nbN (fun z9 => nxG fs nl n fe z9 (nI 0)) n x wy) ((fbs m9).toNatClampNeg) + ff * d4 n wy m9))), (7, .int (nI q))]) hx hb dX8_rest_119 rfl hl (by decide) rfl (fun ls hl => ?_)
                  refine lv_iinc (v := nI (q + 1)) (lv' := [(7, .int (nI (q + 1))), (2, .int (nI 0)), (8, .int (nI (wy - d4 n wy m9 * 4 ^ (n - 1 - m9) + q * 4 ^ (n - 1 - m9)))), (0, .ref o), (1, .int (nI wy)), (3, .int (nI m9)), (4, .int (nI (4 ^ (n - 1 - m9)))), (5, .int (nI (d4 n wy m9))), (6, .int (nI (dsN (nbN (fun z9 => nxG fs nl n fe z9 (nI 0)) n x wy) ((fbs m9).toNatClampNeg) + ff * d4 n wy m9)))]) hx hb dX8_rest_120 hl (k := 8) rfl (nI_1 q) (by decide) rfl (fun ls hl => ?_)
                  refine lv_goto (tgt := 63) hx hb dX8_rest_123 (by decide) ?_
                  have hqf : (RSq (fun j => nbN (fun z9 => nxG fs nl n fe z9 (nI 0)) n x j) ff n (fun j => (fbs j).toNatClampNeg) wy m9) q = false := decide_eq_false (fun z => by have z2 : dsN (nbN (fun z9 => nxG fs nl n fe z9 (nI 0)) n x wy) ((fbs m9).toNatClampNeg) + ff * d4 n wy m9 ≤ dsN (nbN (fun z9 => nxG fs nl n fe z9 (nI 0)) n x (wy - d4 n wy m9 * 4 ^ (n - 1 - m9) + q * 4 ^ (n - 1 - m9))) ((fbs m9).toNatClampNeg) + ff * q := z; omega)
                  have e8 : nI 0 = nI ((alB m9 (RSm (fun j => nbN (fun z9 => nxG fs nl n fe z9 (nI 0)) n x j) ff n (fun j => (fbs j).toNatClampNeg) wy) && alB (q + 1) (RSq (fun j => nbN (fun z9 => nxG fs nl n fe z9 (nI 0)) n x j) ff n (fun j => (fbs j).toNatClampNeg) wy m9)).toNat) := by show nI 0 = nI (alB m9 (RSm (fun j => nbN (fun z9 => nxG fs nl n fe z9 (nI 0)) n x j) ff n (fun j => (fbs j).toNatClampNeg) wy) && (alB q (RSq (fun j => nbN (fun z9 => nxG fs nl n fe z9 (nI 0)) n x j) ff n (fun j => (fbs j).toNatClampNeg) wy m9) && (RSq (fun j => nbN (fun z9 => nxG fs nl n fe z9 (nI 0)) n x j) ff n (fun j => (fbs j).toNatClampNeg) wy m9) q)).toNat; rw [← Bool.and_assoc, hqf, Bool.and_false]; rfl
                  have hl : lv_has ls 9 [(7, .int (nI (q + 1))), (2, .int (nI ((alB m9 (RSm (fun j => nbN (fun z9 => nxG fs nl n fe z9 (nI 0)) n x j) ff n (fun j => (fbs j).toNatClampNeg) wy) && alB (q + 1) (RSq (fun j => nbN (fun z9 => nxG fs nl n fe z9 (nI 0)) n x j) ff n (fun j => (fbs j).toNatClampNeg) wy m9)).toNat))), (8, .int (nI (wy - d4 n wy m9 * 4 ^ (n - 1 - m9) + q * 4 ^ (n - 1 - m9)))), (0, .ref o), (1, .int (nI wy)), (3, .int (nI m9)), (4, .int (nI (4 ^ (n - 1 - m9)))), (5, .int (nI (d4 n wy m9))), (6, .int (nI (dsN (nbN (fun z9 => nxG fs nl n fe z9 (nI 0)) n x wy) ((fbs m9).toNatClampNeg) + ff * d4 n wy m9)))] := by rw [← e8]; exact hl
                  exact ih63 (q + 1) ((by omega)) (by omega) _ _ hP hD hS _ (lv_sub hl [3, 4, 1, 5, 6, 7, 8, 0] rfl)
                · refine lv_iconst (v := nI 1) hx hb dX8_rest_114 (by decide) ?_
                  refine lv_goto (tgt := 119) hx hb dX8_rest_115 (by decide) ?_
                  refine lv_istore_n (lv' := [(2, .int (nI 1)), (8, .int (nI (wy - d4 n wy m9 * 4 ^ (n - 1 - m9) + q * 4 ^ (n - 1 - m9)))), (0, .ref o), (1, .int (nI wy)), (3, .int (nI m9)), (4, .int (nI (4 ^ (n - 1 - m9)))), (5, .int (nI (d4 n wy m9))), (6, .int (nI (dsN (nbN (fun z9 => nxG fs nl n fe z9 (nI 0)) n x wy) ((fbs m9).toNatClampNeg) + ff * d4 n wy m9))), (7, .int (nI q))]) hx hb dX8_rest_119 rfl hl (by decide) rfl (fun ls hl => ?_)
                  refine lv_iinc (v := nI (q + 1)) (lv' := [(7, .int (nI (q + 1))), (2, .int (nI 1)), (8, .int (nI (wy - d4 n wy m9 * 4 ^ (n - 1 - m9) + q * 4 ^ (n - 1 - m9)))), (0, .ref o), (1, .int (nI wy)), (3, .int (nI m9)), (4, .int (nI (4 ^ (n - 1 - m9)))), (5, .int (nI (d4 n wy m9))), (6, .int (nI (dsN (nbN (fun z9 => nxG fs nl n fe z9 (nI 0)) n x wy) ((fbs m9).toNatClampNeg) + ff * d4 n wy m9)))]) hx hb dX8_rest_120 hl (k := 8) rfl (nI_1 q) (by decide) rfl (fun ls hl => ?_)
                  refine lv_goto (tgt := 63) hx hb dX8_rest_123 (by decide) ?_
                  have hqt : (RSq (fun j => nbN (fun z9 => nxG fs nl n fe z9 (nI 0)) n x j) ff n (fun j => (fbs j).toNatClampNeg) wy m9) q = true := decide_eq_true (show dsN (nbN (fun z9 => nxG fs nl n fe z9 (nI 0)) n x wy) ((fbs m9).toNatClampNeg) + ff * d4 n wy m9 ≤ dsN (nbN (fun z9 => nxG fs nl n fe z9 (nI 0)) n x (wy - d4 n wy m9 * 4 ^ (n - 1 - m9) + q * 4 ^ (n - 1 - m9))) ((fbs m9).toNatClampNeg) + ff * q by omega)
                  have e8 : nI 1 = nI ((alB m9 (RSm (fun j => nbN (fun z9 => nxG fs nl n fe z9 (nI 0)) n x j) ff n (fun j => (fbs j).toNatClampNeg) wy) && alB (q + 1) (RSq (fun j => nbN (fun z9 => nxG fs nl n fe z9 (nI 0)) n x j) ff n (fun j => (fbs j).toNatClampNeg) wy m9)).toNat) := by show nI 1 = nI (alB m9 (RSm (fun j => nbN (fun z9 => nxG fs nl n fe z9 (nI 0)) n x j) ff n (fun j => (fbs j).toNatClampNeg) wy) && (alB q (RSq (fun j => nbN (fun z9 => nxG fs nl n fe z9 (nI 0)) n x j) ff n (fun j => (fbs j).toNatClampNeg) wy m9) && (RSq (fun j => nbN (fun z9 => nxG fs nl n fe z9 (nI 0)) n x j) ff n (fun j => (fbs j).toNatClampNeg) wy m9) q)).toNat; rw [← Bool.and_assoc, hqt, Bool.and_true, tN1 c82]; rfl
                  have hl : lv_has ls 9 [(7, .int (nI (q + 1))), (2, .int (nI ((alB m9 (RSm (fun j => nbN (fun z9 => nxG fs nl n fe z9 (nI 0)) n x j) ff n (fun j => (fbs j).toNatClampNeg) wy) && alB (q + 1) (RSq (fun j => nbN (fun z9 => nxG fs nl n fe z9 (nI 0)) n x j) ff n (fun j => (fbs j).toNatClampNeg) wy m9)).toNat))), (8, .int (nI (wy - d4 n wy m9 * 4 ^ (n - 1 - m9) + q * 4 ^ (n - 1 - m9)))), (0, .ref o), (1, .int (nI wy)), (3, .int (nI m9)), (4, .int (nI (4 ^ (n - 1 - m9)))), (5, .int (nI (d4 n wy m9))), (6, .int (nI (dsN (nbN (fun z9 => nxG fs nl n fe z9 (nI 0)) n x wy) ((fbs m9).toNatClampNeg) + ff * d4 n wy m9)))] := by rw [← e8]; exact hl
                  exact ih63 (q + 1) ((by omega)) (by omega) _ _ hP hD hS _ (lv_sub hl [3, 4, 1, 5, 6, 7, 8, 0] rfl)
        have e8 : nI ((alB m9 (RSm (fun j => nbN (fun z9 => nxG fs nl n fe z9 (nI 0)) n x j) ff n (fun j => (fbs j).toNatClampNeg) wy)).toNat) = nI ((alB m9 (RSm (fun j => nbN (fun z9 => nxG fs nl n fe z9 (nI 0)) n x j) ff n (fun j => (fbs j).toNatClampNeg) wy) && alB 0 (RSq (fun j => nbN (fun z9 => nxG fs nl n fe z9 (nI 0)) n x j) ff n (fun j => (fbs j).toNatClampNeg) wy m9)).toNat) := by rw [show alB 0 (RSq (fun j => nbN (fun z9 => nxG fs nl n fe z9 (nI 0)) n x j) ff n (fun j => (fbs j).toNatClampNeg) wy m9) = true from rfl, Bool.and_true]
        have hl : lv_has ls 9 [(7, .int (nI 0)), (6, .int (nI ((dsN (nbN (fun z9 => nxG fs nl n fe z9 (nI 0)) n x wy) ((fbs m9).toNatClampNeg)) + (ff * (d4 n wy m9))))), (5, .int (nI (d4 n wy m9))), (4, .int (nI (4 ^ (n - 1 - m9)))), (0, .ref o), (1, .int (nI wy)), (2, .int (nI ((alB m9 (RSm (fun j => nbN (fun z9 => nxG fs nl n fe z9 (nI 0)) n x j) ff n (fun j => (fbs j).toNatClampNeg) wy) && alB 0 (RSq (fun j => nbN (fun z9 => nxG fs nl n fe z9 (nI 0)) n x j) ff n (fun j => (fbs j).toNatClampNeg) wy m9)).toNat))), (3, .int (nI m9))] := by rw [← e8]; exact hl
        exact L63 _ 0 ((by omega)) (Nat.lt_succ_self _) _ _ hP hD hS _ (lv_sub hl [4, 5, 6, 7, 3, 2, 1, 0] rfl)
  have e8 : nI 1 = nI ((alB 0 (RSm (fun j => nbN (fun z9 => nxG fs nl n fe z9 (nI 0)) n x j) ff n (fun j => (fbs j).toNatClampNeg) wy)).toNat) := rfl
  have hl : lv_has ls 9 [(3, .int (nI 0)), (2, .int (nI ((alB 0 (RSm (fun j => nbN (fun z9 => nxG fs nl n fe z9 (nI 0)) n x j) ff n (fun j => (fbs j).toNatClampNeg) wy)).toNat))), (0, .ref o), (1, .int (nI wy))] := by rw [← e8]; exact hl
  exact L4 _ 0 ((Nat.zero_le _)) (Nat.lt_succ_self _) _ _ hP hD hS _ (lv_sub hl [2, 3, 1, 0] rfl)

abbrev rm_X8_rests : Room := { frames := 3, cells := 0, slots := 0, locals := 75 }
set_option maxHeartbeats 1000000 in
set_option maxRecDepth 100000 in
theorem m_rests (l : Launch) (D : va_G) (cI cJ cZ cG cM : ClassId) (o me ml mb mt ms mp my mc mk mw mo mq mi mz : Nat) (fi si sn la ah ri lh : Int32) (n nl : Nat) (ff : Nat) (fe fb cm fk fs fl fbs nf : Nat → Int32) (hV : VL fs nl) (h1 : 1 ≤ n) (h6 : n ≤ 6) (hff : ff ≤ 9) (hfb : ∀ j, j < n → ∃ b : Nat, b ≤ 23 ∧ fbs j = nI b) (x y : Int32) :
    CI l yX8_rests wsX8_rests rm_X8_rests D [(cI, .int), (cJ, .long), (cZ, .boolean), (cG, .object "LatestSets$Guild"), (cM, .array .int)] [(o, .inr (8, [.int (nI n), .ref me, .ref ml, .ref mb, .int (nI ff), .int (nI nl), .ref mt, .int si, .ref ms, .int sn, .ref mp, .ref my, .ref mc, .int la, .ref mk, .ref mw, .int ah, .int ri, .int lh, .ref mo, .ref mq, .ref mi, .ref mz])), (me, .inl (cI, 6, .inl fe)), (my, .inl (cI, 6, .inl fb)), (mc, .inl (cI, 6, .inl cm)), (mk, .inl (cI, 24, .inl fk)), (mt, .inl (cI, 20, .inl fs)), (ml, .inl (cI, 6, .inl fl)), (mb, .inl (cI, 6, .inl fbs)), (mo, .inl (cI, 4096, .inl nf))] [.ref o, .int x, .int y] (S := (Int32 × (Nat → Int32) × (Nat → Int32) × (Nat → Int32) × (Nat → Int32))) (fun r u => (¬ (nI 0 ≤ x ∧ x ≤ nI 23) ∧ r = (-2)) ∨ ((nI 0 ≤ x ∧ x ≤ nI 23) ∧ ATI (RSb (fun j => nbN (fun z9 => nxG fs nl n fe z9 (nI 0)) n x.toNatClampNeg j) ff n (fun j => (fbs j).toNatClampNeg)) (fun w9 => nI (dgN n w9 n)) y (4 ^ n) r)) (fun u => [(o, .inr (8, [.int (nI n), .ref me, .ref ml, .ref mb, .int (nI ff), .int (nI nl), .ref mt, .int si, .ref ms, .int sn, .ref mp, .ref my, .ref mc, .int u.1, .ref mk, .ref mw, .int ah, .int ri, .int lh, .ref mo, .ref mq, .ref mi, .ref mz])), (me, .inl (cI, 6, .inl fe)), (my, .inl (cI, 6, .inl u.2.1)), (mc, .inl (cI, 6, .inl u.2.2.1)), (mk, .inl (cI, 24, .inl u.2.2.2.1)), (mt, .inl (cI, 20, .inl fs)), (ml, .inl (cI, 6, .inl fl)), (mb, .inl (cI, 6, .inl fbs)), (mo, .inl (cI, 4096, .inl u.2.2.2.2))]) := by
  refine si_of (cc := cX8_rests) (maxL := 8) (by decide) rfl (Nat.le_of_ble_eq_true rfl) ?_
  intro p e s m args below meth c A ls Q E hret
  obtain ⟨hx, hb, -, hml, hown, hts, -, hin, hA, hK, hP, hD, hS, hl, hN⟩ := E
  have hown : s.vm.findClass RX8 = some m.cls := hown
  have hl : lv_has ls 8 [(0, .ref o), (1, .int x), (2, .int y)] := hl
  have SF : CallFix p m c cX8_rests 8 s args wsX8_rests RX8 := ⟨hx, hb, hml, hown, hts⟩
  have hw0 := hts (.fieldLink RX8 7 "LatestSetsModel" "members" "I") (by decide +kernel)
  have hi8 : ∀ x ∈ wsX80, x ∈ wsX8_rests := by decide +kernel
  have hw2 := hts (.fieldLink RX8 38 "LatestSetsModel" "by" "[I") (by decide +kernel)
  have hw3 := hts (.fieldLink RX8 50 "LatestSetsModel" "outcome" "[I") (by decide +kernel)
  have hp4 := p4_le h6
  refine lv_iload_n hx hb dX8_rests_0 rfl (lv_at hl 1 rfl) ?_
  refine cal_i (run_S (As := [.int x]) (rest := []) SF (c_isHour8 l D cI cJ cZ cG cM x) (va_cwS 1 hts gX8_rests_X8_isHour rfl rfl rfl (by decide +kernel) ⟨Nat.le_of_ble_eq_true rfl, Nat.le_of_ble_eq_true rfl⟩) hN hK hP hD [] rfl (by decide) rfl hl.1 rfl (Nat.le_of_ble_eq_true rfl) dX8_rests_1 ⟨Nat.le_of_ble_eq_true rfl, Nat.le_of_ble_eq_true rfl⟩) ⟨rfl, rfl⟩ hP hD hS hA [] rfl (fun _ => rfl) (fun r1 _ H locs hw hP hD hS => ?_)
  have hP : va_P D vwCl [(o, .inr (8, [.int (nI n), .ref me, .ref ml, .ref mb, .int (nI ff), .int (nI nl), .ref mt, .int si, .ref ms, .int sn, .ref mp, .ref my, .ref mc, .int la, .ref mk, .ref mw, .int ah, .int ri, .int lh, .ref mo, .ref mq, .ref mi, .ref mz])), (me, .inl (cI, 6, .inl fe)), (my, .inl (cI, 6, .inl fb)), (mc, .inl (cI, 6, .inl cm)), (mk, .inl (cI, 24, .inl fk)), (mt, .inl (cI, 20, .inl fs)), (ml, .inl (cI, 6, .inl fl)), (mb, .inl (cI, 6, .inl fbs)), (mo, .inl (cI, 4096, .inl nf))] H := hP
  have hD : va_D A [(o, .inr (8, [.int (nI n), .ref me, .ref ml, .ref mb, .int (nI ff), .int (nI nl), .ref mt, .int si, .ref ms, .int sn, .ref mp, .ref my, .ref mc, .int la, .ref mk, .ref mw, .int ah, .int ri, .int lh, .ref mo, .ref mq, .ref mi, .ref mz])), (me, .inl (cI, 6, .inl fe)), (my, .inl (cI, 6, .inl fb)), (mc, .inl (cI, 6, .inl cm)), (mk, .inl (cI, 24, .inl fk)), (mt, .inl (cI, 20, .inl fs)), (ml, .inl (cI, 6, .inl fl)), (mb, .inl (cI, 6, .inl fbs)), (mo, .inl (cI, 4096, .inl nf))] := hD
  rcases hw with ⟨b1, rfl⟩ | ⟨b1, rfl⟩
  · obtain ⟨kx, k1kx, k2kx, rfl⟩ := nI_rng (by omega) (by omega) b1.1 b1.2
    refine lv_if_ne (tgt := 10) hx hb dX8_rests_4 (by decide) (fun _ => ?_) (fun c9 => absurd c9 (by decide))
    refine lv_aload_n hx hb dX8_rests_10 rfl (lv_at hl 0 rfl) ?_
    refine cal_v (run_V (As := []) (rest := []) SF (c_asTold l D cI cJ cZ cG cM o me ml mb mt ms mp my mc mk mw mo mq mi mz (nI ff) si sn la ah ri lh n nl fl fb) (cwV 0 hts gX8_rests_X8_asTold rfl rfl rfl (by decide +kernel) ⟨Nat.le_of_ble_eq_true rfl, Nat.le_of_ble_eq_true rfl⟩) hN hK hP hD [0, 6, 2] rfl (by decide) 8 0 rfl rfl rfl rfl hl.1 rfl (Nat.le_of_ble_eq_true rfl) dX8_rests_11 ⟨Nat.le_of_ble_eq_true rfl, Nat.le_of_ble_eq_true rfl⟩) ⟨rfl, rfl⟩ hP hD hS hA [0, 6, 2] rfl (fun _ => rfl) (fun u11 H locs hw hP hD hS => ?_)
    have hP : va_P D vwCl [(o, .inr (8, [.int (nI n), .ref me, .ref ml, .ref mb, .int (nI ff), .int (nI nl), .ref mt, .int si, .ref ms, .int sn, .ref mp, .ref my, .ref mc, .int (nI 0), .ref mk, .ref mw, .int ah, .int ri, .int lh, .ref mo, .ref mq, .ref mi, .ref mz])), (me, .inl (cI, 6, .inl fe)), (my, .inl (cI, 6, .inl u11)), (mc, .inl (cI, 6, .inl cm)), (mk, .inl (cI, 24, .inl fk)), (mt, .inl (cI, 20, .inl fs)), (ml, .inl (cI, 6, .inl fl)), (mb, .inl (cI, 6, .inl fbs)), (mo, .inl (cI, 4096, .inl nf))] H := hP
    have hD : va_D A [(o, .inr (8, [.int (nI n), .ref me, .ref ml, .ref mb, .int (nI ff), .int (nI nl), .ref mt, .int si, .ref ms, .int sn, .ref mp, .ref my, .ref mc, .int (nI 0), .ref mk, .ref mw, .int ah, .int ri, .int lh, .ref mo, .ref mq, .ref mi, .ref mz])), (me, .inl (cI, 6, .inl fe)), (my, .inl (cI, 6, .inl u11)), (mc, .inl (cI, 6, .inl cm)), (mk, .inl (cI, 24, .inl fk)), (mt, .inl (cI, 20, .inl fs)), (ml, .inl (cI, 6, .inl fl)), (mb, .inl (cI, 6, .inl fbs)), (mo, .inl (cI, 4096, .inl nf))] := hD
    refine lv_aload_n hx hb dX8_rests_14 rfl (lv_at hl 0 rfl) ?_
    refine lv_iconst (v := nI 4) hx hb dX8_rests_15 (by decide) ?_
    refine lv_aload_n hx hb dX8_rests_16 rfl (lv_at hl 0 rfl) ?_
    refine va_get (D := D) (ci := 8) (v := .int (nI n)) (C := RX8) (T := TX8) (N := 23) hx hb hts hi8 hown hK hP 0 rfl rfl 0 (by decide) hw0 (fun _ h9 => h9) rfl dX8_rests_17 ?_
    refine cal_i (run_V (As := [.int (nI 4), .int (nI n)]) (rest := []) SF (c_powerOf l D cI cJ cZ cG cM o me ml mb mt ms mp my mc mk mw mo mq mi mz (nI ff) si sn (nI 0) ah ri lh n nl 4 n (by omega)) (cwV 2 hts gX8_rests_X8_powerOf rfl rfl rfl (by decide +kernel) ⟨Nat.le_of_ble_eq_true rfl, Nat.le_of_ble_eq_true rfl⟩) hN hK hP hD [0] rfl (by decide) 8 0 rfl rfl rfl rfl hl.1 rfl (Nat.le_of_ble_eq_true rfl) dX8_rests_20 ⟨Nat.le_of_ble_eq_true rfl, Nat.le_of_ble_eq_true rfl⟩) ⟨rfl, rfl⟩ hP hD hS hA [0] rfl (fun _ => rfl) (fun r20 _ H locs hw hP hD hS => ?_)
    have hP : va_P D vwCl [(o, .inr (8, [.int (nI n), .ref me, .ref ml, .ref mb, .int (nI ff), .int (nI nl), .ref mt, .int si, .ref ms, .int sn, .ref mp, .ref my, .ref mc, .int (nI 0), .ref mk, .ref mw, .int ah, .int ri, .int lh, .ref mo, .ref mq, .ref mi, .ref mz])), (me, .inl (cI, 6, .inl fe)), (my, .inl (cI, 6, .inl u11)), (mc, .inl (cI, 6, .inl cm)), (mk, .inl (cI, 24, .inl fk)), (mt, .inl (cI, 20, .inl fs)), (ml, .inl (cI, 6, .inl fl)), (mb, .inl (cI, 6, .inl fbs)), (mo, .inl (cI, 4096, .inl nf))] H := hP
    have hD : va_D A [(o, .inr (8, [.int (nI n), .ref me, .ref ml, .ref mb, .int (nI ff), .int (nI nl), .ref mt, .int si, .ref ms, .int sn, .ref mp, .ref my, .ref mc, .int (nI 0), .ref mk, .ref mw, .int ah, .int ri, .int lh, .ref mo, .ref mq, .ref mi, .ref mz])), (me, .inl (cI, 6, .inl fe)), (my, .inl (cI, 6, .inl u11)), (mc, .inl (cI, 6, .inl cm)), (mk, .inl (cI, 24, .inl fk)), (mt, .inl (cI, 20, .inl fs)), (ml, .inl (cI, 6, .inl fl)), (mb, .inl (cI, 6, .inl fbs)), (mo, .inl (cI, 4096, .inl nf))] := hD
    subst hw
    refine lv_istore_n (lv' := [(3, .int (nI (4 ^ n))), (0, .ref o), (1, .int (nI kx)), (2, .int y)]) hx hb dX8_rests_23 rfl hl (by decide) rfl (fun ls hl => ?_)
    refine lv_iconst (v := nI 0) hx hb dX8_rests_24 (by decide) ?_
    refine lv_istore (lv' := [(4, .int (nI 0)), (3, .int (nI (4 ^ n))), (0, .ref o), (1, .int (nI kx)), (2, .int y)]) hx hb dX8_rests_25 hl (by decide) rfl (fun ls hl => ?_)
    have L27 : ∀ (n9 : Nat) (k : Nat) (fb cm fk nf : Nat → Int32) (hk : k ≤ 4 ^ n) (hnf : ∀ j, j < k → nf j = nI (nbN (fun z9 => nxG fs nl n fe z9 (nI 0)) n kx j)), 4 ^ n - k < n9 → ∀ (H : Heap) (locs : List Loc), va_P D vwCl [(o, .inr (8, [.int (nI n), .ref me, .ref ml, .ref mb, .int (nI ff), .int (nI nl), .ref mt, .int si, .ref ms, .int sn, .ref mp, .ref my, .ref mc, .int (nI 0), .ref mk, .ref mw, .int ah, .int ri, .int lh, .ref mo, .ref mq, .ref mi, .ref mz])), (me, .inl (cI, 6, .inl fe)), (my, .inl (cI, 6, .inl fb)), (mc, .inl (cI, 6, .inl cm)), (mk, .inl (cI, 24, .inl fk)), (mt, .inl (cI, 20, .inl fs)), (ml, .inl (cI, 6, .inl fl)), (mb, .inl (cI, 6, .inl fbs)), (mo, .inl (cI, 4096, .inl nf))] H → va_D A [(o, .inr (8, [.int (nI n), .ref me, .ref ml, .ref mb, .int (nI ff), .int (nI nl), .ref mt, .int si, .ref ms, .int sn, .ref mp, .ref my, .ref mc, .int (nI 0), .ref mk, .ref mw, .int ah, .int ri, .int lh, .ref mo, .ref mq, .ref mi, .ref mz])), (me, .inl (cI, 6, .inl fe)), (my, .inl (cI, 6, .inl fb)), (mc, .inl (cI, 6, .inl cm)), (mk, .inl (cI, 24, .inl fk)), (mt, .inl (cI, 20, .inl fs)), (ml, .inl (cI, 6, .inl fl)), (mb, .inl (cI, 6, .inl fbs)), (mo, .inl (cI, 4096, .inl nf))] → va_S A s.heap H locs → ∀ (ls : Array Slot), lv_has ls 8 [(0, .ref o), (1, .int (nI kx)), (2, .int y), (3, .int (nI (4 ^ n))), (4, .int (nI k))] → W p l e rm_X8_rests s m args below meth c H locs 0 0 Q (F0 m 27 ls []) := by
      intro n9
      induction n9 with
      | zero => intro k fb cm fk nf hk hnf hm; exact absurd hm (Nat.not_lt_zero _)
      | succ n9 ih27 =>
        intro k fb cm fk nf hk hnf hm27 H locs hP hD hS ls hl
        refine lv_iload hx hb dX8_rests_27 (lv_at hl 4 rfl) ?_
        refine lv_iload_n hx hb dX8_rests_29 rfl (lv_at hl 3 rfl) ?_
        refine icmp_ge_n (a := k) (b := 4 ^ n) (tgt := 58) hx hb dX8_rests_30 (by decide) (by omega) (by omega) (fun c30 => ?_) (fun c30 => ?_)
        · have ek9 : k = 4 ^ n := by omega
          rw [ek9] at hnf
          refine lv_iconst (v := nI 0) hx hb dX8_rests_58 (by decide) ?_
          refine lv_istore (lv' := [(4, .int (nI 0)), (0, .ref o), (1, .int (nI kx)), (2, .int y), (3, .int (nI (4 ^ n)))]) hx hb dX8_rests_59 hl (by decide) rfl (fun ls hl => ?_)
          refine lv_iconst (v := nI 0) hx hb dX8_rests_61 (by decide) ?_
          refine lv_istore (lv' := [(5, .int (nI 0)), (4, .int (nI 0)), (0, .ref o), (1, .int (nI kx)), (2, .int y), (3, .int (nI (4 ^ n)))]) hx hb dX8_rests_62 hl (by decide) rfl (fun ls hl => ?_)
          have L64 : ∀ (n9 : Nat) (k : Nat) (hk : k ≤ 4 ^ n) (hno : ∀ j, j < k → ¬ ((RSb (fun j => nbN (fun z9 => nxG fs nl n fe z9 (nI 0)) n kx j) ff n (fun j => (fbs j).toNatClampNeg)) j = true ∧ nI (cnt (RSb (fun j => nbN (fun z9 => nxG fs nl n fe z9 (nI 0)) n kx j) ff n (fun j => (fbs j).toNatClampNeg)) j) = y)), 4 ^ n - k < n9 → ∀ (H : Heap) (locs : List Loc), va_P D vwCl [(o, .inr (8, [.int (nI n), .ref me, .ref ml, .ref mb, .int (nI ff), .int (nI nl), .ref mt, .int si, .ref ms, .int sn, .ref mp, .ref my, .ref mc, .int (nI 0), .ref mk, .ref mw, .int ah, .int ri, .int lh, .ref mo, .ref mq, .ref mi, .ref mz])), (me, .inl (cI, 6, .inl fe)), (my, .inl (cI, 6, .inl fb)), (mc, .inl (cI, 6, .inl cm)), (mk, .inl (cI, 24, .inl fk)), (mt, .inl (cI, 20, .inl fs)), (ml, .inl (cI, 6, .inl fl)), (mb, .inl (cI, 6, .inl fbs)), (mo, .inl (cI, 4096, .inl nf))] H → va_D A [(o, .inr (8, [.int (nI n), .ref me, .ref ml, .ref mb, .int (nI ff), .int (nI nl), .ref mt, .int si, .ref ms, .int sn, .ref mp, .ref my, .ref mc, .int (nI 0), .ref mk, .ref mw, .int ah, .int ri, .int lh, .ref mo, .ref mq, .ref mi, .ref mz])), (me, .inl (cI, 6, .inl fe)), (my, .inl (cI, 6, .inl fb)), (mc, .inl (cI, 6, .inl cm)), (mk, .inl (cI, 24, .inl fk)), (mt, .inl (cI, 20, .inl fs)), (ml, .inl (cI, 6, .inl fl)), (mb, .inl (cI, 6, .inl fbs)), (mo, .inl (cI, 4096, .inl nf))] → va_S A s.heap H locs → ∀ (ls : Array Slot), lv_has ls 8 [(0, .ref o), (1, .int (nI kx)), (2, .int y), (3, .int (nI (4 ^ n))), (4, .int (nI (cnt (RSb (fun j => nbN (fun z9 => nxG fs nl n fe z9 (nI 0)) n kx j) ff n (fun j => (fbs j).toNatClampNeg)) k))), (5, .int (nI k))] → W p l e rm_X8_rests s m args below meth c H locs 0 0 Q (F0 m 64 ls []) := by
            intro n9
            induction n9 with
            | zero => intro k hk hno hm; exact absurd hm (Nat.not_lt_zero _)
            | succ n9 ih64 =>
              intro k hk hno hm64 H locs hP hD hS ls hl
              have hcl := cnt_le (RSb (fun j => nbN (fun z9 => nxG fs nl n fe z9 (nI 0)) n kx j) ff n (fun j => (fbs j).toNatClampNeg)) k
              refine lv_iload hx hb dX8_rests_64 (lv_at hl 5 rfl) ?_
              refine lv_iload_n hx hb dX8_rests_66 rfl (lv_at hl 3 rfl) ?_
              refine icmp_ge_n (a := k) (b := 4 ^ n) (tgt := 140) hx hb dX8_rests_67 (by decide) (by omega) (by omega) (fun c67 => ?_) (fun c67 => ?_)
              · have hk4 : k = 4 ^ n := by omega
                refine lv_iload_n hx hb dX8_rests_140 rfl (lv_at hl 2 rfl) ?_
                refine lv_iconst (v := (-1)) hx hb dX8_rests_141 (by decide) ?_
                refine lv_icmp_ne (tgt := 150) hx hb dX8_rests_142 (by decide) (fun c142 => ?_) (fun c142 => ?_)
                · refine lv_bipush (v := (-6)) hx hb dX8_rests_150 (by decide) ?_
                  exact hret ((-6)) ((nI 0, fb, cm, fk, nf)) _ _ _ _ dX8_rests_152 (Or.inr ⟨b1, by rw [nI_clamp (by omega)]; exact Or.inr (Or.inr ⟨c142, fun j hj => hno j (by omega), rfl⟩)⟩) hP hD hS
                · refine lv_iload hx hb dX8_rests_145 (lv_at hl 4 rfl) ?_
                  refine lv_goto (tgt := 152) hx hb dX8_rests_147 (by decide) ?_
                  exact hret (nI (cnt (RSb (fun j => nbN (fun z9 => nxG fs nl n fe z9 (nI 0)) n kx j) ff n (fun j => (fbs j).toNatClampNeg)) k)) ((nI 0, fb, cm, fk, nf)) _ _ _ _ dX8_rests_152 (Or.inr ⟨b1, by rw [nI_clamp (by omega)]; exact Or.inl ⟨c142, by rw [← hk4]⟩⟩) hP hD hS
              · refine lv_aload_n hx hb dX8_rests_70 rfl (lv_at hl 0 rfl) ?_
                refine lv_iload hx hb dX8_rests_71 (lv_at hl 5 rfl) ?_
                refine cal_i (run_V (As := [.int (nI k)]) (rest := []) SF (c_rest8 l D cI cJ cZ cG cM o me ml mb mt ms mp my mc mk mw mo mq mi mz 0 si sn (nI 0) ah ri lh n nl ff fs fe fbs nf h1 h6 hff hfb kx k (by omega) hnf) (cwV 1 hts gX8_rests_X8_rest rfl rfl rfl (by decide +kernel) ⟨Nat.le_of_ble_eq_true rfl, Nat.le_of_ble_eq_true rfl⟩) hN hK hP hD [0, 7, 8] rfl (by decide) 8 0 rfl rfl rfl rfl hl.1 rfl (Nat.le_of_ble_eq_true rfl) dX8_rests_73 ⟨Nat.le_of_ble_eq_true rfl, Nat.le_of_ble_eq_true rfl⟩) ⟨rfl, rfl⟩ hP hD hS hA [0, 7, 8] rfl (fun _ => rfl) (fun r73 _ H locs hw hP hD hS => ?_)
                have hP : va_P D vwCl [(o, .inr (8, [.int (nI n), .ref me, .ref ml, .ref mb, .int (nI ff), .int (nI nl), .ref mt, .int si, .ref ms, .int sn, .ref mp, .ref my, .ref mc, .int (nI 0), .ref mk, .ref mw, .int ah, .int ri, .int lh, .ref mo, .ref mq, .ref mi, .ref mz])), (me, .inl (cI, 6, .inl fe)), (my, .inl (cI, 6, .inl fb)), (mc, .inl (cI, 6, .inl cm)), (mk, .inl (cI, 24, .inl fk)), (mt, .inl (cI, 20, .inl fs)), (ml, .inl (cI, 6, .inl fl)), (mb, .inl (cI, 6, .inl fbs)), (mo, .inl (cI, 4096, .inl nf))] H := hP
                have hD : va_D A [(o, .inr (8, [.int (nI n), .ref me, .ref ml, .ref mb, .int (nI ff), .int (nI nl), .ref mt, .int si, .ref ms, .int sn, .ref mp, .ref my, .ref mc, .int (nI 0), .ref mk, .ref mw, .int ah, .int ri, .int lh, .ref mo, .ref mq, .ref mi, .ref mz])), (me, .inl (cI, 6, .inl fe)), (my, .inl (cI, 6, .inl fb)), (mc, .inl (cI, 6, .inl cm)), (mk, .inl (cI, 24, .inl fk)), (mt, .inl (cI, 20, .inl fs)), (ml, .inl (cI, 6, .inl fl)), (mb, .inl (cI, 6, .inl fbs)), (mo, .inl (cI, 4096, .inl nf))] := hD
                rcases hw with ⟨b73, rfl⟩ | ⟨b73, rfl⟩
                · refine lv_if_eq (tgt := 134) hx hb dX8_rests_76 (by decide) (fun c9 => absurd c9 (by decide)) (fun _ => ?_)
                  refine lv_iload hx hb dX8_rests_79 (lv_at hl 4 rfl) ?_
                  refine lv_iload_n hx hb dX8_rests_81 rfl (lv_at hl 2 rfl) ?_
                  refine lv_icmp_ne (tgt := 131) hx hb dX8_rests_82 (by decide) (fun c82 => ?_) (fun c82 => ?_)
                  · refine lv_iinc (v := nI ((cnt (RSb (fun j => nbN (fun z9 => nxG fs nl n fe z9 (nI 0)) n kx j) ff n (fun j => (fbs j).toNatClampNeg)) k) + 1)) (lv' := [(4, .int (nI ((cnt (RSb (fun j => nbN (fun z9 => nxG fs nl n fe z9 (nI 0)) n kx j) ff n (fun j => (fbs j).toNatClampNeg)) k) + 1))), (0, .ref o), (1, .int (nI kx)), (2, .int y), (3, .int (nI (4 ^ n))), (5, .int (nI k))]) hx hb dX8_rests_131 hl (k := 4) rfl (nI_1 (cnt (RSb (fun j => nbN (fun z9 => nxG fs nl n fe z9 (nI 0)) n kx j) ff n (fun j => (fbs j).toNatClampNeg)) k)) (by decide) rfl (fun ls hl => ?_)
                    refine lv_iinc (v := nI (k + 1)) (lv' := [(5, .int (nI (k + 1))), (4, .int (nI ((cnt (RSb (fun j => nbN (fun z9 => nxG fs nl n fe z9 (nI 0)) n kx j) ff n (fun j => (fbs j).toNatClampNeg)) k) + 1))), (0, .ref o), (1, .int (nI kx)), (2, .int y), (3, .int (nI (4 ^ n)))]) hx hb dX8_rests_134 hl (k := 5) rfl (nI_1 k) (by decide) rfl (fun ls hl => ?_)
                    refine lv_goto (tgt := 64) hx hb dX8_rests_137 (by decide) ?_
                    have e8 : nI ((cnt (RSb (fun j => nbN (fun z9 => nxG fs nl n fe z9 (nI 0)) n kx j) ff n (fun j => (fbs j).toNatClampNeg)) k) + 1) = nI (cnt (RSb (fun j => nbN (fun z9 => nxG fs nl n fe z9 (nI 0)) n kx j) ff n (fun j => (fbs j).toNatClampNeg)) (k + 1)) := congrArg nI (if_pos b73).symm
                    have hl : lv_has ls 8 [(5, .int (nI (k + 1))), (4, .int (nI (cnt (RSb (fun j => nbN (fun z9 => nxG fs nl n fe z9 (nI 0)) n kx j) ff n (fun j => (fbs j).toNatClampNeg)) (k + 1)))), (0, .ref o), (1, .int (nI kx)), (2, .int y), (3, .int (nI (4 ^ n)))] := by rw [← e8]; exact hl
                    exact ih64 (k + 1) ((by omega)) ((fun j hj => by rcases Nat.lt_or_ge j k with z | z; (exact hno j z); (rw [show j = k by omega]; exact fun z => c82 z.2))) (by omega) _ _ hP hD hS _ (lv_sub hl [2, 3, 4, 5, 1, 0] rfl)
                  · refine lv_aload_n hx hb dX8_rests_85 rfl (lv_at hl 0 rfl) ?_
                    refine lv_iload hx hb dX8_rests_86 (lv_at hl 5 rfl) ?_
                    refine lv_iconst (v := nI 4) hx hb dX8_rests_88 (by decide) ?_
                    refine cal_v (run_V (As := [.int (nI k), .int (nI 4)]) (rest := []) SF (c_layBy l D cI cJ cZ cG cM o me ml mb mt ms mp my mc mk mw mo mq mi mz (nI ff) si sn (nI 0) ah ri lh n nl fb k h6 (by omega)) (cwV 2 hts gX8_rests_X8_layBy rfl rfl rfl (by decide +kernel) ⟨Nat.le_of_ble_eq_true rfl, Nat.le_of_ble_eq_true rfl⟩) hN hK hP hD [0, 2] rfl (by decide) 8 0 rfl rfl rfl rfl hl.1 rfl (Nat.le_of_ble_eq_true rfl) dX8_rests_89 ⟨Nat.le_of_ble_eq_true rfl, Nat.le_of_ble_eq_true rfl⟩) ⟨rfl, rfl⟩ hP hD hS hA [0, 2] rfl (fun _ => rfl) (fun u89 H locs hw hP hD hS => ?_)
                    have hP : va_P D vwCl [(o, .inr (8, [.int (nI n), .ref me, .ref ml, .ref mb, .int (nI ff), .int (nI nl), .ref mt, .int si, .ref ms, .int sn, .ref mp, .ref my, .ref mc, .int (nI 0), .ref mk, .ref mw, .int ah, .int ri, .int lh, .ref mo, .ref mq, .ref mi, .ref mz])), (me, .inl (cI, 6, .inl fe)), (my, .inl (cI, 6, .inl u89)), (mc, .inl (cI, 6, .inl cm)), (mk, .inl (cI, 24, .inl fk)), (mt, .inl (cI, 20, .inl fs)), (ml, .inl (cI, 6, .inl fl)), (mb, .inl (cI, 6, .inl fbs)), (mo, .inl (cI, 4096, .inl nf))] H := hP
                    have hD : va_D A [(o, .inr (8, [.int (nI n), .ref me, .ref ml, .ref mb, .int (nI ff), .int (nI nl), .ref mt, .int si, .ref ms, .int sn, .ref mp, .ref my, .ref mc, .int (nI 0), .ref mk, .ref mw, .int ah, .int ri, .int lh, .ref mo, .ref mq, .ref mi, .ref mz])), (me, .inl (cI, 6, .inl fe)), (my, .inl (cI, 6, .inl u89)), (mc, .inl (cI, 6, .inl cm)), (mk, .inl (cI, 24, .inl fk)), (mt, .inl (cI, 20, .inl fs)), (ml, .inl (cI, 6, .inl fl)), (mb, .inl (cI, 6, .inl fbs)), (mo, .inl (cI, 4096, .inl nf))] := hD
                    have h89 := hw
                    refine lv_iconst (v := nI 0) hx hb dX8_rests_92 (by decide) ?_
                    refine lv_istore (lv' := [(6, .int (nI 0)), (0, .ref o), (1, .int (nI kx)), (2, .int y), (3, .int (nI (4 ^ n))), (4, .int (nI (cnt (RSb (fun j => nbN (fun z9 => nxG fs nl n fe z9 (nI 0)) n kx j) ff n (fun j => (fbs j).toNatClampNeg)) k))), (5, .int (nI k))]) hx hb dX8_rests_93 hl (by decide) rfl (fun ls hl => ?_)
                    refine lv_iconst (v := nI 0) hx hb dX8_rests_95 (by decide) ?_
                    refine lv_istore (lv' := [(7, .int (nI 0)), (6, .int (nI 0)), (0, .ref o), (1, .int (nI kx)), (2, .int y), (3, .int (nI (4 ^ n))), (4, .int (nI (cnt (RSb (fun j => nbN (fun z9 => nxG fs nl n fe z9 (nI 0)) n kx j) ff n (fun j => (fbs j).toNatClampNeg)) k))), (5, .int (nI k))]) hx hb dX8_rests_96 hl (by decide) rfl (fun ls hl => ?_)
                    have L98 : ∀ (n9 : Nat) (m9 : Nat) (hm9 : m9 ≤ n), n - m9 < n9 → ∀ (H : Heap) (locs : List Loc), va_P D vwCl [(o, .inr (8, [.int (nI n), .ref me, .ref ml, .ref mb, .int (nI ff), .int (nI nl), .ref mt, .int si, .ref ms, .int sn, .ref mp, .ref my, .ref mc, .int (nI 0), .ref mk, .ref mw, .int ah, .int ri, .int lh, .ref mo, .ref mq, .ref mi, .ref mz])), (me, .inl (cI, 6, .inl fe)), (my, .inl (cI, 6, .inl u89)), (mc, .inl (cI, 6, .inl cm)), (mk, .inl (cI, 24, .inl fk)), (mt, .inl (cI, 20, .inl fs)), (ml, .inl (cI, 6, .inl fl)), (mb, .inl (cI, 6, .inl fbs)), (mo, .inl (cI, 4096, .inl nf))] H → va_D A [(o, .inr (8, [.int (nI n), .ref me, .ref ml, .ref mb, .int (nI ff), .int (nI nl), .ref mt, .int si, .ref ms, .int sn, .ref mp, .ref my, .ref mc, .int (nI 0), .ref mk, .ref mw, .int ah, .int ri, .int lh, .ref mo, .ref mq, .ref mi, .ref mz])), (me, .inl (cI, 6, .inl fe)), (my, .inl (cI, 6, .inl u89)), (mc, .inl (cI, 6, .inl cm)), (mk, .inl (cI, 24, .inl fk)), (mt, .inl (cI, 20, .inl fs)), (ml, .inl (cI, 6, .inl fl)), (mb, .inl (cI, 6, .inl fbs)), (mo, .inl (cI, 4096, .inl nf))] → va_S A s.heap H locs → ∀ (ls : Array Slot), lv_has ls 8 [(0, .ref o), (6, .int (nI (dgN n k m9))), (7, .int (nI m9))] → W p l e rm_X8_rests s m args below meth c H locs 0 0 Q (F0 m 98 ls []) := by
                      intro n9
                      induction n9 with
                      | zero => intro m9 hm9 hm; exact absurd hm (Nat.not_lt_zero _)
                      | succ n9 ih98 =>
                        intro m9 hm9 hm98 H locs hP hD hS ls hl
                        refine lv_iload hx hb dX8_rests_98 (lv_at hl 2 rfl) ?_
                        refine lv_aload_n hx hb dX8_rests_100 rfl (lv_at hl 0 rfl) ?_
                        refine va_get (D := D) (ci := 8) (v := .int (nI n)) (C := RX8) (T := TX8) (N := 23) hx hb hts hi8 hown hK hP 0 rfl rfl 0 (by decide) hw0 (fun _ h9 => h9) rfl dX8_rests_101 ?_
                        refine icmp_ge_n (a := m9) (b := n) (tgt := 128) hx hb dX8_rests_104 (by decide) (by omega) (by omega) (fun c104 => ?_) (fun c104 => ?_)
                        · refine lv_iload hx hb dX8_rests_128 (lv_at hl 1 rfl) ?_
                          exact hret (nI (dgN n k m9)) ((nI 0, u89, cm, fk, nf)) _ _ _ _ dX8_rests_130 (Or.inr ⟨b1, by rw [nI_clamp (by omega)]; exact Or.inr (Or.inl ⟨k, by omega, b73, c82, by rw [show m9 = n by omega]⟩)⟩) hP hD hS
                        · refine lv_bipush (v := nI 10) hx hb dX8_rests_107 (by decide) ?_
                          refine lv_iload hx hb dX8_rests_109 (lv_at hl 1 rfl) ?_
                          refine imul_n (a := 10) (b := dgN n k m9) hx hb dX8_rests_111 ?_
                          refine lv_aload_n hx hb dX8_rests_112 rfl (lv_at hl 0 rfl) ?_
                          refine va_get (D := D) (ci := 8) (v := .ref my) (C := RX8) (T := TX8) (N := 23) hx hb hts hi8 hown hK hP 0 rfl rfl 11 (by decide) hw2 (fun _ h9 => h9) rfl dX8_rests_113 ?_
                          refine lv_iload hx hb dX8_rests_116 (lv_at hl 2 rfl) ?_
                          refine iald_n (k := m9) hx hb hK hP 2 0 rfl rfl (by omega) (by omega) dX8_rests_118 ?_
                          refine lv_topi (fun y9 e9 => ?_)
                          have e9 : nI (d4 n k m9) = y9 := (e9.trans (h89 m9 (by omega))).symm
                          subst e9
                          refine iadd_n (a := 10 * (dgN n k m9)) (b := d4 n k m9) hx hb dX8_rests_119 ?_
                          refine lv_istore (lv' := [(6, .int (nI ((10 * (dgN n k m9)) + (d4 n k m9)))), (0, .ref o), (7, .int (nI m9))]) hx hb dX8_rests_120 hl (by decide) rfl (fun ls hl => ?_)
                          refine lv_iinc (v := nI (m9 + 1)) (lv' := [(7, .int (nI (m9 + 1))), (6, .int (nI ((10 * (dgN n k m9)) + (d4 n k m9)))), (0, .ref o)]) hx hb dX8_rests_122 hl (k := 2) rfl (nI_1 m9) (by decide) rfl (fun ls hl => ?_)
                          refine lv_goto (tgt := 98) hx hb dX8_rests_125 (by decide) ?_
                          have e8 : nI ((10 * (dgN n k m9)) + (d4 n k m9)) = nI (dgN n k (m9 + 1)) := rfl
                          have hl : lv_has ls 8 [(7, .int (nI (m9 + 1))), (6, .int (nI (dgN n k (m9 + 1)))), (0, .ref o)] := by rw [← e8]; exact hl
                          exact ih98 (m9 + 1) ((by omega)) (by omega) _ _ hP hD hS _ (lv_sub hl [2, 1, 0] rfl)
                    have e8 : nI 0 = nI (dgN n k 0) := rfl
                    have hl : lv_has ls 8 [(7, .int (nI 0)), (6, .int (nI (dgN n k 0))), (0, .ref o), (1, .int (nI kx)), (2, .int y), (3, .int (nI (4 ^ n))), (4, .int (nI (cnt (RSb (fun j => nbN (fun z9 => nxG fs nl n fe z9 (nI 0)) n kx j) ff n (fun j => (fbs j).toNatClampNeg)) k))), (5, .int (nI k))] := by rw [← e8]; exact hl
                    exact L98 _ 0 ((Nat.zero_le _)) (Nat.lt_succ_self _) _ _ hP hD hS _ (lv_sub hl [2, 1, 0] rfl)
                · refine lv_if_eq (tgt := 134) hx hb dX8_rests_76 (by decide) (fun _ => ?_) (fun c9 => absurd (by decide) c9)
                  refine lv_iinc (v := nI (k + 1)) (lv' := [(5, .int (nI (k + 1))), (0, .ref o), (1, .int (nI kx)), (2, .int y), (3, .int (nI (4 ^ n))), (4, .int (nI (cnt (RSb (fun j => nbN (fun z9 => nxG fs nl n fe z9 (nI 0)) n kx j) ff n (fun j => (fbs j).toNatClampNeg)) k)))]) hx hb dX8_rests_134 hl (k := 5) rfl (nI_1 k) (by decide) rfl (fun ls hl => ?_)
                  refine lv_goto (tgt := 64) hx hb dX8_rests_137 (by decide) ?_
                  have e8 : nI (cnt (RSb (fun j => nbN (fun z9 => nxG fs nl n fe z9 (nI 0)) n kx j) ff n (fun j => (fbs j).toNatClampNeg)) k) = nI (cnt (RSb (fun j => nbN (fun z9 => nxG fs nl n fe z9 (nI 0)) n kx j) ff n (fun j => (fbs j).toNatClampNeg)) (k + 1)) := congrArg nI (if_neg b73).symm
                  have hl : lv_has ls 8 [(5, .int (nI (k + 1))), (0, .ref o), (1, .int (nI kx)), (2, .int y), (3, .int (nI (4 ^ n))), (4, .int (nI (cnt (RSb (fun j => nbN (fun z9 => nxG fs nl n fe z9 (nI 0)) n kx j) ff n (fun j => (fbs j).toNatClampNeg)) (k + 1))))] := by rw [← e8]; exact hl
                  exact ih64 (k + 1) ((by omega)) ((fun j hj => by rcases Nat.lt_or_ge j k with z | z; (exact hno j z); (rw [show j = k by omega]; exact fun z => b73 z.1))) (by omega) _ _ hP hD hS _ (lv_sub hl [1, 2, 3, 4, 5, 0] rfl)
          have e8 : nI 0 = nI (cnt (RSb (fun j => nbN (fun z9 => nxG fs nl n fe z9 (nI 0)) n kx j) ff n (fun j => (fbs j).toNatClampNeg)) 0) := rfl
          have hl : lv_has ls 8 [(5, .int (nI 0)), (4, .int (nI (cnt (RSb (fun j => nbN (fun z9 => nxG fs nl n fe z9 (nI 0)) n kx j) ff n (fun j => (fbs j).toNatClampNeg)) 0))), (0, .ref o), (1, .int (nI kx)), (2, .int y), (3, .int (nI (4 ^ n)))] := by rw [← e8]; exact hl
          exact L64 _ 0 ((Nat.zero_le _)) ((fun j hj => absurd hj (Nat.not_lt_zero j))) (Nat.lt_succ_self _) _ _ hP hD hS _ (lv_sub hl [2, 3, 4, 5, 1, 0] rfl)
        · refine lv_aload_n hx hb dX8_rests_33 rfl (lv_at hl 0 rfl) ?_
          refine lv_iload hx hb dX8_rests_34 (lv_at hl 4 rfl) ?_
          refine lv_iconst (v := nI 4) hx hb dX8_rests_36 (by decide) ?_
          refine cal_v (run_V (As := [.int (nI k), .int (nI 4)]) (rest := []) SF (c_layBy l D cI cJ cZ cG cM o me ml mb mt ms mp my mc mk mw mo mq mi mz (nI ff) si sn (nI 0) ah ri lh n nl fb k h6 (by omega)) (cwV 2 hts gX8_rests_X8_layBy rfl rfl rfl (by decide +kernel) ⟨Nat.le_of_ble_eq_true rfl, Nat.le_of_ble_eq_true rfl⟩) hN hK hP hD [0, 2] rfl (by decide) 8 0 rfl rfl rfl rfl hl.1 rfl (Nat.le_of_ble_eq_true rfl) dX8_rests_37 ⟨Nat.le_of_ble_eq_true rfl, Nat.le_of_ble_eq_true rfl⟩) ⟨rfl, rfl⟩ hP hD hS hA [0, 2] rfl (fun _ => rfl) (fun u37 H locs hw hP hD hS => ?_)
          have hP : va_P D vwCl [(o, .inr (8, [.int (nI n), .ref me, .ref ml, .ref mb, .int (nI ff), .int (nI nl), .ref mt, .int si, .ref ms, .int sn, .ref mp, .ref my, .ref mc, .int (nI 0), .ref mk, .ref mw, .int ah, .int ri, .int lh, .ref mo, .ref mq, .ref mi, .ref mz])), (me, .inl (cI, 6, .inl fe)), (my, .inl (cI, 6, .inl u37)), (mc, .inl (cI, 6, .inl cm)), (mk, .inl (cI, 24, .inl fk)), (mt, .inl (cI, 20, .inl fs)), (ml, .inl (cI, 6, .inl fl)), (mb, .inl (cI, 6, .inl fbs)), (mo, .inl (cI, 4096, .inl nf))] H := hP
          have hD : va_D A [(o, .inr (8, [.int (nI n), .ref me, .ref ml, .ref mb, .int (nI ff), .int (nI nl), .ref mt, .int si, .ref ms, .int sn, .ref mp, .ref my, .ref mc, .int (nI 0), .ref mk, .ref mw, .int ah, .int ri, .int lh, .ref mo, .ref mq, .ref mi, .ref mz])), (me, .inl (cI, 6, .inl fe)), (my, .inl (cI, 6, .inl u37)), (mc, .inl (cI, 6, .inl cm)), (mk, .inl (cI, 24, .inl fk)), (mt, .inl (cI, 20, .inl fs)), (ml, .inl (cI, 6, .inl fl)), (mb, .inl (cI, 6, .inl fbs)), (mo, .inl (cI, 4096, .inl nf))] := hD
          have h37 := hw
          refine lv_aload_n hx hb dX8_rests_40 rfl (lv_at hl 0 rfl) ?_
          refine va_get (D := D) (ci := 8) (v := .ref mo) (C := RX8) (T := TX8) (N := 23) hx hb hts hi8 hown hK hP 0 rfl rfl 19 (by decide) hw3 (fun _ h9 => h9) rfl dX8_rests_41 ?_
          refine lv_iload hx hb dX8_rests_44 (lv_at hl 4 rfl) ?_
          refine lv_aload_n hx hb dX8_rests_46 rfl (lv_at hl 0 rfl) ?_
          refine lv_iload_n hx hb dX8_rests_47 rfl (lv_at hl 1 rfl) ?_
          refine cal_i (run_V (As := [.int (nI kx)]) (rest := [.int (nI k), .ref mo]) SF (c_nextOf l D cI cJ cZ cG cM o me ml mb mt ms mp my mc mk mw mo mq mi mz (nI ff) si sn (nI 0) ah ri lh n nl (nI kx) fe u37 cm fk fs hV h1 h6) (cwV 1 hts gX8_rests_X8_nextOf rfl rfl rfl (by decide +kernel) ⟨Nat.le_of_ble_eq_true rfl, Nat.le_of_ble_eq_true rfl⟩) hN hK hP hD [0, 1, 2, 3, 4, 5] rfl (by decide) 8 0 rfl rfl rfl rfl hl.1 rfl (Nat.le_of_ble_eq_true rfl) dX8_rests_48 ⟨Nat.le_of_ble_eq_true rfl, Nat.le_of_ble_eq_true rfl⟩) ⟨rfl, rfl⟩ hP hD hS hA [0, 1, 2, 3, 4, 5] rfl (fun _ => rfl) (fun r48 u48 H locs hw hP hD hS => ?_)
          have hP : va_P D vwCl [(o, .inr (8, [.int (nI n), .ref me, .ref ml, .ref mb, .int (nI ff), .int (nI nl), .ref mt, .int si, .ref ms, .int sn, .ref mp, .ref my, .ref mc, .int (nI 0), .ref mk, .ref mw, .int ah, .int ri, .int lh, .ref mo, .ref mq, .ref mi, .ref mz])), (me, .inl (cI, 6, .inl fe)), (my, .inl (cI, 6, .inl u37)), (mc, .inl (cI, 6, .inl u48.1)), (mk, .inl (cI, 24, .inl u48.2)), (mt, .inl (cI, 20, .inl fs)), (ml, .inl (cI, 6, .inl fl)), (mb, .inl (cI, 6, .inl fbs)), (mo, .inl (cI, 4096, .inl nf))] H := hP
          have hD : va_D A [(o, .inr (8, [.int (nI n), .ref me, .ref ml, .ref mb, .int (nI ff), .int (nI nl), .ref mt, .int si, .ref ms, .int sn, .ref mp, .ref my, .ref mc, .int (nI 0), .ref mk, .ref mw, .int ah, .int ri, .int lh, .ref mo, .ref mq, .ref mi, .ref mz])), (me, .inl (cI, 6, .inl fe)), (my, .inl (cI, 6, .inl u37)), (mc, .inl (cI, 6, .inl u48.1)), (mk, .inl (cI, 24, .inl u48.2)), (mt, .inl (cI, 20, .inl fs)), (ml, .inl (cI, 6, .inl fl)), (mb, .inl (cI, 6, .inl fbs)), (mo, .inl (cI, 4096, .inl nf))] := hD
          have h48 : r48 = nI (nbN (fun z9 => nxG fs nl n fe z9 (nI 0)) n kx k) := (hw.trans (congrFun (nxG_cong (f2 := fun m => nI (d4 n k m)) h1 (fun j hj => h37 j hj)) _)).trans (nbN_eq (G := (fun z9 => nxG fs nl n fe z9 (nI 0))) (fun _ => FR_G _ _ _ _ _ _) n kx k)
          refine iast_n (k := k) hx hb hK hP hD hS 8 0 rfl rfl (by omega) (by omega) dX8_rests_51 (fun H locs hP hD hS => ?_)
          have hP : va_P D vwCl [(o, .inr (8, [.int (nI n), .ref me, .ref ml, .ref mb, .int (nI ff), .int (nI nl), .ref mt, .int si, .ref ms, .int sn, .ref mp, .ref my, .ref mc, .int (nI 0), .ref mk, .ref mw, .int ah, .int ri, .int lh, .ref mo, .ref mq, .ref mi, .ref mz])), (me, .inl (cI, 6, .inl fe)), (my, .inl (cI, 6, .inl u37)), (mc, .inl (cI, 6, .inl u48.1)), (mk, .inl (cI, 24, .inl u48.2)), (mt, .inl (cI, 20, .inl fs)), (ml, .inl (cI, 6, .inl fl)), (mb, .inl (cI, 6, .inl fbs)), (mo, .inl (cI, 4096, .inl (upd nf k r48)))] H := hP
          have hD : va_D A [(o, .inr (8, [.int (nI n), .ref me, .ref ml, .ref mb, .int (nI ff), .int (nI nl), .ref mt, .int si, .ref ms, .int sn, .ref mp, .ref my, .ref mc, .int (nI 0), .ref mk, .ref mw, .int ah, .int ri, .int lh, .ref mo, .ref mq, .ref mi, .ref mz])), (me, .inl (cI, 6, .inl fe)), (my, .inl (cI, 6, .inl u37)), (mc, .inl (cI, 6, .inl u48.1)), (mk, .inl (cI, 24, .inl u48.2)), (mt, .inl (cI, 20, .inl fs)), (ml, .inl (cI, 6, .inl fl)), (mb, .inl (cI, 6, .inl fbs)), (mo, .inl (cI, 4096, .inl (upd nf k r48)))] := hD
          refine lv_iinc (v := nI (k + 1)) (lv' := [(4, .int (nI (k + 1))), (0, .ref o), (1, .int (nI kx)), (2, .int y), (3, .int (nI (4 ^ n)))]) hx hb dX8_rests_52 hl (k := 4) rfl (nI_1 k) (by decide) rfl (fun ls hl => ?_)
          refine lv_goto (tgt := 27) hx hb dX8_rests_55 (by decide) ?_
          exact ih27 (k + 1) u37 u48.1 u48.2 (upd nf k r48) ((by omega)) ((fun j hj => by rcases Nat.lt_or_ge j k with z | z; (exact (pk_un (by omega)).trans (hnf j z)); (rw [show j = k by omega, pk_us]; exact h48))) (by omega) _ _ hP hD hS _ (lv_sub hl [1, 2, 3, 4, 0] rfl)
    exact L27 _ 0 u11 cm fk nf ((Nat.zero_le _)) ((fun j hj => absurd hj (Nat.not_lt_zero j))) (Nat.lt_succ_self _) _ _ hP hD hS _ (lv_sub hl [2, 3, 4, 1, 0] rfl)
  · refine lv_if_ne (tgt := 10) hx hb dX8_rests_4 (by decide) (fun c9 => absurd c9 (by decide)) (fun _ => ?_)
    refine lv_bipush (v := (-2)) hx hb dX8_rests_7 (by decide) ?_
    exact hret ((-2)) ((la, fb, cm, fk, nf)) _ _ _ _ dX8_rests_9 (Or.inl ⟨b1, rfl⟩) hP hD hS

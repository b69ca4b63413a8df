/-! CONTRACTS THAT WANT MORE WORDS OF THE TABLES: X says which -/
def CW (X : State → Prop) (l : Launch) (y : MethodName) (w : List Cond) (rm : Room) (D : va_G) (ty : List (ClassId × FieldType)) (ws : va_W) (av : List Value) {S : Type} (post : S → Prop) (wn : S → va_W) : Prop :=
  ∀ sz : Nat, Met l y w rm (va_Pc av (fun U => pw D ty ws sz U ∧ X U)) (va_Qv post (qw D wn (va_A ws sz)) (va_A ws sz)) rm.cells rm.slots (va_A ws sz)
section WRD
variable {l : Launch} {y : MethodName} {w w' : List Cond} {rm : Room} {D : va_G} {ty : List (ClassId × FieldType)} {ws : va_W} {av : List Value} {cc : ByteArray} {maxL : Nat} {X : State → Prop}
theorem sw_of {S : Type} {post : S → Prop} {wn : S → va_W} (hy : plainName y.cls = true) (hw : w = Cond.code y cc maxL none :: w') (hsl : (lg_sl av).length ≤ maxL)
    (body : ∀ (p : Program) (e : Env) (s : State) (m : MethodId) (args : Array Value) (below : List Frame) (meth : Method) (c : Code) (A : Nat → Prop) (ls : Array Slot) (Q : State → Prop), Ent l y w rm D ty ws av cc maxL none p s m args meth c A ls → X s →
      (∀ (u : S) (H : Heap) (locs : List Loc) (pc : Nat) (ls : Array Slot), decode cc pc = .ok (.return_, 1) → post u → va_P D vwCl (wn u) H → va_D A (wn u) → va_S A s.heap H locs → W p l e rm s m args below meth c H locs rm.cells rm.slots Q (F0 m pc ls [])) →
      W p l e rm s m args below meth c s.heap [] 0 0 Q (F0 m 0 ls [])) : CW X l y w rm D ty ws av post wn := by
  intro sz
  refine Met.ofW (cc := cc) (maxL := maxL) (ret := none) hy hw ?_
  intro p e s m args below meth c s₁ B hml hv
  obtain ⟨rfl, ⟨hsz, hP, hK, hD0, hN⟩, hX⟩ := hv
  have hts := atoms_spec (ws := w) B.pre
  have hown : s.vm.findClass y.cls = some m.cls := findClass_of_methodNamed B.named
  subst hsz
  have hl := lv_entry av (n := maxL) hsl
  rw [lg_entry_eq]
  exact body p e s m _ below meth c _ _ _ ⟨B.exec, B.bytes, B.returns, hml, hown, hts, B.notSynchronized, (name_of_methodNamed B.named B.method).1, (fun q h => Or.inr h), hK, hP, hD0.self, va_S.rf, hl, hN⟩ hX (fun u H locs pc ls hdg hp hP hD hS => by
    exact W.vret B.exec B.bytes B.returns (fun t ht hW => ⟨⟨u, rfl, hp, by rw [ht]; exact hP, hD⟩, hS.F ht⟩) hS.2.2 hdg)
theorem fb_pwX {sz : Nat} (hb : ∀ (a : Array Value) (U : State) (g : JFrame) (mk : MethodId), X U → X (U.calling g mk a)) : FrameBlind (va_Pc av (fun U => pw D ty ws sz U ∧ X U)) := fun a U g mk q => by
  obtain ⟨q0, q1, qX⟩ := q
  exact ⟨(fb_pw a U g mk ⟨q0, q1⟩).1, (fb_pw a U g mk ⟨q0, q1⟩).2, hb a U g mk qX⟩
end WRD
section WRR
variable {p : Program} {l : Launch} {e : Env} {R : Room} {s : State} {m : MethodId} {args : Array Value} {below : List Frame} {meth : Method} {c : Code} {H : Heap} {locs : List Loc} {cells slots : Nat} {Q : State → Prop}
variable {y : MethodName} {bytes cc : ByteArray} {maxL nL n index : Nat} {w Ts : List Cond} {rm : Room} {own : String} {b : Addr} {As rest st0 : List Value} {pc : Nat} {ls : Array Slot}
variable {D : va_G} {ty : List (ClassId × FieldType)} {ws wc : va_W} {A : Nat → Prop} {Qf : Nat → Array Value → State → Outcome → State → Prop} {X : State → Prop}
theorem run_IX (S : CallFix p m c cc nL s args Ts own) (hM : ∀ sz : Nat, Met l y w rm (va_Pc (.ref b :: As) (fun U => pw D ty wc sz U ∧ X U)) (Qf sz) rm.cells rm.slots (va_A wc sz)) (hXb : ∀ (a : Array Value) (U : State) (g : JFrame) (mk : MethodId), X U → X (U.calling g mk a)) (hXw : ∀ U : State, s.WarmedH U.vm → X U)
    (cw : CallB R s args own index y bytes maxL none w rm rm.cells rm.slots n ∧ y.name = "<init>" ∧ (Cond.instanceMethod y).before args s = true)
    (hN : nwB s) (hK : va_K D vwCl ty s) (hP : va_P D vwCl ws H) (hD : va_D A ws) (isC : List Nat) (hC : isC.map (fun i => ws[i]?) = wc.map some) (hnd : va_nd isC = true)
    (hn : As.length = n) (hsize : ls.size = nL) (hst : st0 = As.reverse ++ .ref b :: rest) (hW : (rest.map fun v => v.category).sum ≤ 8) (hdg : decode cc pc = .ok (.invokespecial index, 3)) (hf : cells + rm.cells ≤ R.cells ∧ slots + rm.slots ≤ R.slots) :
    va_Run p l e R s m args below meth c H locs cells slots rm.cells rm.slots (F0 m pc ls st0) rest (Qf H.size (Value.ref b :: As).toArray) (va_A wc H.size) :=
  va_runI S (hM H.size) cw ⟨fb_pwX hXb, fun U hU hWU => ⟨(pre_w hN hK hP hD isC hC hnd (.ref b :: As) U hU hWU).1, (pre_w hN hK hP hD isC hC hnd (.ref b :: As) U hU hWU).2, hXw U hWU⟩⟩ rfl hn hsize hst (lv_room (ls := ls) (rest := []) (m := m) (pc := pc) hW) hdg hf
end WRR

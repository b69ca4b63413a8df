/-! CALLS BEHIND WHICH NEW CELLS STAND -/
theorem rp_joinX {A0 : Nat → Prop} {D : va_G} {cl : List vw_C} {ws wc w1 wx : va_W} {H H1 : Heap} (hP : va_P D cl ws H) (hD : va_D A0 ws) (isC : List Nat) (hC : isC.map (fun i => ws[i]?) = wc.map some) (hlen : isC.length = w1.length)
    (hk : ∀ q : Nat, q < H.size → ¬ va_A wc H.size q → H1[q]? = H[q]?) (hF : ∀ q, va_A wc H.size q → A0 q) (hP1 : va_P D cl (w1 ++ wx) H1) (hD1 : va_D (va_A wc H.size) (w1 ++ wx)) : va_P D cl (rp ws isC w1 ++ wx) H1 ∧ va_D A0 (rp ws isC w1 ++ wx) := by
  have g1 : ∀ (k : Nat) (q : Nat × va_E), w1[k]? = some q → (w1 ++ wx)[k]? = some q := fun k q h => by
    rw [List.getElem?_append_left (List.getElem?_eq_some_iff.mp h).1]; exact h
  have g2 : ∀ (k : Nat) (q : Nat × va_E), wx[k]? = some q → (w1 ++ wx)[w1.length + k]? = some q := fun k q h => by
    rw [List.getElem?_append_right (by omega), Nat.add_sub_cancel_left]; exact h
  have hPa : va_P D cl w1 H1 := fun k q hq => hP1 k q (g1 k q hq)
  have hDa : va_D (va_A wc H.size) w1 := ⟨fun i j x y hx hy e => hD1.1 i j x y (g1 i x hx) (g1 j y hy) e, fun k q hq => hD1.2 k q (g1 k q hq)⟩
  have hPx : va_P D cl wx H1 := fun k q hq => hP1 _ q (g2 k q hq)
  have hDx : va_D A0 wx := ⟨fun i j x y hx hy e => by have := hD1.1 _ _ x y (g2 i x hx) (g2 j y hy) e; omega, fun k q hq => hF q.1 (hD1.2 _ q (g2 k q hq))⟩
  obtain ⟨j1, j2⟩ := rp_join hP hD isC hC hlen hk hF hPa hDa
  refine ⟨j1.app hPx, j2.app hDx (fun i j x y hx hy e => ?_)⟩
  rcases rp_get isC ws w1 i x hlen hx with ⟨a, ha, ha2⟩ | ⟨h1, h2⟩
  · have := hD1.1 _ _ x y (g1 a x ha2) (g2 j y hy) e
    have := (List.getElem?_eq_some_iff.mp ha2).1
    omega
  · have hl := (hP i x h2).lt
    have hy2 : va_A wc H.size x.1 := by rw [e]; exact hD1.2 _ y (g2 j y hy)
    rcases hy2 with ⟨k2, e2, h⟩ | h
    · obtain ⟨b, h3, h4⟩ := map_at hC h
      have hij := hD.1 i b x (x.1, e2) h2 h4 rfl
      subst hij
      exact h1 (List.mem_of_getElem? h3)
    · omega
section CALX
variable {p : Program} {l : Launch} {e : Env} {R : Room} {s : State} {m : MethodId} {args : Array Value} {below : List Frame} {meth : Method} {c : Code} {H : Heap} {locs : List Loc} {cells slots : Nat} {Q : State → Prop}
variable {pc : Nat} {ls : Array Slot} {rest st0 : List Value} {D : va_G} {ws wc : va_W} {A : Nat → Prop} {St : Type} {a : Array Value} {mc ms : Nat}
theorem cal_vX {post : St → Prop} {w1 wx : St → va_W} (hr : va_Run p l e R s m args below meth c H locs cells slots mc ms (F0 m pc ls st0) rest (va_Qv post (qw D (fun u => w1 u ++ wx u) (va_A wc H.size)) (va_A wc H.size) a) (va_A wc H.size))
    (hP : va_P D vwCl ws H) (hD : va_D A ws) (hS : va_S A s.heap H locs) (hA : ∀ q : Nat, s.heap.size ≤ q → A q) (isC : List Nat) (hC : isC.map (fun i => ws[i]?) = wc.map some) (hlen : ∀ u, isC.length = (w1 u).length)
    (kk : ∀ (u : St) (H1 : Heap) (locs1 : List Loc), post u → va_P D vwCl (rp ws isC (w1 u) ++ wx u) H1 → va_D A (rp ws isC (w1 u) ++ wx u) → va_S A s.heap H1 locs1 → W p l e R s m args below meth c H1 locs1 (cells + mc) (slots + ms) Q (F0 m (pc + 3) ls (rest))) : W p l e R s m args below meth c H locs cells slots Q (F0 m pc ls st0) := by
  have hF := va_free hD hS hA isC hC
  refine va_callv hr hS (fun q _ h => hF q h) hF (fun u t H1 locs1 ht _ hp hB _ hk hS1 => ?_)
  obtain ⟨hP1, hD1⟩ := hB
  rw [ht] at hP1
  obtain ⟨g1, g2⟩ := rp_joinX hP hD isC hC (hlen u) hk hF hP1 hD1
  exact kk u H1 locs1 hp g1 g2 hS1
theorem pa_qX {cl : List vw_C} {w1 wx : va_W} {is : List Nat} (h : va_P D cl (rp ws is w1 ++ wx) H) : va_P D cl (rq is w1 0 ws ++ wx) H := by rw [← rp_q]; exact h
theorem da_qX {w1 wx : va_W} {is : List Nat} (h : va_D A (rp ws is w1 ++ wx)) : va_D A (rq is w1 0 ws ++ wx) := by rw [← rp_q]; exact h
end CALX

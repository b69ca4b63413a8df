/-! PURE WORDS, fourteenth: images -/
/-- what a block of the check's row of images holds -/
def BLK (f : Nat → Int32) (o : Nat) (fe fl fb fs fw : Nat → Int32) (n fi nl si : Int32) : Prop :=
  (∀ j, j < 6 → f (o + j) = fe j ∧ f (o + 6 + j) = fl j ∧ f (o + 12 + j) = fb j) ∧ (∀ j, j < 20 → f (o + 18 + j) = fs j) ∧ (∀ j, j < 12 → f (o + 38 + j) = fw j) ∧ f (o + 50) = n ∧ f (o + 51) = fi ∧ f (o + 52) = nl ∧ f (o + 53) = si
theorem BLK_keep {f g : Nat → Int32} {o : Nat} {fe fl fb fs fw : Nat → Int32} {n fi nl si : Int32} (h : BLK f o fe fl fb fs fw n fi nl si) (e : ∀ p, o ≤ p → p < o + 56 → g p = f p) : BLK g o fe fl fb fs fw n fi nl si := by
  obtain ⟨a1, a2, a3, a4, a5, a6, a7⟩ := h
  refine ⟨fun j hj => ?_, fun j hj => ?_, fun j hj => ?_, ?_, ?_, ?_, ?_⟩
  · obtain ⟨b1, b2, b3⟩ := a1 j hj
    exact ⟨by rw [e _ (by omega) (by omega)]; exact b1, by rw [e _ (by omega) (by omega)]; exact b2, by rw [e _ (by omega) (by omega)]; exact b3⟩
  · rw [e _ (by omega) (by omega)]; exact a2 j hj
  · rw [e _ (by omega) (by omega)]; exact a3 j hj
  · rw [e _ (by omega) (by omega)]; exact a4
  · rw [e _ (by omega) (by omega)]; exact a5
  · rw [e _ (by omega) (by omega)]; exact a6
  · rw [e _ (by omega) (by omega)]; exact a7

/-- the row of the three tracks, as the constructor leaves it -/
theorem trk_at {D : va_G} {cA : ClassId} {q b0 b1 b2 : Nat} {H : Heap} (h : va_at D vwCl (q, .inl (cA, 3, .inr (.inr (.inr (.inr (va_up (va_up (va_up (fun _ => none) (0 : Int32).toNatClampNeg (some b0)) (1 : Int32).toNatClampNeg (some b1)) (2 : Int32).toNatClampNeg (some b2))))))) H) : va_at D vwCl (q, .inl (cA, 3, .inr (.inr (.inr (.inr (trk b0 b1 b2)))))) H := by
  have e : arrV cA 3 (fun j => va_rf (va_up (va_up (va_up (fun _ => none) (0 : Int32).toNatClampNeg (some b0)) (1 : Int32).toNatClampNeg (some b1)) (2 : Int32).toNatClampNeg (some b2) j)) = arrV cA 3 (fun j => va_rf (trk b0 b1 b2 j)) := rfl
  show H[q]? = some (arrV cA 3 (fun j => va_rf (trk b0 b1 b2 j)))
  rw [← e]
  exact h

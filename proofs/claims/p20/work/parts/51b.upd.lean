/-! the face of the model: what each call answers and leaves, by the same codes -/
theorem up2_id {M : Nat → Nat → Int} {c k : Nat} {z : Int} (h : M c k = z) : up2 M c k z = M := by
  funext x j
  simp only [up2]
  split
  · rename_i q
    rw [q.1, q.2, h]
  · rfl
theorem up2_r {M : Nat → Nat → Int} {c k x : Nat} {z : Int} (h : x ≠ c) : up2 M c k z x = M x := by
  funext j
  exact up2_c h

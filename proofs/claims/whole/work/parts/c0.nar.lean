/-! narrowing: small numbers stay -/
theorem vp_nar_b (b : Bool) : vp_nar .boolean (bI b) = bI b := by cases b <;> rfl
set_option maxRecDepth 100000 in
theorem vp_nar_by {n : Nat} (h : n < 128) : vp_nar .byte (nI n).toInt8.toInt32 = nI n := by
  rw [vp_nar_byte]
  exact (by decide : ∀ n, n < 128 → (nI n).toInt8.toInt32.toInt8.toInt32 = nI n) n h
theorem vp_nar_sh {x : Int32} (h : iB 1000 x) : vp_nar .short x.toInt16.toInt32 = x := by
  obtain ⟨h1, h2⟩ := h
  have e : x.toInt16.toInt32.toInt = x.toInt := by
    rw [Int16.toInt_toInt32, Int32.toInt_toInt16]
    exact Int.bmod_eq_of_le (by omega) (by omega)
  rw [vp_nar_short]
  have e2 : x.toInt16.toInt32 = x := i3_ext e
  rw [e2, e2]

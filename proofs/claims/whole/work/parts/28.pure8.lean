theorem i_lt5 {k : Nat} (h6 : k < 2 ^ 31) (h : ¬ (5 : Int32) ≤ nI k) : k < 5 := by
  rcases Nat.lt_or_ge k 5 with q | q
  · exact q
  · exact absurd (nI_le (a := 5) (b := k) q h6) h
theorem i_ge5 {k : Nat} (h6 : k < 2 ^ 31) (h : (5 : Int32) ≤ nI k) : ¬ k < 5 := fun q => absurd h (nI_ge (a := k) (b := 5) q (by omega))
theorem k0 {k : Nat} (h6 : k < 2 ^ 31) (h : nI k = 0) : k = 0 := (nI_eq (b := 0) h6 (by decide)).mp h
theorem td4 {q : Int32} (h : II 0 4 q) (h0 : ¬ q = 0) (h1 : ¬ q = 1) (h2 : ¬ q = 2) (h3 : ¬ q = 3) : q = nI 4 := by
  obtain ⟨k, k0, k4, rfl⟩ := h.k
  obtain rfl | rfl | rfl | rfl | rfl : k = 0 ∨ k = 1 ∨ k = 2 ∨ k = 3 ∨ k = 4 := by omega
  · exact absurd rfl h0
  · exact absurd rfl h1
  · exact absurd rfl h2
  · exact absurd rfl h3
  · rfl
theorem i_below {i : Int32} {v : Nat} (h0 : ¬ i < 0) (h : ¬ nI v ≤ i) (h6 : v < 2 ^ 31) : ∃ j, j < v ∧ i = nI j := by
  have e0 : (0 : Int32).toInt = 0 := rfl
  rw [Int32.not_lt, Int32.le_iff_toInt_le, e0] at h0
  rw [Int32.le_iff_toInt_le, nI_toInt h6] at h
  exact ⟨i.toInt.toNat, by omega, i_ofToNat h0⟩

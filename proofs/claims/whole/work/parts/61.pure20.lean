/-! a CONST fits its WIDTH -/
theorem cut_sh : ∀ k : Fin 33, 1 ≤ k.val → ((((64 : Int32) - nI k.val).toInt64 &&& 63).toBitVec.smod 64).toNat = 64 - k.val := by decide
theorem cut_pw : ∀ k : Fin 33, 1 ≤ k.val → (pw (nI k.val)).toInt = 2 ^ (k.val - 1) := by decide
theorem cut_pn : ∀ k : Fin 33, 1 ≤ k.val → (-pw (nI k.val)).toInt = -2 ^ (k.val - 1) := by decide
theorem cut_fit {v : Int64} {w : Int32} (hw : II 1 32 w) : ¬ cutF v w < -pw w ∧ ¬ pw w ≤ cutF v w := by
  obtain ⟨k, h1, h2, rfl⟩ := hw.k
  have hs := cut_sh ⟨k, by omega⟩ h1
  have hp := cut_pw ⟨k, by omega⟩ h1
  have hq := cut_pn ⟨k, by omega⟩ h1
  dsimp only at hs hp hq
  have e : (cutF v (nI k)).toInt = (v <<< (((64 : Int32) - nI k).toInt64 &&& 63)).toInt >>> (64 - k) := by
    show (_ >>> _ : Int64).toInt = _
    rw [← Int64.toInt_toBitVec, Int64.toBitVec_shiftRight, BitVec.sshiftRight_eq', hs, BitVec.toInt_sshiftRight, Int64.toInt_toBitVec]
  have y1 := Int64.le_toInt (v <<< (((64 : Int32) - nI k).toInt64 &&& 63))
  have y2 := Int64.toInt_lt (v <<< (((64 : Int32) - nI k).toInt64 &&& 63))
  generalize (v <<< (((64 : Int32) - nI k).toInt64 &&& 63)).toInt = y at e y1 y2
  rw [Int.shiftRight_eq_div_pow] at e
  have hm : (2 : Int) ^ (k - 1) * 2 ^ (64 - k) = 2 ^ 63 := by rw [← Int.pow_add]; congr 1; omega
  have h0 : (0 : Int) < 2 ^ (64 - k) := Int.pow_pos (by decide)
  have c1 : -(2 : Int) ^ (k - 1) ≤ y / 2 ^ (64 - k) := (Int.le_ediv_iff_mul_le h0).mpr (by rw [Int.neg_mul, hm]; exact y1)
  have c2 : y / 2 ^ (64 - k) < (2 : Int) ^ (k - 1) := (Int.ediv_lt_iff_lt_mul h0).mpr (by rw [hm]; exact y2)
  have e' : (cutF v (nI k)).toInt = y / 2 ^ (64 - k) := by rw [e]; norm_cast
  constructor
  · rw [Int64.lt_iff_toInt_lt, e', hq]; omega
  · rw [Int64.le_iff_toInt_le, e', hp]; omega

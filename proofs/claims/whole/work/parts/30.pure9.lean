/-- a shelf's row is written: 71 -/
def rwC (l : aL) (b : Nat) (f : Nat → Int64) : Nat → aL
  | 0 => l
  | i + 1 => up2 (rwC l b f i) 71 (b + i) (f i)
theorem rwC_k (l : aL) (b : Nat) (f : Nat → Int64) {k : Nat} (h : ¬ k = 71) : ∀ i, rwC l b f i k = l k
  | 0 => rfl
  | i + 1 => (up2_k _ _ _ h).trans (rwC_k l b f h i)
theorem rwC_j (l : aL) (b : Nat) (f : Nat → Int64) : ∀ (n j : Nat), rwC l b f n 71 j = if b ≤ j ∧ j < b + n then f (j - b) else l 71 j
  | 0, j => by rw [if_neg (by omega)]; rfl
  | i + 1, j => by
    by_cases e : j = b + i
    · subst e; show up2 _ 71 _ _ 71 _ = _; rw [up2_s, if_pos (by omega)]; congr 1; omega
    · show up2 _ 71 _ _ 71 _ = _
      rw [up2_j _ _ _ e, rwC_j l b f i j]
      split <;> split <;> first | rfl | omega
/-- the row between: 72 -/
def bwC (l : aL) (b : Nat) : Nat → aL
  | 0 => l
  | i + 1 => up2 (bwC l b i) 72 i (bwC l b i 71 (b + i))
theorem bwC_k (l : aL) (b : Nat) {k : Nat} (h : ¬ k = 72) : ∀ i, bwC l b i k = l k
  | 0 => rfl
  | i + 1 => (up2_k _ _ _ h).trans (bwC_k l b h i)
theorem bwC_j (l : aL) (b : Nat) : ∀ (n j : Nat), j < n → bwC l b n 72 j = l 71 (b + j)
  | 0, j, h => by omega
  | i + 1, j, h => by
    by_cases e : j = i
    · subst e; show up2 _ 72 _ _ 72 _ = _; rw [up2_s, bwC_k l b (by decide)]
    · show up2 _ 72 _ _ 72 _ = _
      rw [up2_j _ _ _ e, bwC_j l b i j (by omega)]
/-- how an ACT FAILS, for `toss` -/
def sfF (c : aI) (a : Nat) : Int32 := if c 44 a = 5 then 1 else if c 44 a = 8 then 2 else if c 44 a = 9 then 2 else if c 44 a = 1 then 3 else -15
abbrev KC (n : Nat) (d m k : Int32) : Prop := AI 8 d ∧ (m = 0 ∨ (m = 1 ∧ AI n k) ∨ m = 3 ∨ m = 4)
abbrev HP (c : aI) (d : Nat) (i n : Int32) : Prop := ¬ n < 0 ∧ ¬ i < 0 ∧ ¬ c 68 d < i ∧ ¬ c 68 d - i < n
theorem sh_i {d : Int32} : (¬ d < 0 ∧ ¬ 8 ≤ d) ↔ AI 8 d := by
  have e : (0 : Int32).toInt = 0 := rfl
  have e8 : (8 : Int32).toInt = 8 := rfl
  unfold AI
  rw [Int32.lt_iff_toInt_lt, Int32.le_iff_toInt_le, e, e8]
  omega
theorem el_i {i v : Int32} {s : Nat} (hs : v = nI s) (h6 : s ≤ 60) : (¬ i.toInt64 < 0 ∧ ¬ (v - 1).toInt64 < i.toInt64) ↔ AI s i := by
  have e0 : (0 : Int64).toInt = 0 := rfl
  have e1 : (v - 1).toInt = (s : Int) - 1 := by
    subst hs
    have e : (1 : Int32).toInt = 1 := rfl
    rw [Int32.toInt_sub, nI_toInt (by omega), e, Int.bmod_eq_of_le] <;> omega
  unfold AI
  rw [Int64.lt_iff_toInt_lt, Int64.lt_iff_toInt_lt, e0, Int32.toInt_toInt64, Int32.toInt_toInt64, e1]
  omega
theorem hp_k {v i n : Int32} {s : Nat} (hs : v = nI s) (h6 : s ≤ 60) (h : ¬ n < 0 ∧ ¬ i < 0 ∧ ¬ v < i ∧ ¬ v - i < n) : ∃ a b, i = nI a ∧ n = nI b ∧ a + b ≤ s := by
  subst hs
  obtain ⟨h1, h2, h3, h4⟩ := h
  have e0 : (0 : Int32).toInt = 0 := rfl
  rw [Int32.not_lt, Int32.le_iff_toInt_le, e0] at h1 h2
  have g1 := i_ofToNat h1
  have g2 := i_ofToNat h2
  have b1 := Int32.toInt_lt n
  have b2 := Int32.toInt_lt i
  rw [Int32.not_lt, Int32.le_iff_toInt_le, nI_toInt (by omega)] at h3
  rw [g2, nx_sub (by omega), Int32.not_lt, Int32.le_iff_toInt_le, nI_toInt (by omega)] at h4
  exact ⟨i.toInt.toNat, n.toInt.toNat, g2, g1, by omega⟩
theorem nn_k {n : Int32} (h : 0 ≤ n) (h2 : n ≤ 60) : ∃ j, j ≤ 60 ∧ n = nI j := by
  have e0 : (0 : Int32).toInt = 0 := rfl
  have e6 : (60 : Int32).toInt = 60 := rfl
  rw [Int32.le_iff_toInt_le, e0] at h
  rw [Int32.le_iff_toInt_le, e6] at h2
  exact ⟨n.toInt.toNat, by omega, i_ofToNat h⟩

theorem nI_nn {n : Nat} (h : n < 2 ^ 31) : 0 ≤ nI n := by rw [Int32.le_iff_toInt_le, nI_toInt h]; simp
theorem nI_nneg {n : Nat} (h : n < 2 ^ 31) : ¬ nI n < 0 := Int32.not_lt.mpr (nI_nn h)
/-- an int lies from a to b; it is one of the first n -/
abbrev II (a b : Nat) (w : Int32) : Prop := (a : Int) ≤ w.toInt ∧ w.toInt ≤ (b : Int)
abbrev AI (n : Nat) (w : Int32) : Prop := 0 ≤ w.toInt ∧ w.toInt < (n : Int)
theorem i_ofToNat {w : Int32} (h : 0 ≤ w.toInt) : w = nI w.toInt.toNat := by
  have h2 := Int32.toInt_lt w
  refine Int32.toInt_inj.mp ?_
  rw [nI_toInt (by omega)]
  omega
theorem II.k {a b : Nat} {w : Int32} (h : II a b w) : ∃ k, a ≤ k ∧ k ≤ b ∧ w = nI k := ⟨w.toInt.toNat, by have := h.1; omega, by have := h.1; have := h.2; omega, i_ofToNat (by have := h.1; omega)⟩
theorem AI.k {n : Nat} {w : Int32} (h : AI n w) : ∃ k, k < n ∧ w = nI k := ⟨w.toInt.toNat, by have := h.1; have := h.2; omega, i_ofToNat h.1⟩
theorem II_nI {a b k : Nat} (h : k < 2 ^ 31) : II a b (nI k) ↔ a ≤ k ∧ k ≤ b := by unfold II; rw [nI_toInt h]; omega
theorem AI_nI {n k : Nat} (h : k < 2 ^ 31) : AI n (nI k) ↔ k < n := by unfold AI; rw [nI_toInt h]; omega
theorem AI_m1 {n : Nat} : ¬ AI n (-1) := fun h => absurd h.1 (by decide)
theorem in_i {w : Int32} {a b : Nat} {lo hi : Int64} (hb : b < 2 ^ 31) (ha : a < 2 ^ 31) (hlo : lo = lN a) (hhi : hi = lN b) : (¬ w.toInt64 < lo ∧ ¬ hi < w.toInt64) ↔ II a b w := by
  subst hlo; subst hhi
  have e1 : (lN a).toInt = (a : Int) := Int64.toInt_ofNat_of_lt (by omega)
  have e2 : (lN b).toInt = (b : Int) := Int64.toInt_ofNat_of_lt (by omega)
  unfold II
  rw [Int64.lt_iff_toInt_lt, Int64.lt_iff_toInt_lt, e1, e2, Int32.toInt_toInt64]
  omega
theorem act_i {w v : Int32} {n : Nat} (hn : v = nI n) (h6 : n ≤ 16) : (¬ w < 0 ∧ ¬ v ≤ w) ↔ AI n w := by
  subst hn
  have e : (0 : Int32).toInt = 0 := rfl
  unfold AI
  rw [Int32.lt_iff_toInt_lt, Int32.le_iff_toInt_le, nI_toInt (by omega), e]
  omega
/-- an ACT more in the reference -/
def adI (c : aI) (n : Nat) (o w x y z : Int32) : aI := up2 (up2 (up2 (up2 (up2 (up2 (up2 (up2 (up2 c 44 n o) 45 n w) 46 (3 * n) x) 46 (3 * n + 1) y) 46 (3 * n + 2) z) 47 n (-2)) 43 1 (nI (n + 1))) 43 13 0) 43 19 0
abbrev chI (c : aI) : aI := up2 (up2 c 43 13 0) 43 19 0
theorem nI_16 {n : Nat} (h : n ≤ 16) : nI n = 16 ↔ n = 16 := nI_eq (b := 16) (by omega) (by decide)
theorem bI_iff {p q : Prop} [Decidable p] [Decidable q] (h : p ↔ q) : bI p = bI q := by unfold bI; split <;> split <;> simp_all
theorem AI_nn {n : Nat} {w : Int32} (h : AI n w) : 0 ≤ w := by obtain ⟨k, hk, e⟩ := h.k; have := h.2; have h2 := Int32.toInt_lt w; rw [Int32.le_iff_toInt_le]; exact h.1
theorem nx_sub1 {n : Nat} : nI (n + 1) - 1 = nI (n + 1 - 1) := by rw [← nI_1]; simp
theorem nx_subP {n : Nat} {x : Int32} (hx : x = nI n) (h : 0 < n) : x - 1 = nI (n - 1) := by
  obtain ⟨m, rfl⟩ : ∃ m, n = m + 1 := ⟨n - 1, by omega⟩
  rw [hx]; exact nx_sub1
theorem nI_z {n : Nat} {x : Int32} (h : n ≤ 16) (hx : x = nI n) (e : x = 0) : n = 0 := (nI_eq (b := 0) (by omega) (by decide)).mp (hx.symm.trans e)

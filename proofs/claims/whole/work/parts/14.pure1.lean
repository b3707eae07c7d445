/-- an ACT of the reference as it ought to be: 44 op, 45 width, 46 operand, 47 port -/
def WF (ci : Nat → Nat → Int32) (a : Nat) : Prop :=
  (∃ o : Nat, o ≤ 10 ∧ ci 44 a = nI o) ∧ (¬ ci 44 a = 0 → ¬ ci 44 a = 1 → ∃ x, x < a ∧ ci 46 (3 * a) = nI x) ∧ ((ci 44 a = 2 ∨ ci 44 a = 3 ∨ ci 44 a = 4 ∨ ci 44 a = 5 ∨ ci 44 a = 6 ∨ ci 44 a = 7 ∨ ci 44 a = 9) → ∃ y, y < a ∧ ci 46 (3 * a + 1) = nI y) ∧ (ci 44 a = 7 → ∃ z, z < a ∧ ci 46 (3 * a + 2) = nI z) ∧ ((ci 44 a = 1 ∨ ci 44 a = 10) → ∃ q, q < 4 ∧ ci 47 a = nI q) ∧ (∃ w, 1 ≤ w ∧ w ≤ 32 ∧ ci 45 a = nI w)
theorem WF.x {ci : Nat → Nat → Int32} {a : Nat} (h : WF ci a) (h0 : ¬ ci 44 a = 0) (h1 : ¬ ci 44 a = 1) : ∃ x, x < a ∧ ci 46 (3 * a) = nI x := h.2.1 h0 h1
theorem WF.y {ci : Nat → Nat → Int32} {a : Nat} (h : WF ci a) (h0 : ci 44 a = 2 ∨ ci 44 a = 3 ∨ ci 44 a = 4 ∨ ci 44 a = 5 ∨ ci 44 a = 6 ∨ ci 44 a = 7 ∨ ci 44 a = 9) : ∃ y, y < a ∧ ci 46 (3 * a + 1) = nI y := h.2.2.1 h0
theorem WF.z {ci : Nat → Nat → Int32} {a : Nat} (h : WF ci a) (h0 : ci 44 a = 7) : ∃ z, z < a ∧ ci 46 (3 * a + 2) = nI z := h.2.2.2.1 h0
theorem WF.q {ci : Nat → Nat → Int32} {a : Nat} (h : WF ci a) (h0 : ci 44 a = 1 ∨ ci 44 a = 10) : ∃ q, q < 4 ∧ ci 47 a = nI q := h.2.2.2.2.1 h0
theorem WF.w {ci : Nat → Nat → Int32} {a : Nat} (h : WF ci a) : ∃ w, 1 ≤ w ∧ w ≤ 32 ∧ ci 45 a = nI w := h.2.2.2.2.2
theorem op_out {x : Int32} {k : Nat} (hx : ∃ o : Nat, o ≤ k ∧ x = nI o) (hk : k ≤ 100) {A : Prop} (h : x.toInt < 0 ∨ (k : Int) < x.toInt) : A := by
  obtain ⟨o, h1, rfl⟩ := hx
  rw [nI_toInt (by omega)] at h
  omega
theorem out_ne {x : Int32} {lo hi : Int} (h : x.toInt < lo ∨ hi < x.toInt) (c : Int32) (hc : lo ≤ c.toInt ∧ c.toInt ≤ hi) : ¬ x = c := fun e => by subst e; omega
/-- the NUMBER of an operand in a run: 65 value -/
abbrev vA (ci : Nat → Nat → Int32) (cl : Nat → Nat → Int64) (a w : Nat) : Int64 := cl 65 (ci 46 (3 * a + w)).toNatClampNeg
/-- how ACT a FAILS now (0: it doesn't): 66 taken, 52 fed -/
def whF (ci : Nat → Nat → Int32) (cl : Nat → Nat → Int64) (a : Nat) : Int32 :=
  if ci 44 a = 1 then (if ci 66 (ci 47 a).toNatClampNeg = ci 52 (ci 47 a).toNatClampNeg then 3 else 0)
  else if ci 44 a = 5 then (if vA ci cl a 1 = 0 then 1 else 0)
  else if ci 44 a = 8 ∨ ci 44 a = 9 then (if ¬ vA ci cl a 0 < 0 ∧ ¬ 15 < vA ci cl a 0 then 0 else 2)
  else 0
/-- what its OP gives: 48 number, 53 food, 60 row -/
def gvF (ci : Nat → Nat → Int32) (cl : Nat → Nat → Int64) (a : Nat) : Int64 :=
  if ci 44 a = 0 then cl 48 a
  else if ci 44 a = 1 then cl 53 (20 * (ci 47 a).toNatClampNeg + (ci 66 (ci 47 a).toNatClampNeg).toNatClampNeg)
  else if ci 44 a = 2 then vA ci cl a 0 + vA ci cl a 1
  else if ci 44 a = 3 then vA ci cl a 0 - vA ci cl a 1
  else if ci 44 a = 4 then vA ci cl a 0 * vA ci cl a 1
  else if ci 44 a = 5 then vA ci cl a 0 / vA ci cl a 1
  else if ci 44 a = 6 then (if vA ci cl a 1 ≤ vA ci cl a 0 then 0 else 1)
  else if ci 44 a = 7 then (if vA ci cl a 0 = 0 then vA ci cl a 2 else vA ci cl a 1)
  else if ci 44 a = 8 then cl 60 (vA ci cl a 0).toInt32.toNatClampNeg
  else if ci 44 a = 9 then vA ci cl a 1
  else vA ci cl a 0
/-- operands of ACT a among its first j places -/
def opN (ci : Nat → Nat → Int32) (a : Nat) : Nat → Nat
  | 0 => 0
  | j + 1 => if ci 46 (3 * a + j) < 0 then opN ci a j else opN ci a j + 1
def wtF (ci : Nat → Nat → Int32) (a : Nat) : Int32 :=
  if ci 44 a = 4 then ci 45 a + nI (10 * opN ci a 3) + 100
  else if ci 44 a = 5 then 2 * (ci 45 a + nI (10 * opN ci a 3) + 100)
  else if ci 44 a = 8 ∨ ci 44 a = 9 then ci 45 a + nI (10 * opN ci a 3) + 7
  else if ci 44 a = 1 ∨ ci 44 a = 10 then ci 45 a + nI (10 * opN ci a 3) + 1007
  else ci 45 a + nI (10 * opN ci a 3)
/-- the SOURCE at operand w of ACT a: 57 register -/
def soF (ci : Nat → Nat → Int32) (a w : Nat) : Int32 := if 0 ≤ ci 46 (3 * a + w) then (if ci 44 (ci 46 (3 * a + w)).toNatClampNeg = 0 then 100 + ci 46 (3 * a + w) else ci 57 (ci 46 (3 * a + w)).toNatClampNeg) else -1
/-- TICKS of a kind that the first c ACTS fill -/
def fdF (ci : Nat → Nat → Int32) (kind : Int32) : Nat → Int32
  | 0 => 0
  | a + 1 => fdF ci kind a + (if kd (ci 44 a) = kind then fl ci a else 0)
/-- the least ACT from a on, of k that are left, behind which b just is -/
def jbF (ci : Nat → Nat → Int32) (cl : Nat → Nat → Int64) (b : Nat) : Nat → Nat → Int32
  | 0, _ => -2
  | k + 1, a => if nd ci cl a b ≤ 0 then jbF ci cl b k (a + 1) else if ci 55 b - ci 55 a = nd ci cl a b then nI a else jbF ci cl b k (a + 1)
/-- REGISTER r is taken for ACT a by one of the first c ACTS -/
def mrI (ci : Nat → Nat → Int32) (n a r : Nat) : Nat → Int32
  | 0 => 0
  | b + 1 => if nI b = nI a then mrI ci n a r b else if ci 57 b = nI r then (if tog ci n a b then 1 else mrI ci n a r b) else mrI ci n a r b
/-- the least REGISTER from r on that is free for ACT a, with k tries left -/
def rgF (ci : Nat → Nat → Int32) (n a : Nat) : Nat → Nat → Nat
  | 0, r => r
  | k + 1, r => if mrI ci n a r n = 0 then r else rgF ci n a k (r + 1)
/-- 2^(n - 1) -/
abbrev pw (x : Int32) : Int64 := 1 <<< ((x - 1).toInt64 &&& 63)
abbrev fit (lo hi : Int64) (x : Int32) : Prop := ¬ lo < -pw x ∧ hi < pw x
/-- BITS from n on, with k tries left -/
def btF (lo hi : Int64) : Nat → Nat → Nat
  | 0, n => n
  | k + 1, n => if fit lo hi (nI n) then n else btF lo hi k (n + 1)
theorem mr_01 (ci : Nat → Nat → Int32) (n a r : Nat) : ∀ c, mrI ci n a r c = 0 ∨ mrI ci n a r c = 1
  | 0 => Or.inl rfl
  | b + 1 => by
    have ih := mr_01 ci n a r b
    simp only [mrI]
    split
    · exact ih
    · split
      · split
        · exact Or.inr rfl
        · exact ih
      · exact ih
theorem mr_1 {ci : Nat → Nat → Int32} {n a r c : Nat} (h : ¬ mrI ci n a r c = 0) : mrI ci n a r c = 1 := (mr_01 ci n a r c).resolve_left h

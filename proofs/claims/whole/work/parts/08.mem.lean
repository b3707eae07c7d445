/-! The fixed cells (made by the constructors): ints in ci, longs in cl, references in cr; from 74 on what dy says. -/
def mkL : List ((Nat → Int32) → (Nat → Int64) → (Nat → Option Nat) → aE) := [fun f g h => .inr (10, [.ref 2, .ref 4, .ref 8, .ref 10, .ref 14, .ref 18, .ref 42, .int (f 7), .int (f 8)]),
  fun f g h => .inr (1, [.ref 3, .int (f 1)]),
  fun f g h => .inl (3, 16, .inr (.inr (.inr (.inr h)))),
  fun f g h => .inr (8, [.ref 5, .ref 6, .ref 7]),
  fun f g h => .inl (0, 4, .inl f),
  fun f g h => .inl (0, 4, .inl f),
  fun f g h => .inl (2, 4, .inl f),
  fun f g h => .inr (3, [.ref 2, .ref 4, .ref 9]),
  fun f g h => .inl (0, 16, .inl f),
  fun f g h => .inr (4, [.ref 2, .ref 4, .ref 8, .ref 11, .ref 12, .ref 13, .int (f 6)]),
  fun f g h => .inl (0, 16, .inl f),
  fun f g h => .inl (0, 16, .inl f),
  fun f g h => .inl (0, 16, .inl f),
  fun f g h => .inr (5, [.ref 2, .ref 4, .ref 10, .ref 15, .ref 16, .ref 17, .int (f 6)]),
  fun f g h => .inl (0, 16, .inl f),
  fun f g h => .inl (0, 16, .inl f),
  fun f g h => .inl (0, 16, .inl f),
  fun f g h => .inr (2, [.ref 2, .ref 19, .ref 20, .ref 21, .ref 22, .ref 23, .ref 24, .ref 25, .int (f 8), .int (f 9), .int (f 10), .int (f 11)]),
  fun f g h => .inl (5, 4, .inr (.inr (.inr (.inr h)))),
  fun f g h => .inl (5, 4, .inr (.inr (.inr (.inr h)))),
  fun f g h => .inl (1, 16, .inr (.inl g)),
  fun f g h => .inl (1, 16, .inr (.inl g)),
  fun f g h => .inl (0, 4, .inl f),
  fun f g h => .inl (0, 16, .inl f),
  fun f g h => .inl (1, 16, .inr (.inl g)),
  fun f g h => .inr (9, [.ref 27, .int (f 1)]),
  fun f g h => .inl (1, 20, .inr (.inl g)),
  fun f g h => .inr (9, [.ref 29, .int (f 1)]),
  fun f g h => .inl (1, 16, .inr (.inl g)),
  fun f g h => .inr (9, [.ref 31, .int (f 1)]),
  fun f g h => .inl (1, 20, .inr (.inl g)),
  fun f g h => .inr (9, [.ref 33, .int (f 1)]),
  fun f g h => .inl (1, 16, .inr (.inl g)),
  fun f g h => .inr (9, [.ref 35, .int (f 1)]),
  fun f g h => .inl (1, 20, .inr (.inl g)),
  fun f g h => .inr (9, [.ref 37, .int (f 1)]),
  fun f g h => .inl (1, 16, .inr (.inl g)),
  fun f g h => .inr (9, [.ref 39, .int (f 1)]),
  fun f g h => .inl (1, 20, .inr (.inl g)),
  fun f g h => .inr (9, [.ref 41, .int (f 1)]),
  fun f g h => .inl (1, 16, .inr (.inl g)),
  fun f g h => .inl (4, 8, .inr (.inr (.inr (.inr h)))),
  fun f g h => .inr (11, [.int (f 0), .int (f 1), .ref 44, .ref 45, .ref 46, .ref 47, .ref 48, .ref 49, .ref 50, .ref 51, .ref 52, .ref 53, .ref 54, .int (f 13), .ref 55, .ref 56, .int (f 16), .ref 57, .int (f 18), .int (f 19), .int (f 20), .int (f 21), .int (f 22), .int (f 23), .ref 58, .ref 59, .ref 60, .ref 61, .ref 62, .long (g 29), .long (g 30), .ref 63, .ref 64, .ref 65, .ref 66, .ref 67, .ref 68, .ref 69, .ref 70, .ref 71, .ref 72]),
  fun f g h => .inl (0, 16, .inl f),
  fun f g h => .inl (0, 16, .inl f),
  fun f g h => .inl (0, 48, .inl f),
  fun f g h => .inl (0, 16, .inl f),
  fun f g h => .inl (1, 16, .inr (.inl g)),
  fun f g h => .inl (0, 4, .inl f),
  fun f g h => .inl (0, 4, .inl f),
  fun f g h => .inl (2, 4, .inl f),
  fun f g h => .inl (0, 4, .inl f),
  fun f g h => .inl (1, 80, .inr (.inl g)),
  fun f g h => .inl (1, 16, .inr (.inl g)),
  fun f g h => .inl (0, 16, .inl f),
  fun f g h => .inl (0, 16, .inl f),
  fun f g h => .inl (0, 16, .inl f),
  fun f g h => .inl (0, 4, .inl f),
  fun f g h => .inl (1, 64, .inr (.inl g)),
  fun f g h => .inl (1, 16, .inr (.inl g)),
  fun f g h => .inl (1, 16, .inr (.inl g)),
  fun f g h => .inl (1, 16, .inr (.inl g)),
  fun f g h => .inl (0, 16, .inl f),
  fun f g h => .inl (0, 16, .inl f),
  fun f g h => .inl (1, 16, .inr (.inl g)),
  fun f g h => .inl (0, 4, .inl f),
  fun f g h => .inl (0, 8, .inl f),
  fun f g h => .inl (0, 8, .inl f),
  fun f g h => .inl (0, 8, .inl f),
  fun f g h => .inl (0, 8, .inl f),
  fun f g h => .inl (1, 480, .inr (.inl g)),
  fun f g h => .inl (1, 60, .inr (.inl g)),
  fun f g h => .inl (1, 1, .inr (.inl g))]
def mm (ci : Nat → Nat → Int32) (cl : Nat → Nat → Int64) (cr : Nat → Nat → Option Nat) (dy : aM) : aM := fun k => match k with
  | 0 => none
  | k + 1 => match mkL[k]? with
    | some F => some (F (ci (k + 1)) (cl (k + 1)) (cr (k + 1)))
    | none => dy (k + 1)
def up2 {α : Type} (f : Nat → Nat → α) (k j : Nat) (v : α) : Nat → Nat → α := fun k' => if k' = k then va_up (f k') j v else f k'
/-- a whole cell's contents anew -/
def up1 {α : Type} (f : Nat → Nat → α) (k : Nat) (g : Nat → α) : Nat → Nat → α := fun k' => if k' = k then g else f k'
theorem up2_s {α : Type} (f : Nat → Nat → α) (k j : Nat) (v : α) : up2 f k j v k j = v := by simp [up2, va_up]
theorem up2_j {α : Type} (f : Nat → Nat → α) (k : Nat) {j i : Nat} (v : α) (h : i ≠ j) : up2 f k j v k i = f k i := by simp [up2, va_up, h]
theorem up2_k {α : Type} (f : Nat → Nat → α) {k q : Nat} (j : Nat) (v : α) (h : q ≠ k) : up2 f k j v q = f q := by simp [up2, h]
theorem up2_e {α : Type} (f : Nat → Nat → α) (k j : Nat) (v : α) : up2 f k j v k = va_up (f k) j v := by simp [up2]
theorem up1_s {α : Type} (f : Nat → Nat → α) (k : Nat) (g : Nat → α) : up1 f k g k = g := by simp [up1]
theorem up1_k {α : Type} (f : Nat → Nat → α) {k q : Nat} (g : Nat → α) (h : q ≠ k) : up1 f k g q = f q := by simp [up1, h]
theorem mkL_len : mkL.length = 73 := rfl
theorem mm_of {ci ci' : Nat → Nat → Int32} {cl cl' : Nat → Nat → Int64} {cr cr' : Nat → Nat → Option Nat} {dy : aM} {k : Nat} {c : aE} {F : (Nat → Int32) → (Nat → Int64) → (Nat → Option Nat) → aE} (hF : mkL[k]? = some F) (hc : F (ci' (k + 1)) (cl' (k + 1)) (cr' (k + 1)) = c) (h1 : ∀ q, q ≠ k + 1 → ci' q = ci q) (h2 : ∀ q, q ≠ k + 1 → cl' q = cl q) (h3 : ∀ q, q ≠ k + 1 → cr' q = cr q) : va_up (mm ci cl cr dy) (k + 1) (some c) = mm ci' cl' cr' dy := by
  funext q
  cases q with
  | zero => rw [va_up_ne _ _ (by omega)]; rfl
  | succ q =>
    by_cases e : q = k
    · subst e
      rw [va_up_self]
      show _ = (match mkL[q]? with | some F => some (F (ci' (q + 1)) (cl' (q + 1)) (cr' (q + 1))) | none => dy (q + 1))
      rw [hF, ← hc]
    · rw [va_up_ne _ _ (by omega)]
      show (match mkL[q]? with | some F => some (F (ci (q + 1)) (cl (q + 1)) (cr (q + 1))) | none => dy (q + 1)) = (match mkL[q]? with | some F => some (F (ci' (q + 1)) (cl' (q + 1)) (cr' (q + 1))) | none => dy (q + 1))
      rw [h1 _ (by omega), h2 _ (by omega), h3 _ (by omega)]
theorem mm_i {ci : Nat → Nat → Int32} {cl : Nat → Nat → Int64} {cr : Nat → Nat → Option Nat} {dy : aM} (k j : Nat) {x : Int32} {c : aE} {F : (Nat → Int32) → (Nat → Int64) → (Nat → Option Nat) → aE} (hF : mkL[k]? = some F) (hc : F (va_up (ci (k + 1)) j x) (cl (k + 1)) (cr (k + 1)) = c) : va_up (mm ci cl cr dy) (k + 1) (some c) = mm (up2 ci (k + 1) j x) cl cr dy :=
  mm_of hF (by rw [up2_e]; exact hc) (fun q h => up2_k _ _ _ h) (fun _ _ => rfl) (fun _ _ => rfl)
theorem mm_l {ci : Nat → Nat → Int32} {cl : Nat → Nat → Int64} {cr : Nat → Nat → Option Nat} {dy : aM} (k j : Nat) {x : Int64} {c : aE} {F : (Nat → Int32) → (Nat → Int64) → (Nat → Option Nat) → aE} (hF : mkL[k]? = some F) (hc : F (ci (k + 1)) (va_up (cl (k + 1)) j x) (cr (k + 1)) = c) : va_up (mm ci cl cr dy) (k + 1) (some c) = mm ci (up2 cl (k + 1) j x) cr dy :=
  mm_of hF (by rw [up2_e]; exact hc) (fun _ _ => rfl) (fun q h => up2_k _ _ _ h) (fun _ _ => rfl)
theorem mm_r {ci : Nat → Nat → Int32} {cl : Nat → Nat → Int64} {cr : Nat → Nat → Option Nat} {dy : aM} (k j : Nat) {x : Option Nat} {c : aE} {F : (Nat → Int32) → (Nat → Int64) → (Nat → Option Nat) → aE} (hF : mkL[k]? = some F) (hc : F (ci (k + 1)) (cl (k + 1)) (va_up (cr (k + 1)) j x) = c) : va_up (mm ci cl cr dy) (k + 1) (some c) = mm ci cl (up2 cr (k + 1) j x) dy :=
  mm_of hF (by rw [up2_e]; exact hc) (fun _ _ => rfl) (fun _ _ => rfl) (fun q h => up2_k _ _ _ h)
theorem mm_L {ci : Nat → Nat → Int32} {cl : Nat → Nat → Int64} {cr : Nat → Nat → Option Nat} {dy : aM} (k : Nat) {g : Nat → Int64} {c : aE} {F : (Nat → Int32) → (Nat → Int64) → (Nat → Option Nat) → aE} (hF : mkL[k]? = some F) (hc : F (ci (k + 1)) g (cr (k + 1)) = c) : va_up (mm ci cl cr dy) (k + 1) (some c) = mm ci (up1 cl (k + 1) g) cr dy :=
  mm_of hF (by rw [up1_s]; exact hc) (fun _ _ => rfl) (fun q h => up1_k _ _ h) (fun _ _ => rfl)
theorem mm_hi {ci : Nat → Nat → Int32} {cl : Nat → Nat → Int64} {cr : Nat → Nat → Option Nat} {dy : aM} {q : Nat} (h : 74 ≤ q) : mm ci cl cr dy q = dy q := by
  cases q with
  | zero => omega
  | succ q =>
    show (match mkL[q]? with | some F => some (F (ci (q + 1)) (cl (q + 1)) (cr (q + 1))) | none => dy (q + 1)) = _
    rw [List.getElem?_eq_none (by rw [mkL_len]; omega)]
theorem mm_dy {ci : Nat → Nat → Int32} {cl : Nat → Nat → Int64} {cr : Nat → Nat → Option Nat} {dy : aM} {q : Nat} {c : Option aE} (h : 74 ≤ q) : va_up (mm ci cl cr dy) q c = mm ci cl cr (va_up dy q c) := by
  funext k
  by_cases e : k = q
  · subst e
    rw [va_up_self, mm_hi h, va_up_self]
  · rw [va_up_ne _ _ e]
    cases k with
    | zero => rfl
    | succ k =>
      show (match mkL[k]? with | some F => some (F (ci (k + 1)) (cl (k + 1)) (cr (k + 1))) | none => dy (k + 1)) = (match mkL[k]? with | some F => some (F (ci (k + 1)) (cl (k + 1)) (cr (k + 1))) | none => (va_up dy q c) (k + 1))
      rw [va_up_ne _ _ e]
theorem m_1 {ci : Nat → Nat → Int32} {cl : Nat → Nat → Int64} {cr : Nat → Nat → Option Nat} {dy : aM} : mm ci cl cr dy 1 = some (.inr (10, [.ref 2, .ref 4, .ref 8, .ref 10, .ref 14, .ref 18, .ref 42, .int (ci 1 7), .int (ci 1 8)])) := rfl
theorem m_2 {ci : Nat → Nat → Int32} {cl : Nat → Nat → Int64} {cr : Nat → Nat → Option Nat} {dy : aM} : mm ci cl cr dy 2 = some (.inr (1, [.ref 3, .int (ci 2 1)])) := rfl
theorem m_3 {ci : Nat → Nat → Int32} {cl : Nat → Nat → Int64} {cr : Nat → Nat → Option Nat} {dy : aM} : mm ci cl cr dy 3 = some (.inl (3, 16, .inr (.inr (.inr (.inr (cr 3)))))) := rfl
theorem m_4 {ci : Nat → Nat → Int32} {cl : Nat → Nat → Int64} {cr : Nat → Nat → Option Nat} {dy : aM} : mm ci cl cr dy 4 = some (.inr (8, [.ref 5, .ref 6, .ref 7])) := rfl
theorem m_5 {ci : Nat → Nat → Int32} {cl : Nat → Nat → Int64} {cr : Nat → Nat → Option Nat} {dy : aM} : mm ci cl cr dy 5 = some (.inl (0, 4, .inl (ci 5))) := rfl
theorem m_6 {ci : Nat → Nat → Int32} {cl : Nat → Nat → Int64} {cr : Nat → Nat → Option Nat} {dy : aM} : mm ci cl cr dy 6 = some (.inl (0, 4, .inl (ci 6))) := rfl
theorem m_7 {ci : Nat → Nat → Int32} {cl : Nat → Nat → Int64} {cr : Nat → Nat → Option Nat} {dy : aM} : mm ci cl cr dy 7 = some (.inl (2, 4, .inl (ci 7))) := rfl
theorem m_8 {ci : Nat → Nat → Int32} {cl : Nat → Nat → Int64} {cr : Nat → Nat → Option Nat} {dy : aM} : mm ci cl cr dy 8 = some (.inr (3, [.ref 2, .ref 4, .ref 9])) := rfl
theorem m_9 {ci : Nat → Nat → Int32} {cl : Nat → Nat → Int64} {cr : Nat → Nat → Option Nat} {dy : aM} : mm ci cl cr dy 9 = some (.inl (0, 16, .inl (ci 9))) := rfl
theorem m_10 {ci : Nat → Nat → Int32} {cl : Nat → Nat → Int64} {cr : Nat → Nat → Option Nat} {dy : aM} : mm ci cl cr dy 10 = some (.inr (4, [.ref 2, .ref 4, .ref 8, .ref 11, .ref 12, .ref 13, .int (ci 10 6)])) := rfl
theorem m_11 {ci : Nat → Nat → Int32} {cl : Nat → Nat → Int64} {cr : Nat → Nat → Option Nat} {dy : aM} : mm ci cl cr dy 11 = some (.inl (0, 16, .inl (ci 11))) := rfl
theorem m_12 {ci : Nat → Nat → Int32} {cl : Nat → Nat → Int64} {cr : Nat → Nat → Option Nat} {dy : aM} : mm ci cl cr dy 12 = some (.inl (0, 16, .inl (ci 12))) := rfl
theorem m_13 {ci : Nat → Nat → Int32} {cl : Nat → Nat → Int64} {cr : Nat → Nat → Option Nat} {dy : aM} : mm ci cl cr dy 13 = some (.inl (0, 16, .inl (ci 13))) := rfl
theorem m_14 {ci : Nat → Nat → Int32} {cl : Nat → Nat → Int64} {cr : Nat → Nat → Option Nat} {dy : aM} : mm ci cl cr dy 14 = some (.inr (5, [.ref 2, .ref 4, .ref 10, .ref 15, .ref 16, .ref 17, .int (ci 14 6)])) := rfl
theorem m_15 {ci : Nat → Nat → Int32} {cl : Nat → Nat → Int64} {cr : Nat → Nat → Option Nat} {dy : aM} : mm ci cl cr dy 15 = some (.inl (0, 16, .inl (ci 15))) := rfl
theorem m_16 {ci : Nat → Nat → Int32} {cl : Nat → Nat → Int64} {cr : Nat → Nat → Option Nat} {dy : aM} : mm ci cl cr dy 16 = some (.inl (0, 16, .inl (ci 16))) := rfl
theorem m_17 {ci : Nat → Nat → Int32} {cl : Nat → Nat → Int64} {cr : Nat → Nat → Option Nat} {dy : aM} : mm ci cl cr dy 17 = some (.inl (0, 16, .inl (ci 17))) := rfl
theorem m_18 {ci : Nat → Nat → Int32} {cl : Nat → Nat → Int64} {cr : Nat → Nat → Option Nat} {dy : aM} : mm ci cl cr dy 18 = some (.inr (2, [.ref 2, .ref 19, .ref 20, .ref 21, .ref 22, .ref 23, .ref 24, .ref 25, .int (ci 18 8), .int (ci 18 9), .int (ci 18 10), .int (ci 18 11)])) := rfl
theorem m_19 {ci : Nat → Nat → Int32} {cl : Nat → Nat → Int64} {cr : Nat → Nat → Option Nat} {dy : aM} : mm ci cl cr dy 19 = some (.inl (5, 4, .inr (.inr (.inr (.inr (cr 19)))))) := rfl
theorem m_20 {ci : Nat → Nat → Int32} {cl : Nat → Nat → Int64} {cr : Nat → Nat → Option Nat} {dy : aM} : mm ci cl cr dy 20 = some (.inl (5, 4, .inr (.inr (.inr (.inr (cr 20)))))) := rfl
theorem m_21 {ci : Nat → Nat → Int32} {cl : Nat → Nat → Int64} {cr : Nat → Nat → Option Nat} {dy : aM} : mm ci cl cr dy 21 = some (.inl (1, 16, .inr (.inl (cl 21)))) := rfl
theorem m_22 {ci : Nat → Nat → Int32} {cl : Nat → Nat → Int64} {cr : Nat → Nat → Option Nat} {dy : aM} : mm ci cl cr dy 22 = some (.inl (1, 16, .inr (.inl (cl 22)))) := rfl
theorem m_23 {ci : Nat → Nat → Int32} {cl : Nat → Nat → Int64} {cr : Nat → Nat → Option Nat} {dy : aM} : mm ci cl cr dy 23 = some (.inl (0, 4, .inl (ci 23))) := rfl
theorem m_24 {ci : Nat → Nat → Int32} {cl : Nat → Nat → Int64} {cr : Nat → Nat → Option Nat} {dy : aM} : mm ci cl cr dy 24 = some (.inl (0, 16, .inl (ci 24))) := rfl
theorem m_25 {ci : Nat → Nat → Int32} {cl : Nat → Nat → Int64} {cr : Nat → Nat → Option Nat} {dy : aM} : mm ci cl cr dy 25 = some (.inl (1, 16, .inr (.inl (cl 25)))) := rfl
theorem m_26 {ci : Nat → Nat → Int32} {cl : Nat → Nat → Int64} {cr : Nat → Nat → Option Nat} {dy : aM} : mm ci cl cr dy 26 = some (.inr (9, [.ref 27, .int (ci 26 1)])) := rfl
theorem m_27 {ci : Nat → Nat → Int32} {cl : Nat → Nat → Int64} {cr : Nat → Nat → Option Nat} {dy : aM} : mm ci cl cr dy 27 = some (.inl (1, 20, .inr (.inl (cl 27)))) := rfl
theorem m_28 {ci : Nat → Nat → Int32} {cl : Nat → Nat → Int64} {cr : Nat → Nat → Option Nat} {dy : aM} : mm ci cl cr dy 28 = some (.inr (9, [.ref 29, .int (ci 28 1)])) := rfl
theorem m_29 {ci : Nat → Nat → Int32} {cl : Nat → Nat → Int64} {cr : Nat → Nat → Option Nat} {dy : aM} : mm ci cl cr dy 29 = some (.inl (1, 16, .inr (.inl (cl 29)))) := rfl
theorem m_30 {ci : Nat → Nat → Int32} {cl : Nat → Nat → Int64} {cr : Nat → Nat → Option Nat} {dy : aM} : mm ci cl cr dy 30 = some (.inr (9, [.ref 31, .int (ci 30 1)])) := rfl
theorem m_31 {ci : Nat → Nat → Int32} {cl : Nat → Nat → Int64} {cr : Nat → Nat → Option Nat} {dy : aM} : mm ci cl cr dy 31 = some (.inl (1, 20, .inr (.inl (cl 31)))) := rfl
theorem m_32 {ci : Nat → Nat → Int32} {cl : Nat → Nat → Int64} {cr : Nat → Nat → Option Nat} {dy : aM} : mm ci cl cr dy 32 = some (.inr (9, [.ref 33, .int (ci 32 1)])) := rfl
theorem m_33 {ci : Nat → Nat → Int32} {cl : Nat → Nat → Int64} {cr : Nat → Nat → Option Nat} {dy : aM} : mm ci cl cr dy 33 = some (.inl (1, 16, .inr (.inl (cl 33)))) := rfl
theorem m_34 {ci : Nat → Nat → Int32} {cl : Nat → Nat → Int64} {cr : Nat → Nat → Option Nat} {dy : aM} : mm ci cl cr dy 34 = some (.inr (9, [.ref 35, .int (ci 34 1)])) := rfl
theorem m_35 {ci : Nat → Nat → Int32} {cl : Nat → Nat → Int64} {cr : Nat → Nat → Option Nat} {dy : aM} : mm ci cl cr dy 35 = some (.inl (1, 20, .inr (.inl (cl 35)))) := rfl
theorem m_36 {ci : Nat → Nat → Int32} {cl : Nat → Nat → Int64} {cr : Nat → Nat → Option Nat} {dy : aM} : mm ci cl cr dy 36 = some (.inr (9, [.ref 37, .int (ci 36 1)])) := rfl
theorem m_37 {ci : Nat → Nat → Int32} {cl : Nat → Nat → Int64} {cr : Nat → Nat → Option Nat} {dy : aM} : mm ci cl cr dy 37 = some (.inl (1, 16, .inr (.inl (cl 37)))) := rfl
theorem m_38 {ci : Nat → Nat → Int32} {cl : Nat → Nat → Int64} {cr : Nat → Nat → Option Nat} {dy : aM} : mm ci cl cr dy 38 = some (.inr (9, [.ref 39, .int (ci 38 1)])) := rfl
theorem m_39 {ci : Nat → Nat → Int32} {cl : Nat → Nat → Int64} {cr : Nat → Nat → Option Nat} {dy : aM} : mm ci cl cr dy 39 = some (.inl (1, 20, .inr (.inl (cl 39)))) := rfl
theorem m_40 {ci : Nat → Nat → Int32} {cl : Nat → Nat → Int64} {cr : Nat → Nat → Option Nat} {dy : aM} : mm ci cl cr dy 40 = some (.inr (9, [.ref 41, .int (ci 40 1)])) := rfl
theorem m_41 {ci : Nat → Nat → Int32} {cl : Nat → Nat → Int64} {cr : Nat → Nat → Option Nat} {dy : aM} : mm ci cl cr dy 41 = some (.inl (1, 16, .inr (.inl (cl 41)))) := rfl
theorem m_42 {ci : Nat → Nat → Int32} {cl : Nat → Nat → Int64} {cr : Nat → Nat → Option Nat} {dy : aM} : mm ci cl cr dy 42 = some (.inl (4, 8, .inr (.inr (.inr (.inr (cr 42)))))) := rfl
theorem m_43 {ci : Nat → Nat → Int32} {cl : Nat → Nat → Int64} {cr : Nat → Nat → Option Nat} {dy : aM} : mm ci cl cr dy 43 = some (.inr (11, [.int (ci 43 0), .int (ci 43 1), .ref 44, .ref 45, .ref 46, .ref 47, .ref 48, .ref 49, .ref 50, .ref 51, .ref 52, .ref 53, .ref 54, .int (ci 43 13), .ref 55, .ref 56, .int (ci 43 16), .ref 57, .int (ci 43 18), .int (ci 43 19), .int (ci 43 20), .int (ci 43 21), .int (ci 43 22), .int (ci 43 23), .ref 58, .ref 59, .ref 60, .ref 61, .ref 62, .long (cl 43 29), .long (cl 43 30), .ref 63, .ref 64, .ref 65, .ref 66, .ref 67, .ref 68, .ref 69, .ref 70, .ref 71, .ref 72])) := rfl
theorem m_44 {ci : Nat → Nat → Int32} {cl : Nat → Nat → Int64} {cr : Nat → Nat → Option Nat} {dy : aM} : mm ci cl cr dy 44 = some (.inl (0, 16, .inl (ci 44))) := rfl
theorem m_45 {ci : Nat → Nat → Int32} {cl : Nat → Nat → Int64} {cr : Nat → Nat → Option Nat} {dy : aM} : mm ci cl cr dy 45 = some (.inl (0, 16, .inl (ci 45))) := rfl
theorem m_46 {ci : Nat → Nat → Int32} {cl : Nat → Nat → Int64} {cr : Nat → Nat → Option Nat} {dy : aM} : mm ci cl cr dy 46 = some (.inl (0, 48, .inl (ci 46))) := rfl
theorem m_47 {ci : Nat → Nat → Int32} {cl : Nat → Nat → Int64} {cr : Nat → Nat → Option Nat} {dy : aM} : mm ci cl cr dy 47 = some (.inl (0, 16, .inl (ci 47))) := rfl
theorem m_48 {ci : Nat → Nat → Int32} {cl : Nat → Nat → Int64} {cr : Nat → Nat → Option Nat} {dy : aM} : mm ci cl cr dy 48 = some (.inl (1, 16, .inr (.inl (cl 48)))) := rfl
theorem m_49 {ci : Nat → Nat → Int32} {cl : Nat → Nat → Int64} {cr : Nat → Nat → Option Nat} {dy : aM} : mm ci cl cr dy 49 = some (.inl (0, 4, .inl (ci 49))) := rfl
theorem m_50 {ci : Nat → Nat → Int32} {cl : Nat → Nat → Int64} {cr : Nat → Nat → Option Nat} {dy : aM} : mm ci cl cr dy 50 = some (.inl (0, 4, .inl (ci 50))) := rfl
theorem m_51 {ci : Nat → Nat → Int32} {cl : Nat → Nat → Int64} {cr : Nat → Nat → Option Nat} {dy : aM} : mm ci cl cr dy 51 = some (.inl (2, 4, .inl (ci 51))) := rfl
theorem m_52 {ci : Nat → Nat → Int32} {cl : Nat → Nat → Int64} {cr : Nat → Nat → Option Nat} {dy : aM} : mm ci cl cr dy 52 = some (.inl (0, 4, .inl (ci 52))) := rfl
theorem m_53 {ci : Nat → Nat → Int32} {cl : Nat → Nat → Int64} {cr : Nat → Nat → Option Nat} {dy : aM} : mm ci cl cr dy 53 = some (.inl (1, 80, .inr (.inl (cl 53)))) := rfl
theorem m_54 {ci : Nat → Nat → Int32} {cl : Nat → Nat → Int64} {cr : Nat → Nat → Option Nat} {dy : aM} : mm ci cl cr dy 54 = some (.inl (1, 16, .inr (.inl (cl 54)))) := rfl
theorem m_55 {ci : Nat → Nat → Int32} {cl : Nat → Nat → Int64} {cr : Nat → Nat → Option Nat} {dy : aM} : mm ci cl cr dy 55 = some (.inl (0, 16, .inl (ci 55))) := rfl
theorem m_56 {ci : Nat → Nat → Int32} {cl : Nat → Nat → Int64} {cr : Nat → Nat → Option Nat} {dy : aM} : mm ci cl cr dy 56 = some (.inl (0, 16, .inl (ci 56))) := rfl
theorem m_57 {ci : Nat → Nat → Int32} {cl : Nat → Nat → Int64} {cr : Nat → Nat → Option Nat} {dy : aM} : mm ci cl cr dy 57 = some (.inl (0, 16, .inl (ci 57))) := rfl
theorem m_58 {ci : Nat → Nat → Int32} {cl : Nat → Nat → Int64} {cr : Nat → Nat → Option Nat} {dy : aM} : mm ci cl cr dy 58 = some (.inl (0, 4, .inl (ci 58))) := rfl
theorem m_59 {ci : Nat → Nat → Int32} {cl : Nat → Nat → Int64} {cr : Nat → Nat → Option Nat} {dy : aM} : mm ci cl cr dy 59 = some (.inl (1, 64, .inr (.inl (cl 59)))) := rfl
theorem m_60 {ci : Nat → Nat → Int32} {cl : Nat → Nat → Int64} {cr : Nat → Nat → Option Nat} {dy : aM} : mm ci cl cr dy 60 = some (.inl (1, 16, .inr (.inl (cl 60)))) := rfl
theorem m_61 {ci : Nat → Nat → Int32} {cl : Nat → Nat → Int64} {cr : Nat → Nat → Option Nat} {dy : aM} : mm ci cl cr dy 61 = some (.inl (1, 16, .inr (.inl (cl 61)))) := rfl
theorem m_62 {ci : Nat → Nat → Int32} {cl : Nat → Nat → Int64} {cr : Nat → Nat → Option Nat} {dy : aM} : mm ci cl cr dy 62 = some (.inl (1, 16, .inr (.inl (cl 62)))) := rfl
theorem m_63 {ci : Nat → Nat → Int32} {cl : Nat → Nat → Int64} {cr : Nat → Nat → Option Nat} {dy : aM} : mm ci cl cr dy 63 = some (.inl (0, 16, .inl (ci 63))) := rfl
theorem m_64 {ci : Nat → Nat → Int32} {cl : Nat → Nat → Int64} {cr : Nat → Nat → Option Nat} {dy : aM} : mm ci cl cr dy 64 = some (.inl (0, 16, .inl (ci 64))) := rfl
theorem m_65 {ci : Nat → Nat → Int32} {cl : Nat → Nat → Int64} {cr : Nat → Nat → Option Nat} {dy : aM} : mm ci cl cr dy 65 = some (.inl (1, 16, .inr (.inl (cl 65)))) := rfl
theorem m_66 {ci : Nat → Nat → Int32} {cl : Nat → Nat → Int64} {cr : Nat → Nat → Option Nat} {dy : aM} : mm ci cl cr dy 66 = some (.inl (0, 4, .inl (ci 66))) := rfl
theorem m_67 {ci : Nat → Nat → Int32} {cl : Nat → Nat → Int64} {cr : Nat → Nat → Option Nat} {dy : aM} : mm ci cl cr dy 67 = some (.inl (0, 8, .inl (ci 67))) := rfl
theorem m_68 {ci : Nat → Nat → Int32} {cl : Nat → Nat → Int64} {cr : Nat → Nat → Option Nat} {dy : aM} : mm ci cl cr dy 68 = some (.inl (0, 8, .inl (ci 68))) := rfl
theorem m_69 {ci : Nat → Nat → Int32} {cl : Nat → Nat → Int64} {cr : Nat → Nat → Option Nat} {dy : aM} : mm ci cl cr dy 69 = some (.inl (0, 8, .inl (ci 69))) := rfl
theorem m_70 {ci : Nat → Nat → Int32} {cl : Nat → Nat → Int64} {cr : Nat → Nat → Option Nat} {dy : aM} : mm ci cl cr dy 70 = some (.inl (0, 8, .inl (ci 70))) := rfl
theorem m_71 {ci : Nat → Nat → Int32} {cl : Nat → Nat → Int64} {cr : Nat → Nat → Option Nat} {dy : aM} : mm ci cl cr dy 71 = some (.inl (1, 480, .inr (.inl (cl 71)))) := rfl
theorem m_72 {ci : Nat → Nat → Int32} {cl : Nat → Nat → Int64} {cr : Nat → Nat → Option Nat} {dy : aM} : mm ci cl cr dy 72 = some (.inl (1, 60, .inr (.inl (cl 72)))) := rfl
theorem m_73 {ci : Nat → Nat → Int32} {cl : Nat → Nat → Int64} {cr : Nat → Nat → Option Nat} {dy : aM} : mm ci cl cr dy 73 = some (.inl (1, 1, .inr (.inl (cl 73)))) := rfl

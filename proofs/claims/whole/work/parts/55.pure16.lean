/-! how many bits are set: Integer.bitCount -/
def pbt (X : Nat) : Nat → Nat
  | 0 => 0
  | k + 1 => pbt X k + (if X.testBit k then 1 else 0)
theorem pbt_split (X m : Nat) : ∀ k, pbt X (m + k) = pbt X m + pbt (X / 2 ^ m) k
  | 0 => rfl
  | k + 1 => by
    show pbt X (m + k) + _ = pbt X m + (pbt (X / 2 ^ m) k + _)
    rw [pbt_split X m k, Nat.testBit_div_two_pow, Nat.add_assoc, Nat.add_comm k m]
    rfl
theorem pbt_mod (X m : Nat) : ∀ k, k ≤ m → pbt (X % 2 ^ m) k = pbt X k
  | 0, _ => rfl
  | k + 1, h => by
    simp only [pbt]
    rw [pbt_mod X m k (by omega), Nat.testBit_mod_two_pow]
    simp [show k < m by omega]
theorem pbt_or (X s : Nat) : ∀ k, pbt (X ||| 2 ^ s) k = pbt X k + (if s < k ∧ X.testBit s = false then 1 else 0)
  | 0 => by simp [pbt]
  | k + 1 => by
    simp only [pbt]
    rw [pbt_or X s k, Nat.testBit_or, Nat.testBit_two_pow]
    by_cases e : s = k
    · subst e
      by_cases h : X.testBit s = true
      · simp [h]
      · simp [h]
    · by_cases h : X.testBit k = true
      · by_cases h2 : s < k
        · by_cases h3 : X.testBit s = true <;> simp [h, h2, h3, e, show s < k + 1 by omega] <;> omega
        · simp [h, h2, e, show ¬ s < k + 1 by omega]
      · by_cases h2 : s < k
        · by_cases h3 : X.testBit s = true <;> simp [h, h2, h3, e, show s < k + 1 by omega]
        · simp [h, h2, e, show ¬ s < k + 1 by omega]
theorem land2 {a b c d : Nat} (ha : a < 256) (hc : c < 256) : (a + 256 * b) &&& (c + 256 * d) = (a &&& c) + 256 * (b &&& d) := by
  have h1 := Nat.and_div_two_pow (a := a + 256 * b) (b := c + 256 * d) (n := 8)
  have h2 := Nat.and_mod_two_pow (a := a + 256 * b) (b := c + 256 * d) (n := 8)
  rw [show (a + 256 * b) / 2 ^ 8 = b by omega, show (c + 256 * d) / 2 ^ 8 = d by omega] at h1
  rw [show (a + 256 * b) % 2 ^ 8 = a by omega, show (c + 256 * d) % 2 ^ 8 = c by omega] at h2
  omega
def b4 (x y z w : Nat) : Nat := x + 256 * (y + 256 * (z + 256 * w))
theorem land4 {x y z w a b c d : Nat} (hx : x < 256) (hy : y < 256) (hz : z < 256) (ha : a < 256) (hb : b < 256) (hc : c < 256) : b4 x y z w &&& b4 a b c d = b4 (x &&& a) (y &&& b) (z &&& c) (w &&& d) := by
  unfold b4
  rw [land2 hx ha, land2 hy hb, land2 hz hc]
def f1 (B : Nat) : Nat := B - ((B / 2) &&& 85)
def f2 (A : Nat) : Nat := (A &&& 51) + ((A / 4) &&& 51)
def f3 (B : Nat) : Nat := (B + B / 16) % 16
def gB8 (B : Nat) : Nat := f3 (f2 (f1 B))
theorem a55 : ∀ b, b < 256 → ∀ e, e < 2 → ((b / 2 + 128 * e) &&& 85) = ((b / 2) &&& 85) := by decide +kernel
theorem a33 : ∀ b, b < 256 → ∀ e, e < 4 → ((b / 4 + 64 * e) &&& 51) = ((b / 4) &&& 51) := by decide +kernel
theorem gb_e : ∀ b, b < 256 → f1 b < 256 ∧ ((b / 2) &&& 85) ≤ b ∧ f2 (f1 b) % 16 ≤ 4 ∧ f2 (f1 b) / 16 ≤ 4 ∧ gB8 b ≤ 8 ∧ gB8 b = pbt b 8 := by decide +kernel
def n1 (X : Nat) : Nat := X - ((X / 2) &&& 1431655765)
def n2 (X : Nat) : Nat := (X &&& 858993459) + ((X / 4) &&& 858993459)
def n3 (X : Nat) : Nat := (X + X / 16) &&& 252645135
theorem n1_e {x y z w : Nat} (hx : x < 256) (hy : y < 256) (hz : z < 256) (hw : w < 256) : n1 (b4 x y z w) = b4 (f1 x) (f1 y) (f1 z) (f1 w) ∧ ((b4 x y z w / 2) &&& 1431655765) ≤ b4 x y z w := by
  have e1 : b4 x y z w / 2 = b4 (x / 2 + 128 * (y % 2)) (y / 2 + 128 * (z % 2)) (z / 2 + 128 * (w % 2)) (w / 2 + 128 * 0) := by unfold b4; omega
  have e2 : (1431655765 : Nat) = b4 85 85 85 85 := rfl
  have h1 := (gb_e x hx).2.1
  have h2 := (gb_e y hy).2.1
  have h3 := (gb_e z hz).2.1
  have h4 := (gb_e w hw).2.1
  have e3 : (b4 x y z w / 2) &&& 1431655765 = b4 ((x / 2) &&& 85) ((y / 2) &&& 85) ((z / 2) &&& 85) ((w / 2) &&& 85) := by
    rw [e1, e2, land4 (by omega) (by omega) (by omega) (by decide) (by decide) (by decide), a55 x hx _ (by omega), a55 y hy _ (by omega), a55 z hz _ (by omega), a55 w hw _ (by omega)]
  unfold n1
  rw [e3]
  unfold b4 f1
  omega
theorem n2_e {x y z w : Nat} (hx : x < 256) (hy : y < 256) (hz : z < 256) (hw : w < 256) : n2 (b4 x y z w) = b4 (f2 x) (f2 y) (f2 z) (f2 w) := by
  have e1 : b4 x y z w / 4 = b4 (x / 4 + 64 * (y % 4)) (y / 4 + 64 * (z % 4)) (z / 4 + 64 * (w % 4)) (w / 4 + 64 * 0) := by unfold b4; omega
  have e2 : (858993459 : Nat) = b4 51 51 51 51 := rfl
  unfold n2
  rw [e1, e2, land4 hx hy hz (by decide) (by decide) (by decide), land4 (by omega) (by omega) (by omega) (by decide) (by decide) (by decide), a33 x hx _ (by omega), a33 y hy _ (by omega), a33 z hz _ (by omega), a33 w hw _ (by omega)]
  unfold b4 f2
  omega
theorem n3_e {x y z w : Nat} (hx : x % 16 ≤ 4 ∧ x / 16 ≤ 4) (hy : y % 16 ≤ 4 ∧ y / 16 ≤ 4) (hz : z % 16 ≤ 4 ∧ z / 16 ≤ 4) (hw : w % 16 ≤ 4 ∧ w / 16 ≤ 4) : n3 (b4 x y z w) = b4 (f3 x) (f3 y) (f3 z) (f3 w) := by
  have e1 : b4 x y z w + b4 x y z w / 16 = b4 (x + x / 16 + 16 * (y % 16)) (y + y / 16 + 16 * (z % 16)) (z + z / 16 + 16 * (w % 16)) (w + w / 16) := by unfold b4; omega
  have e2 : (252645135 : Nat) = b4 15 15 15 15 := rfl
  have m : ∀ q : Nat, q &&& 15 = q % 16 := fun q => Nat.and_two_pow_sub_one_eq_mod q 4
  unfold n3
  rw [e1, e2, land4 (by omega) (by omega) (by omega) (by decide) (by decide) (by decide), m, m, m, m]
  unfold b4 f3
  omega
theorem pbt4 {x y z w : Nat} (hx : x < 256) (hy : y < 256) (hz : z < 256) (hw : w < 256) : pbt (b4 x y z w) 32 = gB8 x + gB8 y + gB8 z + gB8 w := by
  rw [(gb_e x hx).2.2.2.2.2, (gb_e y hy).2.2.2.2.2, (gb_e z hz).2.2.2.2.2, (gb_e w hw).2.2.2.2.2]
  rw [show (32 : Nat) = 8 + (8 + (8 + 8)) from rfl, pbt_split, pbt_split, pbt_split]
  have e1 : pbt (b4 x y z w) 8 = pbt x 8 := by rw [← pbt_mod (b4 x y z w) 8 8 (by omega), show b4 x y z w % 2 ^ 8 = x by unfold b4; omega]
  have e2 : pbt (b4 x y z w / 2 ^ 8) 8 = pbt y 8 := by rw [← pbt_mod (b4 x y z w / 2 ^ 8) 8 8 (by omega), show b4 x y z w / 2 ^ 8 % 2 ^ 8 = y by unfold b4; omega]
  have e3 : pbt (b4 x y z w / 2 ^ 8 / 2 ^ 8) 8 = pbt z 8 := by rw [← pbt_mod (b4 x y z w / 2 ^ 8 / 2 ^ 8) 8 8 (by omega), show b4 x y z w / 2 ^ 8 / 2 ^ 8 % 2 ^ 8 = z by unfold b4; omega]
  have e4 : pbt (b4 x y z w / 2 ^ 8 / 2 ^ 8 / 2 ^ 8) 8 = pbt w 8 := by rw [show b4 x y z w / 2 ^ 8 / 2 ^ 8 / 2 ^ 8 = w by unfold b4; omega]
  rw [e1, e2, e3, e4]
  omega
theorem b4_of {X : Nat} (h : X < 2 ^ 32) : ∃ x y z w, x < 256 ∧ y < 256 ∧ z < 256 ∧ w < 256 ∧ X = b4 x y z w := ⟨X % 256, X / 256 % 256, X / 65536 % 256, X / 16777216, by omega, by omega, by omega, by omega, by unfold b4; omega⟩
abbrev uN (x : Int32) : Nat := x.toBitVec.toNat
def us (x s : Int32) : Int32 := (x.toUInt32 >>> (s.toUInt32 &&& Int32.toUInt32 31)).toInt32
def bc1 (x : Int32) : Int32 := x - (us x 1 &&& 1431655765)
def bc2 (x : Int32) : Int32 := (x &&& 858993459) + (us x 2 &&& 858993459)
def bc3 (x : Int32) : Int32 := (x + us x 4) &&& 252645135
def bc4 (x : Int32) : Int32 := x + us x 8
def bc5 (x : Int32) : Int32 := x + us x 16
def bcX (x : Int32) : Int32 := bc5 (bc4 (bc3 (bc2 (bc1 x)))) &&& 63
theorem uN_lt (x : Int32) : uN x < 2 ^ 32 := x.toBitVec.isLt
theorem uN_add (x y : Int32) : uN (x + y) = (uN x + uN y) % 2 ^ 32 := by unfold uN; rw [Int32.toBitVec_add, BitVec.toNat_add]
theorem uN_sub (x y : Int32) (h : uN y ≤ uN x) : uN (x - y) = uN x - uN y := by
  have h1 := uN_lt x
  unfold uN at h h1 ⊢
  rw [Int32.toBitVec_sub, BitVec.toNat_sub]
  omega
theorem uN_and (x y : Int32) : uN (x &&& y) = uN x &&& uN y := by unfold uN; rw [Int32.toBitVec_and, BitVec.toNat_and]
theorem uN_or (x y : Int32) : uN (x ||| y) = uN x ||| uN y := by unfold uN; rw [Int32.toBitVec_or, BitVec.toNat_or]
theorem uN_us1 (x : Int32) : uN (us x 1) = uN x / 2 := pk_ushr x 1 1 rfl
theorem uN_us2 (x : Int32) : uN (us x 2) = uN x / 4 := pk_ushr x 2 2 rfl
theorem uN_us4 (x : Int32) : uN (us x 4) = uN x / 16 := pk_ushr x 4 4 rfl
theorem uN_us8 (x : Int32) : uN (us x 8) = uN x / 256 := pk_ushr x 8 8 rfl
theorem uN_us16 (x : Int32) : uN (us x 16) = uN x / 65536 := pk_ushr x 16 16 rfl
theorem uN_inj {x y : Int32} (h : uN x = uN y) : x = y := Int32.toBitVec_inj.mp (BitVec.toNat_inj.mp h)
theorem fin8 {a b c d : Nat} (ha : a ≤ 8) (hb : b ≤ 8) (hc : c ≤ 8) (hd : d ≤ 8) : (b4 a b c d + b4 a b c d / 256 + (b4 a b c d + b4 a b c d / 256) / 65536) % 2 ^ 6 = a + b + c + d := by
  have e1 : b4 a b c d / 256 = b + 256 * (c + 256 * d) := by unfold b4; omega
  rw [e1]
  have e2 : (b4 a b c d + (b + 256 * (c + 256 * d))) / 65536 = (c + d) + 256 * d := by unfold b4; omega
  rw [e2]
  unfold b4
  omega
theorem bc_e (x : Int32) : bcX x = nI (pbt (uN x) 32) := by
  obtain ⟨a, b, c, d, ha, hb, hc, hd, e⟩ := b4_of (uN_lt x)
  obtain ⟨ga1, -, ga2, ga3, ga4, -⟩ := gb_e a ha
  obtain ⟨gb1, -, gb2, gb3, gb4, -⟩ := gb_e b hb
  obtain ⟨gc1, -, gc2, gc3, gc4, -⟩ := gb_e c hc
  obtain ⟨gd1, -, gd2, gd3, gd4, -⟩ := gb_e d hd
  have h1 : uN (bc1 x) = b4 (f1 a) (f1 b) (f1 c) (f1 d) := by
    have q := n1_e ha hb hc hd
    unfold bc1
    rw [uN_sub _ _ (by rw [uN_and, uN_us1, e]; exact q.2), uN_and, uN_us1, e]
    exact q.1
  have h2 : uN (bc2 (bc1 x)) = b4 (f2 (f1 a)) (f2 (f1 b)) (f2 (f1 c)) (f2 (f1 d)) := by
    have q := n2_e ga1 gb1 gc1 gd1
    unfold bc2
    rw [uN_add, uN_and, uN_and, uN_us2, h1]
    show n2 _ % 2 ^ 32 = _
    rw [q]
    unfold b4
    omega
  have h3 : uN (bc3 (bc2 (bc1 x))) = b4 (gB8 a) (gB8 b) (gB8 c) (gB8 d) := by
    have q := n3_e (x := f2 (f1 a)) (y := f2 (f1 b)) (z := f2 (f1 c)) (w := f2 (f1 d)) ⟨ga2, ga3⟩ ⟨gb2, gb3⟩ ⟨gc2, gc3⟩ ⟨gd2, gd3⟩
    unfold bc3
    rw [uN_and, uN_add, uN_us4, h2, Nat.mod_eq_of_lt (by unfold b4; omega)]
    exact q
  have h4 : uN (bc4 (bc3 (bc2 (bc1 x)))) = b4 (gB8 a) (gB8 b) (gB8 c) (gB8 d) + b4 (gB8 a) (gB8 b) (gB8 c) (gB8 d) / 256 := by
    unfold bc4
    rw [uN_add, uN_us8, h3, Nat.mod_eq_of_lt (by unfold b4; omega)]
  have h5 : uN (bc5 (bc4 (bc3 (bc2 (bc1 x))))) = b4 (gB8 a) (gB8 b) (gB8 c) (gB8 d) + b4 (gB8 a) (gB8 b) (gB8 c) (gB8 d) / 256 + (b4 (gB8 a) (gB8 b) (gB8 c) (gB8 d) + b4 (gB8 a) (gB8 b) (gB8 c) (gB8 d) / 256) / 65536 := by
    unfold bc5
    rw [uN_add, uN_us16, h4, Nat.mod_eq_of_lt (by unfold b4; omega)]
  have h6 : uN (bcX x) = gB8 a + gB8 b + gB8 c + gB8 d := by
    unfold bcX
    rw [uN_and, show uN 63 = 2 ^ 6 - 1 from rfl, Nat.and_two_pow_sub_one_eq_mod, h5]
    exact fin8 ga4 gb4 gc4 gd4
  refine uN_inj ?_
  rw [h6, e, pbt4 ha hb hc hd]
  exact (pk_tn (by omega)).symm
theorem one_shl : ∀ j, j < 32 → uN ((1 : Int32) <<< (nI j &&& 31)) = 2 ^ j := by decide
/-! CHOOSERS: the class's bits and the reference's count -/
/-- the class's SOURCE at operand w of ACT a -/
def svF (c : aI) (a w : Nat) : Int32 := if c 44 (c 46 (3 * a + w)).toNatClampNeg = 0 then 16 + c 46 (3 * a + w) else c 57 (c 46 (3 * a + w)).toNatClampNeg
abbrev acv (c : aI) (q i : Int32) (w a : Nat) : Prop := kd (c 44 a) = q ∧ c 56 a = i ∧ 0 ≤ c 46 (3 * a + w)
def snF (c : aI) (q i : Int32) (w : Nat) : Nat → Int32
  | 0 => 0
  | a + 1 => if acv c q i w a then snF c q i w a ||| ((1 : Int32) <<< (svF c a w &&& 31)) else snF c q i w a
/-- SOURCES are told apart -/
def SRC (c : aI) (n w : Nat) : Prop := ∀ a, a < n → 0 ≤ c 46 (3 * a + w) → ∃ x, x < 16 ∧ c 46 (3 * a + w) = nI x ∧ (c 44 x = 0 ∨ ∃ r, r ≤ 15 ∧ c 57 x = nI r)
theorem SRC.s {c : aI} {n w a : Nat} (h : SRC c n w) (ha : a < n) (h0 : 0 ≤ c 46 (3 * a + w)) : ∃ s, s < 32 ∧ svF c a w = nI s ∧ soF c a w = (if s < 16 then nI s else nI (s + 84)) := by
  obtain ⟨x, hx, e, h1⟩ := h a ha h0
  unfold svF soF
  rw [if_pos h0, e, nI_clamp (by omega)]
  rcases h1 with h1 | ⟨r, hr, h1⟩
  · refine ⟨16 + x, by omega, ?_, ?_⟩
    · rw [if_pos h1]; exact nI_add 16 x
    · rw [if_pos h1, if_neg (by omega), show 16 + x + 84 = 100 + x by omega]; exact nI_add 100 x
  · by_cases h2 : c 44 x = 0
    · refine ⟨16 + x, by omega, ?_, ?_⟩
      · rw [if_pos h2]; exact nI_add 16 x
      · rw [if_pos h2, if_neg (by omega), show 16 + x + 84 = 100 + x by omega]; exact nI_add 100 x
    · exact ⟨r, by omega, by rw [if_neg h2, h1], by rw [if_neg h2, if_pos (by omega), h1]⟩
theorem so_inj {s t : Nat} (hs : s < 32) (ht : t < 32) (h : (if s < 16 then nI s else nI (s + 84)) = (if t < 16 then nI t else nI (t + 84))) : s = t := by
  split at h <;> split at h <;> rw [nI_eq (by omega) (by omega)] at h <;> omega
theorem so_nn {s : Nat} (hs : s < 32) : 0 ≤ (if s < 16 then nI s else nI (s + 84)) := by
  split
  · exact nI_nn (by omega)
  · exact nI_nn (by omega)
theorem kn_e {c : aI} {q i : Int32} {w : Nat} {s : Int32} : ∀ b, knI c q i w s b = 0 ↔ 0 ≤ s ∧ ∀ d, d < b → ¬ (kd (c 44 d) = q ∧ c 56 d = i ∧ soF c d w = s)
  | 0 => by
    simp only [knI]
    by_cases h : 0 ≤ s
    · rw [if_pos h]; exact ⟨fun _ => ⟨h, fun d hd => by omega⟩, fun _ => rfl⟩
    · rw [if_neg h]; exact ⟨fun z => absurd z (by decide), fun z => absurd z.1 h⟩
  | b + 1 => by
    simp only [knI]
    have ih := kn_e (c := c) (q := q) (i := i) (w := w) (s := s) b
    by_cases h : knI c q i w s b = 0
    · rw [if_pos h]
      obtain ⟨h1, h2⟩ := ih.mp h
      constructor
      · intro z
        refine ⟨h1, fun d hd => ?_⟩
        by_cases e : d = b
        · subst e
          rintro ⟨z1, z2, z3⟩
          rw [if_pos z1, if_pos z2, if_pos z3] at z
          exact absurd z (by decide)
        · exact h2 d (by omega)
      · rintro ⟨-, z⟩
        have zb := z b (by omega)
        split
        · rename_i y1
          split
          · rename_i y2
            split
            · rename_i y3; exact absurd ⟨y1, y2, y3⟩ zb
            · rfl
          · rfl
        · rfl
    · rw [if_neg h]
      exact ⟨fun z => absurd z (by decide), fun z => absurd (ih.mpr ⟨z.1, fun d hd => z.2 d (by omega)⟩) h⟩
theorem ch_e {c : aI} {q i : Int32} {w n : Nat} (h : SRC c n w) : ∀ a, a ≤ n → chN c q i w a = nI (pbt (uN (snF c q i w a)) 32) ∧ ∀ s, s < 32 → ((uN (snF c q i w a)).testBit s = true ↔ ∃ b, b < a ∧ acv c q i w b ∧ svF c b w = nI s)
  | 0, _ => ⟨by show (0 : Int32) = nI (pbt 0 32); decide, fun s hs => by
      constructor
      · intro z
        have : uN (snF c q i w 0) = 0 := rfl
        rw [this, Nat.zero_testBit] at z
        cases z
      · rintro ⟨b, hb, -⟩; omega⟩
  | a + 1, ha => by
    obtain ⟨i1, i2⟩ := ch_e h a (by omega)
    by_cases hv : acv c q i w a
    · obtain ⟨s, hs, es, eo⟩ := h.s (by omega : a < n) hv.2.2
      have ex : snF c q i w (a + 1) = snF c q i w a ||| ((1 : Int32) <<< (nI s &&& 31)) := by
        show (if acv c q i w a then _ else _) = _
        rw [if_pos hv, es]
      have eN : uN (snF c q i w (a + 1)) = uN (snF c q i w a) ||| 2 ^ s := by rw [ex, uN_or, one_shl s hs]
      have ecs : csS c q i w a = soF c a w := by unfold csS; rw [if_pos hv.1, if_pos hv.2.1]
      -- known or not
      have hk : knI c q i w (csS c q i w a) a = 0 ↔ (uN (snF c q i w a)).testBit s = false := by
        rw [kn_e, ecs, eo]
        constructor
        · rintro ⟨-, z⟩
          refine Bool.eq_false_iff.mpr fun y => ?_
          obtain ⟨b, hb, hab, hsb⟩ := (i2 s hs).mp y
          obtain ⟨t, ht, et, eot⟩ := h.s (by omega : b < n) hab.2.2
          have : t = s := (nI_eq (by omega) (by omega)).mp (et.symm.trans hsb)
          subst this
          exact z b hb ⟨hab.1, hab.2.1, eot⟩
        · intro y
          refine ⟨so_nn hs, fun d hd z => ?_⟩
          obtain ⟨z1, z2, z3⟩ := z
          by_cases hd0 : 0 ≤ c 46 (3 * d + w)
          · obtain ⟨t, ht, et, eot⟩ := h.s (by omega : d < n) hd0
            rw [eot] at z3
            have : t = s := so_inj ht hs z3
            subst this
            have := (i2 t hs).mpr ⟨d, hd, ⟨z1, z2, hd0⟩, et⟩
            rw [y] at this
            cases this
          · have e1 : soF c d w = -1 := by unfold soF; rw [if_neg hd0]
            rw [e1] at z3
            exact absurd (z3 ▸ so_nn hs) (by decide)
      constructor
      · show chN c q i w a + _ = _
        rw [i1, eN, pbt_or]
        by_cases z : (uN (snF c q i w a)).testBit s = false
        · rw [if_pos (hk.mpr z), if_pos ⟨hs, z⟩]; exact nI_1 _
        · rw [if_neg (fun y => z (hk.mp y)), if_neg (fun y => z y.2)]
          exact Int32.add_zero _
      · intro t ht
        rw [eN, Nat.testBit_or, Nat.testBit_two_pow, Bool.or_eq_true, decide_eq_true_eq, i2 t ht]
        constructor
        · rintro (⟨b, hb, y⟩ | y)
          · exact ⟨b, by omega, y⟩
          · subst y; exact ⟨a, by omega, hv, es⟩
        · rintro ⟨b, hb, y1, y2⟩
          by_cases e : b = a
          · subst e
            exact Or.inr ((nI_eq (by omega) (by omega)).mp (es.symm.trans y2))
          · exact Or.inl ⟨b, by omega, y1, y2⟩
    · have ex : snF c q i w (a + 1) = snF c q i w a := by
        show (if acv c q i w a then _ else _) = _
        rw [if_neg hv]
      have hk : ¬ knI c q i w (csS c q i w a) a = 0 := by
        rw [kn_e]
        rintro ⟨z, -⟩
        unfold csS at z
        by_cases y1 : kd (c 44 a) = q
        · rw [if_pos y1] at z
          by_cases y2 : c 56 a = i
          · rw [if_pos y2] at z
            unfold soF at z
            by_cases y3 : 0 ≤ c 46 (3 * a + w)
            · exact hv ⟨y1, y2, y3⟩
            · rw [if_neg y3] at z; exact absurd z (by decide)
          · rw [if_neg y2] at z; exact absurd z (by decide)
        · rw [if_neg y1] at z; exact absurd z (by decide)
      constructor
      · show chN c q i w a + _ = _
        rw [ex, if_neg hk, i1]; exact Int32.add_zero _
      · intro t ht
        rw [ex, i2 t ht]
        constructor
        · rintro ⟨b, hb, y⟩; exact ⟨b, by omega, y⟩
        · rintro ⟨b, hb, y⟩
          by_cases e : b = a
          · subst e; exact absurd y.1 hv
          · exact ⟨b, by omega, y⟩

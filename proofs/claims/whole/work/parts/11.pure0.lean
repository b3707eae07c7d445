/-! plain facts for the walks -/
theorem nx_add {x y : Int32} {a b : Nat} (hx : x = nI a) (hy : y = nI b) : x + y = nI (a + b) := by subst hx; subst hy; exact nI_add a b
theorem nx_mul {x y : Int32} {a b : Nat} (hx : x = nI a) (hy : y = nI b) : x * y = nI (a * b) := by subst hx; subst hy; exact pk_mul a b
theorem nx_inc {x : Int32} {a : Nat} (hx : x = nI a) : x + Int32.ofInt 1 = nI (a + 1) := by subst hx; exact nI_1 a
/-- a truth as an int -/
def bI (c : Prop) [Decidable c] : Int32 := if c then 1 else 0
theorem bI_t {c : Prop} [Decidable c] (h : c) : bI c = 1 := if_pos h
theorem bI_f {c : Prop} [Decidable c] (h : ¬ c) : bI c = 0 := if_neg h
theorem bI_n (c : Prop) [Decidable c] : narrow .boolean (.int (bI c)) = .int (bI c) := by unfold bI; split <;> rfl
theorem bI_ok (c : Prop) [Decidable c] : narrow .boolean (.int (bI c)) = .int (bI c) ∧ fits .boolean (.int (bI c)) = true := by unfold bI; split <;> exact ⟨rfl, rfl⟩
theorem bI_0 {c : Prop} [Decidable c] : bI c = 0 ↔ ¬ c := by unfold bI; split <;> simp_all
theorem bI_ne {c : Prop} [Decidable c] : ¬ bI c = 0 ↔ c := by unfold bI; split <;> simp_all
theorem lgc_lt {x y : Int64} : lg_cmp x y < 0 ↔ x < y := by
  rw [← Int32.not_le, lg_cmp_ge, Int64.not_le]
theorem lgc_ge {x y : Int64} : 0 ≤ lg_cmp x y ↔ y ≤ x := lg_cmp_ge x y
theorem lgc_gt {x y : Int64} : 0 < lg_cmp x y ↔ y < x := by
  unfold lg_cmp
  split
  · rename_i h; exact ⟨fun _ => h, fun _ => by decide⟩
  · split
    · rename_i h1 h2; subst h2; exact ⟨fun h => absurd h (by decide), fun h => absurd h h1⟩
    · rename_i h1 h2; exact ⟨fun h => absurd h (by decide), fun h => absurd h h1⟩
theorem lgc_le {x y : Int64} : lg_cmp x y ≤ 0 ↔ x ≤ y := by
  rw [← Int32.not_lt, lgc_gt, Int64.not_lt]
theorem lgc_eq {x y : Int64} : lg_cmp x y = 0 ↔ x = y := by
  unfold lg_cmp
  split
  · rename_i h; exact ⟨fun h => absurd h (by decide), fun e => by subst e; exact absurd h (Int64.lt_irrefl)⟩
  · split
    · rename_i h1 h2; exact ⟨fun _ => h2, fun _ => rfl⟩
    · rename_i h1 h2; exact ⟨fun h => absurd h (by decide), fun h => absurd h h2⟩
theorem lgc_ne {x y : Int64} : ¬ lg_cmp x y = 0 ↔ ¬ x = y := not_congr lgc_eq
section
variable {E : aG} {Γ : aC} {own : String} {cc : ByteArray} {nL : Nat} {ret : Option FieldType} {nm : String} {d mc ms : Nat} {M : aM} {nx ce sl pc pc' : Nat} {lv lv' : List (Nat × Value)} {st : List Value}
theorem sv_iaddE (hΓ : CK E own cc nL ret nm d mc ms Γ) {x y v : Int32} (hd : decode cc pc = .ok (.iadd, 1)) (hv : x + y = v) (hn : pc + 1 = pc') (k : SV E Γ nL M nx ce sl pc' lv (.int v :: st)) : SV E Γ nL M nx ce sl pc lv (.int y :: .int x :: st) := by subst hv; exact sv_iadd hΓ hd hn k
theorem sv_isubE (hΓ : CK E own cc nL ret nm d mc ms Γ) {x y v : Int32} (hd : decode cc pc = .ok (.isub, 1)) (hv : x - y = v) (hn : pc + 1 = pc') (k : SV E Γ nL M nx ce sl pc' lv (.int v :: st)) : SV E Γ nL M nx ce sl pc lv (.int y :: .int x :: st) := by subst hv; exact sv_isub hΓ hd hn k
theorem sv_imulE (hΓ : CK E own cc nL ret nm d mc ms Γ) {x y v : Int32} (hd : decode cc pc = .ok (.imul, 1)) (hv : x * y = v) (hn : pc + 1 = pc') (k : SV E Γ nL M nx ce sl pc' lv (.int v :: st)) : SV E Γ nL M nx ce sl pc lv (.int y :: .int x :: st) := by subst hv; exact sv_imul hΓ hd hn k
end
/-- the kind of PART of an OP -/
def kd (o : Int32) : Int32 := if o = 2 then 0 else if o = 3 then 0 else if o = 6 then 0 else if o = 4 then 1 else if o = 5 then 2 else if o = 8 then 3 else if o = 9 then 3 else -2
theorem kd_in (o : Int32) (h : ¬ kd o < 0) : ∃ k : Nat, k < 4 ∧ kd o = nI k := by
  unfold kd at h ⊢
  split
  · exact ⟨0, by decide, rfl⟩
  · split
    · exact ⟨0, by decide, rfl⟩
    · split
      · exact ⟨0, by decide, rfl⟩
      · split
        · exact ⟨1, by decide, rfl⟩
        · split
          · exact ⟨2, by decide, rfl⟩
          · split
            · exact ⟨3, by decide, rfl⟩
            · split
              · exact ⟨3, by decide, rfl⟩
              · simp_all
theorem kd_out {o : Int32} (h : o.toInt < 2 ∨ 9 < o.toInt) : kd o = -2 := by
  unfold kd
  have n : ∀ c : Int32, 2 ≤ c.toInt ∧ c.toInt ≤ 9 → ¬ o = c := fun c hc e => by subst e; omega
  rw [if_neg (n 2 (by decide)), if_neg (n 3 (by decide)), if_neg (n 6 (by decide)), if_neg (n 4 (by decide)), if_neg (n 5 (by decide)), if_neg (n 8 (by decide)), if_neg (n 9 (by decide))]
/-- fewer locals, or in another order -/
theorem lvm_sub {E : aG} {ls : Array Slot} {nL : Nat} {l l' : List (Nat × Value)} (h : lv_has ls nL (lvm E l)) (ks : List Nat) (hl : lv_pick l ks = l') : lv_has ls nL (lvm E l') := by
  refine lv_sub h ks ?_
  subst hl
  simp only [lv_pick, lvm, List.map_filterMap, List.getElem?_map]
theorem SV_lv {E : aG} {Γ : aC} {nL : Nat} {M : aM} {nx ce sl pc : Nat} {lv lv' : List (Nat × Value)} {st : List Value} (ks : List Nat) (hl : lv_pick lv ks = lv') (k : SV E Γ nL M nx ce sl pc lv' st) : SV E Γ nL M nx ce sl pc lv st := by
  obtain ⟨p, l, e, R, s, m, args, below, meth, c, Q⟩ := Γ
  intro H locs ls hR hS hl'
  exact k H locs ls hR hS (lvm_sub hl' ks hl)
/-- the LENGTH of ACT a, by the reference's cells: 44 op, 50 length; the TICKS that it fills, 51 piped -/
def ln (ci : Nat → Nat → Int32) (a : Nat) : Int32 := if kd (ci 44 a) < 0 then (if ci 44 a = 0 then 0 else 1) else ci 50 (kd (ci 44 a)).toNatClampNeg
def fl (ci : Nat → Nat → Int32) (a : Nat) : Int32 := if 0 ≤ kd (ci 44 a) then (if ci 51 (kd (ci 44 a)).toNatClampNeg = 0 then ci 50 (kd (ci 44 a)).toNatClampNeg else 1) else 0
/-- a is an operand of ACT b -/
abbrev isO (ci : Nat → Nat → Int32) (a : Int32) (b : Nat) : Prop := ci 46 (3 * b) = a ∨ ci 46 (3 * b + 1) = a ∨ ci 46 (3 * b + 2) = a
/-- an OP that can FAIL -/
abbrev cF (o : Int32) : Prop := o = 1 ∨ o = 5 ∨ o = 8 ∨ o = 9
/-- the places of two DOORS meet: 46 operand, 61 least, 62 most -/
abbrev MT (ci : Nat → Nat → Int32) (cl : Nat → Nat → Int64) (a b : Nat) : Prop := ¬ cl 62 (ci 46 (3 * b)).toNatClampNeg < cl 61 (ci 46 (3 * a)).toNatClampNeg ∧ ¬ cl 62 (ci 46 (3 * a)).toNatClampNeg < cl 61 (ci 46 (3 * b)).toNatClampNeg
abbrev DR (ci : Nat → Nat → Int32) (a b : Nat) : Prop := (ci 44 a = 8 ∨ ci 44 a = 9) ∧ (ci 44 b = 8 ∨ ci 44 b = 9) ∧ (ci 44 a = 9 ∨ ci 44 b = 9)
abbrev PT (ci : Nat → Nat → Int32) (a b : Nat) : Prop := ci 44 a = ci 44 b ∧ (ci 44 a = 1 ∨ ci 44 a = 10) ∧ ci 47 a = ci 47 b
abbrev WT (ci : Nat → Nat → Int32) (a b : Nat) : Prop := cF (ci 44 a) ∧ (ci 44 b = 1 ∨ ci 44 b = 9 ∨ ci 44 b = 10)
def k1 (ci : Nat → Nat → Int32) (cl : Nat → Nat → Int64) (a b : Nat) : Int32 := if (DR ci a b ∧ MT ci cl a b) ∨ PT ci a b then 1 else 0
/-- the k by which b NEEDS a -/
def nd (ci : Nat → Nat → Int32) (cl : Nat → Nat → Int64) (a b : Nat) : Int32 := if (isO ci (nI a) b ∨ WT ci a b) ∧ ¬ ln ci a ≤ k1 ci cl a b then ln ci a else k1 ci cl a b
/-- the TICK from which on b's NEEDS of the ACTS before c are met; 55 tick -/
def askF (ci : Nat → Nat → Int32) (cl : Nat → Nat → Int64) (b : Nat) : Nat → Int32
  | 0 => 0
  | a + 1 => if nd ci cl a b ≤ 0 then askF ci cl b a else if ci 55 a + nd ci cl a b ≤ askF ci cl b a then askF ci cl b a else ci 55 a + nd ci cl a b
/-- PART i is free for ACT b at TICK t, as far as the ACTS before c go; 56 part -/
def frI (ci : Nat → Nat → Int32) (b : Nat) (i t : Int32) : Nat → Int32
  | 0 => 1
  | a + 1 => if frI ci b i t a = 0 then 0 else if kd (ci 44 a) = kd (ci 44 b) ∧ ci 56 a = i then (if ci 55 a + fl ci a ≤ t then 1 else if ci 55 a < t + fl ci b then 0 else 1) else 1
theorem frI_01 (ci : Nat → Nat → Int32) (b : Nat) (i t : Int32) : ∀ n, frI ci b i t n = 0 ∨ frI ci b i t n = 1
  | 0 => Or.inr rfl
  | a + 1 => by
    simp only [frI]
    split
    · exact Or.inl rfl
    · split
      · split
        · exact Or.inr rfl
        · split
          · exact Or.inl rfl
          · exact Or.inr rfl
      · exact Or.inr rfl
theorem nb_01 {x : Int32} (h : x = 0 ∨ x = 1) : narrow .boolean (.int x) = .int x := by rcases h with rfl | rfl <;> rfl
/-- the least free PART from i on, of k that are left -/
def fpF (ci : Nat → Nat → Int32) (b : Nat) (t : Int32) : Nat → Nat → Int32
  | 0, _ => -2
  | k + 1, i => if frI ci b (nI i) t b = 0 then fpF ci b t k (i + 1) else nI i
/-- ACT a is an operand of one of the first j ACTS behind it -/
def usI (ci : Nat → Nat → Int32) (a : Nat) : Nat → Int32
  | 0 => 0
  | j + 1 => if usI ci a j = 0 then bI (isO ci (nI a) (a + 1 + j)) else 1
/-- the latest TICK of those of the first j ACTS behind a of which it is an operand -/
def leF (ci : Nat → Nat → Int32) (a : Nat) : Nat → Int32
  | 0 => -2
  | j + 1 => if isO ci (nI a) (a + 1 + j) then (if ci 55 (a + 1 + j) ≤ leF ci a j then leF ci a j else ci 55 (a + 1 + j)) else leF ci a j
abbrev usd (ci : Nat → Nat → Int32) (n a : Nat) : Prop := ¬ usI ci a (n - (a + 1)) = 0 ∧ ¬ ci 44 a = 0
abbrev leN (ci : Nat → Nat → Int32) (n a : Nat) : Int32 := leF ci a (n - (a + 1))
abbrev lbN (ci : Nat → Nat → Int32) (a : Nat) : Int32 := ci 55 a + ln ci a
abbrev tog (ci : Nat → Nat → Int32) (n a b : Nat) : Prop := ¬ leN ci n b < lbN ci a ∧ ¬ leN ci n a < lbN ci b

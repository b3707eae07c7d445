/-! the class: ACTS as objects. c: the reference's ints, nu: its numbers of CONST ACTS -/
def oC (c : aI) (a w : Nat) : Int32 := if 0 ≤ c 46 (3 * a + w) then c 46 (3 * a + w) else -2
def AT (c : aI) (nu : Nat → Int64) (dy : aM) (a k s : Nat) : Prop := 74 ≤ k ∧ 74 ≤ s ∧ dy k = some (.inr (0, [.int (c 44 a), .int (c 45 a), .int (c 47 a), .int (oC c a 0), .int (oC c a 1), .int (oC c a 2), .ref s])) ∧ dy s = some (.inr (7, [.long (SL c nu a), .long (SH c nu a)]))
def AC (c : aI) (nu : Nat → Int64) (cr : Nat → Nat → Option Nat) (dy : aM) (n : Nat) : Prop := ∀ a, a < n → ∃ k s, cr 3 a = some k ∧ AT c nu dy a k s
def ST (c ci : aI) : Prop := ∀ k, k < 4 → ci 5 k = c 49 k ∧ ci 6 k = c 50 k ∧ ci 7 k = c 51 k
theorem AT.m {c : aI} {nu : Nat → Int64} {dy : aM} {a k s : Nat} {ci : aI} {cl : aL} {cr : Nat → Nat → Option Nat} (h : AT c nu dy a k s) : mm ci cl cr dy k = some (.inr (0, [.int (c 44 a), .int (c 45 a), .int (c 47 a), .int (oC c a 0), .int (oC c a 1), .int (oC c a 2), .ref s])) := (mm_hi h.1).trans h.2.2.1
theorem AT.s {c : aI} {nu : Nat → Int64} {dy : aM} {a k s : Nat} {ci : aI} {cl : aL} {cr : Nat → Nat → Option Nat} (h : AT c nu dy a k s) : mm ci cl cr dy s = some (.inr (7, [.long (SL c nu a), .long (SH c nu a)])) := (mm_hi h.2.1).trans h.2.2.2
theorem rf_some {x : Option Nat} {k : Nat} (h : x = some k) : va_rf x = .ref k := by rw [h]; rfl
theorem rf_none {x : Option Nat} (h : x = none) : va_rf x = .null := by rw [h]; rfl
theorem oC_eq {c : aI} {a w j : Nat} (hj : j < 2 ^ 31) : oC c a w = nI j ↔ c 46 (3 * a + w) = nI j := by
  unfold oC
  split
  · rfl
  · rename_i h
    refine ⟨fun e => absurd e (fun e => ?_), fun e => absurd (e ▸ nI_nn hj) h⟩
    exact absurd (e ▸ nI_nn hj) (by decide : ¬ (0 : Int32) ≤ -2)
theorem oC_m2 {c : aI} {a w : Nat} : oC c a w = -2 ↔ c 46 (3 * a + w) < 0 := by
  unfold oC
  split
  · rename_i h
    exact ⟨fun e => absurd h (by rw [e]; decide), fun e => absurd e (Int32.not_lt.mpr h)⟩
  · rename_i h
    exact ⟨fun _ => Int32.not_le.mp h, fun _ => rfl⟩
def flF (o : Int32) : Int32 := if o = 5 then 1 else if o = 8 then 2 else if o = 9 then 2 else if o = 1 then 3 else 0
theorem flF_0 (o : Int32) : ¬ flF o = 0 ↔ cF o := by
  unfold flF cF
  split
  · rename_i h; exact ⟨fun _ => Or.inr (Or.inl h), fun _ => by decide⟩
  · split
    · rename_i h; exact ⟨fun _ => Or.inr (Or.inr (Or.inl h)), fun _ => by decide⟩
    · split
      · rename_i h; exact ⟨fun _ => Or.inr (Or.inr (Or.inr h)), fun _ => by decide⟩
      · split
        · rename_i h; exact ⟨fun _ => Or.inl h, fun _ => by decide⟩
        · simp_all
def fT (c : aI) (k : Nat) : Int32 := if c 51 k = 0 then c 50 k else 1
theorem max_e {x y : Int32} : (if y ≤ x then x else y) = if x < y then y else x := by
  by_cases h : y ≤ x
  · rw [if_pos h, if_neg (Int32.not_lt.mpr h)]
  · rw [if_neg h, if_pos (Int32.not_le.mp h)]
theorem sh7 {d : Int32} : II 0 7 d ↔ AI 8 d := by unfold II AI; omega
theorem pl_i {v : Int64} : (¬ v < 0 ∧ ¬ 16 ≤ v) ↔ (¬ v < 0 ∧ ¬ 15 < v) := by
  have e : (16 : Int64).toInt = 16 := rfl
  have e2 : (15 : Int64).toInt = 15 := rfl
  rw [Int64.le_iff_toInt_le, Int64.lt_iff_toInt_lt (x := 15), e, e2]
  constructor <;> intro ⟨h1, h2⟩ <;> exact ⟨h1, by omega⟩
theorem wi_i {w lo hi : Int32} {a b : Nat} (hb : b < 2 ^ 31) (ha : a < 2 ^ 31) (hlo : lo = nI a) (hhi : hi = nI b) : (¬ w < lo ∧ ¬ hi < w) ↔ II a b w := by
  subst hlo; subst hhi
  unfold II
  rw [Int32.lt_iff_toInt_lt, Int32.lt_iff_toInt_lt, nI_toInt ha, nI_toInt hb]
  omega
theorem mx_e (x y : Int64) : mx x y = if x < y then y else x := by
  unfold mx
  by_cases h : x < y
  · rw [if_pos h, if_pos (Int64.le_of_lt h)]
  · rw [if_neg h]
    split
    · rename_i h2; exact Int64.le_antisymm (Int64.not_lt.mp h) h2
    · rfl
theorem mn_e (x y : Int64) : mn x y = if y < x then y else x := by
  unfold mn
  by_cases h : y < x
  · rw [if_pos h, if_pos (Int64.le_of_lt h)]
  · rw [if_neg h]
    split
    · rename_i h2; exact Int64.le_antisymm h2 (Int64.not_lt.mp h)
    · rfl
/-- what is known besides the words: mates of a nest, rows of objects, casts -/
def NW (E : aG) : Prop := wN E RX11 9 yX1_init "GateMaker" cX1_init 1 none 0 ∧ wN E RX11 18 yX9_init "GateMaker" cX9_init 1 none 0 ∧ wN E RX0 3 yX2_init "GateMaker" cX2_init 1 none 0 ∧ wN E RX3 133 yX11_isPlace "GateMaker" cX11_isPlace 2 (some .boolean) 1 ∧ wN E RX3 112 yX11_cut "GateMaker" cX11_cut 4 (some .long) 2 ∧ wN E RX7 1 yX2_init "GateMaker" cX2_init 1 none 0 ∧ (∀ U H, gZ E U H → va_AO RX0 U) ∧ (∀ U H, gZ E U H → va_AO RX2 U) ∧ (∀ U H, gZ E U H → va_AO RX10 U) ∧ (∀ U H, gZ E U H → va_Nw (.castable RX0 RX2) U) ∧ (∀ U H, gZ E U H → va_Nw (.castable RX7 RX2) U) ∧ (∀ U H, gZ E U H → va_Nc RX0 RX7 U) ∧ (∀ U H, gZ E U H → va_Nc RX7 RX0 U)
section
variable {E : aG} {Γ : aC} {own : String} {cc : ByteArray} {nL : Nat} {ret : Option FieldType} {nm : String} {d mc ms : Nat} {ci : Nat → Nat → Int32} {cl : Nat → Nat → Int64} {cr : Nat → Nat → Option Nat} {dy : aM} {nx ce sl pc pc' : Nat} {lv lv' : List (Nat × Value)} {st : List Value}
theorem ar_3 (hΓ : CK E own cc nL ret nm d mc ms Γ) {i : Int32} (j : Nat) (hi : i = nI j) (hj : j < 16) (hd : decode cc pc = .ok (.aaload, 1)) {v : Value} (hv : va_rf (cr 3 j) = v) (hn : pc + 1 = pc') (kk : SV E Γ nL (mm ci cl cr dy) nx ce sl pc' lv (v :: st)) : SV E Γ nL (mm ci cl cr dy) nx ce sl pc lv (.int i :: .ref 3 :: st) := by
  subst hi
  exact sv_aald hΓ (t := 3) rfl hd m_3 (vp_in_nI hj (by decide)) (by rw [nI_clamp (by omega)]; exact hv) hn kk
theorem ar_19 (hΓ : CK E own cc nL ret nm d mc ms Γ) {i : Int32} (j : Nat) (hi : i = nI j) (hj : j < 4) (hd : decode cc pc = .ok (.aaload, 1)) {v : Value} (hv : va_rf (cr 19 j) = v) (hn : pc + 1 = pc') (kk : SV E Γ nL (mm ci cl cr dy) nx ce sl pc' lv (v :: st)) : SV E Γ nL (mm ci cl cr dy) nx ce sl pc lv (.int i :: .ref 19 :: st) := by
  subst hi
  exact sv_aald hΓ (t := 5) rfl hd m_19 (vp_in_nI hj (by decide)) (by rw [nI_clamp (by omega)]; exact hv) hn kk
theorem ar_20 (hΓ : CK E own cc nL ret nm d mc ms Γ) {i : Int32} (j : Nat) (hi : i = nI j) (hj : j < 4) (hd : decode cc pc = .ok (.aaload, 1)) {v : Value} (hv : va_rf (cr 20 j) = v) (hn : pc + 1 = pc') (kk : SV E Γ nL (mm ci cl cr dy) nx ce sl pc' lv (v :: st)) : SV E Γ nL (mm ci cl cr dy) nx ce sl pc lv (.int i :: .ref 20 :: st) := by
  subst hi
  exact sv_aald hΓ (t := 5) rfl hd m_20 (vp_in_nI hj (by decide)) (by rw [nI_clamp (by omega)]; exact hv) hn kk
theorem ar_42 (hΓ : CK E own cc nL ret nm d mc ms Γ) {i : Int32} (j : Nat) (hi : i = nI j) (hj : j < 8) (hd : decode cc pc = .ok (.aaload, 1)) {v : Value} (hv : va_rf (cr 42 j) = v) (hn : pc + 1 = pc') (kk : SV E Γ nL (mm ci cl cr dy) nx ce sl pc' lv (v :: st)) : SV E Γ nL (mm ci cl cr dy) nx ce sl pc lv (.int i :: .ref 42 :: st) := by
  subst hi
  exact sv_aald hΓ (t := 4) rfl hd m_42 (vp_in_nI hj (by decide)) (by rw [nI_clamp (by omega)]; exact hv) hn kk
theorem ap_3 (hΓ : CK E own cc nL ret nm d mc ms Γ) {i : Int32} (j : Nat) (hi : i = nI j) (hj : j < 16) {v q : Nat} {r : vw_C} {fs : List Value} (hc : vwCl[q]? = some r ∧ (r.1 = RX0 ∨ ∀ U H, gZ E U H → va_Nw (.castable r.1 RX0) U) ∧ mm ci cl cr dy v = some (.inr (q, fs))) (hd : decode cc pc = .ok (.aastore, 1)) (hn : pc + 1 = pc') (kk : SV E Γ nL (mm ci cl (up2 cr 3 j (some v)) dy) nx ce sl pc' lv st) : SV E Γ nL (mm ci cl cr dy) nx ce sl pc lv (.ref v :: .int i :: .ref 3 :: st) := by
  subst hi
  refine sv_aast hΓ (t := 3) rfl hc.1 hc.2.1 hd m_3 hc.2.2 (vp_in_nI hj (by decide)) hn ?_
  rw [nI_clamp (by omega)]
  refine SV_eq (M' := mm ci cl (up2 cr 3 j (some v)) dy) ?_ kk
  exact mm_r 2 j rfl rfl
theorem ap_42 (hΓ : CK E own cc nL ret nm d mc ms Γ) {i : Int32} (j : Nat) (hi : i = nI j) (hj : j < 8) {v q : Nat} {r : vw_C} {fs : List Value} (hc : vwCl[q]? = some r ∧ (r.1 = RX2 ∨ ∀ U H, gZ E U H → va_Nw (.castable r.1 RX2) U) ∧ mm ci cl cr dy v = some (.inr (q, fs))) (hd : decode cc pc = .ok (.aastore, 1)) (hn : pc + 1 = pc') (kk : SV E Γ nL (mm ci cl (up2 cr 42 j (some v)) dy) nx ce sl pc' lv st) : SV E Γ nL (mm ci cl cr dy) nx ce sl pc lv (.ref v :: .int i :: .ref 42 :: st) := by
  subst hi
  refine sv_aast hΓ (t := 4) rfl hc.1 hc.2.1 hd m_42 hc.2.2 (vp_in_nI hj (by decide)) hn ?_
  rw [nI_clamp (by omega)]
  refine SV_eq (M' := mm ci cl (up2 cr 42 j (some v)) dy) ?_ kk
  exact mm_r 41 j rfl rfl
theorem ap_42N (hΓ : CK E own cc nL ret nm d mc ms Γ) {i : Int32} (j : Nat) (hi : i = nI j) (hj : j < 8) (hd : decode cc pc = .ok (.aastore, 1)) (hn : pc + 1 = pc') (kk : SV E Γ nL (mm ci cl (up2 cr 42 j none) dy) nx ce sl pc' lv st) : SV E Γ nL (mm ci cl cr dy) nx ce sl pc lv (.null :: .int i :: .ref 42 :: st) := by
  subst hi
  refine sv_aastN hΓ (t := 4) rfl hd m_42 (vp_in_nI hj (by decide)) hn ?_
  rw [nI_clamp (by omega)]
  refine SV_eq (M' := mm ci cl (up2 cr 42 j none) dy) ?_ kk
  exact mm_r 41 j rfl rfl
end

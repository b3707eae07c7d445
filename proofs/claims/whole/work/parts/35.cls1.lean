theorem va_up_up {α : Type} (f : Nat → α) (k : Nat) (v w : α) : va_up (va_up f k v) k w = va_up f k w := by
  funext j
  by_cases e : j = k
  · subst e; rw [va_up_self, va_up_self]
  · rw [va_up_ne _ _ e, va_up_ne _ _ e, va_up_ne _ _ e]
/-- nothing lies from nx on; from (dy, nx) to (dy', nx') only new cells -/
def DN (dy : aM) (nx : Nat) : Prop := ∀ q, nx ≤ q → dy q = none
def EX (dy : aM) (nx : Nat) (dy' : aM) (nx' : Nat) : Prop := nx ≤ nx' ∧ (∀ q, q < nx → dy' q = dy q) ∧ DN dy' nx'
def SP (dy : aM) (s : Nat) (lo hi : Int64) : Prop := 74 ≤ s ∧ dy s = some (.inr (7, [.long lo, .long hi]))
theorem EX.rf {dy : aM} {nx : Nat} (h : DN dy nx) : EX dy nx dy nx := ⟨Nat.le_refl _, fun _ _ => rfl, h⟩
theorem EX.tr {dy dy' dy2 : aM} {nx nx' nx2 : Nat} (h : EX dy nx dy' nx') (h' : EX dy' nx' dy2 nx2) : EX dy nx dy2 nx2 := ⟨Nat.le_trans h.1 h'.1, fun q hq => (h'.2.1 q (Nat.lt_of_lt_of_le hq h.1)).trans (h.2.1 q hq), h'.2.2⟩
theorem EX.new {dy : aM} {nx : Nat} {c : aE} (h : DN dy nx) : EX dy nx (va_up dy nx (some c)) (nx + 1) := ⟨by omega, fun q hq => va_up_ne _ _ (by omega), fun q hq => (va_up_ne _ _ (by omega)).trans (h q (by omega))⟩
theorem EX.set {dy dy' : aM} {nx nx' k : Nat} {c : aE} (h : EX dy nx dy' nx') (hk : nx ≤ k) (hk2 : k < nx') : EX dy nx (va_up dy' k (some c)) nx' := ⟨h.1, fun q hq => (va_up_ne _ _ (by omega)).trans (h.2.1 q hq), fun q hq => (va_up_ne _ _ (by omega)).trans (h.2.2 q hq)⟩
theorem DN.lt {dy : aM} {nx k : Nat} {c : aE} (h : DN dy nx) (hk : dy k = some c) : k < nx := by
  rcases Nat.lt_or_ge k nx with q | q
  · exact q
  · rw [h k q] at hk; cases hk
theorem EX.at {dy dy' : aM} {nx nx' k : Nat} {c : aE} (h : EX dy nx dy' nx') (hd : DN dy nx) (hk : dy k = some c) : dy' k = some c := (h.2.1 k (hd.lt hk)).trans hk
theorem AT.ex {c : aI} {nu : Nat → Int64} {dy dy' : aM} {nx nx' a k s : Nat} (h : AT c nu dy a k s) (hd : DN dy nx) (e : EX dy nx dy' nx') : AT c nu dy' a k s := ⟨h.1, h.2.1, e.at hd h.2.2.1, e.at hd h.2.2.2⟩
theorem SP.ex {dy dy' : aM} {nx nx' s : Nat} {lo hi : Int64} (h : SP dy s lo hi) (hd : DN dy nx) (e : EX dy nx dy' nx') : SP dy' s lo hi := ⟨h.1, e.at hd h.2⟩
theorem SP.m {dy : aM} {s : Nat} {lo hi : Int64} {ci : aI} {cl : aL} {cr : Nat → Nat → Option Nat} (h : SP dy s lo hi) : mm ci cl cr dy s = some (.inr (7, [.long lo, .long hi])) := (mm_hi h.1).trans h.2
theorem AT.sp {c : aI} {nu : Nat → Int64} {dy : aM} {a k s : Nat} (h : AT c nu dy a k s) : SP dy s (SL c nu a) (SH c nu a) := ⟨h.2.1, h.2.2.2⟩
theorem opN3 {c : aI} {a : Nat} : opN c a 3 = (if oC c a 0 = -2 then 0 else 1) + (if oC c a 1 = -2 then 0 else 1) + (if oC c a 2 = -2 then 0 else 1) := by
  simp only [opN, oC_m2]
  split <;> split <;> split <;> rfl
theorem takes_i {c : aI} {a j : Nat} (hj : j < 2 ^ 31) : isO c (nI j) a ↔ (oC c a 0 = nI j ∨ oC c a 1 = nI j ∨ oC c a 2 = nI j) := by
  rw [oC_eq hj, oC_eq hj, oC_eq hj]
  exact Iff.rfl
theorem flF_out {o : Int32} (h : o.toInt < 1 ∨ 9 < o.toInt) : flF o = 0 := by
  unfold flF
  rw [if_neg (out_ne h 5 (by decide)), if_neg (out_ne h 8 (by decide)), if_neg (out_ne h 9 (by decide)), if_neg (out_ne h 1 (by decide))]
theorem abs_e (x : Int64) : (if x < 0 then -x else x) = mx x (-x) := by
  have h1 := Int64.toInt_lt x
  have h2 := Int64.le_toInt x
  have e0 : (0 : Int64).toInt = 0 := rfl
  unfold mx
  by_cases h : x < 0
  · rw [if_pos h, if_pos]
    rw [Int64.le_iff_toInt_le]
    rw [Int64.lt_iff_toInt_lt, e0] at h
    by_cases hm : x.toInt = -2 ^ 63
    · rw [Int64.toInt_neg, hm]; decide
    · rw [Int64.toInt_neg, Int.bmod_eq_of_le] <;> omega
  · rw [if_neg h]
    rw [Int64.lt_iff_toInt_lt, e0] at h
    have hn := l_neg (x := x) (by omega)
    split
    · rename_i h3
      rw [Int64.le_iff_toInt_le, hn] at h3
      exact Int64.toInt_inj.mp (by rw [hn]; omega)
    · rfl
abbrev ftLo (lo hi : Int64) (w : Int32) : Int64 := if ¬ lo < -pw w ∧ ¬ pw w ≤ hi then lo else -pw w
abbrev ftHi (lo hi : Int64) (w : Int32) : Int64 := if ¬ lo < -pw w ∧ ¬ pw w ≤ hi then hi else pw w - 1
def rkLo (o : Int32) (lx hx ly hy : Int64) : Int64 := if o = 2 then lx + ly else if o = 3 then lx - hy else if o = 4 then mn (mn (lx * ly) (lx * hy)) (mn (hx * ly) (hx * hy)) else if o = 5 then -(mx (mx lx (-lx)) (mx hx (-hx))) else if ly ≤ hx then 0 else 1
def rkHi (o : Int32) (lx hx ly hy : Int64) : Int64 := if o = 2 then hx + hy else if o = 3 then hx - ly else if o = 4 then mx (mx (lx * ly) (lx * hy)) (mx (hx * ly) (hx * hy)) else if o = 5 then mx (mx lx (-lx)) (mx hx (-hx)) else if lx < hy then 1 else 0
theorem rk_4 {lx hx ly hy : Int64} : rkLo 4 lx hx ly hy = mn (mn (lx * ly) (lx * hy)) (mn (hx * ly) (hx * hy)) := by rw [rkLo, if_neg (by decide), if_neg (by decide), if_pos rfl]
theorem rkh_4 {lx hx ly hy : Int64} : rkHi 4 lx hx ly hy = mx (mx (lx * ly) (lx * hy)) (mx (hx * ly) (hx * hy)) := by rw [rkHi, if_neg (by decide), if_neg (by decide), if_pos rfl]
theorem rk_5 {lx hx ly hy : Int64} : rkLo 5 lx hx ly hy = -(mx (mx lx (-lx)) (mx hx (-hx))) := by rw [rkLo, if_neg (by decide), if_neg (by decide), if_neg (by decide), if_pos rfl]
theorem rkh_5 {lx hx ly hy : Int64} : rkHi 5 lx hx ly hy = mx (mx lx (-lx)) (mx hx (-hx)) := by rw [rkHi, if_neg (by decide), if_neg (by decide), if_neg (by decide), if_pos rfl]
def pcLo (lx hx ly lz : Int64) : Int64 := if lx = 0 ∧ hx = 0 then lz else if 0 < lx ∨ ¬ 0 ≤ hx then ly else mn ly lz
def pcHi (lx hx hy hz : Int64) : Int64 := if lx = 0 ∧ hx = 0 then hz else if 0 < lx ∨ ¬ 0 ≤ hx then hy else mx hy hz
/-- an ACT as an object, by its fields -/
def ACT (dy : aM) (k s : Nat) (op w q x y z : Int32) (lo hi : Int64) : Prop := 74 ≤ k ∧ 74 ≤ s ∧ dy k = some (.inr (0, [.int op, .int w, .int q, .int x, .int y, .int z, .ref s])) ∧ dy s = some (.inr (7, [.long lo, .long hi]))
theorem mx_e2 (x y : Int64) : (if y < x then x else y) = mx x y := by
  unfold mx
  by_cases h : y < x
  · rw [if_pos h, if_neg (Int64.not_le.mpr h)]
  · rw [if_neg h, if_pos (Int64.not_lt.mp h)]
theorem abs_e2 (x : Int64) : (if 0 < x then x else -x) = mx x (-x) := by
  rw [← abs_e]
  by_cases h : x < 0
  · rw [if_pos h, if_neg (fun q => Int64.lt_irrefl (Int64.lt_trans h q))]
  · rw [if_neg h]
    by_cases h2 : 0 < x
    · rw [if_pos h2]
    · rw [if_neg h2, Int64.le_antisymm (Int64.not_lt.mp h2) (Int64.not_lt.mp h)]; rfl
section
variable {E : aG} {Γ : aC} {own : String} {cc : ByteArray} {nL : Nat} {ret : Option FieldType} {nm : String} {d mc ms : Nat} {M : aM} {nx ce sl pc pc' : Nat} {lv lv' : List (Nat × Value)} {st : List Value}
theorem sv_mmax (hΓ : CK E own cc nL ret nm d mc ms Γ) {index : Nat} {x y : Int32} (hw : Cond.methodLink own index Lib.Math.max.name ∈ TB ∧ Cond.static Lib.Math.max.name ∈ TB ∧ Cond.initialized "java/lang/Math" ∈ TB ∧ Cond.code Lib.Math.max.name Lib.Math.max.code 2 (some .int) ∈ TB) (hdd : 1 ≤ d) (hce : ce ≤ mc) (hsl : sl ≤ ms) (hcat : (st.map fun v => v.category).sum ≤ 8) (hd : decode cc pc = .ok (.invokestatic index, 3)) (hn : pc + 3 = pc') (k : SV E Γ nL M nx ce sl pc' lv (.int (if y ≤ x then x else y) :: st)) : SV E Γ nL M nx ce sl pc lv (.int y :: .int x :: st) := by
  obtain ⟨p, l, e, R, s, m, args, below, meth, c, Q⟩ := Γ
  obtain ⟨hx, hb, hml, hown, hts, hK, hr, hlk, hnm, hrm, hsz, hZ, hZC⟩ := hΓ
  subst hn
  intro H locs ls hR hS hl
  refine va_mmax hx hb (hml.trans hl.1.symm) hown (hts _ hw.1) (hts _ hw.2.1) (hts _ hw.2.2.1) (hts _ hw.2.2.2) (by omega) (by rw [tv_cats]; omega) (by omega) (by omega) hd ?_
  rw [← max_e]
  exact k H locs ls hR hS hl
theorem sv_mmaxl (hΓ : CK E own cc nL ret nm d mc ms Γ) {index : Nat} {x y : Int64} (hw : Cond.methodLink own index Lib.MathLoose.max_long.x ∈ TB ∧ Cond.static Lib.MathLoose.max_long.x ∈ TB ∧ Cond.initialized "java/lang/Math" ∈ TB ∧ Cond.code Lib.MathLoose.max_long.x Lib.MathLoose.max_long.code 4 (some .long) ∈ TB) (hdd : 1 ≤ d) (hce : ce ≤ mc) (hsl : sl ≤ ms) (hcat : (st.map fun v => v.category).sum ≤ 8) (hd : decode cc pc = .ok (.invokestatic index, 3)) (hn : pc + 3 = pc') (k : SV E Γ nL M nx ce sl pc' lv (.long (mx x y) :: st)) : SV E Γ nL M nx ce sl pc lv (.long y :: .long x :: st) := by
  obtain ⟨p, l, e, R, s, m, args, below, meth, c, Q⟩ := Γ
  obtain ⟨hx, hb, hml, hown, hts, hK, hr, hlk, hnm, hrm, hsz, hZ, hZC⟩ := hΓ
  subst hn
  intro H locs ls hR hS hl
  refine va_mmax_long hx hb (hml.trans hl.1.symm) hown (hts _ hw.1) (hts _ hw.2.1) (hts _ hw.2.2.1) (hts _ hw.2.2.2) (by omega) (by rw [tv_cats]; omega) (by omega) (by omega) hd ?_
  rw [mx_e2]
  exact k H locs ls hR hS hl
theorem sv_mminl (hΓ : CK E own cc nL ret nm d mc ms Γ) {index : Nat} {x y : Int64} (hw : Cond.methodLink own index Lib.MathLoose.min_long.x ∈ TB ∧ Cond.static Lib.MathLoose.min_long.x ∈ TB ∧ Cond.initialized "java/lang/Math" ∈ TB ∧ Cond.code Lib.MathLoose.min_long.x Lib.MathLoose.min_long.code 4 (some .long) ∈ TB) (hdd : 1 ≤ d) (hce : ce ≤ mc) (hsl : sl ≤ ms) (hcat : (st.map fun v => v.category).sum ≤ 8) (hd : decode cc pc = .ok (.invokestatic index, 3)) (hn : pc + 3 = pc') (k : SV E Γ nL M nx ce sl pc' lv (.long (mn x y) :: st)) : SV E Γ nL M nx ce sl pc lv (.long y :: .long x :: st) := by
  obtain ⟨p, l, e, R, s, m, args, below, meth, c, Q⟩ := Γ
  obtain ⟨hx, hb, hml, hown, hts, hK, hr, hlk, hnm, hrm, hsz, hZ, hZC⟩ := hΓ
  subst hn
  intro H locs ls hR hS hl
  refine va_mmin_long hx hb (hml.trans hl.1.symm) hown (hts _ hw.1) (hts _ hw.2.1) (hts _ hw.2.2.1) (hts _ hw.2.2.2) (by omega) (by rw [tv_cats]; omega) (by omega) (by omega) hd ?_
  rw [← mn_e]
  exact k H locs ls hR hS hl
theorem sv_mabsl (hΓ : CK E own cc nL ret nm d mc ms Γ) {index : Nat} {x : Int64} (hw : Cond.methodLink own index Lib.MathLoose.abs_long.x ∈ TB ∧ Cond.static Lib.MathLoose.abs_long.x ∈ TB ∧ Cond.initialized "java/lang/Math" ∈ TB ∧ Cond.code Lib.MathLoose.abs_long.x Lib.MathLoose.abs_long.code 2 (some .long) ∈ TB) (hdd : 1 ≤ d) (hce : ce ≤ mc) (hsl : sl ≤ ms) (hcat : (st.map fun v => v.category).sum ≤ 8) (hd : decode cc pc = .ok (.invokestatic index, 3)) (hn : pc + 3 = pc') (k : SV E Γ nL M nx ce sl pc' lv (.long (mx x (-x)) :: st)) : SV E Γ nL M nx ce sl pc lv (.long x :: st) := by
  obtain ⟨p, l, e, R, s, m, args, below, meth, c, Q⟩ := Γ
  obtain ⟨hx, hb, hml, hown, hts, hK, hr, hlk, hnm, hrm, hsz, hZ, hZC⟩ := hΓ
  subst hn
  intro H locs ls hR hS hl
  refine va_mabs_long hx hb (hml.trans hl.1.symm) hown (hts _ hw.1) (hts _ hw.2.1) (hts _ hw.2.2.1) (hts _ hw.2.2.2) (by omega) (by rw [tv_cats]; omega) (by omega) (by omega) hd ?_
  rw [abs_e2]
  exact k H locs ls hR hS hl
end
section
variable {E : aG} {Γ : aC} {cc : ByteArray} {nL : Nat} {ret : Option FieldType} {nm : String} {d mc ms : Nat} {nx ce sl pc pc' : Nat} {lv lv' : List (Nat × Value)} {st : List Value} {M : aM}
theorem nw_X3_9 (hΓ : CK E RX3 cc nL ret nm d mc ms Γ) (hd : decode cc pc = .ok (.new 9, 3)) (hce : ce + 1 ≤ mc) (hsl : sl + 2 ≤ ms) (hn : pc + 3 = pc') (kk : SV E Γ nL (va_up M nx (some (.inr (9, [.null, .int 0])))) (nx + 1) (ce + 1) (sl + 2) pc' lv (.ref nx :: st)) : SV E Γ nL M nx ce sl pc lv st :=
  sv_new hΓ i_X10 tyX10 tyX10_ok rfl tb_158 tb_160 tb_8 (fun E j hj => by
    obtain rfl | rfl : j = 0 ∨ j = 1 := by omega
    all_goals rfl) hd hce hsl hn kk
theorem nw_X8_10 (hΓ : CK E RX8 cc nL ret nm d mc ms Γ) (hd : decode cc pc = .ok (.new 10, 3)) (hce : ce + 1 ≤ mc) (hsl : sl + 2 ≤ ms) (hn : pc + 3 = pc') (kk : SV E Γ nL (va_up M nx (some (.inr (7, [.long 0, .long 0])))) (nx + 1) (ce + 1) (sl + 2) pc' lv (.ref nx :: st)) : SV E Γ nL M nx ce sl pc lv st :=
  sv_new hΓ i_X8 tyX8 tyX8_ok rfl tb_364 tb_264 tb_12 (fun E j hj => by
    obtain rfl | rfl : j = 0 ∨ j = 1 := by omega
    all_goals rfl) hd hce hsl hn kk
theorem nw_X11_7 (hΓ : CK E RX11 cc nL ret nm d mc ms Γ) (hd : decode cc pc = .ok (.new 7, 3)) (hce : ce + 1 ≤ mc) (hsl : sl + 2 ≤ ms) (hn : pc + 3 = pc') (kk : SV E Γ nL (va_up M nx (some (.inr (1, [.null, .int 0])))) (nx + 1) (ce + 1) (sl + 2) pc' lv (.ref nx :: st)) : SV E Γ nL M nx ce sl pc lv st :=
  sv_new hΓ i_X1 tyX1 tyX1_ok rfl tb_31 tb_32 tb_2 (fun E j hj => by
    obtain rfl | rfl : j = 0 ∨ j = 1 := by omega
    all_goals rfl) hd hce hsl hn kk
theorem nw_X11_16 (hΓ : CK E RX11 cc nL ret nm d mc ms Γ) (hd : decode cc pc = .ok (.new 16, 3)) (hce : ce + 1 ≤ mc) (hsl : sl + 3 ≤ ms) (hn : pc + 3 = pc') (kk : SV E Γ nL (va_up M nx (some (.inr (8, [.null, .null, .null])))) (nx + 1) (ce + 1) (sl + 3) pc' lv (.ref nx :: st)) : SV E Γ nL M nx ce sl pc lv st :=
  sv_new hΓ i_X9 tyX9 tyX9_ok rfl tb_46 tb_47 tb_3 (fun E j hj => by
    obtain rfl | rfl | rfl : j = 0 ∨ j = 1 ∨ j = 2 := by omega
    all_goals rfl) hd hce hsl hn kk
theorem nw_X11_23 (hΓ : CK E RX11 cc nL ret nm d mc ms Γ) (hd : decode cc pc = .ok (.new 23, 3)) (hce : ce + 1 ≤ mc) (hsl : sl + 3 ≤ ms) (hn : pc + 3 = pc') (kk : SV E Γ nL (va_up M nx (some (.inr (3, [.null, .null, .null])))) (nx + 1) (ce + 1) (sl + 3) pc' lv (.ref nx :: st)) : SV E Γ nL M nx ce sl pc lv st :=
  sv_new hΓ i_X4 tyX4 tyX4_ok rfl tb_68 tb_69 tb_4 (fun E j hj => by
    obtain rfl | rfl | rfl : j = 0 ∨ j = 1 ∨ j = 2 := by omega
    all_goals rfl) hd hce hsl hn kk
theorem nw_X11_32 (hΓ : CK E RX11 cc nL ret nm d mc ms Γ) (hd : decode cc pc = .ok (.new 32, 3)) (hce : ce + 1 ≤ mc) (hsl : sl + 7 ≤ ms) (hn : pc + 3 = pc') (kk : SV E Γ nL (va_up M nx (some (.inr (4, [.null, .null, .null, .null, .null, .null, .int 0])))) (nx + 1) (ce + 1) (sl + 7) pc' lv (.ref nx :: st)) : SV E Γ nL M nx ce sl pc lv st :=
  sv_new hΓ i_X5 tyX5 tyX5_ok rfl tb_84 tb_85 tb_5 (fun E j hj => by
    obtain rfl | rfl | rfl | rfl | rfl | rfl | rfl : j = 0 ∨ j = 1 ∨ j = 2 ∨ j = 3 ∨ j = 4 ∨ j = 5 ∨ j = 6 := by omega
    all_goals rfl) hd hce hsl hn kk
theorem nw_X11_41 (hΓ : CK E RX11 cc nL ret nm d mc ms Γ) (hd : decode cc pc = .ok (.new 41, 3)) (hce : ce + 1 ≤ mc) (hsl : sl + 7 ≤ ms) (hn : pc + 3 = pc') (kk : SV E Γ nL (va_up M nx (some (.inr (5, [.null, .null, .null, .null, .null, .null, .int 0])))) (nx + 1) (ce + 1) (sl + 7) pc' lv (.ref nx :: st)) : SV E Γ nL M nx ce sl pc lv st :=
  sv_new hΓ i_X6 tyX6 tyX6_ok rfl tb_120 tb_121 tb_6 (fun E j hj => by
    obtain rfl | rfl | rfl | rfl | rfl | rfl | rfl : j = 0 ∨ j = 1 ∨ j = 2 ∨ j = 3 ∨ j = 4 ∨ j = 5 ∨ j = 6 := by omega
    all_goals rfl) hd hce hsl hn kk
theorem nw_X11_50 (hΓ : CK E RX11 cc nL ret nm d mc ms Γ) (hd : decode cc pc = .ok (.new 50, 3)) (hce : ce + 1 ≤ mc) (hsl : sl + 12 ≤ ms) (hn : pc + 3 = pc') (kk : SV E Γ nL (va_up M nx (some (.inr (2, [.null, .null, .null, .null, .null, .null, .null, .null, .int 0, .int 0, .int 0, .int 0])))) (nx + 1) (ce + 1) (sl + 12) pc' lv (.ref nx :: st)) : SV E Γ nL M nx ce sl pc lv st :=
  sv_new hΓ i_X3 tyX3 tyX3_ok rfl tb_152 tb_153 tb_7 (fun E j hj => by
    obtain rfl | rfl | rfl | rfl | rfl | rfl | rfl | rfl | rfl | rfl | rfl | rfl : j = 0 ∨ j = 1 ∨ j = 2 ∨ j = 3 ∨ j = 4 ∨ j = 5 ∨ j = 6 ∨ j = 7 ∨ j = 8 ∨ j = 9 ∨ j = 10 ∨ j = 11 := by omega
    all_goals rfl) hd hce hsl hn kk
theorem nw_X11_80 (hΓ : CK E RX11 cc nL ret nm d mc ms Γ) (hd : decode cc pc = .ok (.new 80, 3)) (hce : ce + 1 ≤ mc) (hsl : sl + 7 ≤ ms) (hn : pc + 3 = pc') (kk : SV E Γ nL (va_up M nx (some (.inr (0, [.int 0, .int 0, .int 0, .int 0, .int 0, .int 0, .null])))) (nx + 1) (ce + 1) (sl + 7) pc' lv (.ref nx :: st)) : SV E Γ nL M nx ce sl pc lv st :=
  sv_new hΓ i_X0 tyX0 tyX0_ok rfl tb_261 tb_262 tb_11 (fun E j hj => by
    obtain rfl | rfl | rfl | rfl | rfl | rfl | rfl : j = 0 ∨ j = 1 ∨ j = 2 ∨ j = 3 ∨ j = 4 ∨ j = 5 ∨ j = 6 := by omega
    all_goals rfl) hd hce hsl hn kk
theorem nw_X11_82 (hΓ : CK E RX11 cc nL ret nm d mc ms Γ) (hd : decode cc pc = .ok (.new 82, 3)) (hce : ce + 1 ≤ mc) (hsl : sl + 2 ≤ ms) (hn : pc + 3 = pc') (kk : SV E Γ nL (va_up M nx (some (.inr (7, [.long 0, .long 0])))) (nx + 1) (ce + 1) (sl + 2) pc' lv (.ref nx :: st)) : SV E Γ nL M nx ce sl pc lv st :=
  sv_new hΓ i_X8 tyX8 tyX8_ok rfl tb_263 tb_264 tb_12 (fun E j hj => by
    obtain rfl | rfl : j = 0 ∨ j = 1 := by omega
    all_goals rfl) hd hce hsl hn kk
theorem nw_X11_327 (hΓ : CK E RX11 cc nL ret nm d mc ms Γ) (hd : decode cc pc = .ok (.new 327, 3)) (hce : ce + 1 ≤ mc) (hsl : sl + 2 ≤ ms) (hn : pc + 3 = pc') (kk : SV E Γ nL (va_up M nx (some (.inr (6, [.int 0, .null])))) (nx + 1) (ce + 1) (sl + 2) pc' lv (.ref nx :: st)) : SV E Γ nL M nx ce sl pc lv st :=
  sv_new hΓ i_X7 tyX7 tyX7_ok rfl tb_739 tb_740 tb_21 (fun E j hj => by
    obtain rfl | rfl : j = 0 ∨ j = 1 := by omega
    all_goals rfl) hd hce hsl hn kk
theorem nw_L_8 (hΓ : CK E RL cc nL ret nm d mc ms Γ) (hd : decode cc pc = .ok (.new 8, 3)) (hce : ce + 1 ≤ mc) (hsl : sl + 9 ≤ ms) (hn : pc + 3 = pc') (kk : SV E Γ nL (va_up M nx (some (.inr (10, [.null, .null, .null, .null, .null, .null, .null, .int 0, .int 0])))) (nx + 1) (ce + 1) (sl + 9) pc' lv (.ref nx :: st)) : SV E Γ nL M nx ce sl pc lv st :=
  sv_new hΓ i_X11 tyX11 tyX11_ok rfl tb_23 tb_24 tb_1 (fun E j hj => by
    obtain rfl | rfl | rfl | rfl | rfl | rfl | rfl | rfl | rfl : j = 0 ∨ j = 1 ∨ j = 2 ∨ j = 3 ∨ j = 4 ∨ j = 5 ∨ j = 6 ∨ j = 7 ∨ j = 8 := by omega
    all_goals rfl) hd hce hsl hn kk
theorem nw_L_29 (hΓ : CK E RL cc nL ret nm d mc ms Γ) (hd : decode cc pc = .ok (.new 29, 3)) (hce : ce + 1 ≤ mc) (hsl : sl + 41 ≤ ms) (hn : pc + 3 = pc') (kk : SV E Γ nL (va_up M nx (some (.inr (11, [.int 0, .int 0, .null, .null, .null, .null, .null, .null, .null, .null, .null, .null, .null, .int 0, .null, .null, .int 0, .null, .int 0, .int 0, .int 0, .int 0, .int 0, .int 0, .null, .null, .null, .null, .null, .long 0, .long 0, .null, .null, .null, .null, .null, .null, .null, .null, .null, .null])))) (nx + 1) (ce + 1) (sl + 41) pc' lv (.ref nx :: st)) : SV E Γ nL M nx ce sl pc lv st :=
  sv_new hΓ i_X12 tyX12 tyX12_ok rfl tb_940 tb_941 tb_9 (fun E j hj => by
    obtain rfl | rfl | rfl | rfl | rfl | rfl | rfl | rfl | rfl | rfl | rfl | rfl | rfl | rfl | rfl | rfl | rfl | rfl | rfl | rfl | rfl | rfl | rfl | rfl | rfl | rfl | rfl | rfl | rfl | rfl | rfl | rfl | rfl | rfl | rfl | rfl | rfl | rfl | rfl | rfl | rfl : j = 0 ∨ j = 1 ∨ j = 2 ∨ j = 3 ∨ j = 4 ∨ j = 5 ∨ j = 6 ∨ j = 7 ∨ j = 8 ∨ j = 9 ∨ j = 10 ∨ j = 11 ∨ j = 12 ∨ j = 13 ∨ j = 14 ∨ j = 15 ∨ j = 16 ∨ j = 17 ∨ j = 18 ∨ j = 19 ∨ j = 20 ∨ j = 21 ∨ j = 22 ∨ j = 23 ∨ j = 24 ∨ j = 25 ∨ j = 26 ∨ j = 27 ∨ j = 28 ∨ j = 29 ∨ j = 30 ∨ j = 31 ∨ j = 32 ∨ j = 33 ∨ j = 34 ∨ j = 35 ∨ j = 36 ∨ j = 37 ∨ j = 38 ∨ j = 39 ∨ j = 40 := by omega
    all_goals rfl) hd hce hsl hn kk
end

/-! an ACT more -/
/-- the first n ACTS are alike -/
def AG (c c' : aI) (nu nu' : Nat → Int64) (n : Nat) : Prop := ∀ a, a < n → c' 44 a = c 44 a ∧ c' 45 a = c 45 a ∧ c' 46 (3 * a) = c 46 (3 * a) ∧ c' 46 (3 * a + 1) = c 46 (3 * a + 1) ∧ c' 46 (3 * a + 2) = c 46 (3 * a + 2) ∧ c' 47 a = c 47 a ∧ nu' a = nu a
theorem AG.sp {c c' : aI} {nu nu' : Nat → Int64} {n a : Nat} (h : AG c c' nu nu' n) (ha : a < n) (L H : Nat → Int64) (w : Int64) : spLo c' nu' L H a w = spLo c nu L H a w ∧ spHi c' nu' L H a w = spHi c nu L H a w := by
  obtain ⟨h1, h2, h3, h4, h5, h6, h7⟩ := h a ha
  simp only [spLo, spHi, h1, h3, h4, h5, h7, and_self]
theorem AG.spT {c c' : aI} {nu nu' : Nat → Int64} {n : Nat} (h : AG c c' nu nu' n) : ∀ m, m ≤ n → spT c' nu' m = spT c nu m
  | 0, _ => rfl
  | m + 1, hm => by
    simp only [_root_.Jvm.Pilot.@@N@@.spT]
    rw [AG.spT h m (by omega), (h.sp (by omega) _ _ _).1, (h.sp (by omega) _ _ _).2, (h m (by omega)).2.1]
theorem AG.S {c c' : aI} {nu nu' : Nat → Int64} {n a : Nat} (h : AG c c' nu nu' n) (ha : a < n) : SL c' nu' a = SL c nu a ∧ SH c' nu' a = SH c nu a := by
  unfold SL SH
  rw [h.spT (a + 1) (by omega)]
  exact ⟨rfl, rfl⟩
theorem AG.AT {c c' : aI} {nu nu' : Nat → Int64} {n a k s nx nx' : Nat} {dy dy' : aM} (h : AG c c' nu nu' n) (ha : a < n) (hD : DN dy nx) (hE : EX dy nx dy' nx') (hA : AT c nu dy a k s) : AT c' nu' dy' a k s := by
  obtain ⟨e1, e2, e3, e4, e5, e6, e7⟩ := h a ha
  obtain ⟨k1, s1, hk, hs⟩ := hA
  have kx : k < nx := Nat.not_le.mp fun q => by rw [hD k q] at hk; cases hk
  have sx : s < nx := Nat.not_le.mp fun q => by rw [hD s q] at hs; cases hs
  refine ⟨k1, s1, ?_, ?_⟩
  · rw [hE.2.1 k kx, hk]
    simp only [oC, Nat.add_zero, e1, e2, e3, e4, e5, e6]
  · rw [hE.2.1 s sx, hs, (h.S ha).1, (h.S ha).2]
theorem AG.WF {c c' : aI} {nu nu' : Nat → Int64} {n a : Nat} (h : AG c c' nu nu' n) (ha : a < n) (hw : WF c a) : WF c' a := by
  obtain ⟨e1, e2, e3, e4, e5, e6, e7⟩ := h a ha
  unfold _root_.Jvm.Pilot.@@N@@.WF at hw ⊢
  rw [e1, e2, e3, e4, e5, e6]
  exact hw
theorem BK_add {c c' : aI} {nu nu' : Nat → Int64} {ci ci' : aI} {cr cr' : Nat → Nat → Option Nat} {dy dy' : aM} {nx nx' n k s : Nat} {o w q x y z : Int32} {lo hi : Int64} (hB : BK c nu ci cr dy n) (hn : n < 16) (hD : DN dy nx) (hE : EX dy nx dy' nx') (hA : ACT dy' k s o w q x y z lo hi)
    (hG : AG c c' nu nu' n) (h9 : c' 49 = c 49) (h50 : c' 50 = c 50) (h51 : c' 51 = c 51) (e4 : c' 44 n = o) (e5 : c' 45 n = w) (e7 : c' 47 n = q) (ex : oC c' n 0 = x) (ey : oC c' n 1 = y) (ez : oC c' n 2 = z) (el : SL c' nu' n = lo) (eh : SH c' nu' n = hi) (hw : WF c' n) (hp : WP c' n) (hl : LEN c')
    (h21 : ci' 2 1 = nI (n + 1)) (c5 : ci' 5 = ci 5) (c6 : ci' 6 = ci 6) (c7 : ci' 7 = ci 7) (hcr : cr' 3 = va_up (cr 3) n (some k)) : BK c' nu' ci' cr' dy' (n + 1) := by
  obtain ⟨b1, b2, b3, b4, b5, b6, b7⟩ := hB
  refine ⟨fun a ha => ?_, fun j hj => ?_, by omega, h21, fun i hi => ?_, fun i hi => ?_, fun i hi => ?_⟩
  · by_cases e : a = n
    · subst e
      obtain ⟨k1, s1, hk, hs⟩ := hA
      refine ⟨k, s, by rw [hcr, va_up_self], k1, s1, ?_, ?_⟩
      · rw [hk, e4, e5, e7, ex, ey, ez]
      · rw [hs, el, eh]
    · obtain ⟨k0, s0, e0, hA0⟩ := b1 a (by omega)
      exact ⟨k0, s0, by rw [hcr, va_up_ne _ _ e, e0], hG.AT (by omega) hD hE hA0⟩
  · rw [c5, c6, c7, h9, h50, h51]; exact b2 j hj
  · by_cases e : i = n
    · subst e; exact hw
    · exact hG.WF (by omega) (b5 i (by omega))
  · by_cases e : i = n
    · subst e; exact hp
    · have e2 := hG i (by omega)
      unfold WP
      rw [e2.1, e2.2.2.2.2.2.1]
      exact b6 i (by omega)
  · obtain ⟨v, h8, ev, -⟩ := ln_b (c := c') (a := i) hl
    rw [ev]; exact nI_nn (by omega)
theorem SL_n {c : aI} {nu : Nat → Int64} {n : Nat} (hw : WF c n) (hn : n < 16) : SL c nu n = ftLo (spLo c nu (SL c nu) (SH c nu) n (pw (c 45 n))) (spHi c nu (SL c nu) (SH c nu) n (pw (c 45 n))) (c 45 n) ∧ SH c nu n = ftHi (spLo c nu (SL c nu) (SH c nu) n (pw (c 45 n))) (spHi c nu (SL c nu) (SH c nu) n (pw (c 45 n))) (c 45 n) := by
  have e := sp_congr (ci := c) (nu := nu) (L := SL c nu) (H := SH c nu) (L' := (spT c nu n).1) (H' := (spT c nu n).2) (w := pw (c 45 n)) hw hn (fun i hi => (spT_at c nu i n hi).1) (fun i hi => (spT_at c nu i n hi).2)
  constructor
  · show va_up _ n _ n = _
    rw [va_up_self, e.1, e.2]
  · show va_up _ n _ n = _
    rw [va_up_self, e.1, e.2]
/-- what adI leaves -/
theorem ad_4 {c : aI} {n : Nat} {o w x y z : Int32} : adI c n o w x y z 44 = va_up (c 44) n o := by simp [adI, up2]
theorem ad_5 {c : aI} {n : Nat} {o w x y z : Int32} : adI c n o w x y z 45 = va_up (c 45) n w := by simp [adI, up2]
theorem ad_6 {c : aI} {n : Nat} {o w x y z : Int32} : adI c n o w x y z 46 = va_up (va_up (va_up (c 46) (3 * n) x) (3 * n + 1) y) (3 * n + 2) z := by simp [adI, up2]
theorem ad_7 {c : aI} {n : Nat} {o w x y z : Int32} : adI c n o w x y z 47 = va_up (c 47) n (-2) := by simp [adI, up2]
theorem ad_k {c : aI} {n k : Nat} {o w x y z : Int32} (h : ¬ (43 ≤ k ∧ k ≤ 47)) : adI c n o w x y z k = c k := by
  unfold adI
  rw [up2_k _ _ _ (by omega), up2_k _ _ _ (by omega), up2_k _ _ _ (by omega), up2_k _ _ _ (by omega), up2_k _ _ _ (by omega), up2_k _ _ _ (by omega), up2_k _ _ _ (by omega), up2_k _ _ _ (by omega), up2_k _ _ _ (by omega)]
theorem ad_6x {c : aI} {n : Nat} {o w x y z : Int32} : adI c n o w x y z 46 (3 * n) = x ∧ adI c n o w x y z 46 (3 * n + 1) = y ∧ adI c n o w x y z 46 (3 * n + 2) = z := by
  rw [ad_6]
  refine ⟨?_, ?_, ?_⟩
  · rw [va_up_ne _ _ (by omega), va_up_ne _ _ (by omega), va_up_self]
  · rw [va_up_ne _ _ (by omega), va_up_self]
  · rw [va_up_self]
theorem ad_AG {c : aI} {n : Nat} {o w x y z : Int32} {nu nu' : Nat → Int64} (hu : ∀ a, a < n → nu' a = nu a) : AG c (adI c n o w x y z) nu nu' n := by
  intro a ha
  refine ⟨by rw [ad_4, va_up_ne _ _ (by omega)], by rw [ad_5, va_up_ne _ _ (by omega)], ?_, ?_, ?_, by rw [ad_7, va_up_ne _ _ (by omega)], hu a ha⟩
  all_goals rw [ad_6, va_up_ne _ _ (by omega), va_up_ne _ _ (by omega), va_up_ne _ _ (by omega)]

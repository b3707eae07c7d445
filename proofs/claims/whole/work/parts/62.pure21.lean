/-! the five ways to an ACT more -/
theorem oC_n {c : aI} {n j a : Nat} (h : c 46 (3 * n + j) = nI a) (ha : a < 2 ^ 31) : oC c n j = nI a := by
  unfold oC
  rw [h, if_pos (nI_nn ha)]
theorem oC_m {c : aI} {n j : Nat} (h : c 46 (3 * n + j) = -1) : oC c n j = -2 := by
  unfold oC
  rw [h, if_neg (by decide)]
theorem ad_G0 {c : aI} {n : Nat} {o w x y z : Int32} {nu nu' : Nat → Int64} (hu : ∀ a, a < n → nu' a = nu a) : AG c (adI (up2 c 43 0 0) n o w x y z) nu nu' n := ad_AG (c := up2 c 43 0 0) hu
theorem ad_k0 {c : aI} {n k : Nat} {o w x y z : Int32} (h : ¬ (43 ≤ k ∧ k ≤ 47)) : adI (up2 c 43 0 0) n o w x y z k = c k := (ad_k h).trans (up2_k _ _ _ (by omega))
theorem LEN.c {c c' : aI} (h : LEN c) (e : c' 50 = c 50) : LEN c' := fun k hk => by rw [e]; exact h k hk
theorem ft_x {lo hi : Int64} {w : Int32} (h : ¬ lo < -pw w ∧ ¬ pw w ≤ hi) : ftLo lo hi w = lo ∧ ftHi lo hi w = hi := ⟨if_pos h, if_pos h⟩
theorem ft_w {w : Int32} : ftLo (-pw w) (pw w - 1) w = -pw w ∧ ftHi (-pw w) (pw w - 1) w = pw w - 1 := by
  constructor
  · show (if _ then _ else _) = _
    split <;> rfl
  · show (if _ then _ else _) = _
    split <;> rfl
section
variable {c : aI} {nu : Nat → Int64} {ci ci' : aI} {cr cr' : Nat → Nat → Option Nat} {dy dy' : aM} {nx nx' n k s : Nat}
theorem BK_const {v : Int64} {w : Int32} {nu' : Nat → Int64} (hB : BK c nu ci cr dy n) (hL : LEN c) (hn : n < 16) (hD : DN dy nx) (hE : EX dy nx dy' nx') (hw : II 1 32 w) (hA : ACT dy' k s 0 w (-2) (-2) (-2) (-2) (cutF v w) (cutF v w)) (hu : nu' = va_up nu n (cutF v w))
    (h21 : ci' 2 1 = nI (n + 1)) (c5 : ci' 5 = ci 5) (c6 : ci' 6 = ci 6) (c7 : ci' 7 = ci 7) (hcr : cr' 3 = va_up (cr 3) n (some k)) : BK (adI (up2 c 43 0 0) n 0 w (-1) (-1) (-1)) nu' ci' cr' dy' (n + 1) := by
  subst hu
  have hG : AG c (adI (up2 c 43 0 0) n 0 w (-1) (-1) (-1)) nu (va_up nu n (cutF v w)) n := ad_G0 (fun a ha => va_up_ne _ _ (by omega))
  obtain ⟨x1, x2, x3⟩ := ad_6x (c := up2 c 43 0 0) (n := n) (o := 0) (w := w) (x := -1) (y := -1) (z := -1)
  have e4 : adI (up2 c 43 0 0) n 0 w (-1) (-1) (-1) 44 n = 0 := by rw [ad_4, va_up_self]
  have e5 : adI (up2 c 43 0 0) n 0 w (-1) (-1) (-1) 45 n = w := by rw [ad_5, va_up_self]
  have e7 : adI (up2 c 43 0 0) n 0 w (-1) (-1) (-1) 47 n = -2 := by rw [ad_7, va_up_self]
  have k9 : adI (up2 c 43 0 0) n 0 w (-1) (-1) (-1) 49 = c 49 := ad_k0 (by decide)
  have k50 : adI (up2 c 43 0 0) n 0 w (-1) (-1) (-1) 50 = c 50 := ad_k0 (by decide)
  have k51 : adI (up2 c 43 0 0) n 0 w (-1) (-1) (-1) 51 = c 51 := ad_k0 (by decide)
  generalize adI (up2 c 43 0 0) n 0 w (-1) (-1) (-1) = c' at *
  have hW : WF c' n := by
    refine ⟨⟨0, by omega, e4⟩, fun h => absurd e4 h, fun h => ?_, fun h => ?_, fun h => ?_, ?_⟩
    · rw [e4] at h; exact absurd h (by decide)
    · rw [e4] at h; exact absurd h (by decide)
    · rw [e4] at h; exact absurd h (by decide)
    · obtain ⟨m, h1, h2, e⟩ := hw.k
      exact ⟨m, h1, h2, by rw [e5, e]⟩
  obtain ⟨s1, s2⟩ := SL_n (nu := va_up nu n (cutF v w)) hW hn
  have el : ∀ L H W, spLo c' (va_up nu n (cutF v w)) L H n W = cutF v w := fun L H W => by rw [spLo, e4, if_pos rfl, va_up_self]
  have eh : ∀ L H W, spHi c' (va_up nu n (cutF v w)) L H n W = cutF v w := fun L H W => by rw [spHi, e4, if_pos rfl, va_up_self]
  rw [e5, el, eh, (ft_x (cut_fit hw)).1] at s1
  rw [e5, el, eh, (ft_x (cut_fit hw)).2] at s2
  exact BK_add hB hn hD hE hA hG k9 k50 k51 e4 e5 e7 (oC_m (j := 0) x1) (oC_m x2) (oC_m x3) s1 s2 hW (Or.inr (Or.inr e7)) (hL.c k50) h21 c5 c6 c7 hcr
theorem BK_reckon {op w : Int32} {a b : Nat} (hB : BK c nu ci cr dy n) (hL : LEN c) (hn : n < 16) (hD : DN dy nx) (hE : EX dy nx dy' nx') (ho : II 2 6 op) (hw : II 1 32 w) (ha : a < n) (hb : b < n) (hA : ACT dy' k s op w (-2) (nI a) (nI b) (-2) (ftLo (rkLo op (SL c nu a) (SH c nu a) (SL c nu b) (SH c nu b)) (rkHi op (SL c nu a) (SH c nu a) (SL c nu b) (SH c nu b)) w) (ftHi (rkLo op (SL c nu a) (SH c nu a) (SL c nu b) (SH c nu b)) (rkHi op (SL c nu a) (SH c nu a) (SL c nu b) (SH c nu b)) w))
    (h21 : ci' 2 1 = nI (n + 1)) (c5 : ci' 5 = ci 5) (c6 : ci' 6 = ci 6) (c7 : ci' 7 = ci 7) (hcr : cr' 3 = va_up (cr 3) n (some k)) : BK (adI (up2 c 43 0 0) n op w (nI a) (nI b) (-1)) nu ci' cr' dy' (n + 1) := by
  have hG : AG c (adI (up2 c 43 0 0) n op w (nI a) (nI b) (-1)) nu nu n := ad_G0 (fun a ha => rfl)
  obtain ⟨x1, x2, x3⟩ := ad_6x (c := up2 c 43 0 0) (n := n) (o := op) (w := w) (x := nI a) (y := nI b) (z := -1)
  have e4 : adI (up2 c 43 0 0) n op w (nI a) (nI b) (-1) 44 n = op := by rw [ad_4, va_up_self]
  have e5 : adI (up2 c 43 0 0) n op w (nI a) (nI b) (-1) 45 n = w := by rw [ad_5, va_up_self]
  have e7 : adI (up2 c 43 0 0) n op w (nI a) (nI b) (-1) 47 n = -2 := by rw [ad_7, va_up_self]
  have k9 : adI (up2 c 43 0 0) n op w (nI a) (nI b) (-1) 49 = c 49 := ad_k0 (by decide)
  have k50 : adI (up2 c 43 0 0) n op w (nI a) (nI b) (-1) 50 = c 50 := ad_k0 (by decide)
  have k51 : adI (up2 c 43 0 0) n op w (nI a) (nI b) (-1) 51 = c 51 := ad_k0 (by decide)
  generalize adI (up2 c 43 0 0) n op w (nI a) (nI b) (-1) = c' at *
  have h5 : op = 2 ∨ op = 3 ∨ op = 4 ∨ op = 5 ∨ op = 6 := by
    obtain ⟨m, h1, h2, rfl⟩ := ho.k
    have : m = 2 ∨ m = 3 ∨ m = 4 ∨ m = 5 ∨ m = 6 := by omega
    rcases this with rfl | rfl | rfl | rfl | rfl <;> decide
  have hW : WF c' n := by
    refine ⟨?_, fun _ _ => ⟨a, ha, x1⟩, fun _ => ⟨b, hb, x2⟩, fun h => ?_, fun h => ?_, ?_⟩
    · obtain ⟨m, h1, h2, e⟩ := ho.k
      exact ⟨m, by omega, by rw [e4, e]⟩
    · rw [e4] at h; rcases h5 with q | q | q | q | q <;> rw [q] at h <;> exact absurd h (by decide)
    · rw [e4] at h; rcases h5 with q | q | q | q | q <;> rw [q] at h <;> exact absurd h (by decide)
    · obtain ⟨m, h1, h2, e⟩ := hw.k
      exact ⟨m, h1, h2, by rw [e5, e]⟩
  obtain ⟨s1, s2⟩ := SL_n (nu := nu) hW hn
  obtain ⟨g1, g2⟩ := hG.S ha
  obtain ⟨g3, g4⟩ := hG.S hb
  have el : spLo c' nu (SL c' nu) (SH c' nu) n (pw (c' 45 n)) = rkLo op (SL c nu a) (SH c nu a) (SL c nu b) (SH c nu b) := by
    unfold spLo rkLo
    rw [e4, x1, x2, nI_clamp (by omega), nI_clamp (by omega), g1, g2, g3, g4]
    rcases h5 with rfl | rfl | rfl | rfl | rfl <;> simp (config := {decide := true}) only [if_true, if_false]
  have eh : spHi c' nu (SL c' nu) (SH c' nu) n (pw (c' 45 n)) = rkHi op (SL c nu a) (SH c nu a) (SL c nu b) (SH c nu b) := by
    unfold spHi rkHi
    rw [e4, x1, x2, nI_clamp (by omega), nI_clamp (by omega), g1, g2, g3, g4]
    rcases h5 with rfl | rfl | rfl | rfl | rfl <;> simp (config := {decide := true}) only [if_true, if_false]
  rw [el, eh, e5] at s1
  rw [el, eh, e5] at s2
  exact BK_add hB hn hD hE hA hG k9 k50 k51 e4 e5 e7 (oC_n (j := 0) x1 (by omega)) (oC_n x2 (by omega)) (oC_m x3) s1 s2 hW (Or.inr (Or.inr e7)) (hL.c k50) h21 c5 c6 c7 hcr
theorem BK_pick {w : Int32} {a b d : Nat} (hB : BK c nu ci cr dy n) (hL : LEN c) (hn : n < 16) (hD : DN dy nx) (hE : EX dy nx dy' nx') (hw : II 1 32 w) (ha : a < n) (hb : b < n) (hd : d < n) (hA : ACT dy' k s 7 w (-2) (nI a) (nI b) (nI d) (ftLo (pcLo (SL c nu a) (SH c nu a) (SL c nu b) (SL c nu d)) (pcHi (SL c nu a) (SH c nu a) (SH c nu b) (SH c nu d)) w) (ftHi (pcLo (SL c nu a) (SH c nu a) (SL c nu b) (SL c nu d)) (pcHi (SL c nu a) (SH c nu a) (SH c nu b) (SH c nu d)) w))
    (h21 : ci' 2 1 = nI (n + 1)) (c5 : ci' 5 = ci 5) (c6 : ci' 6 = ci 6) (c7 : ci' 7 = ci 7) (hcr : cr' 3 = va_up (cr 3) n (some k)) : BK (adI (up2 c 43 0 0) n 7 w (nI a) (nI b) (nI d)) nu ci' cr' dy' (n + 1) := by
  have hG : AG c (adI (up2 c 43 0 0) n 7 w (nI a) (nI b) (nI d)) nu nu n := ad_G0 (fun a ha => rfl)
  obtain ⟨x1, x2, x3⟩ := ad_6x (c := up2 c 43 0 0) (n := n) (o := 7) (w := w) (x := nI a) (y := nI b) (z := nI d)
  have e4 : adI (up2 c 43 0 0) n 7 w (nI a) (nI b) (nI d) 44 n = 7 := by rw [ad_4, va_up_self]
  have e5 : adI (up2 c 43 0 0) n 7 w (nI a) (nI b) (nI d) 45 n = w := by rw [ad_5, va_up_self]
  have e7 : adI (up2 c 43 0 0) n 7 w (nI a) (nI b) (nI d) 47 n = -2 := by rw [ad_7, va_up_self]
  have k9 : adI (up2 c 43 0 0) n 7 w (nI a) (nI b) (nI d) 49 = c 49 := ad_k0 (by decide)
  have k50 : adI (up2 c 43 0 0) n 7 w (nI a) (nI b) (nI d) 50 = c 50 := ad_k0 (by decide)
  have k51 : adI (up2 c 43 0 0) n 7 w (nI a) (nI b) (nI d) 51 = c 51 := ad_k0 (by decide)
  generalize adI (up2 c 43 0 0) n 7 w (nI a) (nI b) (nI d) = c' at *
  have hW : WF c' n := by
    refine ⟨⟨7, by omega, e4⟩, fun _ _ => ⟨a, ha, x1⟩, fun _ => ⟨b, hb, x2⟩, fun _ => ⟨d, hd, x3⟩, fun h => ?_, ?_⟩
    · rw [e4] at h; exact absurd h (by decide)
    · obtain ⟨m, h1, h2, e⟩ := hw.k
      exact ⟨m, h1, h2, by rw [e5, e]⟩
  obtain ⟨s1, s2⟩ := SL_n (nu := nu) hW hn
  obtain ⟨g1, g2⟩ := hG.S ha
  obtain ⟨g3, g4⟩ := hG.S hb
  obtain ⟨g5, g6⟩ := hG.S hd
  have el : spLo c' nu (SL c' nu) (SH c' nu) n (pw (c' 45 n)) = pcLo (SL c nu a) (SH c nu a) (SL c nu b) (SL c nu d) := by
    unfold spLo pcLo
    rw [e4, x1, x2, x3, nI_clamp (by omega), nI_clamp (by omega), nI_clamp (by omega), g1, g2, g3, g5]
    simp (config := {decide := true}) only [if_true, if_false]
  have eh : spHi c' nu (SL c' nu) (SH c' nu) n (pw (c' 45 n)) = pcHi (SL c nu a) (SH c nu a) (SH c nu b) (SH c nu d) := by
    unfold spHi pcHi
    rw [e4, x1, x2, x3, nI_clamp (by omega), nI_clamp (by omega), nI_clamp (by omega), g1, g2, g4, g6]
    simp (config := {decide := true}) only [if_true, if_false]
  rw [el, eh, e5] at s1
  rw [el, eh, e5] at s2
  exact BK_add hB hn hD hE hA hG k9 k50 k51 e4 e5 e7 (oC_n (j := 0) x1 (by omega)) (oC_n x2 (by omega)) (oC_n x3 (by omega)) s1 s2 hW (Or.inr (Or.inr e7)) (hL.c k50) h21 c5 c6 c7 hcr
end

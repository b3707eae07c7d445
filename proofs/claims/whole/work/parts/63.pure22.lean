/-! PORTS and places as ACTS -/
theorem AG.q {c c' : aI} {nu nu' : Nat → Int64} {n : Nat} {q : Int32} (h : AG c c' nu nu' n) : AG c (up2 c' 47 n q) nu nu' n := by
  intro a ha
  obtain ⟨h1, h2, h3, h4, h5, h6, h7⟩ := h a ha
  exact ⟨h1, h2, h3, h4, h5, (up2_j _ _ _ (by omega)).trans h6, h7⟩
section
variable {c : aI} {nu : Nat → Int64} {ci ci' : aI} {cr cr' : Nat → Nat → Option Nat} {dy dy' : aM} {nx nx' n k s : Nat}
theorem BK_portI {q w : Int32} (hB : BK c nu ci cr dy n) (hL : LEN c) (hn : n < 16) (hD : DN dy nx) (hE : EX dy nx dy' nx') (hq : II 0 3 q) (hw : II 1 32 w) (hA : ACT dy' k s 1 w q (-2) (-2) (-2) (-pw w) (pw w - 1))
    (h21 : ci' 2 1 = nI (n + 1)) (c5 : ci' 5 = ci 5) (c6 : ci' 6 = ci 6) (c7 : ci' 7 = ci 7) (hcr : cr' 3 = va_up (cr 3) n (some k)) : BK (up2 (adI (up2 c 43 0 0) n 1 w (-1) (-1) (-1)) 47 n q) nu ci' cr' dy' (n + 1) := by
  have hG : AG c (up2 (adI (up2 c 43 0 0) n 1 w (-1) (-1) (-1)) 47 n q) nu nu n := (ad_G0 (fun a ha => rfl)).q
  obtain ⟨x1, x2, x3⟩ := ad_6x (c := up2 c 43 0 0) (n := n) (o := 1) (w := w) (x := -1) (y := -1) (z := -1)
  have e4 : up2 (adI (up2 c 43 0 0) n 1 w (-1) (-1) (-1)) 47 n q 44 n = 1 := by rw [up2_k _ _ _ (by decide), ad_4, va_up_self]
  have e5 : up2 (adI (up2 c 43 0 0) n 1 w (-1) (-1) (-1)) 47 n q 45 n = w := by rw [up2_k _ _ _ (by decide), ad_5, va_up_self]
  have e6 : up2 (adI (up2 c 43 0 0) n 1 w (-1) (-1) (-1)) 47 n q 46 = adI (up2 c 43 0 0) n 1 w (-1) (-1) (-1) 46 := up2_k _ _ _ (by decide)
  have e7 : up2 (adI (up2 c 43 0 0) n 1 w (-1) (-1) (-1)) 47 n q 47 n = q := up2_s _ _ _ _
  have k9 : up2 (adI (up2 c 43 0 0) n 1 w (-1) (-1) (-1)) 47 n q 49 = c 49 := (up2_k _ _ _ (by decide)).trans (ad_k0 (by decide))
  have k50 : up2 (adI (up2 c 43 0 0) n 1 w (-1) (-1) (-1)) 47 n q 50 = c 50 := (up2_k _ _ _ (by decide)).trans (ad_k0 (by decide))
  have k51 : up2 (adI (up2 c 43 0 0) n 1 w (-1) (-1) (-1)) 47 n q 51 = c 51 := (up2_k _ _ _ (by decide)).trans (ad_k0 (by decide))
  rw [← e6] at x1 x2 x3
  generalize up2 (adI (up2 c 43 0 0) n 1 w (-1) (-1) (-1)) 47 n q = c' at *
  have hW : WF c' n := by
    refine ⟨⟨1, by omega, e4⟩, fun _ h => absurd e4 h, fun h => ?_, fun h => ?_, fun _ => ?_, ?_⟩
    · rw [e4] at h; exact absurd h (by decide)
    · rw [e4] at h; exact absurd h (by decide)
    · obtain ⟨m, h1, h2, e⟩ := hq.k
      exact ⟨m, by omega, by rw [e7, e]⟩
    · obtain ⟨m, h1, h2, e⟩ := hw.k
      exact ⟨m, h1, h2, by rw [e5, e]⟩
  obtain ⟨s1, s2⟩ := SL_n (nu := nu) hW hn
  have el : ∀ L H W, spLo c' nu L H n W = -W := fun L H W => by
    rw [spLo, e4]
    simp (config := {decide := true}) only [if_true, if_false]
  have eh : ∀ L H W, spHi c' nu L H n W = W - 1 := fun L H W => by
    rw [spHi, e4]
    simp (config := {decide := true}) only [if_true, if_false]
  rw [e5, el, eh, ft_w.1] at s1
  rw [e5, el, eh, ft_w.2] at s2
  exact BK_add hB hn hD hE hA hG k9 k50 k51 e4 e5 e7 (oC_m (j := 0) x1) (oC_m x2) (oC_m x3) s1 s2 hW (Or.inl e4) (hL.c k50) h21 c5 c6 c7 hcr
theorem BK_portO {q w : Int32} {a : Nat} (hB : BK c nu ci cr dy n) (hL : LEN c) (hn : n < 16) (hD : DN dy nx) (hE : EX dy nx dy' nx') (hq : II 0 3 q) (hw : II 1 32 w) (ha : a < n) (hA : ACT dy' k s 10 w q (nI a) (-2) (-2) (ftLo (SL c nu a) (SH c nu a) w) (ftHi (SL c nu a) (SH c nu a) w))
    (h21 : ci' 2 1 = nI (n + 1)) (c5 : ci' 5 = ci 5) (c6 : ci' 6 = ci 6) (c7 : ci' 7 = ci 7) (hcr : cr' 3 = va_up (cr 3) n (some k)) : BK (up2 (adI (up2 c 43 0 0) n 10 w (nI a) (-1) (-1)) 47 n q) nu ci' cr' dy' (n + 1) := by
  have hG : AG c (up2 (adI (up2 c 43 0 0) n 10 w (nI a) (-1) (-1)) 47 n q) nu nu n := (ad_G0 (fun a ha => rfl)).q
  obtain ⟨x1, x2, x3⟩ := ad_6x (c := up2 c 43 0 0) (n := n) (o := 10) (w := w) (x := nI a) (y := -1) (z := -1)
  have e4 : up2 (adI (up2 c 43 0 0) n 10 w (nI a) (-1) (-1)) 47 n q 44 n = 10 := by rw [up2_k _ _ _ (by decide), ad_4, va_up_self]
  have e5 : up2 (adI (up2 c 43 0 0) n 10 w (nI a) (-1) (-1)) 47 n q 45 n = w := by rw [up2_k _ _ _ (by decide), ad_5, va_up_self]
  have e6 : up2 (adI (up2 c 43 0 0) n 10 w (nI a) (-1) (-1)) 47 n q 46 = adI (up2 c 43 0 0) n 10 w (nI a) (-1) (-1) 46 := up2_k _ _ _ (by decide)
  have e7 : up2 (adI (up2 c 43 0 0) n 10 w (nI a) (-1) (-1)) 47 n q 47 n = q := up2_s _ _ _ _
  have k9 : up2 (adI (up2 c 43 0 0) n 10 w (nI a) (-1) (-1)) 47 n q 49 = c 49 := (up2_k _ _ _ (by decide)).trans (ad_k0 (by decide))
  have k50 : up2 (adI (up2 c 43 0 0) n 10 w (nI a) (-1) (-1)) 47 n q 50 = c 50 := (up2_k _ _ _ (by decide)).trans (ad_k0 (by decide))
  have k51 : up2 (adI (up2 c 43 0 0) n 10 w (nI a) (-1) (-1)) 47 n q 51 = c 51 := (up2_k _ _ _ (by decide)).trans (ad_k0 (by decide))
  rw [← e6] at x1 x2 x3
  generalize up2 (adI (up2 c 43 0 0) n 10 w (nI a) (-1) (-1)) 47 n q = c' at *
  have hW : WF c' n := by
    refine ⟨⟨10, by omega, e4⟩, fun _ _ => ⟨a, ha, x1⟩, fun h => ?_, fun h => ?_, fun _ => ?_, ?_⟩
    · rw [e4] at h; exact absurd h (by decide)
    · rw [e4] at h; exact absurd h (by decide)
    · obtain ⟨m, h1, h2, e⟩ := hq.k
      exact ⟨m, by omega, by rw [e7, e]⟩
    · obtain ⟨m, h1, h2, e⟩ := hw.k
      exact ⟨m, h1, h2, by rw [e5, e]⟩
  obtain ⟨s1, s2⟩ := SL_n (nu := nu) hW hn
  obtain ⟨g1, g2⟩ := hG.S ha
  have el : spLo c' nu (SL c' nu) (SH c' nu) n (pw (c' 45 n)) = SL c nu a := by
    rw [spLo, e4, x1, nI_clamp (by omega), g1]
    simp (config := {decide := true}) only [if_true, if_false]
  have eh : spHi c' nu (SL c' nu) (SH c' nu) n (pw (c' 45 n)) = SH c nu a := by
    rw [spHi, e4, x1, nI_clamp (by omega), g2]
    simp (config := {decide := true}) only [if_true, if_false]
  rw [el, eh, e5] at s1
  rw [el, eh, e5] at s2
  exact BK_add hB hn hD hE hA hG k9 k50 k51 e4 e5 e7 (oC_n (j := 0) x1 (by omega)) (oC_m x2) (oC_m x3) s1 s2 hW (Or.inr (Or.inl e4)) (hL.c k50) h21 c5 c6 c7 hcr
theorem BK_load {w : Int32} {a : Nat} (hB : BK c nu ci cr dy n) (hL : LEN c) (hn : n < 16) (hD : DN dy nx) (hE : EX dy nx dy' nx') (hw : II 1 32 w) (ha : a < n) (hA : ACT dy' k s 8 w (-2) (nI a) (-2) (-2) (-pw w) (pw w - 1))
    (h21 : ci' 2 1 = nI (n + 1)) (c5 : ci' 5 = ci 5) (c6 : ci' 6 = ci 6) (c7 : ci' 7 = ci 7) (hcr : cr' 3 = va_up (cr 3) n (some k)) : BK (adI (up2 c 43 0 0) n 8 w (nI a) (-1) (-1)) nu ci' cr' dy' (n + 1) := by
  have hG : AG c (adI (up2 c 43 0 0) n 8 w (nI a) (-1) (-1)) nu nu n := ad_G0 (fun a ha => rfl)
  obtain ⟨x1, x2, x3⟩ := ad_6x (c := up2 c 43 0 0) (n := n) (o := 8) (w := w) (x := nI a) (y := -1) (z := -1)
  have e4 : adI (up2 c 43 0 0) n 8 w (nI a) (-1) (-1) 44 n = 8 := by rw [ad_4, va_up_self]
  have e5 : adI (up2 c 43 0 0) n 8 w (nI a) (-1) (-1) 45 n = w := by rw [ad_5, va_up_self]
  have e7 : adI (up2 c 43 0 0) n 8 w (nI a) (-1) (-1) 47 n = -2 := by rw [ad_7, va_up_self]
  have k9 : adI (up2 c 43 0 0) n 8 w (nI a) (-1) (-1) 49 = c 49 := ad_k0 (by decide)
  have k50 : adI (up2 c 43 0 0) n 8 w (nI a) (-1) (-1) 50 = c 50 := ad_k0 (by decide)
  have k51 : adI (up2 c 43 0 0) n 8 w (nI a) (-1) (-1) 51 = c 51 := ad_k0 (by decide)
  generalize adI (up2 c 43 0 0) n 8 w (nI a) (-1) (-1) = c' at *
  have hW : WF c' n := by
    refine ⟨⟨8, by omega, e4⟩, fun _ _ => ⟨a, ha, x1⟩, fun h => ?_, fun h => ?_, fun h => ?_, ?_⟩
    · rw [e4] at h; exact absurd h (by decide)
    · rw [e4] at h; exact absurd h (by decide)
    · rw [e4] at h; exact absurd h (by decide)
    · obtain ⟨m, h1, h2, e⟩ := hw.k
      exact ⟨m, h1, h2, by rw [e5, e]⟩
  obtain ⟨s1, s2⟩ := SL_n (nu := nu) hW hn
  have el : ∀ L H W, spLo c' nu L H n W = -W := fun L H W => by
    rw [spLo, e4]
    simp (config := {decide := true}) only [if_true, if_false]
  have eh : ∀ L H W, spHi c' nu L H n W = W - 1 := fun L H W => by
    rw [spHi, e4]
    simp (config := {decide := true}) only [if_true, if_false]
  rw [e5, el, eh, ft_w.1] at s1
  rw [e5, el, eh, ft_w.2] at s2
  exact BK_add hB hn hD hE hA hG k9 k50 k51 e4 e5 e7 (oC_n (j := 0) x1 (by omega)) (oC_m x2) (oC_m x3) s1 s2 hW (Or.inr (Or.inr e7)) (hL.c k50) h21 c5 c6 c7 hcr
theorem BK_store {w : Int32} {a b : Nat} (hB : BK c nu ci cr dy n) (hL : LEN c) (hn : n < 16) (hD : DN dy nx) (hE : EX dy nx dy' nx') (hw : II 1 32 w) (ha : a < n) (hb : b < n) (hA : ACT dy' k s 9 w (-2) (nI a) (nI b) (-2) (ftLo (SL c nu b) (SH c nu b) w) (ftHi (SL c nu b) (SH c nu b) w))
    (h21 : ci' 2 1 = nI (n + 1)) (c5 : ci' 5 = ci 5) (c6 : ci' 6 = ci 6) (c7 : ci' 7 = ci 7) (hcr : cr' 3 = va_up (cr 3) n (some k)) : BK (adI (up2 c 43 0 0) n 9 w (nI a) (nI b) (-1)) nu ci' cr' dy' (n + 1) := by
  have hG : AG c (adI (up2 c 43 0 0) n 9 w (nI a) (nI b) (-1)) nu nu n := ad_G0 (fun a ha => rfl)
  obtain ⟨x1, x2, x3⟩ := ad_6x (c := up2 c 43 0 0) (n := n) (o := 9) (w := w) (x := nI a) (y := nI b) (z := -1)
  have e4 : adI (up2 c 43 0 0) n 9 w (nI a) (nI b) (-1) 44 n = 9 := by rw [ad_4, va_up_self]
  have e5 : adI (up2 c 43 0 0) n 9 w (nI a) (nI b) (-1) 45 n = w := by rw [ad_5, va_up_self]
  have e7 : adI (up2 c 43 0 0) n 9 w (nI a) (nI b) (-1) 47 n = -2 := by rw [ad_7, va_up_self]
  have k9 : adI (up2 c 43 0 0) n 9 w (nI a) (nI b) (-1) 49 = c 49 := ad_k0 (by decide)
  have k50 : adI (up2 c 43 0 0) n 9 w (nI a) (nI b) (-1) 50 = c 50 := ad_k0 (by decide)
  have k51 : adI (up2 c 43 0 0) n 9 w (nI a) (nI b) (-1) 51 = c 51 := ad_k0 (by decide)
  generalize adI (up2 c 43 0 0) n 9 w (nI a) (nI b) (-1) = c' at *
  have hW : WF c' n := by
    refine ⟨⟨9, by omega, e4⟩, fun _ _ => ⟨a, ha, x1⟩, fun _ => ⟨b, hb, x2⟩, fun h => ?_, fun h => ?_, ?_⟩
    · rw [e4] at h; exact absurd h (by decide)
    · rw [e4] at h; exact absurd h (by decide)
    · obtain ⟨m, h1, h2, e⟩ := hw.k
      exact ⟨m, h1, h2, by rw [e5, e]⟩
  obtain ⟨s1, s2⟩ := SL_n (nu := nu) hW hn
  obtain ⟨g3, g4⟩ := hG.S hb
  have el : spLo c' nu (SL c' nu) (SH c' nu) n (pw (c' 45 n)) = SL c nu b := by
    rw [spLo, e4, x2, nI_clamp (by omega : b < 2 ^ 31), g3]
    simp (config := {decide := true}) only [if_true, if_false]
  have eh : spHi c' nu (SL c' nu) (SH c' nu) n (pw (c' 45 n)) = SH c nu b := by
    rw [spHi, e4, x2, nI_clamp (by omega : b < 2 ^ 31), g4]
    simp (config := {decide := true}) only [if_true, if_false]
  rw [el, eh, e5] at s1
  rw [el, eh, e5] at s2
  exact BK_add hB hn hD hE hA hG k9 k50 k51 e4 e5 e7 (oC_n (j := 0) x1 (by omega)) (oC_n x2 (by omega)) (oC_m x3) s1 s2 hW (Or.inr (Or.inr e7)) (hL.c k50) h21 c5 c6 c7 hcr
end

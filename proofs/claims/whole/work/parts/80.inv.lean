/-! What holds between two calls of the law -/
def OX (c : aI) (n : Nat) : Prop := ∀ a, a < n → ∀ w, w < 3 → 0 ≤ c 46 (3 * a + w) → ∃ x, x < a ∧ c 46 (3 * a + w) = nI x
def iB (ci : aI) (cl : aL) (cr : Nat → Nat → Option Nat) (dy : aM) (n : Nat) : Prop := BK ci (cl 48) ci cr dy n ∧ ci 43 1 = nI n ∧ LEN ci ∧ PAR ci ∧ OX ci n ∧ ∀ a, a < n → ci 44 a = 0 → SL ci (cl 48) a = cl 48 a
def iF (ci : aI) (cl : aL) (cr : Nat → Nat → Option Nat) : Prop := FD ci cl ci cl ∧ TR cr ∧ (∀ p, p < 4 → ∃ f, f ≤ 20 ∧ ci 52 p = nI f) ∧ NP cl cl ∧ (∀ i, i < 16 → cl 21 i = cl 54 i) ∧ (∀ i, i < 16 → ci 24 i = nI i) ∧ (∀ p, p < 4 → ci (26 + 2 * (2 * p + 1)) 1 = ci 58 p ∧ ∃ v, v ≤ 16 ∧ ci 58 p = nI v) ∧ (∀ i, i < 16 → cl 22 i = cl 60 i) ∧ ∃ T, T ≤ 1000 ∧ ci 43 16 = nI T
def iR (ci : aI) : Prop := ci 1 7 = ci 43 13 ∧ ci 1 8 = ci 43 19 ∧ (¬ ci 43 19 = 0 → ci 18 8 = ci 43 20 ∧ ci 18 9 = ci 43 21 ∧ ci 18 10 = ci 43 22 ∧ ci 18 11 = ci 43 23) ∧ (ci 43 13 = 0 ∨ ci 43 13 = 1)
def iP (ci : aI) (cl : aL) (n : Nat) : Prop := ¬ ci 43 13 = 0 → ∃ T, PN ci (cl 48) n T ∧ (∀ a, a < n → ci 11 a = ci 55 a ∧ ci 12 a = ci 56 a) ∧ ci 10 6 = ci 43 16 ∧ (∃ g, OA ci g n) ∧ RR ci ci n ∧ ci 14 6 = ci 43 18
/-- a SHELF: the class's and the reference's -/
def SHF (ci : aI) (cl : aL) (cr : Nat → Nat → Option Nat) (dy : aM) (e : Nat) : Prop :=
  (ci 67 e = 0 ∧ cr 42 e = none) ∨ (ci 67 e = 1 ∧ ∃ k c nu a s, cr 42 e = some k ∧ AT c nu dy a k s ∧ ci 69 e = wtF c a ∧ ci 70 e = sfF c a) ∨ ((ci 67 e = 3 ∨ ci 67 e = 4) ∧ ∃ k q v f, cr 42 e = some k ∧ RW dy k q (ci 67 e) v f ∧ v ≤ 60 ∧ ci 68 e = nI v ∧ ∀ j, j < v → f j = cl 71 (60 * e + j))
def APR (cr : Nat → Nat → Option Nat) (dy : aM) : Prop := ∀ e g k k' q q' w w', e < 8 → g < 8 → ¬ e = g → cr 42 e = some k → cr 42 g = some k' → dy k = some (.inr (6, [.int w, .ref q])) → dy k' = some (.inr (6, [.int w', .ref q'])) → ¬ q = q'
def iS (ci : aI) (cl : aL) (cr : Nat → Nat → Option Nat) (dy : aM) : Prop := (∀ e, e < 8 → SHF ci cl cr dy e) ∧ (∀ e, e < 8 → ∃ v, v ≤ 60 ∧ ci 68 e = nI v) ∧ APR cr dy
def INV (ci : aI) (cl : aL) (cr : Nat → Nat → Option Nat) (dy : aM) (nx n : Nat) : Prop := iB ci cl cr dy n ∧ iF ci cl cr ∧ iR ci ∧ iP ci cl n ∧ iS ci cl cr dy ∧ DN dy nx ∧ 74 ≤ nx
/-- cells that no promise rests on -/
def EI (ci ci' : aI) : Prop := (∀ k, ¬ k = 43 → ¬ k = 9 → ¬ k = 64 → ci' k = ci k) ∧ ∀ j, ¬ j = 0 → ci' 43 j = ci 43 j
def EL (cl cl' : aL) : Prop := ∀ k, ¬ k = 43 → ¬ k = 61 → ¬ k = 62 → ¬ k = 72 → ¬ k = 73 → cl' k = cl k
theorem EI.rf {ci : aI} : EI ci ci := ⟨fun _ _ _ _ => rfl, fun _ _ => rfl⟩
theorem EL.rf {cl : aL} : EL cl cl := fun _ _ _ _ _ _ => rfl
theorem EI.tr {a b c : aI} (h : EI a b) (h' : EI b c) : EI a c := ⟨fun k h1 h2 h3 => (h'.1 k h1 h2 h3).trans (h.1 k h1 h2 h3), fun j hj => (h'.2 j hj).trans (h.2 j hj)⟩
theorem EL.tr {a b c : aL} (h : EL a b) (h' : EL b c) : EL a c := fun k h1 h2 h3 h4 h5 => (h' k h1 h2 h3 h4 h5).trans (h k h1 h2 h3 h4 h5)
theorem EI.z {ci : aI} {v : Int32} : EI ci (up2 ci 43 0 v) := ⟨fun k h1 _ _ => up2_k _ _ _ h1, fun j hj => up2_j _ _ _ hj⟩
theorem EI.n {ci ci' : aI} (h : ∀ k, ¬ k = 9 → ci' k = ci k) : EI ci ci' := ⟨fun k _ h2 _ => h k h2, fun j _ => by rw [h 43 (by decide)]⟩
theorem EI.b {ci ci' : aI} (h : smB ci ci') : EI ci ci' := ⟨fun k _ _ h3 => h k h3, fun j _ => by rw [h 43 (by decide)]⟩
theorem EL.f {ci : aI} {cl cl' : aL} {n : Nat} (h : FSI ci cl cl' n) : EL cl cl' := fun k h1 h2 h3 _ _ => h.1 k h1 h2 h3
theorem EL.o {cl : aL} {v : Int64} : EL cl (up2 cl 73 0 v) := fun k _ _ _ _ h => up2_k _ _ _ h
theorem EI.sm {ci ci' : aI} (h : EI ci ci') : sm ci ci' := _root_.Jvm.Pilot.@@N@@.sm.of fun k h1 h2 _ => h.1 k (by omega) (by omega) (by omega)
theorem EI.LK {ci ci' : aI} {n : Nat} (h : EI ci ci') : LK ci ci' n := ⟨h.sm, h.2 16 (by decide), fun a _ => ⟨by rw [h.1 55 (by decide) (by decide) (by decide)], by rw [h.1 56 (by decide) (by decide) (by decide)], by rw [h.1 63 (by decide) (by decide) (by decide)]⟩⟩
theorem EI.RK {ci ci' : aI} {n : Nat} (h : EI ci ci') : RK ci ci' n := ⟨h.sm, h.2 18 (by decide), fun a _ => ⟨by rw [h.1 55 (by decide) (by decide) (by decide)], by rw [h.1 57 (by decide) (by decide) (by decide)]⟩⟩
theorem RR_mv {c c' ci ci' : aI} {n : Nat} (h : RR c ci n) (hR : RK c c' n) (h15 : ∀ b, b < n → ci' 15 b = ci 15 b ∧ ci' 16 b = ci 16 b ∧ ci' 17 b = ci 17 b) : RR c' ci' n := by
  intro b hb
  obtain ⟨a1, a2, a3, a4⟩ := h b hb
  obtain ⟨e1, e2, e3⟩ := h15 b hb
  have hu := hR.1.usd n b
  have e57 := (hR.2.2 b hb).2
  have q : ∀ x : Int32, (if usd c' n b then x else -2) = if usd c n b then x else -2 := fun x => by
    by_cases z : usd c n b
    · rw [if_pos z, if_pos (hu.mpr z)]
    · rw [if_neg z, if_neg (fun y => z (hu.mp y))]
  refine ⟨by rw [e3, e57]; exact a1, ?_, ?_, ?_⟩
  · rw [e1, hR.lb hb, q]; exact a2
  · rw [e2, hR.le hb, q]; exact a3
  · rw [e57]; exact a4.imp id hu.mpr
theorem OX_c {c c' : aI} {n : Nat} (h : OX c n) (e : c' 46 = c 46) : OX c' n := fun a ha w hw h0 => by
  rw [e] at h0 ⊢
  exact h a ha w hw h0
theorem iB.mv {ci ci' : aI} {cl cl' : aL} {cr : Nat → Nat → Option Nat} {dy : aM} {n : Nat} (h : iB ci cl cr dy n) (hs : sm ci ci') (e2 : ci' 2 = ci 2) (e5 : ci' 5 = ci 5) (e6 : ci' 6 = ci 6) (e7 : ci' 7 = ci 7) (e1 : ci' 43 1 = ci 43 1) (h48 : cl' 48 = cl 48) : iB ci' cl' cr dy n := by
  obtain ⟨b1, b2, b3, b4, b5, b6⟩ := h
  unfold iB
  rw [h48]
  refine ⟨hs.BK b1 e2 e5 e6 e7, e1.trans b2, b3.c hs.2.2.2.2.2.1, fun k h4 => by rw [hs.2.2.2.2.1]; exact b4 k h4, OX_c b5 hs.2.2.1, fun a ha h0 => ?_⟩
  rw [hs.1] at h0
  rw [SL_c hs.1 hs.2.1 hs.2.2.1]
  exact b6 a ha h0
def EI6 (ci ci' : aI) : Prop := (∀ k, k < 67 → ¬ k = 43 → ¬ k = 9 → ¬ k = 64 → ci' k = ci k) ∧ ∀ j, ¬ j = 0 → ci' 43 j = ci 43 j
def EL6 (cl cl' : aL) : Prop := ∀ k, k < 71 → ¬ k = 43 → ¬ k = 61 → ¬ k = 62 → cl' k = cl k
theorem EI.six {ci ci' : aI} (h : EI ci ci') : EI6 ci ci' := ⟨fun k _ h1 h2 h3 => h.1 k h1 h2 h3, h.2⟩
theorem EL.six {cl cl' : aL} (h : EL cl cl') : EL6 cl cl' := fun k h0 h1 h2 h3 => h k h1 h2 h3 (by omega) (by omega)
theorem EI6.sm {ci ci' : aI} (h : EI6 ci ci') : sm ci ci' := _root_.Jvm.Pilot.@@N@@.sm.of fun k h1 h2 _ => h.1 k (by omega) (by omega) (by omega) (by omega)
theorem EI6.LK {ci ci' : aI} {n : Nat} (h : EI6 ci ci') : LK ci ci' n := ⟨h.sm, h.2 16 (by decide), fun a _ => ⟨by rw [h.1 55 (by decide) (by decide) (by decide) (by decide)], by rw [h.1 56 (by decide) (by decide) (by decide) (by decide)], by rw [h.1 63 (by decide) (by decide) (by decide) (by decide)]⟩⟩
theorem EI6.RK {ci ci' : aI} {n : Nat} (h : EI6 ci ci') : RK ci ci' n := ⟨h.sm, h.2 18 (by decide), fun a _ => ⟨by rw [h.1 55 (by decide) (by decide) (by decide) (by decide)], by rw [h.1 57 (by decide) (by decide) (by decide) (by decide)]⟩⟩
theorem iF.mv {ci ci' : aI} {cl cl' : aL} {cr : Nat → Nat → Option Nat} (h : iF ci cl cr) (hi : EI6 ci ci') (hl : EL6 cl cl') : iF ci' cl' cr := by
  obtain ⟨f1, f2, f3, f4, f5, f6, f7, f8, T, hT, f9⟩ := h
  have hk : ∀ k, k < 67 → ¬ k = 43 → ¬ k = 9 → ¬ k = 64 → ci' k = ci k := hi.1
  refine ⟨fun p hp => ⟨?_, fun j hj => ?_⟩, f2, fun p hp => ?_, ⟨fun a ha => ?_, fun p hp j hj => ?_⟩, fun i hi => ?_, fun i h6 => ?_, fun p hp => ?_, fun i hi => ?_, T, hT, ?_⟩
  · rw [hk _ (by omega) (by omega) (by omega) (by omega), hk 52 (by decide) (by decide) (by decide) (by decide)]; exact (f1 p hp).1
  · rw [hl _ (by omega) (by omega) (by omega) (by omega), hl 53 (by decide) (by decide) (by decide) (by decide)]; exact (f1 p hp).2 j hj
  · rw [hk 52 (by decide) (by decide) (by decide) (by decide)]; exact f3 p hp
  · rw [hl 25 (by decide) (by decide) (by decide) (by decide), hl 65 (by decide) (by decide) (by decide) (by decide)]; exact f4.1 a ha
  · rw [hl _ (by omega) (by omega) (by omega) (by omega), hl 59 (by decide) (by decide) (by decide) (by decide)]; exact f4.2 p hp j hj
  · rw [hl 21 (by decide) (by decide) (by decide) (by decide), hl 54 (by decide) (by decide) (by decide) (by decide)]; exact f5 i hi
  · rw [hk 24 (by decide) (by decide) (by decide) (by decide)]; exact f6 i h6
  · rw [hk _ (by omega) (by omega) (by omega) (by omega), hk 58 (by decide) (by decide) (by decide) (by decide)]; exact f7 p hp
  · rw [hl 22 (by decide) (by decide) (by decide) (by decide), hl 60 (by decide) (by decide) (by decide) (by decide)]; exact f8 i hi
  · rw [hi.2 16 (by decide)]; exact f9
theorem iR.mv {ci ci' : aI} (h : iR ci) (e1 : ci' 1 = ci 1) (e18 : ci' 18 = ci 18) (hj : ∀ j, 13 ≤ j → j ≤ 23 → ci' 43 j = ci 43 j) : iR ci' := by
  unfold iR
  rw [e1, e18, hj 13 (by decide) (by decide), hj 19 (by decide) (by decide), hj 20 (by decide) (by decide), hj 21 (by decide) (by decide), hj 22 (by decide) (by decide), hj 23 (by decide) (by decide)]
  exact h
theorem OA_mv {ci ci' : aI} {g : Nat → Nat} {n : Nat} (h : OA ci g n) (e1 : ci' 11 = ci 11) (e2 : ci' 13 = ci 13) : OA ci' g n := by
  unfold OA
  rw [e1, e2]
  exact h
theorem iP.mv {ci ci' : aI} {cl cl' : aL} {n : Nat} (h : iP ci cl n) (hL : LK ci ci' n) (hR : RK ci ci' n) (h13 : ci' 43 13 = ci 43 13) (hk : ∀ k, 10 ≤ k → k ≤ 17 → ci' k = ci k) (h48 : cl' 48 = cl 48) : iP ci' cl' n := by
  intro z
  rw [h13] at z
  obtain ⟨T, p1, p2, p3, ⟨g, p4⟩, p5, p6⟩ := h z
  rw [h48]
  refine ⟨T, p1.mv hL hR, fun a ha => ?_, ?_, ⟨g, OA_mv p4 (hk 11 (by decide) (by decide)) (hk 13 (by decide) (by decide))⟩, RR_mv p5 hR (fun b hb => ?_), ?_⟩
  · rw [hk 11 (by decide) (by decide), hk 12 (by decide) (by decide), (hL.2.2 a ha).1, (hL.2.2 a ha).2.1]; exact p2 a ha
  · rw [hk 10 (by decide) (by decide), hL.2.1]; exact p3
  · rw [hk 15 (by decide) (by decide), hk 16 (by decide) (by decide), hk 17 (by decide) (by decide)]; exact ⟨rfl, rfl, rfl⟩
  · rw [hk 14 (by decide) (by decide), hR.2.1]; exact p6
theorem iS.mv {ci ci' : aI} {cl cl' : aL} {cr : Nat → Nat → Option Nat} {dy : aM} (h : iS ci cl cr dy) (h67 : ci' 67 = ci 67) (h68 : ci' 68 = ci 68) (h69 : ci' 69 = ci 69) (h70 : ci' 70 = ci 70) (h71 : cl' 71 = cl 71) : iS ci' cl' cr dy := by
  unfold iS SHF
  rw [h67, h68, h69, h70, h71]
  exact h
theorem DN.le {dy : aM} {nx nx' : Nat} (h : DN dy nx) (hx : nx ≤ nx') : DN dy nx' := fun q hq => h q (by omega)
theorem INV.mv {ci ci' : aI} {cl cl' : aL} {cr : Nat → Nat → Option Nat} {dy : aM} {nx nx' n : Nat} (h : INV ci cl cr dy nx n) (hi : EI ci ci') (hl : EL cl cl') (hx : nx ≤ nx') : INV ci' cl' cr dy nx' n := by
  obtain ⟨h1, h2, h3, h4, h5, h6, h7⟩ := h
  have h48 := hl 48 (by decide) (by decide) (by decide) (by decide) (by decide)
  exact ⟨h1.mv hi.sm (hi.1 2 (by decide) (by decide) (by decide)) (hi.1 5 (by decide) (by decide) (by decide)) (hi.1 6 (by decide) (by decide) (by decide)) (hi.1 7 (by decide) (by decide) (by decide)) (hi.2 1 (by decide)) h48, h2.mv hi.six hl.six, h3.mv (hi.1 1 (by decide) (by decide) (by decide)) (hi.1 18 (by decide) (by decide) (by decide)) (fun j h1 _ => hi.2 j (by omega)), h4.mv hi.LK hi.RK (hi.2 13 (by decide)) (fun k h1 h2 => hi.1 k (by omega) (by omega) (by omega)) h48, h5.mv (hi.1 67 (by decide) (by decide) (by decide)) (hi.1 68 (by decide) (by decide) (by decide)) (hi.1 69 (by decide) (by decide) (by decide)) (hi.1 70 (by decide) (by decide) (by decide)) (hl 71 (by decide) (by decide) (by decide) (by decide) (by decide)), h6.le hx, by omega⟩
theorem SHF.x {ci : aI} {cl : aL} {cr : Nat → Nat → Option Nat} {dy : aM} {e : Nat} (h : SHF ci cl cr dy e) : SHX cr dy e := by
  rcases h with ⟨-, h⟩ | ⟨-, k, c, nu, a, s, h1, h2, -⟩ | ⟨-, k, q, v, f, h1, h2, h3, -⟩
  · exact Or.inl h
  · exact Or.inr (Or.inl ⟨k, c, nu, a, s, h1, h2⟩)
  · exact Or.inr (Or.inr ⟨k, q, _, v, f, h1, h2, h3⟩)
theorem INV.sh {ci : aI} {cl : aL} {cr : Nat → Nat → Option Nat} {dy : aM} {nx n : Nat} (h : INV ci cl cr dy nx n) : ∀ e, e < 8 → SHX cr dy e := fun e he => (h.2.2.2.2.1.1 e he).x
theorem EX.at' {dy dy' : aM} {nx nx' q : Nat} {x : aE} (hD : DN dy nx) (hE : EX dy nx dy' nx') (hq : dy q = some x) : dy' q = some x := by rw [hE.2.1 q (hD.lt hq)]; exact hq
theorem RW.ex {dy dy' : aM} {k q v nx nx' : Nat} {w : Int32} {f : Nat → Int64} (h : RW dy k q w v f) (hD : DN dy nx) (hE : EX dy nx dy' nx') : RW dy' k q w v f := ⟨h.1, h.2.1, EX.at' hD hE h.2.2.1, EX.at' hD hE h.2.2.2⟩
theorem SHX.lt {cr : Nat → Nat → Option Nat} {dy : aM} {e k nx : Nat} (h : SHX cr dy e) (hD : DN dy nx) (hk : cr 42 e = some k) : k < nx ∧ ∃ x, dy k = some x := by
  rcases h with h | ⟨k', c, nu, a, s, h1, h2⟩ | ⟨k', q, w, v, f, h1, h2, -⟩
  · rw [h] at hk; cases hk
  · cases h1.symm.trans hk; exact ⟨hD.lt h2.2.2.1, _, h2.2.2.1⟩
  · cases h1.symm.trans hk; exact ⟨hD.lt h2.2.2.1, _, h2.2.2.1⟩
theorem iS.ex {ci : aI} {cl : aL} {cr : Nat → Nat → Option Nat} {dy dy' : aM} {nx nx' : Nat} (h : iS ci cl cr dy) (hD : DN dy nx) (hE : EX dy nx dy' nx') : iS ci cl cr dy' := by
  obtain ⟨h1, h2, h3⟩ := h
  refine ⟨fun e he => ?_, h2, fun e g k k' q q' w w' he hg hne c1 c2 d1 d2 => ?_⟩
  · rcases h1 e he with h | ⟨a1, k, c, nu, a, s, a2, a3, a4, a5⟩ | ⟨a1, k, q, v, f, a2, a3, a4⟩
    · exact Or.inl h
    · exact Or.inr (Or.inl ⟨a1, k, c, nu, a, s, a2, a3.ex hD hE, a4, a5⟩)
    · exact Or.inr (Or.inr ⟨a1, k, q, v, f, a2, a3.ex hD hE, a4⟩)
  · have l1 := ((h1 e he).x.lt hD c1).1
    have l2 := ((h1 g hg).x.lt hD c2).1
    rw [hE.2.1 k l1] at d1
    rw [hE.2.1 k' l2] at d2
    exact h3 e g k k' q q' w w' he hg hne c1 c2 d1 d2
theorem AC.ex {c : aI} {nu : Nat → Int64} {cr : Nat → Nat → Option Nat} {dy dy' : aM} {n nx nx' : Nat} (h : AC c nu cr dy n) (hD : DN dy nx) (hE : EX dy nx dy' nx') : AC c nu cr dy' n := fun a ha => by
  obtain ⟨k, s, h1, h2⟩ := h a ha
  exact ⟨k, s, h1, h2.ex hD hE⟩
theorem INV.ex {ci : aI} {cl : aL} {cr : Nat → Nat → Option Nat} {dy dy' : aM} {nx nx' n : Nat} (h : INV ci cl cr dy nx n) (hE : EX dy nx dy' nx') : INV ci cl cr dy' nx' n := by
  obtain ⟨⟨⟨b1, b2⟩, b3⟩, h2, h3, h4, h5, h6, h7⟩ := h
  exact ⟨⟨⟨b1.ex h6 hE, b2⟩, b3⟩, h2, h3, h4, h5.ex h6 hE, hE.2.2, by have := hE.1; omega⟩
/-- an ACT more -/
theorem INV_add {ci c2 : aI} {cl l2 : aL} {cr r2 : Nat → Nat → Option Nat} {dy dy' : aM} {nx nx' n : Nat} (h : INV ci cl cr dy nx n) (hE : EX dy nx dy' nx') (hB : BK c2 (l2 48) c2 r2 dy' (n + 1)) (h1 : c2 43 1 = nI (n + 1)) (h13 : c2 43 13 = 0) (h19 : c2 43 19 = 0) (h17 : c2 1 7 = 0) (h18 : c2 1 8 = 0) (h16 : c2 43 16 = ci 43 16)
    (hk : ∀ k, ¬ k = 1 → ¬ k = 2 → ¬ k = 43 → ¬ k = 44 → ¬ k = 45 → ¬ k = 46 → ¬ k = 47 → c2 k = ci k) (hl : ∀ k, ¬ k = 48 → l2 k = cl k) (hr : ∀ k, ¬ k = 3 → r2 k = cr k) (hG : AG ci c2 (cl 48) (l2 48) n) (hO : ∀ w, w < 3 → 0 ≤ c2 46 (3 * n + w) → ∃ x, x < n ∧ c2 46 (3 * n + w) = nI x) (hC : c2 44 n = 0 → SL c2 (l2 48) n = l2 48 n) : INV c2 l2 r2 dy' nx' (n + 1) := by
  obtain ⟨⟨-, -, b3, b4, b5, b6⟩, ⟨f1, f2, f3, f4, f5, f6, f7, f8, T, hT, f9⟩, -, -, h5, h6, h7⟩ := h
  refine ⟨⟨hB, h1, b3.c (hk 50 (by decide) (by decide) (by decide) (by decide) (by decide) (by decide) (by decide)), fun k h4 => by rw [hk 49 (by decide) (by decide) (by decide) (by decide) (by decide) (by decide) (by decide)]; exact b4 k h4, fun a ha w hw h0 => ?_, fun a ha h0 => ?_⟩, ⟨fun p hp => ⟨?_, fun j hj => ?_⟩, fun p hp => ?_, fun p hp => ?_, ⟨fun a ha => ?_, fun p hp j hj => ?_⟩, fun i hi => ?_, fun i h6 => ?_, fun p hp => ?_, fun i hi => ?_, T, hT, by rw [h16]; exact f9⟩, ⟨by rw [h17, h13], by rw [h18, h19], fun z => absurd h19 z, Or.inl h13⟩, fun z => absurd h13 z, ?_, hE.2.2, by have := hE.1; omega⟩
  · by_cases e : a = n
    · subst e; exact hO w hw h0
    · obtain ⟨-, -, g0, g1, g2, -, -⟩ := hG a (by omega)
      have e46 : c2 46 (3 * a + w) = ci 46 (3 * a + w) := by
        rcases (by omega : w = 0 ∨ w = 1 ∨ w = 2) with e | e | e <;> subst e
        · exact g0
        · exact g1
        · exact g2
      rw [e46] at h0 ⊢
      exact b5 a (by omega) w hw h0
  · by_cases e : a = n
    · subst e; exact hC h0
    · obtain ⟨g0, -, -, -, -, -, g6⟩ := hG a (by omega)
      rw [g0] at h0
      rw [(hG.S (by omega)).1, g6]
      exact b6 a (by omega) h0
  · rw [hk _ (by omega) (by omega) (by omega) (by omega) (by omega) (by omega) (by omega), hk 52 (by decide) (by decide) (by decide) (by decide) (by decide) (by decide) (by decide)]; exact (f1 p hp).1
  · rw [hl _ (by omega), hl 53 (by decide)]; exact (f1 p hp).2 j hj
  · rw [hr 19 (by decide), hr 20 (by decide)]; exact f2 p hp
  · rw [hk 52 (by decide) (by decide) (by decide) (by decide) (by decide) (by decide) (by decide)]; exact f3 p hp
  · rw [hl 25 (by decide), hl 65 (by decide)]; exact f4.1 a ha
  · rw [hl _ (by omega), hl 59 (by decide)]; exact f4.2 p hp j hj
  · rw [hl 21 (by decide), hl 54 (by decide)]; exact f5 i hi
  · rw [hk 24 (by decide) (by decide) (by decide) (by decide) (by decide) (by decide) (by decide)]; exact f6 i h6
  · rw [hk _ (by omega) (by omega) (by omega) (by omega) (by omega) (by omega) (by omega), hk 58 (by decide) (by decide) (by decide) (by decide) (by decide) (by decide) (by decide)]; exact f7 p hp
  · rw [hl 22 (by decide), hl 60 (by decide)]; exact f8 i hi
  · have h9 := (h5.ex h6 hE).mv (ci' := c2) (cl' := l2) (hk 67 (by decide) (by decide) (by decide) (by decide) (by decide) (by decide) (by decide)) (hk 68 (by decide) (by decide) (by decide) (by decide) (by decide) (by decide) (by decide)) (hk 69 (by decide) (by decide) (by decide) (by decide) (by decide) (by decide) (by decide)) (hk 70 (by decide) (by decide) (by decide) (by decide) (by decide) (by decide) (by decide)) (hl 71 (by decide))
    unfold iS SHF APR at h9 ⊢
    rw [hr 42 (by decide)]
    exact h9
theorem BK.down {c c' ci ci' : aI} {nu : Nat → Int64} {cr : Nat → Nat → Option Nat} {dy : aM} {n m : Nat} (h : BK c nu ci cr dy n) (hs : sm c c') (hm : m ≤ n) (h2 : ci' 2 1 = nI m) (h5 : ci' 5 = ci 5) (h6 : ci' 6 = ci 6) (h7 : ci' 7 = ci 7) : BK c' nu ci' cr dy m := by
  obtain ⟨b1, b2, b3, b4, b5, b6, b7⟩ := h
  refine ⟨fun a ha => ?_, fun k hk => ?_, by omega, h2, fun i hi => hs.WF (b5 i (by omega)), fun i hi => hs.WP (b6 i (by omega)), fun i hi => by rw [hs.ln]; exact b7 i (by omega)⟩
  · obtain ⟨k, s, e1, e2⟩ := b1 a (by omega)
    exact ⟨k, s, e1, hs.AT e2⟩
  · rw [h5, h6, h7, hs.2.2.2.2.1, hs.2.2.2.2.2.1, hs.2.2.2.2.2.2]; exact b2 k hk
theorem BK.st {c c' ci ci' : aI} {nu : Nat → Int64} {cr : Nat → Nat → Option Nat} {dy : aM} {n : Nat} (h : BK c nu ci cr dy n) (e4 : c' 44 = c 44) (e5 : c' 45 = c 45) (e6 : c' 46 = c 46) (e7 : c' 47 = c 47) (hl : LEN c') (hs : ST c' ci') (h2 : ci' 2 = ci 2) : BK c' nu ci' cr dy n := by
  obtain ⟨b1, b2, b3, b4, b5, b6, b7⟩ := h
  refine ⟨fun a ha => ?_, hs, b3, by rw [h2]; exact b4, fun i hi => ?_, fun i hi => ?_, fun i hi => ?_⟩
  · obtain ⟨k, s, q1, q2⟩ := b1 a ha
    refine ⟨k, s, q1, ?_⟩
    unfold AT oC
    rw [e4, e5, e6, e7, SL_c e4 e5 e6, SH_c e4 e5 e6]
    exact q2
  · unfold WF; rw [e4, e5, e6, e7]; exact b5 i hi
  · unfold WP; rw [e4, e7]; exact b6 i hi
  · obtain ⟨v, v8, ev, -⟩ := ln_b (a := i) hl
    rw [ev]; exact nI_nn (by omega)
/-- the plan and the run are forgotten -/
theorem INV_cl {ci c2 : aI} {cl : aL} {cr : Nat → Nat → Option Nat} {dy : aM} {nx n m : Nat} (h : INV ci cl cr dy nx n) (hB : BK c2 (cl 48) c2 cr dy m) (hm : m ≤ n) (h1 : c2 43 1 = nI m) (hL : LEN c2) (hP : PAR c2) (h13 : c2 43 13 = 0) (h19 : c2 43 19 = 0) (h17 : c2 1 7 = 0) (h18 : c2 1 8 = 0) (h16 : c2 43 16 = ci 43 16)
    (hk : ∀ k, (7 < k ∧ k < 43) ∨ (43 < k ∧ k < 49) ∨ 51 < k → c2 k = ci k) : INV c2 cl cr dy nx m := by
  obtain ⟨⟨-, -, b3, b4, b5, b6⟩, ⟨f1, f2, f3, f4, f5, f6, f7, f8, T, hT, f9⟩, -, -, h5, h6, h7⟩ := h
  refine ⟨⟨hB, h1, hL, hP, fun a ha w hw h0 => ?_, fun a ha h0 => ?_⟩, ⟨fun p hp => ⟨?_, fun j hj => ?_⟩, f2, fun p hp => ?_, f4, f5, fun i h6 => ?_, fun p hp => ?_, f8, T, hT, by rw [h16]; exact f9⟩, ⟨by rw [h17, h13], by rw [h18, h19], fun z => absurd h19 z, Or.inl h13⟩, fun z => absurd h13 z, h5.mv (hk 67 (by omega)) (hk 68 (by omega)) (hk 69 (by omega)) (hk 70 (by omega)) rfl, h6, h7⟩
  · rw [hk 46 (by omega)] at h0 ⊢
    exact b5 a (by omega) w hw h0
  · rw [hk 44 (by omega)] at h0
    rw [SL_c (hk 44 (by omega)) (hk 45 (by omega)) (hk 46 (by omega))]
    exact b6 a (by omega) h0
  · rw [hk _ (by omega), hk 52 (by omega)]; exact (f1 p hp).1
  · exact (f1 p hp).2 j hj
  · rw [hk 52 (by omega)]; exact f3 p hp
  · rw [hk 24 (by omega)]; exact f6 i h6
  · rw [hk _ (by omega), hk 58 (by omega)]; exact f7 p hp
def NXT (M : aM) (nx : Nat) : Prop := ∃ ci cl cr dy n, M = mm ci cl cr dy ∧ INV ci cl cr dy nx n
/-- what the reference answers is x, and all holds again -/
def HF (x : Int32) (P : Option Value → aM → Nat → Prop) : Prop := ∀ r M nx, P r M nx → r = some (.int x) ∧ NXT M nx
def HF8 (k : Int32) (P : Option Value → aM → Nat → Prop) : Prop := ∀ r M nx, P r M nx → ∃ y ci cl cr dy n, r = some (.long y) ∧ M = mm ci cl cr dy ∧ INV ci cl cr dy nx n ∧ ci 43 0 = k ∧ (k = 0 → cl 73 0 = y)
theorem NXT.i {ci : aI} {cl : aL} {cr : Nat → Nat → Option Nat} {dy : aM} {nx n : Nat} (h : INV ci cl cr dy nx n) : NXT (mm ci cl cr dy) nx := ⟨ci, cl, cr, dy, n, rfl, h⟩
/-- the SHELVES change, and what no promise rests on -/
theorem INV.mvS {ci c2 : aI} {cl l2 : aL} {cr r2 : Nat → Nat → Option Nat} {dy dy' : aM} {nx nx' n : Nat} (h : INV ci cl cr dy nx n) (hE : EX dy nx dy' nx') (hi : EI6 ci c2) (hl : EL6 cl l2) (hr : ∀ k, ¬ k = 42 → r2 k = cr k) (hS : iS c2 l2 r2 dy') : INV c2 l2 r2 dy' nx' n := by
  obtain ⟨h1, h2, h3, h4, h5, h6, h7⟩ := h.ex hE
  have h48 := hl 48 (by decide) (by decide) (by decide) (by decide)
  have hk : ∀ k, k < 67 → ¬ k = 43 → ¬ k = 9 → ¬ k = 64 → c2 k = ci k := hi.1
  have b1 := h1.mv (ci' := c2) (cl' := l2) hi.sm (hk 2 (by decide) (by decide) (by decide) (by decide)) (hk 5 (by decide) (by decide) (by decide) (by decide)) (hk 6 (by decide) (by decide) (by decide) (by decide)) (hk 7 (by decide) (by decide) (by decide) (by decide)) (hi.2 1 (by decide)) h48
  have b2 := h2.mv hi hl
  refine ⟨?_, ?_, h3.mv (hk 1 (by decide) (by decide) (by decide) (by decide)) (hk 18 (by decide) (by decide) (by decide) (by decide)) (fun j h1 _ => hi.2 j (by omega)), h4.mv hi.LK hi.RK (hi.2 13 (by decide)) (fun k h1 h2 => hk k (by omega) (by omega) (by omega) (by omega)) h48, hS, h6, h7⟩
  · obtain ⟨⟨c1, c2'⟩, c3⟩ := b1
    refine ⟨⟨fun a ha => ?_, c2'⟩, c3⟩
    rw [hr 3 (by decide)]
    exact c1 a ha
  · obtain ⟨d1, d2, d3⟩ := b2
    refine ⟨d1, fun p hp => ?_, d3⟩
    rw [hr 19 (by decide), hr 20 (by decide)]
    exact d2 p hp
theorem iS_set {ci c2 : aI} {cl l2 : aL} {cr r2 : Nat → Nat → Option Nat} {dy : aM} {e : Nat} (h : iS ci cl cr dy) (h67 : ∀ g, ¬ g = e → c2 67 g = ci 67 g) (h68 : ∀ g, ¬ g = e → c2 68 g = ci 68 g) (h69 : ∀ g, ¬ g = e → c2 69 g = ci 69 g) (h70 : ∀ g, ¬ g = e → c2 70 g = ci 70 g) (h71 : ∀ g, g < 8 → ¬ g = e → ∀ j, j < 60 → l2 71 (60 * g + j) = cl 71 (60 * g + j)) (hr : ∀ g, ¬ g = e → r2 42 g = cr 42 g)
    (hn : SHF c2 l2 r2 dy e) (hv : ∃ v, v ≤ 60 ∧ c2 68 e = nI v) (hap : ∀ g k k' q q' w w', g < 8 → ¬ g = e → r2 42 e = some k → cr 42 g = some k' → dy k = some (.inr (6, [.int w, .ref q])) → dy k' = some (.inr (6, [.int w', .ref q'])) → ¬ q = q') : iS c2 l2 r2 dy := by
  obtain ⟨s1, s2, s3⟩ := h
  refine ⟨fun g hg => ?_, fun g hg => ?_, fun g f k k' q q' w w' hg hf hne c1 c2 d1 d2 => ?_⟩
  · by_cases z : g = e
    · subst z; exact hn
    · unfold SHF
      rw [h67 g z, h68 g z, h69 g z, h70 g z, hr g z]
      rcases s1 g hg with a | a | ⟨a1, k, q, v, f, a2, a3, a4, a5, a6⟩
      · exact Or.inl a
      · exact Or.inr (Or.inl a)
      · exact Or.inr (Or.inr ⟨a1, k, q, v, f, a2, a3, a4, a5, fun j hj => by rw [h71 g hg z j (by omega)]; exact a6 j hj⟩)
  · by_cases z : g = e
    · subst z; exact hv
    · rw [h68 g z]; exact s2 g hg
  · by_cases z : g = e
    · subst z
      rw [hr f (fun y => hne y.symm)] at c2
      exact hap f k k' q q' w w' hf (fun y => hne y.symm) c1 c2 d1 d2
    · rw [hr g z] at c1
      by_cases y : f = e
      · subst y
        exact fun x => hap g k' k q' q w' w hg z c2 c1 d2 d1 x.symm
      · rw [hr f y] at c2
        exact s3 g f k k' q q' w w' hg hf hne c1 c2 d1 d2
theorem RW.u {dy : aM} {k q q' v v' : Nat} {w w' : Int32} {f f' : Nat → Int64} (h : RW dy k q w v f) (h' : RW dy k q' w' v' f') : w = w' ∧ q = q' ∧ v = v' ∧ f = f' := by
  obtain ⟨-, -, a1, a2⟩ := h
  obtain ⟨-, -, b1, b2⟩ := h'
  rw [a1] at b1
  injection b1 with b1
  injection b1 with b1
  injection b1 with b1 b3
  injection b3 with b3 b4
  injection b3 with b3
  injection b4 with b4
  injection b4 with b4
  subst b3
  subst b4
  rw [a2] at b2
  injection b2 with b2
  injection b2 with b2
  injection b2 with b2 b5
  injection b5 with b5 b6
  injection b6 with b6
  injection b6 with b6
  exact ⟨rfl, rfl, b5, b6⟩
theorem SHF.n {ci : aI} {cl : aL} {cr : Nat → Nat → Option Nat} {dy : aM} {e : Nat} (h : SHF ci cl cr dy e) (hk : cr 42 e = none) : ci 67 e = 0 := by
  rcases h with ⟨h, -⟩ | ⟨-, k, c, nu, a, s, h1, -⟩ | ⟨-, k, q, v, f, h1, -⟩
  · exact h
  · rw [hk] at h1; cases h1
  · rw [hk] at h1; cases h1
theorem SHF.r {ci : aI} {cl : aL} {cr : Nat → Nat → Option Nat} {dy : aM} {e k q v : Nat} {w : Int32} {f : Nat → Int64} (h : SHF ci cl cr dy e) (hk : cr 42 e = some k) (hR : RW dy k q w v f) : ci 67 e = w ∧ (w = 3 ∨ w = 4) ∧ v ≤ 60 ∧ ci 68 e = nI v ∧ ∀ j, j < v → f j = cl 71 (60 * e + j) := by
  rcases h with ⟨-, h⟩ | ⟨-, k', c, nu, a, s, h1, h2, -⟩ | ⟨h0, k', q', v', f', h1, h2, h3, h4, h5⟩
  · rw [hk] at h; cases h
  · cases h1.symm.trans hk
    have z := h2.2.2.1.symm.trans hR.2.2.1
    injection z with z
    injection z with z
    injection z with z
    cases z
  · cases h1.symm.trans hk
    obtain ⟨u1, u2, u3, u4⟩ := hR.u h2
    subst u1
    subst u2
    subst u3
    subst u4
    exact ⟨rfl, h0, h3, h4, h5⟩
theorem AT.u {dy : aM} {c c' : aI} {nu nu' : Nat → Int64} {a a' k s s' : Nat} (h : AT c nu dy a k s) (h' : AT c' nu' dy a' k s') : c 44 a = c' 44 a' ∧ c 45 a = c' 45 a' ∧ oC c a 0 = oC c' a' 0 ∧ oC c a 1 = oC c' a' 1 ∧ oC c a 2 = oC c' a' 2 := by
  have z := h.2.2.1.symm.trans h'.2.2.1
  simp only [Option.some.injEq, Sum.inr.injEq, Prod.mk.injEq, List.cons.injEq, Value.int.injEq, true_and] at z
  exact ⟨z.1, z.2.1, z.2.2.2.1, z.2.2.2.2.1, z.2.2.2.2.2.1⟩
theorem op_u {c c' : aI} {a a' : Nat} (h0 : oC c a 0 = oC c' a' 0) (h1 : oC c a 1 = oC c' a' 1) (h2 : oC c a 2 = oC c' a' 2) : opN c a 3 = opN c' a' 3 := by
  have key : ∀ w, oC c a w = oC c' a' w → (c 46 (3 * a + w) < 0 ↔ c' 46 (3 * a' + w) < 0) := fun w e => by rw [← oC_m2, ← oC_m2, e]
  have q : ∀ w (x : Nat), oC c a w = oC c' a' w → (if c 46 (3 * a + w) < 0 then x else x + 1) = if c' 46 (3 * a' + w) < 0 then x else x + 1 := fun w x e => by
    by_cases z : c 46 (3 * a + w) < 0
    · rw [if_pos z, if_pos ((key w e).mp z)]
    · rw [if_neg z, if_neg (fun y => z ((key w e).mpr y))]
  simp only [opN]
  rw [q 0 0 h0, q 1 _ h1, q 2 _ h2]
theorem wt_u {dy : aM} {c c' : aI} {nu nu' : Nat → Int64} {a a' k s s' : Nat} (h : AT c nu dy a k s) (h' : AT c' nu' dy a' k s') : wtF c a = wtF c' a' ∧ sfF c a = sfF c' a' ∧ c 44 a = c' 44 a' := by
  obtain ⟨e4, e5, x0, x1, x2⟩ := h.u h'
  refine ⟨?_, ?_, e4⟩
  · unfold wtF; rw [e4, e5, op_u x0 x1 x2]
  · unfold sfF; rw [e4]
theorem SHF.a {ci : aI} {cl : aL} {cr : Nat → Nat → Option Nat} {dy : aM} {e k a s : Nat} {c : aI} {nu : Nat → Int64} (h : SHF ci cl cr dy e) (hk : cr 42 e = some k) (hA : AT c nu dy a k s) : ci 67 e = 1 ∧ ci 69 e = wtF c a ∧ ci 70 e = sfF c a := by
  rcases h with ⟨-, h⟩ | ⟨h0, k', c', nu', a', s', h1, h2, h3, h4⟩ | ⟨-, k', q', v', f', h1, h2, -⟩
  · rw [hk] at h; cases h
  · cases h1.symm.trans hk
    obtain ⟨u1, u2, -⟩ := wt_u hA h2
    exact ⟨h0, h3.trans u1.symm, h4.trans u2.symm⟩
  · cases h1.symm.trans hk
    have z := hA.2.2.1.symm.trans h2.2.2.1
    injection z with z
    injection z with z
    injection z with z
    cases z

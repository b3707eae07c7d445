/-! the class's plan: its virtual memory c stands for the reference's ints -/
def sC (c : aI) (nu : Nat → Int64) : aL := fun k => if k = 61 then SL c nu else SH c nu
def WP (c : aI) (a : Nat) : Prop := c 44 a = 1 ∨ c 44 a = 10 ∨ c 47 a = -2
/-- what the class's block and stock hold, told by c and nu -/
def BK (c : aI) (nu : Nat → Int64) (ci : aI) (cr : Nat → Nat → Option Nat) (dy : aM) (n : Nat) : Prop :=
  AC c nu cr dy n ∧ ST c ci ∧ n ≤ 16 ∧ ci 2 1 = nI n ∧ (∀ i, i < n → WF c i) ∧ (∀ i, i < n → WP c i) ∧ (∀ i, i < n → 0 ≤ ln c i)
theorem spLo_c {c c' : aI} {nu L H : Nat → Int64} {a : Nat} {w : Int64} (h4 : c' 44 = c 44) (h6 : c' 46 = c 46) : spLo c' nu L H a w = spLo c nu L H a w := by simp only [spLo, h4, h6]
theorem spHi_c {c c' : aI} {nu L H : Nat → Int64} {a : Nat} {w : Int64} (h4 : c' 44 = c 44) (h6 : c' 46 = c 46) : spHi c' nu L H a w = spHi c nu L H a w := by simp only [spHi, h4, h6]
theorem spT_c {c c' : aI} {nu : Nat → Int64} (h4 : c' 44 = c 44) (h5 : c' 45 = c 45) (h6 : c' 46 = c 46) : ∀ n, spT c' nu n = spT c nu n
  | 0 => rfl
  | n + 1 => by
    simp only [spT, spT_c h4 h5 h6 n, spLo_c h4 h6, spHi_c h4 h6, h5]
theorem SL_c {c c' : aI} {nu : Nat → Int64} (h4 : c' 44 = c 44) (h5 : c' 45 = c 45) (h6 : c' 46 = c 46) (a : Nat) : SL c' nu a = SL c nu a := by unfold SL; rw [spT_c h4 h5 h6]
theorem SH_c {c c' : aI} {nu : Nat → Int64} (h4 : c' 44 = c 44) (h5 : c' 45 = c 45) (h6 : c' 46 = c 46) (a : Nat) : SH c' nu a = SH c nu a := by unfold SH; rw [spT_c h4 h5 h6]
theorem sC_c {c c' : aI} {nu : Nat → Int64} (h4 : c' 44 = c 44) (h5 : c' 45 = c 45) (h6 : c' 46 = c 46) : sC c' nu = sC c nu := by
  have e1 : SL c' nu = SL c nu := funext fun a => SL_c h4 h5 h6 a
  have e2 : SH c' nu = SH c nu := funext fun a => SH_c h4 h5 h6 a
  unfold sC; rw [e1, e2]
/-- c' is like c but for what a plan writes: TICKS, PARTS, asked, REGISTERS, kept, and the numbers of 43 -/
def sm (c c' : aI) : Prop := c' 44 = c 44 ∧ c' 45 = c 45 ∧ c' 46 = c 46 ∧ c' 47 = c 47 ∧ c' 49 = c 49 ∧ c' 50 = c 50 ∧ c' 51 = c 51
theorem sm.rf {c : aI} : sm c c := ⟨rfl, rfl, rfl, rfl, rfl, rfl, rfl⟩
theorem sm.tr {c c' c2 : aI} (h : sm c c') (h' : sm c' c2) : sm c c2 := ⟨h'.1.trans h.1, h'.2.1.trans h.2.1, h'.2.2.1.trans h.2.2.1, h'.2.2.2.1.trans h.2.2.2.1, h'.2.2.2.2.1.trans h.2.2.2.2.1, h'.2.2.2.2.2.1.trans h.2.2.2.2.2.1, h'.2.2.2.2.2.2.trans h.2.2.2.2.2.2⟩
theorem sm.of {c c' : aI} (h : ∀ k, 44 ≤ k → k ≤ 51 → ¬ k = 48 → c' k = c k) : sm c c' := ⟨h 44 (by decide) (by decide) (by decide), h 45 (by decide) (by decide) (by decide), h 46 (by decide) (by decide) (by decide), h 47 (by decide) (by decide) (by decide), h 49 (by decide) (by decide) (by decide), h 50 (by decide) (by decide) (by decide), h 51 (by decide) (by decide) (by decide)⟩
theorem sm.up {c : aI} {k j : Nat} {v : Int32} (hk : ¬ (44 ≤ k ∧ k ≤ 51)) : sm c (up2 c k j v) := sm.of fun q h1 h2 _ => up2_k _ _ _ (fun e => hk (by omega))
theorem sm.ln {c c' : aI} (h : sm c c') (a : Nat) : ln c' a = ln c a := by simp only [_root_.Jvm.Pilot.@@N@@.ln, h.1, h.2.2.2.2.2.1]
theorem sm.fl {c c' : aI} (h : sm c c') (a : Nat) : fl c' a = fl c a := by simp only [_root_.Jvm.Pilot.@@N@@.fl, h.1, h.2.2.2.2.2.1, h.2.2.2.2.2.2]
theorem sm.sC {c c' : aI} (h : sm c c') (nu : Nat → Int64) : sC c' nu = sC c nu := sC_c h.1 h.2.1 h.2.2.1
theorem sm.nd {c c' : aI} (h : sm c c') (l : aL) (a b : Nat) : nd c' l a b = nd c l a b := by
  have e1 : (isO c' (nI a) b ∨ WT c' a b) = (isO c (nI a) b ∨ WT c a b) := by simp only [isO, WT, h.1, h.2.2.1]
  have e2 : ((DR c' a b ∧ MT c' l a b) ∨ PT c' a b) = ((DR c a b ∧ MT c l a b) ∨ PT c a b) := by simp only [DR, MT, PT, h.1, h.2.2.1, h.2.2.2.1]
  have e3 : k1 c' l a b = k1 c l a b := by
    unfold k1
    by_cases q : (DR c a b ∧ MT c l a b) ∨ PT c a b
    · rw [if_pos q, if_pos (e2.mpr q)]
    · rw [if_neg q, if_neg (fun z => q (e2.mp z))]
  unfold _root_.Jvm.Pilot.@@N@@.nd
  rw [h.ln, e3]
  by_cases q : (isO c (nI a) b ∨ WT c a b) ∧ ¬ _root_.Jvm.Pilot.@@N@@.ln c a ≤ k1 c l a b
  · rw [if_pos q, if_pos ⟨e1.mpr q.1, q.2⟩]
  · rw [if_neg q, if_neg (fun z => q ⟨e1.mp z.1, z.2⟩)]
theorem sm.WF {c c' : aI} (h : sm c c') {a : Nat} (hw : WF c a) : WF c' a := by
  unfold _root_.Jvm.Pilot.@@N@@.WF; rw [h.1, h.2.1, h.2.2.1, h.2.2.2.1]; exact hw
theorem sm.WP {c c' : aI} (h : sm c c') {a : Nat} (hw : WP c a) : WP c' a := by
  unfold _root_.Jvm.Pilot.@@N@@.WP; rw [h.1, h.2.2.2.1]; exact hw
theorem sm.oC {c c' : aI} (h : sm c c') (a w : Nat) : oC c' a w = oC c a w := by simp only [_root_.Jvm.Pilot.@@N@@.oC, h.2.2.1]
theorem sm.AT {c c' : aI} {nu : Nat → Int64} {dy : aM} {a k s : Nat} (h : sm c c') (hA : AT c nu dy a k s) : AT c' nu dy a k s := by
  unfold _root_.Jvm.Pilot.@@N@@.AT
  rw [h.1, h.2.1, h.2.2.2.1, h.oC, h.oC, h.oC, SL_c h.1 h.2.1 h.2.2.1, SH_c h.1 h.2.1 h.2.2.1]
  exact hA
theorem sm.BK {c c' ci ci' : aI} {nu : Nat → Int64} {cr : Nat → Nat → Option Nat} {dy : aM} {n : Nat} (h : sm c c') (hB : BK c nu ci cr dy n) (h2 : ci' 2 = ci 2) (h5 : ci' 5 = ci 5) (h6 : ci' 6 = ci 6) (h7 : ci' 7 = ci 7) : BK c' nu ci' cr dy n := by
  obtain ⟨b1, b2, b3, b4, b5, b6, b7⟩ := hB
  refine ⟨fun a ha => ?_, fun k hk => ?_, b3, by rw [h2]; exact b4, fun i hi => h.WF (b5 i hi), fun i hi => h.WP (b6 i hi), fun i hi => by rw [h.ln]; exact b7 i hi⟩
  · obtain ⟨k, s, e1, e2⟩ := b1 a ha
    exact ⟨k, s, e1, h.AT e2⟩
  · rw [h5, h6, h7, h.2.2.2.2.1, h.2.2.2.2.2.1, h.2.2.2.2.2.2]; exact b2 k hk
theorem kd3 {o : Int32} : kd o = 3 ↔ o = 8 ∨ o = 9 := by
  unfold kd
  constructor
  · intro h
    repeat' split at h
    all_goals first | exact absurd h (by decide) | (rename_i q; exact Or.inl q) | (rename_i q; exact Or.inr q)
  · rintro (rfl | rfl) <;> rfl
theorem oC_x {c : aI} {a w x : Nat} (h : c 46 (3 * a + w) = nI x) (hx : x < 16) : oC c a w = nI x := (oC_eq (by omega)).mpr h
theorem WF.xn {c : aI} {a : Nat} (h : WF c a) (h8 : kd (c 44 a) = 3) : ∃ x, x < a ∧ c 46 (3 * a + 0) = nI x := by
  rcases kd3.mp h8 with q | q <;> exact h.x (by rw [q]; decide) (by rw [q]; decide)
theorem WF.np {c : aI} {a : Nat} (h : WF c a) (h1 : c 44 a = 1 ∨ c 44 a = 10) : ¬ c 47 a = -2 := by
  obtain ⟨q, hq, e⟩ := h.q h1
  rw [e]
  exact fun z => absurd (z ▸ nI_nn (by omega)) (by decide : ¬ (0 : Int32) ≤ -2)
/-- the class's way to the k by which b NEEDS a -/
def k0F (c : aI) (a b : Nat) : Int32 := if isO c (nI a) b ∨ WT c a b then ln c a else 0
theorem nd_e {c : aI} {l : aL} {a b : Nat} (h0 : 0 ≤ ln c a) : nd c l a b = if (DR c a b ∧ MT c l a b) ∨ PT c a b then (if 1 ≤ k0F c a b then k0F c a b else 1) else k0F c a b := by
  unfold nd k1 k0F
  by_cases h1 : (DR c a b ∧ MT c l a b) ∨ PT c a b
  · rw [if_pos h1, if_pos h1]
    by_cases h2 : isO c (nI a) b ∨ WT c a b
    · rw [if_pos h2]
      by_cases h3 : ln c a ≤ 1
      · rw [if_neg (fun q => q.2 h3)]
        split
        · rename_i h4; exact Int32.le_antisymm h4 h3
        · rfl
      · rw [if_pos ⟨h2, h3⟩, if_pos (Int32.le_of_lt (Int32.not_le.mp h3))]
    · rw [if_neg h2, if_neg (fun q => h2 q.1)]; rfl
  · rw [if_neg h1, if_neg h1]
    by_cases h2 : isO c (nI a) b ∨ WT c a b
    · rw [if_pos h2]
      by_cases h3 : ln c a ≤ 0
      · rw [if_neg (fun q => q.2 h3)]; exact Int32.le_antisymm h0 h3
      · rw [if_pos ⟨h2, h3⟩]
    · rw [if_neg h2, if_neg (fun q => h2 q.1)]
theorem i_sub {x y k : Int32} : y + k = x ↔ x - y = k := by
  constructor
  · intro h; rw [← h, Int32.add_comm, Int32.add_sub_cancel]
  · intro h; rw [← h, Int32.add_comm, Int32.sub_add_cancel]
/-- TICKS for all PARTS: the class's loop -/
def TW (c : aI) (l : aL) (ci ci' : aI) (b : Nat) : Prop := (∀ a, a < b → ci' 9 a = ftC c l b 55 a) ∧ ∀ k, ¬ k = 9 → ci' k = ci k
theorem TW_0 {c : aI} {l : aL} {ci : aI} : TW c l ci ci 0 := ⟨fun a h => by omega, fun _ _ => rfl⟩
theorem TW_s {c : aI} {l : aL} {ci ci' : aI} {b : Nat} (h : TW c l ci ci' b) : TW c l ci (up2 ci' 9 b (askF (ftC c l b) l b b)) (b + 1) := by
  refine ⟨fun a ha => ?_, fun k hk => (up2_k _ _ _ hk).trans (h.2 k hk)⟩
  show _ = up2 (ftC c l b) 55 b _ 55 a
  by_cases e : a = b
  · subst e; rw [up2_s, up2_s]
  · rw [up2_j _ _ _ e, up2_j _ _ _ e]; exact h.1 a (by omega)
theorem sm_ft (c : aI) (l : aL) (b : Nat) : sm c (ftC c l b) := sm.of fun k h1 h2 _ => ftC_k c l (by omega) b

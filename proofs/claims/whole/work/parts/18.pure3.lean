abbrev aI : Type := Nat → Nat → Int32
/-- only REGISTERS (57) and their number (43, 18) differ -/
def smR (c c' : aI) : Prop := (∀ k, ¬ k = 57 → ¬ k = 43 → c' k = c k) ∧ ∀ j, ¬ j = 18 → c' 43 j = c 43 j
theorem smR.rf {c : aI} : smR c c := ⟨fun _ _ _ => rfl, fun _ _ => rfl⟩
theorem smR.tr {c c' c2 : aI} (h : smR c c') (h' : smR c' c2) : smR c c2 := ⟨fun k a b => (h'.1 k a b).trans (h.1 k a b), fun j a => (h'.2 j a).trans (h.2 j a)⟩
theorem smR.u {c : aI} {a : Nat} {v : Int32} : smR c (up2 c 57 a v) := ⟨fun k a b => up2_k _ _ _ a, fun j _ => by rw [up2_k _ _ _ (by decide)]⟩
theorem smR.v {c : aI} {v : Int32} : smR c (up2 c 43 18 v) := ⟨fun k a b => up2_k _ _ _ b, fun j h => up2_j _ _ _ h⟩
def clrC (c : aI) : Nat → aI
  | 0 => c
  | a + 1 => up2 (clrC c a) 57 a (-2)
theorem clr_sm (c : aI) : ∀ a, smR c (clrC c a)
  | 0 => smR.rf
  | a + 1 => (clr_sm c a).tr smR.u
def rst (c : aI) (n : Nat) (t : Int32) (a : Nat) : aI :=
  if usd c n a then (if lbN c a = t then up2 (up2 c 57 a (nI (rgF c n a 17 0))) 43 18 (if nI (rgF c n a 17 0) < c 43 18 then c 43 18 else nI (rgF c n a 17 0 + 1)) else c) else c
theorem rst_sm (c : aI) (n : Nat) (t : Int32) (a : Nat) : smR c (rst c n t a) := by
  unfold rst
  split
  · split
    · exact smR.u.tr smR.v
    · exact smR.rf
  · exact smR.rf
def rin (c : aI) (n : Nat) (t : Int32) : Nat → aI
  | 0 => c
  | a + 1 => rst (rin c n t a) n t a
theorem rin_sm (c : aI) (n : Nat) (t : Int32) : ∀ a, smR c (rin c n t a)
  | 0 => smR.rf
  | a + 1 => (rin_sm c n t a).tr (rst_sm _ n t a)
def rou (c : aI) (n : Nat) : Nat → aI
  | 0 => c
  | t + 1 => rin (rou c n t) n (nI t) n
theorem rou_sm (c : aI) (n : Nat) : ∀ t, smR c (rou c n t)
  | 0 => smR.rf
  | t + 1 => (rou_sm c n t).tr (rin_sm _ n (nI t) n)
/-- REGISTERS are none (-2) or below 16 -/
def REG (c : aI) (n : Nat) : Prop := ∀ b, b < n → c 57 b = -2 ∨ ∃ r, r ≤ 15 ∧ c 57 b = nI r
theorem fb_holes : ∀ (m n : Nat) (f : Nat → Nat), (∀ i, i < n → f i < m) → (∀ i j, i < j → j < n → f i ≠ f j) → n ≤ m
  | 0, n, f, h, _ => by
    cases n with
    | zero => omega
    | succ n => have := h 0 (by omega); omega
  | m + 1, 0, f, _, _ => by omega
  | m + 1, n + 1, f, h, hi => by
    -- take the last away, close its gap
    have key := fb_holes m n (fun i => if f n < f i then f i - 1 else f i) (fun i hin => by
      have h1 := h i (by omega)
      have h2 := h n (by omega)
      have h3 := hi i n hin (by omega)
      show (if f n < f i then f i - 1 else f i) < m
      split <;> omega) (fun i j hij hj => by
      have h1 := hi i j hij (by omega)
      have h2 := hi i n (by omega) (by omega)
      have h3 := hi j n hj (by omega)
      show (if f n < f i then f i - 1 else f i) ≠ (if f n < f j then f j - 1 else f j)
      split <;> split <;> omega)
    omega
theorem rgF_lt (c : aI) (n a : Nat) : ∀ (k r j : Nat), r ≤ j → j < rgF c n a k r → ¬ mrI c n a j n = 0
  | 0, r, j, h1, h2 => by simp only [rgF] at h2; omega
  | k + 1, r, j, h1, h2 => by
    simp only [rgF] at h2
    split at h2
    · omega
    · rename_i h
      by_cases e : r = j
      · subst e; exact h
      · exact rgF_lt c n a k (r + 1) j (by omega) h2
theorem mrI_ex (c : aI) (n a r : Nat) : ∀ m, ¬ mrI c n a r m = 0 → ∃ b, b < m ∧ ¬ nI b = nI a ∧ c 57 b = nI r ∧ tog c n a b
  | 0, h => absurd rfl h
  | m + 1, h => by
    simp only [mrI] at h
    split at h
    · obtain ⟨b, h1, h2⟩ := mrI_ex c n a r m h; exact ⟨b, by omega, h2⟩
    · rename_i h0
      split at h
      · rename_i h1
        split at h
        · rename_i h2; exact ⟨m, by omega, h0, h1, h2⟩
        · obtain ⟨b, h1, h2⟩ := mrI_ex c n a r m h; exact ⟨b, by omega, h2⟩
      · obtain ⟨b, h1, h2⟩ := mrI_ex c n a r m h; exact ⟨b, by omega, h2⟩
theorem rg_le {c : aI} {n a : Nat} (hn : n ≤ 16) (ha : a < n) : rgF c n a 17 0 ≤ 15 := by
  rcases Nat.lt_or_ge (rgF c n a 17 0) 16 with h | h
  · omega
  · exfalso
    have hex : ∀ r, r < 16 → ∃ b, b < n ∧ ¬ nI b = nI a ∧ c 57 b = nI r := fun r hr => by
      obtain ⟨b, h1, h2, h3, -⟩ := mrI_ex c n a r n (rgF_lt c n a 17 0 r (by omega) (by omega))
      exact ⟨b, h1, h2, h3⟩
    have hf : ∀ r, ∃ b, r < 16 → b < n ∧ ¬ nI b = nI a ∧ c 57 b = nI r := fun r => by
      by_cases hr : r < 16
      · obtain ⟨b, hb⟩ := hex r hr; exact ⟨b, fun _ => hb⟩
      · exact ⟨0, fun h => absurd h hr⟩
    obtain ⟨g, hg⟩ := Classical.axiomOfChoice hf
    have hne : ∀ r, r < 16 → ¬ g r = a := fun r hr e => (hg r hr).2.1 (by rw [e])
    have := fb_holes 15 16 (fun r => if g r < a then g r else g r - 1) (fun r hr => by
      have h1 := (hg r hr).1
      have h2 := hne r hr
      show (if g r < a then g r else g r - 1) < 15
      split <;> omega) (fun i j hij hj => by
      have h1 := hg i (by omega)
      have h2 := hg j hj
      have h3 := hne i (by omega)
      have h4 := hne j hj
      have h5 : g i ≠ g j := fun e => by
        have e2 := h1.2.2
        rw [e, h2.2.2] at e2
        have := (nI_eq (by omega) (by omega)).mp e2
        omega
      show (if g i < a then g i else g i - 1) ≠ (if g j < a then g j else g j - 1)
      split <;> split <;> omega)
    omega
theorem REG.free {c : aI} {n a : Nat} (h : REG c n) : mrI c n a 16 n = 0 := by
  refine Classical.byContradiction fun q => ?_
  obtain ⟨b, h1, -, h3, -⟩ := mrI_ex c n a 16 n q
  rcases h b h1 with e | ⟨r, hr, e⟩
  · rw [e] at h3; exact absurd h3 (by decide)
  · rw [e] at h3
    have := (nI_eq (by omega) (by omega)).mp h3
    omega
theorem REG.rst {c : aI} {n : Nat} {t : Int32} {a : Nat} (hn : n ≤ 16) (ha : a < n) (h : REG c n) : REG (rst c n t a) n := by
  show REG (_root_.Jvm.Pilot.@@N@@.rst c n t a) n
  unfold _root_.Jvm.Pilot.@@N@@.rst
  split
  · split
    · intro b hb
      rw [up2_k _ _ _ (by decide)]
      by_cases e : b = a
      · subst e
        rw [up2_s]
        exact Or.inr ⟨_, rg_le hn ha, rfl⟩
      · rw [up2_j _ _ _ e]
        exact h b hb
    · exact h
  · exact h
theorem REG.rin {c : aI} {n : Nat} {t : Int32} (hn : n ≤ 16) (h : REG c n) : ∀ a, a ≤ n → REG (rin c n t a) n
  | 0, _ => h
  | a + 1, ha => (REG.rin hn h a (by omega)).rst hn (by omega)
theorem REG.rou {c : aI} {n : Nat} (hn : n ≤ 16) (h : REG c n) : ∀ t, REG (rou c n t) n
  | 0 => h
  | t + 1 => (REG.rou hn h t).rin hn n (Nat.le_refl n)
theorem clr_at (c : aI) (b : Nat) : ∀ a, b < a → clrC c a 57 b = -2
  | 0, h => by omega
  | a + 1, h => by
    simp only [clrC]
    by_cases e : b = a
    · subst e; rw [up2_s]
    · rw [up2_j _ _ _ e]; exact clr_at c b a (by omega)
theorem clr_REG (c : aI) (n : Nat) : REG (clrC c n) n := fun b hb => Or.inl (clr_at c b n hb)

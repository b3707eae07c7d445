/-! the class's plan -/
theorem fr_s1 {c : aI} {b a : Nat} {i t : Int32} (h : frI c b i t a = 1) (hn : ¬ (kd (c 44 a) = kd (c 44 b) ∧ c 56 a = i)) : frI c b i t (a + 1) = 1 := by
  simp only [frI]; rw [h, if_neg (by decide), if_neg hn]
theorem fr_s2 {c : aI} {b a j : Nat} {i t : Int32} (hj : j < 4) (h : frI c b i t a = 1) (ek : kd (c 44 b) = nI j) (hk : kd (c 44 a) = nI j) (hu : ¬ c 55 a < t + fT c j ∨ ¬ t < c 55 a + fT c j) : frI c b i t (a + 1) = 1 := by
  simp only [frI]
  rw [h, if_neg (by decide), fl_T ek hj, fl_T hk hj]
  split
  · split
    · rfl
    · rename_i h2
      rcases hu with q | q
      · rw [if_neg q]
      · exact absurd (Int32.not_lt.mp q) h2
  · rfl
theorem fr_s0 {c : aI} {b a j : Nat} {i t : Int32} (hj : j < 4) (h : frI c b i t a = 1) (ek : kd (c 44 b) = nI j) (hk : kd (c 44 a) = nI j) (hp : c 56 a = i) (h1 : c 55 a < t + fT c j) (h2 : t < c 55 a + fT c j) : frI c b i t (a + 1) = 0 := by
  simp only [frI]
  rw [h, if_neg (by decide), fl_T ek hj, fl_T hk hj, if_pos ⟨hk.trans ek.symm, hp⟩, if_neg (Int32.not_le.mpr h2), if_pos h1]
theorem fr_z {c : aI} {b a : Nat} {i t : Int32} (h : frI c b i t a = 0) : ∀ m, a ≤ m → frI c b i t m = 0
  | 0, hm => by obtain rfl : a = 0 := by omega
                exact h
  | m + 1, hm => by
    by_cases e : a = m + 1
    · subst e; exact h
    · simp only [frI]; rw [fr_z h m (by omega), if_pos rfl]
/-- only place b of TICKS and PARTS differs -/
def SB (ci ci' : aI) (b : Nat) : Prop := (∀ k, ¬ k = 11 → ¬ k = 12 → ci' k = ci k) ∧ ∀ a, ¬ a = b → ci' 11 a = ci 11 a ∧ ci' 12 a = ci 12 a
theorem SB.up {ci ci' : aI} {b : Nat} {v w : Int32} (h : SB ci ci' b) : SB ci (up2 (up2 ci' 11 b v) 12 b w) b := by
  refine ⟨fun k h1 h2 => (up2_k _ _ _ h2).trans ((up2_k _ _ _ h1).trans (h.1 k h1 h2)), fun a ha => ⟨?_, ?_⟩⟩
  · rw [up2_k _ _ _ (by decide), up2_j _ _ _ ha]; exact (h.2 a ha).1
  · rw [up2_j _ _ _ ha, up2_k _ _ _ (by decide)]; exact (h.2 a ha).2
theorem SB.rf {ci : aI} {b : Nat} : SB ci ci b := ⟨fun _ _ _ => rfl, fun _ _ => ⟨rfl, rfl⟩⟩
theorem sr_run {c : aI} {b np : Nat} {R : Nat} : ∀ (m f : Nat), (∀ m', m' < m → ¬ 0 ≤ fpF c b (nI (R + m')) np 0) → sr c b np (m + f) (nI R) = sr c b np f (nI (R + m))
  | 0, f, _ => by rw [Nat.zero_add]; rfl
  | m + 1, f, h => by
    rw [show m + 1 + f = m + (f + 1) by omega, sr_run m (f + 1) (fun m' hm => h m' (by omega))]
    simp only [sr]
    rw [if_neg (h m (by omega)), nI_1]
    rfl
theorem sr_at {c : aI} {b np f : Nat} {R m : Nat} (hm : m ≤ f) (h : ∀ m', m' < m → ¬ 0 ≤ fpF c b (nI (R + m')) np 0) (h0 : 0 ≤ fpF c b (nI (R + m)) np 0) : sr c b np (f + 1) (nI R) = nI (R + m) := by
  rw [show f + 1 = m + (f - m + 1) by omega, sr_run m _ h]
  simp only [sr]
  rw [if_pos h0]
theorem fp_n2 {c : aI} {b : Nat} {t : Int32} : ∀ (k i : Nat), i + k ≤ 100 → fpF c b t k i = -2 ∨ 0 ≤ fpF c b t k i
  | 0, i, _ => Or.inl rfl
  | k + 1, i, h => by
    simp only [fpF]
    split
    · exact fp_n2 k (i + 1) (by omega)
    · exact Or.inr (nI_nn (by omega))
theorem kd_neg {o : Int32} (h : kd o < 0) : kd o = -2 := Classical.byContradiction fun q => kd_n2 q h
theorem nn_2 {x : Int32} (h : 0 ≤ x) : ¬ x = -2 := fun e => absurd (e ▸ h) (by decide : ¬ (0 : Int32) ≤ -2)
/-- the search is bounded: what laying needs of ACT b -/
def PLF (c : aI) (nu : Nat → Int64) (n : Nat) : Prop := ∀ b, b < n → ∃ R A np : Nat, askF (layC c (sC c nu) b) (sC c nu) b b = nI R ∧ layC c (sC c nu) b 43 16 = nI A ∧ R ≤ A ∧ A ≤ 200 ∧ (¬ kd (c 44 b) < 0 → c 49 (kd (c 44 b)).toNatClampNeg = nI np ∧ np ≤ 4 ∧ ∀ t, A ≤ t → t ≤ 1000 → 0 ≤ fpF (ly1 (layC c (sC c nu) b) (sC c nu) b) b (nI t) np 0)
theorem mx_AR {R A : Nat} (h : R ≤ A) (h2 : A ≤ 200) : (if nI A ≤ nI R then nI R else nI A) = nI A := by
  by_cases e : A ≤ R
  · rw [show R = A by omega]; exact ite_self _
  · rw [if_neg (nI_ge (by omega) (by omega))]
/-- the ACTS in order: g sorts them by TICK and number -/
def LX (T : Nat → Int32) (x y : Nat) : Prop := T x < T y ∨ (T x = T y ∧ x < y)
def OS (T : Nat → Int32) (g : Nat → Nat) (b : Nat) : Prop := (∀ i, i < b → g i < b) ∧ (∀ i j, i < j → j < b → LX T (g i) (g j)) ∧ ∀ x, x < b → ∃ i, i < b ∧ g i = x
def gI (g : Nat → Nat) (i b : Nat) : Nat → Nat := fun j => if j < i then g j else if j = i then b else g (j - 1)
theorem LX.tr {T : Nat → Int32} {x y z : Nat} (h : LX T x y) (h' : LX T y z) : LX T x z := by
  rcases h with h | ⟨h, h0⟩ <;> rcases h' with h' | ⟨h', h0'⟩
  · exact Or.inl (Int32.lt_trans h h')
  · exact Or.inl (h' ▸ h)
  · exact Or.inl (h ▸ h')
  · exact Or.inr ⟨h.trans h', by omega⟩
theorem OS.ins {T : Nat → Int32} {g : Nat → Nat} {i b : Nat} (h : OS T g b) (hi : i ≤ b) (h1 : ∀ j, i ≤ j → j < b → T b < T (g j)) (h2 : i = 0 ∨ ¬ T b < T (g (i - 1))) : OS T (gI g i b) (b + 1) := by
  obtain ⟨o1, o2, o3⟩ := h
  have hle : ∀ j, j < i → LX T (g j) b := by
    intro j hj
    have h3 : ¬ T b < T (g (i - 1)) := h2.resolve_left (by omega)
    have h4 : LX T (g (i - 1)) b := by
      have := o1 (i - 1) (by omega)
      by_cases e : T (g (i - 1)) = T b
      · exact Or.inr ⟨e, this⟩
      · exact Or.inl (by
          rcases Int32.lt_or_eq_of_le (Int32.not_lt.mp h3) with q | q
          · exact q
          · exact absurd q e)
    by_cases e : j = i - 1
    · subst e; exact h4
    · exact (o2 j (i - 1) (by omega) (by omega)).tr h4
  refine ⟨fun j hj => ?_, fun j k hjk hk => ?_, fun x hx => ?_⟩
  · unfold gI
    split
    · have := o1 j (by omega); omega
    · split
      · omega
      · have := o1 (j - 1) (by omega); omega
  · unfold gI
    by_cases a1 : j < i
    · rw [if_pos a1]
      by_cases a2 : k < i
      · rw [if_pos a2]; exact o2 j k hjk (by omega)
      · rw [if_neg a2]
        by_cases a3 : k = i
        · rw [if_pos a3]; exact hle j a1
        · rw [if_neg a3]; exact o2 j (k - 1) (by omega) (by omega)
    · rw [if_neg a1, if_neg (by omega : ¬ k < i)]
      by_cases a2 : j = i
      · rw [if_pos a2, if_neg (by omega : ¬ k = i)]
        exact Or.inl (h1 (k - 1) (by omega) (by omega))
      · rw [if_neg a2, if_neg (by omega : ¬ k = i)]; exact o2 (j - 1) (k - 1) (by omega) (by omega)
  · by_cases e : x = b
    · exact ⟨i, by omega, by unfold gI; rw [if_neg (by omega), if_pos rfl]; exact e.symm⟩
    · obtain ⟨j, hj, ej⟩ := o3 x (by omega)
      by_cases a1 : j < i
      · exact ⟨j, by omega, by unfold gI; rw [if_pos a1]; exact ej⟩
      · exact ⟨j + 1, by omega, by unfold gI; rw [if_neg (by omega), if_neg (by omega)]; exact ej⟩
/-- the class's order array holds g -/
def OA (ci : aI) (g : Nat → Nat) (b : Nat) : Prop := OS (ci 11) g b ∧ ∀ i, i < b → ci 13 i = nI (g i)
/-- in the midst of an insertion: places below i are g's, those behind are moved by one -/
def OM (ci ci' : aI) (g : Nat → Nat) (i b : Nat) : Prop := (∀ k, ¬ k = 13 → ci' k = ci k) ∧ (∀ j, j < i → ci' 13 j = nI (g j)) ∧ (∀ j, i < j → j ≤ b → ci' 13 j = nI (g (j - 1))) ∧ ∀ j, i ≤ j → j < b → ci 11 b < ci 11 (g j)
theorem OM_0 {ci : aI} {g : Nat → Nat} {b : Nat} (h : OA ci g b) : OM ci ci g b b := ⟨fun _ _ => rfl, h.2, fun j h1 h2 => by omega, fun j h1 h2 => by omega⟩
theorem OM_s {ci ci' : aI} {g : Nat → Nat} {i b : Nat} {v : Int32} (h : OM ci ci' g (i + 1) b) (hv : v = nI (g i)) (h2 : ci 11 b < ci 11 (g i)) : OM ci (up2 ci' 13 (i + 1) v) g i b := by
  obtain ⟨m1, m2, m3, m4⟩ := h
  refine ⟨fun k hk => (up2_k _ _ _ hk).trans (m1 k hk), fun j hj => ?_, fun j hj hb => ?_, fun j hj hb => ?_⟩
  · rw [up2_j _ _ _ (by omega)]; exact m2 j (by omega)
  · by_cases e : j = i + 1
    · subst e; rw [up2_s, hv]; rfl
    · rw [up2_j _ _ _ e]; exact m3 j (by omega) hb
  · by_cases e : j = i
    · subst e; exact h2
    · exact m4 j (by omega) hb
theorem OM_e {ci ci' : aI} {g : Nat → Nat} {i b : Nat} (hO : OA ci g b) (hi : i ≤ b) (h : OM ci ci' g i b) (h2 : i = 0 ∨ ¬ ci 11 b < ci 11 (g (i - 1))) : OA (up2 ci' 13 i (nI b)) (gI g i b) (b + 1) := by
  obtain ⟨m1, m2, m3, m4⟩ := h
  refine ⟨?_, fun j hj => ?_⟩
  · rw [up2_k _ _ _ (by decide), m1 11 (by decide)]
    exact hO.1.ins hi m4 h2
  · unfold gI
    by_cases a1 : j < i
    · rw [if_pos a1, up2_j _ _ _ (by omega)]; exact m2 j a1
    · rw [if_neg a1]
      by_cases a2 : j = i
      · rw [if_pos a2, a2, up2_s]
      · rw [if_neg a2, up2_j _ _ _ a2]; exact m3 j (by omega) (by omega)
theorem nI_npos {k : Nat} (h : 0 < k) (h2 : k < 2 ^ 31) : ¬ nI k ≤ 0 := nI_ge (a := 0) (b := k) h h2
/-- the first b ACTS are laid in the class as c's plan lays them -/
def LA (c : aI) (l : aL) (ci ci' : aI) (b : Nat) : Prop := (∀ a, a < b → ci' 11 a = layC c l b 55 a ∧ ci' 12 a = layC c l b 56 a) ∧ ci' 10 6 = layC c l b 43 16 ∧ (∃ g, OA ci' g b) ∧ ∀ k, ¬ k = 10 → ¬ k = 11 → ¬ k = 12 → ¬ k = 13 → ci' k = ci k
theorem sm_lay (c : aI) (l : aL) (b : Nat) : sm c (layC c l b) := sm.of fun k h1 h2 _ => (lay_sm c l b).1 k (by omega) (by omega) (by omega) (by omega)
theorem sm_ly1 (c : aI) (l : aL) (b : Nat) : sm c (ly1 c l b) := (sm.up (by decide)).tr (sm.up (by decide))
theorem LA_0 {c : aI} {l : aL} {ci : aI} (h0 : c 43 16 = 0) : LA c l ci (up2 ci 10 6 0) 0 := ⟨fun a h => by omega, by rw [up2_s]; exact h0.symm, ⟨fun _ => 0, ⟨fun i h => by omega, fun i j _ h => by omega, fun x h => by omega⟩, fun i h => by omega⟩, fun k h1 _ _ _ => up2_k _ _ _ h1⟩
theorem lyS_k {c : aI} {l : aL} {b a : Nat} (h : ¬ a = b) : lyS c l b 55 a = c 55 a ∧ lyS c l b 56 a = c 56 a := by
  unfold lyS ly3 ly2 ly1
  constructor
  · rw [up2_k _ _ _ (by decide), up2_j _ _ _ h]
    split
    · rw [up2_k _ _ _ (by decide), up2_k _ _ _ (by decide)]
    · rw [up2_k _ _ _ (by decide), up2_k _ _ _ (by decide), up2_k _ _ _ (by decide)]
  · rw [up2_k _ _ _ (by decide), up2_k _ _ _ (by decide)]
    split
    · rw [up2_j _ _ _ h, up2_k _ _ _ (by decide)]
    · rw [up2_j _ _ _ h, up2_j _ _ _ h, up2_k _ _ _ (by decide)]
theorem lyS_b {c : aI} {l : aL} {b : Nat} : lyS c l b 55 b = lyT c l b ∧ lyS c l b 56 b = ly2 c l b 56 b := by
  unfold lyS ly3
  constructor
  · rw [up2_k _ _ _ (by decide), up2_s]
  · rw [up2_k _ _ _ (by decide), up2_k _ _ _ (by decide)]
theorem ly2_16 {c : aI} {l : aL} {b : Nat} : ly2 c l b 43 16 = c 43 16 := (by
  unfold ly2 ly1
  split
  · rw [up2_k _ _ _ (by decide), up2_k _ _ _ (by decide)]
  · rw [up2_k _ _ _ (by decide), up2_k _ _ _ (by decide), up2_k _ _ _ (by decide)])
theorem lyS_16 {c : aI} {l : aL} {b : Nat} : lyS c l b 43 16 = if lyT c l b + ln c b ≤ c 43 16 then c 43 16 else lyT c l b + ln c b := by
  have e : ln (ly3 c l b) b = ln c b := by
    refine (sm.of fun k h1 h2 h3 => ?_ : sm c (ly3 c l b)).ln b
    show up2 (ly2 c l b) 55 b _ k = _
    rw [up2_k _ _ _ (by omega)]
    exact (ly2_sm c l b).1 k (by omega) (by omega) (by omega) (by omega)
  unfold lyS
  rw [up2_s, e, ly2_16]
theorem LA_s {c : aI} {l : aL} {ci ci' c1 c2 : aI} {b : Nat} {g : Nat → Nat} (h : LA c l ci ci' b) (h1 : SB ci' c1 b) (ht : c1 11 b = lyT (layC c l b) l b) (hp : c1 12 b = ly2 (layC c l b) l b 56 b) (h2 : ∀ k, ¬ k = 13 → c2 k = up2 c1 10 6 (if c1 11 b + ln c b ≤ ci' 10 6 then ci' 10 6 else c1 11 b + ln c b) k) (hO : OA c2 g (b + 1)) : LA c l ci c2 (b + 1) := by
  obtain ⟨a1, a2, a3, a4⟩ := h
  refine ⟨fun a ha => ?_, ?_, ⟨g, hO⟩, fun k k1 k2 k3 k4 => ?_⟩
  · rw [h2 11 (by decide), h2 12 (by decide), up2_k _ _ _ (by decide), up2_k _ _ _ (by decide)]
    show c1 11 a = lyS (layC c l b) l b 55 a ∧ c1 12 a = lyS (layC c l b) l b 56 a
    by_cases e : a = b
    · subst e
      rw [lyS_b.1, lyS_b.2]
      exact ⟨ht, hp⟩
    · rw [(lyS_k e).1, (lyS_k e).2, (h1.2 a e).1, (h1.2 a e).2]
      exact a1 a (by omega)
  · rw [h2 10 (by decide), up2_s]
    show _ = lyS (layC c l b) l b 43 16
    rw [lyS_16, ht, a2, (sm_lay c l b).ln]
  · rw [h2 k k4, up2_k _ _ _ k1, h1.1 k k2 k3]
    exact a4 k k1 k2 k3 k4
theorem up_OA {c1 : aI} {g : Nat → Nat} {b : Nat} {v : Int32} (h : OA c1 g b) : OA (up2 c1 10 6 v) g b := by
  unfold OA; rw [up2_k _ _ _ (by decide), up2_k _ _ _ (by decide)]; exact h
theorem SB_OA {ci c1 : aI} {g : Nat → Nat} {b : Nat} (h : SB ci c1 b) (hO : OA ci g b) : OA c1 g b := by
  obtain ⟨⟨o1, o2, o3⟩, o4⟩ := hO
  refine ⟨⟨o1, fun i j hij hj => ?_, o3⟩, fun i hi => by rw [h.1 13 (by decide) (by decide)]; exact o4 i hi⟩
  have e1 := (h.2 (g i) (by have := o1 i (by omega); omega)).1
  have e2 := (h.2 (g j) (by have := o1 j hj; omega)).1
  unfold LX
  rw [e1, e2]
  exact o2 i j hij hj

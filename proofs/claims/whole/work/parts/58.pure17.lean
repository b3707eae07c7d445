/-! laying is bounded -/
def LEN (c : aI) : Prop := ∀ k, k < 4 → ∃ v, 1 ≤ v ∧ v ≤ 8 ∧ c 50 k = nI v
def PAR (c : aI) : Prop := ∀ k, k < 4 → ∃ v, 1 ≤ v ∧ v ≤ 4 ∧ c 49 k = nI v
theorem ln_b {c : aI} {a : Nat} (hL : LEN c) : ∃ v, v ≤ 8 ∧ ln c a = nI v ∧ (¬ c 44 a = 0 → 1 ≤ v) := by
  unfold ln
  by_cases h : kd (c 44 a) < 0
  · rw [if_pos h]
    by_cases h0 : c 44 a = 0
    · rw [if_pos h0]; exact ⟨0, by omega, rfl, fun q => absurd h0 q⟩
    · rw [if_neg h0]; exact ⟨1, by omega, rfl, fun _ => by omega⟩
  · rw [if_neg h]
    obtain ⟨k, hk, e⟩ := kd_in _ h
    obtain ⟨v, h1, h8, ev⟩ := hL k hk
    rw [e, nI_clamp (by omega)]
    exact ⟨v, h8, ev, fun _ => h1⟩
theorem fl_b {c : aI} {a v : Nat} (hL : LEN c) (hv : ln c a = nI v) (h8 : v ≤ 8) : ∃ u, u ≤ v ∧ fl c a = nI u := by
  unfold fl
  by_cases h : kd (c 44 a) < 0
  · rw [if_neg (Int32.not_le.mpr h)]; exact ⟨0, by omega, rfl⟩
  · rw [if_pos (Int32.not_lt.mp h)]
    obtain ⟨k, hk, e⟩ := kd_in _ h
    obtain ⟨w, w1, w8, ew⟩ := hL k hk
    have hvw : v = w := by
      unfold ln at hv
      rw [if_neg h, e, nI_clamp (by omega), ew] at hv
      exact ((nI_eq (by omega) (by omega)).mp hv).symm
    rw [e, nI_clamp (by omega)]
    by_cases hp : c 51 k = 0
    · rw [if_pos hp]; exact ⟨w, by omega, ew⟩
    · rw [if_neg hp]; exact ⟨1, by omega, rfl⟩
theorem nd_b {c : aI} {l : aL} {a b v : Nat} (hv : ln c a = nI v) (h8 : v ≤ 8) (h1 : ¬ c 44 a = 0 → 1 ≤ v) : ∃ k, k ≤ v ∧ nd c l a b = nI k := by
  unfold nd
  by_cases h : (isO c (nI a) b ∨ WT c a b) ∧ ¬ ln c a ≤ k1 c l a b
  · rw [if_pos h]; exact ⟨v, Nat.le_refl v, hv⟩
  · rw [if_neg h]
    unfold k1
    by_cases hd : (DR c a b ∧ MT c l a b) ∨ PT c a b
    · rw [if_pos hd]
      refine ⟨1, h1 (fun e0 => ?_), rfl⟩
      rcases hd with ⟨⟨q, -⟩, -⟩ | ⟨-, q, -⟩
      · rcases q with q | q <;> rw [e0] at q <;> exact absurd q (by decide)
      · rcases q with q | q <;> rw [e0] at q <;> exact absurd q (by decide)
    · rw [if_neg hd]; exact ⟨0, by omega, rfl⟩
/-- the first b ACTS end by ALL TICKS, A -/
def PL (c0 c : aI) (b A : Nat) : Prop := c 43 16 = nI A ∧ A ≤ 8 * b ∧ ∀ a, a < b → ∃ t v, c 55 a = nI t ∧ ln c0 a = nI v ∧ v ≤ 8 ∧ (¬ c0 44 a = 0 → 1 ≤ v) ∧ t + v ≤ A
theorem ask_b {c0 c : aI} {l : aL} {b A : Nat} (hs : sm c0 c) (hb : b ≤ 16) (h : PL c0 c b A) : ∀ m, m ≤ b → ∃ R, R ≤ A ∧ askF c l b m = nI R
  | 0, _ => ⟨0, by omega, rfl⟩
  | m + 1, hm => by
    obtain ⟨R, hR, e⟩ := ask_b (l := l) hs hb h m (by omega)
    obtain ⟨h16, hA, hT⟩ := h
    obtain ⟨t, v, e1, e2, h8, hv1, htv⟩ := hT m (by omega)
    obtain ⟨k, hk, ek⟩ := nd_b (c := c) (l := l) (a := m) (b := b) (v := v) (by rw [hs.ln]; exact e2) h8 (by rw [hs.1]; exact hv1)
    simp only [askF]
    rw [ek, e, e1, nI_add]
    split
    · exact ⟨R, hR, rfl⟩
    · split
      · exact ⟨R, hR, rfl⟩
      · exact ⟨t + k, by omega, rfl⟩
theorem fr_b {c0 c : aI} {b A t' : Nat} {i : Int32} (hs : sm c0 c) (hL : LEN c0) (hb : b ≤ 16) (h : PL c0 c b A) (ht : A ≤ t') (ht2 : t' ≤ 1000) : ∀ m, m ≤ b → frI c b i (nI t') m = 1
  | 0, _ => rfl
  | m + 1, hm => by
    have ih := fr_b (i := i) hs hL hb h ht ht2 m (by omega)
    obtain ⟨h16, hA, hT⟩ := h
    obtain ⟨t, v, e1, e2, h8, hv1, htv⟩ := hT m (by omega)
    obtain ⟨u, hu, eu⟩ := fl_b hL e2 h8
    simp only [frI]
    rw [ih, if_neg (by decide)]
    split
    · rw [e1, hs.fl, eu, nI_add, if_pos (nI_le (by omega) (by omega))]
    · rfl
theorem fp_b {c : aI} {b np : Nat} {t : Int32} (h1 : 1 ≤ np) (h : frI c b (nI 0) t b = 1) : 0 ≤ fpF c b t np 0 := by
  obtain ⟨k, rfl⟩ : ∃ k, np = k + 1 := ⟨np - 1, by omega⟩
  simp only [fpF]
  rw [if_neg (by rw [h]; decide)]
  exact nI_nn (by omega)
theorem least_ex {P : Nat → Prop} : ∀ f, (∃ m, m ≤ f ∧ P m) → ∃ m, m ≤ f ∧ P m ∧ ∀ q, q < m → ¬ P q
  | 0, ⟨m, h1, h2⟩ => ⟨0, by omega, by have : m = 0 := by omega
                                       subst this; exact h2, fun q hq => by omega⟩
  | f + 1, ⟨m, h1, h2⟩ => by
    by_cases h : ∃ m, m ≤ f ∧ P m
    · obtain ⟨m, a, b, d⟩ := least_ex f h
      exact ⟨m, by omega, b, d⟩
    · refine ⟨m, h1, h2, fun q hq hp => h ⟨q, by omega, hp⟩⟩
theorem ly1_PL {c0 c : aI} {l : aL} {b A : Nat} (h : PL c0 c b A) : PL c0 (ly1 c l b) b A := ⟨h.1, h.2.1, fun a ha => h.2.2 a ha⟩
theorem lyT_b {c0 c : aI} {l : aL} {b A : Nat} (hs : sm c0 c) (hL : LEN c0) (hP : PAR c0) (hb : b < 16) (h : PL c0 c b A) : ∃ R t np, askF c l b b = nI R ∧ R ≤ A ∧ lyT c l b = nI t ∧ t ≤ A ∧ (¬ kd (c0 44 b) < 0 → c0 49 (kd (c0 44 b)).toNatClampNeg = nI np ∧ 1 ≤ np ∧ np ≤ 4 ∧ ∀ t', A ≤ t' → t' ≤ 1000 → 0 ≤ fpF (ly1 c l b) b (nI t') np 0) := by
  obtain ⟨R, hR, eR⟩ := ask_b (l := l) hs (by omega) h b (Nat.le_refl b)
  have hA : A ≤ 128 := by have := h.2.1; omega
  have e44 : ly1 c l b 44 b = c0 44 b := by show c 44 b = _; rw [hs.1]
  by_cases hk : kd (c0 44 b) < 0
  · refine ⟨R, R, 0, eR, hR, ?_, hR, fun q => absurd hk q⟩
    unfold lyT
    rw [e44, if_pos hk, eR]
  · obtain ⟨k, hk4, ek⟩ := kd_in _ hk
    obtain ⟨np, p1, p4, ep⟩ := hP k hk4
    have hfr : ∀ t', A ≤ t' → t' ≤ 1000 → 0 ≤ fpF (ly1 c l b) b (nI t') np 0 := fun t' h1 h2 => fp_b p1 (fr_b (hs.tr (sm_ly1 c l b)) hL (by omega) (ly1_PL h) h1 h2 b (Nat.le_refl b))
    have hnp : npF (ly1 c l b) b = np := by
      show (c 49 (kd (ly1 c l b 44 b)).toNatClampNeg).toNatClampNeg = np
      rw [e44, ek, nI_clamp (by omega), hs.2.2.2.2.1, ep, nI_clamp (by omega)]
    obtain ⟨m, hm, hm1, hm2⟩ := least_ex (P := fun m => 0 ≤ fpF (ly1 c l b) b (nI (R + m)) np 0) (A - R) ⟨A - R, Nat.le_refl _, hfr (R + (A - R)) (by omega) (by omega)⟩
    refine ⟨R, R + m, np, eR, hR, ?_, by omega, fun _ => ⟨by rw [ek, nI_clamp (by omega)]; exact ep, p1, p4, hfr⟩⟩
    unfold lyT
    rw [e44, if_neg hk, eR, hnp]
    exact sr_at (by omega) hm2 hm1
theorem PL_s {c0 c : aI} {l : aL} {b A : Nat} (hs : sm c0 c) (hL : LEN c0) (hP : PAR c0) (hb : b < 16) (h : PL c0 c b A) : ∃ A', PL c0 (lyS c l b) (b + 1) A' := by
  obtain ⟨R, t, np, -, -, et, ht, -⟩ := lyT_b (l := l) hs hL hP hb h
  obtain ⟨v, h8, ev, hv1⟩ := ln_b (c := c0) (a := b) hL
  obtain ⟨h16, hA, hT⟩ := h
  have e16 : lyS c l b 43 16 = if nI (t + v) ≤ nI A then nI A else nI (t + v) := by rw [lyS_16, et, hs.ln, ev, h16, nI_add]
  have rest : ∀ A', A ≤ A' → t + v ≤ A' → ∀ a, a < b + 1 → ∃ t v, lyS c l b 55 a = nI t ∧ ln c0 a = nI v ∧ v ≤ 8 ∧ (¬ c0 44 a = 0 → 1 ≤ v) ∧ t + v ≤ A' := by
    intro A' h1 h2 a ha
    by_cases e : a = b
    · subst e; exact ⟨t, v, by rw [lyS_b.1, et], ev, h8, hv1, h2⟩
    · obtain ⟨t2, v2, a1, a2, a3, a4, a5⟩ := hT a (by omega)
      exact ⟨t2, v2, by rw [(lyS_k e).1, a1], a2, a3, a4, by omega⟩
  by_cases q : t + v ≤ A
  · rw [if_pos (nI_le q (by omega))] at e16
    exact ⟨A, e16, by omega, rest A (Nat.le_refl A) q⟩
  · rw [if_neg (nI_ge (by omega) (by omega))] at e16
    exact ⟨t + v, e16, by omega, rest (t + v) (by omega) (Nat.le_refl _)⟩
theorem PL_n {c : aI} {l : aL} {n : Nat} (h0 : c 43 16 = 0) (hL : LEN c) (hP : PAR c) (hn : n ≤ 16) : ∀ b, b ≤ n → ∃ A, PL c (layC c l b) b A
  | 0, _ => ⟨0, h0, by omega, fun a ha => by omega⟩
  | b + 1, hb => by
    obtain ⟨A, h⟩ := PL_n (l := l) h0 hL hP hn b (by omega)
    exact PL_s (sm_lay c l b) hL hP (by omega) h
theorem PLF_of {c : aI} {nu : Nat → Int64} {n : Nat} (h0 : c 43 16 = 0) (hL : LEN c) (hP : PAR c) (hn : n ≤ 16) : PLF c nu n := by
  intro b hb
  obtain ⟨A, h⟩ := PL_n (l := sC c nu) h0 hL hP hn b (by omega)
  obtain ⟨R, t, np, eR, hR, -, -, hnp⟩ := lyT_b (l := sC c nu) (sm_lay c (sC c nu) b) hL hP (by omega) h
  have hA := h.2.1
  exact ⟨R, A, np, eR, h.1, hR, by omega, fun q => ⟨(hnp q).1, (hnp q).2.2.1, (hnp q).2.2.2⟩⟩
/-- what the reference's lay takes for granted -/
theorem lay_fi {c : aI} {l : aL} {n : Nat} (h0 : c 43 16 = 0) (hL : LEN c) (hP : PAR c) (hn : n ≤ 16) : ∀ b, b < n → ¬ kd (c 44 b) < 0 → ∀ np, c 49 (kd (c 44 b)).toNatClampNeg = nI np → np < 2 ^ 31 → 0 ≤ fpF (ly1 (layC c l b) l b) b (askF (layC c l b) l b b + nI 200) np 0 := by
  intro b hb hk np hnp hlt
  obtain ⟨A, h⟩ := PL_n (l := l) h0 hL hP hn b (by omega)
  obtain ⟨R, t, np', eR, hR, -, -, hq⟩ := lyT_b (l := l) (sm_lay c l b) hL hP (by omega) h
  obtain ⟨q1, q2, q3, q4⟩ := hq hk
  have e : np = np' := (nI_eq hlt (by omega)).mp (hnp.symm.trans q1)
  have hA := h.2.1
  rw [eR, nI_add, e]
  exact q4 (R + 200) (by omega) (by omega)
theorem lay_T {c : aI} {l : aL} {n : Nat} (h0 : c 43 16 = 0) (hL : LEN c) (hP : PAR c) (hn : n ≤ 16) : ∃ T, T ≤ 128 ∧ layC c l n 43 16 = nI T ∧ LT (layC c l n) n (T + 1) ∧ ∀ a, a < n → ∃ t, t ≤ T ∧ layC c l n 55 a = nI t := by
  obtain ⟨A, h⟩ := PL_n (l := l) h0 hL hP hn n (Nat.le_refl n)
  obtain ⟨h16, hA, hT⟩ := h
  refine ⟨A, by omega, h16, fun a ha _ => ?_, fun a ha => ?_⟩
  · obtain ⟨t, v, e1, e2, -, -, h2⟩ := hT a ha
    refine ⟨t + v, by omega, ?_⟩
    unfold lbN
    rw [e1, (sm_lay c l n).ln, e2, nI_add]
  · obtain ⟨t, v, e1, -, -, -, h2⟩ := hT a ha
    exact ⟨t, by omega, e1⟩
/-! spans as the reference finds them, and as the class has them -/
def LSp (c : aI) (nu : Nat → Int64) (l : aL) (n : Nat) : Prop := ∀ i, i < n → l 61 i = SL c nu i ∧ l 62 i = SH c nu i
theorem LSp_s {c : aI} {nu : Nat → Int64} {n : Nat} : LSp c nu (sC c nu) n := fun i _ => ⟨rfl, rfl⟩
theorem nd_l {c : aI} {nu : Nat → Int64} {l l' : aL} {n a b : Nat} (hn : n ≤ 16) (ha : a < n) (hb : b < n) (wa : WF c a) (wb : WF c b) (h : LSp c nu l n) (h' : LSp c nu l' n) : nd c l a b = nd c l' a b := by
  have e : k1 c l a b = k1 c l' a b := by
    unfold k1
    by_cases hd : DR c a b
    · obtain ⟨x, hx, ex⟩ := wa.o (by omega) hd.1
      obtain ⟨y, hy, ey⟩ := wb.o (by omega) hd.2.1
      have hx' : x < n := by
        obtain ⟨x2, h2, e2⟩ := wa.x (by rcases hd.1 with q | q <;> rw [q] <;> decide) (by rcases hd.1 with q | q <;> rw [q] <;> decide)
        have := (nI_eq (by omega) (by omega)).mp (ex.symm.trans e2)
        omega
      have hy' : y < n := by
        obtain ⟨x2, h2, e2⟩ := wb.x (by rcases hd.2.1 with q | q <;> rw [q] <;> decide) (by rcases hd.2.1 with q | q <;> rw [q] <;> decide)
        have := (nI_eq (by omega) (by omega)).mp (ey.symm.trans e2)
        omega
      have em : MT c l a b ↔ MT c l' a b := by
        unfold MT
        rw [ex, ey, nI_clamp (by omega), nI_clamp (by omega), (h x hx').1, (h x hx').2, (h y hy').1, (h y hy').2, (h' x hx').1, (h' x hx').2, (h' y hy').1, (h' y hy').2]
      by_cases q : (DR c a b ∧ MT c l a b) ∨ PT c a b
      · rw [if_pos q, if_pos (q.imp (fun z => ⟨z.1, em.mp z.2⟩) id)]
      · rw [if_neg q, if_neg (fun y => q (y.imp (fun z => ⟨z.1, em.mpr z.2⟩) id))]
    · by_cases q : PT c a b
      · rw [if_pos (Or.inr q), if_pos (Or.inr q)]
      · rw [if_neg (fun y => y.elim (fun z => hd z.1) q), if_neg (fun y => y.elim (fun z => hd z.1) q)]
  unfold nd
  rw [e]
theorem ask_l {c0 c : aI} {nu : Nat → Int64} {l l' : aL} {n b : Nat} (hs : sm c0 c) (hn : n ≤ 16) (hb : b < n) (w : ∀ i, i < n → WF c0 i) (h : LSp c0 nu l n) (h' : LSp c0 nu l' n) : ∀ m, m ≤ b → askF c l b m = askF c l' b m
  | 0, _ => rfl
  | m + 1, hm => by
    simp only [askF]
    rw [ask_l hs hn hb w h h' m (by omega), hs.nd, hs.nd, nd_l hn (by omega) hb (w m (by omega)) (w b hb) h h']
theorem jb_l {c0 c : aI} {nu : Nat → Int64} {l l' : aL} {n b : Nat} (hs : sm c0 c) (hn : n ≤ 16) (hb : b < n) (w : ∀ i, i < n → WF c0 i) (h : LSp c0 nu l n) (h' : LSp c0 nu l' n) : ∀ k a, a + k = b → jbF c l b k a = jbF c l' b k a
  | 0, _, _ => rfl
  | k + 1, a, hk => by
    simp only [jbF]
    rw [jb_l hs hn hb w h h' k (a + 1) (by omega), hs.nd, hs.nd, nd_l hn (by omega) hb (w a (by omega)) (w b hb) h h']
theorem lyS_l {c0 c : aI} {nu : Nat → Int64} {l l' : aL} {n b : Nat} (hs : sm c0 c) (hn : n ≤ 16) (hb : b < n) (w : ∀ i, i < n → WF c0 i) (h : LSp c0 nu l n) (h' : LSp c0 nu l' n) : lyS c l b = lyS c l' b := by
  have e := ask_l hs hn hb w h h' b (Nat.le_refl b)
  unfold lyS ly3 ly2 lyT ly1
  rw [e]
theorem lay_l {c : aI} {nu : Nat → Int64} {l l' : aL} {n : Nat} (hn : n ≤ 16) (w : ∀ i, i < n → WF c i) (h : LSp c nu l n) (h' : LSp c nu l' n) : ∀ b, b ≤ n → layC c l b = layC c l' b
  | 0, _ => rfl
  | b + 1, hb => by
    show lyS (layC c l b) l b = lyS (layC c l' b) l' b
    rw [lay_l hn w h h' b (by omega)]
    exact lyS_l (sm_lay c l' b) hn (by omega) w h h'
theorem ft_l {c : aI} {nu : Nat → Int64} {l l' : aL} {n : Nat} (hn : n ≤ 16) (w : ∀ i, i < n → WF c i) (h : LSp c nu l n) (h' : LSp c nu l' n) : ∀ b, b ≤ n → ftC c l b = ftC c l' b ∧ ftA c l b = ftA c l' b
  | 0, _ => ⟨rfl, rfl⟩
  | b + 1, hb => by
    obtain ⟨i1, i2⟩ := ft_l hn w h h' b (by omega)
    have e := ask_l (l := l) (l' := l') (sm_ft c l' b) hn (by omega : b < n) w h h' b (Nat.le_refl b)
    have e1 : ftC c l (b + 1) = ftC c l' (b + 1) := by
      show up2 (ftC c l b) 55 b _ = up2 (ftC c l' b) 55 b _
      rw [i1, e]
    refine ⟨e1, ?_⟩
    simp only [ftA]
    rw [e1, i2, i1, e]
/-! a plan depends on the block alone -/
theorem sm.kd {c c' : aI} (h : sm c c') (a : Nat) : c' 44 a = c 44 a := by rw [h.1]
/-- c and c' lie alike as far as the first b ACTS go -/
def LK (c c' : aI) (b : Nat) : Prop := sm c c' ∧ c' 43 16 = c 43 16 ∧ ∀ a, a < b → c' 55 a = c 55 a ∧ c' 56 a = c 56 a ∧ c' 63 a = c 63 a
theorem ask_k {c c' : aI} {l : aL} {b : Nat} (h : LK c c' b) : ∀ m, m ≤ b → askF c' l b m = askF c l b m
  | 0, _ => rfl
  | m + 1, hm => by
    simp only [askF]
    rw [ask_k h m (by omega), h.1.nd, (h.2.2 m (by omega)).1]
theorem fr_k {c c' : aI} {b : Nat} {i t : Int32} (h : LK c c' b) : ∀ m, m ≤ b → frI c' b i t m = frI c b i t m
  | 0, _ => rfl
  | m + 1, hm => by
    simp only [frI]
    rw [fr_k h m (by omega), (h.2.2 m (by omega)).1, (h.2.2 m (by omega)).2.1, h.1.fl, h.1.fl, h.1.1]
theorem fp_k {c c' : aI} {b : Nat} {t : Int32} (h : LK c c' b) : ∀ k i, fpF c' b t k i = fpF c b t k i
  | 0, _ => rfl
  | k + 1, i => by
    simp only [fpF]
    rw [fp_k h k (i + 1), fr_k h b (Nat.le_refl b)]
theorem sr_k {c c' : aI} {b np : Nat} (h : LK c c' b) : ∀ f t, sr c' b np f t = sr c b np f t
  | 0, _ => rfl
  | f + 1, t => by
    simp only [sr]
    rw [fp_k h, sr_k h f]
theorem sm.sy {c c' : aI} (h : sm c c') : sm c' c := ⟨h.1.symm, h.2.1.symm, h.2.2.1.symm, h.2.2.2.1.symm, h.2.2.2.2.1.symm, h.2.2.2.2.2.1.symm, h.2.2.2.2.2.2.symm⟩
theorem ly1_a {c : aI} {l : aL} {b a : Nat} (h : ¬ a = b) : ly1 c l b 55 a = c 55 a ∧ ly1 c l b 56 a = c 56 a ∧ ly1 c l b 63 a = c 63 a := by
  refine ⟨?_, ?_, ?_⟩
  · show up2 (up2 c 63 b _) 56 b _ 55 a = _
    rw [up2_k _ _ _ (by decide), up2_k _ _ _ (by decide)]
  · show up2 (up2 c 63 b _) 56 b _ 56 a = _
    rw [up2_j _ _ _ h, up2_k _ _ _ (by decide)]
  · show up2 (up2 c 63 b _) 56 b _ 63 a = _
    rw [up2_k _ _ _ (by decide), up2_j _ _ _ h]
theorem ly1_k {c c' : aI} {l : aL} {b : Nat} (h : LK c c' b) : LK (ly1 c l b) (ly1 c' l b) b := by
  refine ⟨((sm_ly1 c l b).sy.tr h.1).tr (sm_ly1 c' l b), h.2.1, fun a ha => ?_⟩
  obtain ⟨a1, a2, a3⟩ := h.2.2 a ha
  obtain ⟨b1, b2, b3⟩ := ly1_a (c := c) (l := l) (b := b) (a := a) (by omega)
  obtain ⟨d1, d2, d3⟩ := ly1_a (c := c') (l := l) (b := b) (a := a) (by omega)
  exact ⟨d1.trans (a1.trans b1.symm), d2.trans (a2.trans b2.symm), d3.trans (a3.trans b3.symm)⟩
theorem np_k {c c' : aI} {l : aL} {b : Nat} (h : LK c c' b) : ly1 c' l b 44 b = ly1 c l b 44 b ∧ npF (ly1 c' l b) b = npF (ly1 c l b) b := by
  have e44 : ly1 c' l b 44 b = ly1 c l b 44 b := congrFun (ly1_k h).1.1 b
  refine ⟨e44, ?_⟩
  unfold npF
  rw [e44, (ly1_k (l := l) h).1.2.2.2.2.1]
theorem lyT_k {c c' : aI} {l : aL} {b : Nat} (h : LK c c' b) : lyT c' l b = lyT c l b := by
  obtain ⟨e44, en⟩ := np_k (l := l) h
  unfold lyT
  rw [e44, en, ask_k h b (Nat.le_refl b), sr_k (ly1_k h)]
theorem ly2_k {c c' : aI} {l : aL} {b : Nat} (h : LK c c' b) : ly2 c' l b 56 b = ly2 c l b 56 b := by
  obtain ⟨e44, en⟩ := np_k (l := l) h
  unfold ly2
  rw [e44]
  split
  · show up2 (up2 c' 63 b _) 56 b _ 56 b = up2 (up2 c 63 b _) 56 b _ 56 b
    rw [up2_s, up2_s]
  · rw [up2_s, up2_s, lyT_k h, en, fp_k (ly1_k h)]
theorem lyS_63 {c : aI} {l : aL} {b a : Nat} : lyS c l b 63 a = if a = b then askF c l b b else c 63 a := by
  have e : lyS c l b 63 = ly1 c l b 63 := by
    unfold lyS
    rw [up2_k _ _ _ (by decide)]
    show up2 (ly2 c l b) 55 b _ 63 = _
    rw [up2_k _ _ _ (by decide)]
    unfold ly2
    split
    · rfl
    · rw [up2_k _ _ _ (by decide)]
  rw [e]
  show up2 (up2 c 63 b _) 56 b _ 63 a = _
  rw [up2_k _ _ _ (by decide)]
  by_cases q : a = b
  · subst q; rw [if_pos rfl, up2_s]
  · rw [if_neg q, up2_j _ _ _ q]
theorem sm_lyS (c : aI) (l : aL) (b : Nat) : sm c (lyS c l b) := sm.of fun k h1 h2 _ => (lyS_sm c l b).1 k (by omega) (by omega) (by omega) (by omega)
theorem lyS_LK {c c' : aI} {l : aL} {b : Nat} (h : LK c c' b) : LK (lyS c l b) (lyS c' l b) (b + 1) := by
  refine ⟨((sm_lyS c l b).sy.tr h.1).tr (sm_lyS c' l b), ?_, fun a ha => ?_⟩
  · rw [lyS_16, lyS_16, lyT_k h, h.1.ln, h.2.1]
  · by_cases q : a = b
    · subst q
      refine ⟨?_, ?_, ?_⟩
      · rw [lyS_b.1, lyS_b.1, lyT_k h]
      · rw [lyS_b.2, lyS_b.2, ly2_k h]
      · rw [lyS_63, lyS_63, if_pos rfl, if_pos rfl, ask_k h a (Nat.le_refl a)]
    · obtain ⟨a1, a2, a3⟩ := h.2.2 a (by omega)
      refine ⟨?_, ?_, ?_⟩
      · rw [(lyS_k q).1, (lyS_k q).1, a1]
      · rw [(lyS_k q).2, (lyS_k q).2, a2]
      · rw [lyS_63, lyS_63, if_neg q, if_neg q, a3]
theorem lay_k {c c' : aI} {l : aL} (h : sm c c') (h16 : c' 43 16 = c 43 16) : ∀ b, LK (layC c l b) (layC c' l b) b
  | 0 => ⟨h, h16, fun a ha => by omega⟩
  | b + 1 => lyS_LK (lay_k h h16 b)
/-! REGISTERS depend on the block and on the TICKS alone -/
def RK (c c' : aI) (n : Nat) : Prop := sm c c' ∧ c' 43 18 = c 43 18 ∧ ∀ a, a < n → c' 55 a = c 55 a ∧ c' 57 a = c 57 a
theorem sm.us {c c' : aI} (h : sm c c') (a : Nat) : ∀ j, usI c' a j = usI c a j
  | 0 => rfl
  | j + 1 => by
    have e : (isO c' (nI a) (a + 1 + j)) = (isO c (nI a) (a + 1 + j)) := by simp only [isO, h.2.2.1]
    simp only [usI]
    rw [sm.us h a j, bI_iff (Eq.to_iff e)]
theorem sm.usd {c c' : aI} (h : sm c c') (n a : Nat) : usd c' n a ↔ usd c n a := by
  unfold _root_.Jvm.Pilot.@@N@@.usd
  rw [h.us, h.1]
theorem RK.lb {c c' : aI} {n a : Nat} (h : RK c c' n) (ha : a < n) : lbN c' a = lbN c a := by unfold lbN; rw [h.1.ln, (h.2.2 a ha).1]
theorem RK.leF {c c' : aI} {n a : Nat} (h : RK c c' n) : ∀ j, a + 1 + j ≤ n → leF c' a j = leF c a j
  | 0, _ => rfl
  | j + 1, hj => by
    have e : (isO c' (nI a) (a + 1 + j)) ↔ (isO c (nI a) (a + 1 + j)) := by simp only [isO, h.1.2.2.1]
    simp only [_root_.Jvm.Pilot.@@N@@.leF]
    rw [RK.leF h j (by omega), (h.2.2 (a + 1 + j) (by omega)).1]
    by_cases q : isO c (nI a) (a + 1 + j)
    · rw [if_pos q, if_pos (e.mpr q)]
    · rw [if_neg q, if_neg (fun z => q (e.mp z))]
theorem RK.le {c c' : aI} {n a : Nat} (h : RK c c' n) (ha : a < n) : leN c' n a = leN c n a := RK.leF h _ (by omega)
theorem RK.mr {c c' : aI} {n a r : Nat} (h : RK c c' n) (ha : a < n) : ∀ m, m ≤ n → mrI c' n a r m = mrI c n a r m
  | 0, _ => rfl
  | m + 1, hm => by
    simp only [mrI]
    rw [RK.mr h ha m (by omega), (h.2.2 m (by omega)).2]
    have e : tog c' n a m ↔ tog c n a m := by
      unfold tog
      rw [h.le (by omega : m < n), h.le ha, h.lb (by omega : m < n), h.lb ha]
    by_cases q : tog c n a m
    · rw [if_pos q, if_pos (e.mpr q)]
    · rw [if_neg q, if_neg (fun z => q (e.mp z))]
theorem RK.rg {c c' : aI} {n a : Nat} (h : RK c c' n) (ha : a < n) : ∀ k r, rgF c' n a k r = rgF c n a k r
  | 0, _ => rfl
  | k + 1, r => by
    simp only [rgF]
    rw [h.mr ha n (Nat.le_refl n), RK.rg h ha k (r + 1)]
theorem RK.asg {c c' : aI} {n a : Nat} (h : RK c c' n) (ha : a < n) : RK (asg n c a) (asg n c' a) n := by
  refine ⟨?_, ?_, fun b hb => ?_⟩
  · have e1 : sm c (_root_.Jvm.Pilot.@@N@@.asg n c a) := (sm.up (by decide)).tr (sm.up (by decide))
    have e2 : sm c' (_root_.Jvm.Pilot.@@N@@.asg n c' a) := (sm.up (by decide)).tr (sm.up (by decide))
    exact (e1.sy.tr h.1).tr e2
  · unfold _root_.Jvm.Pilot.@@N@@.asg
    rw [up2_s, up2_s, h.rg ha, h.2.1]
  · obtain ⟨b1, b2⟩ := h.2.2 b hb
    unfold _root_.Jvm.Pilot.@@N@@.asg
    refine ⟨?_, ?_⟩
    · rw [up2_k _ _ _ (by decide), up2_k _ _ _ (by decide), up2_k _ _ _ (by decide), up2_k _ _ _ (by decide), b1]
    · rw [up2_k _ _ _ (by decide), up2_k (up2 c 57 a _) _ _ (by decide), h.rg ha]
      by_cases q : b = a
      · subst q; rw [up2_s, up2_s]
      · rw [up2_j _ _ _ q, up2_j _ _ _ q, b2]
theorem RK.fold {n : Nat} : ∀ (L : List Nat) {c c' : aI}, RK c c' n → (∀ a ∈ L, a < n) → RK (L.foldl (_root_.Jvm.Pilot.@@N@@.asg n) c) (L.foldl (_root_.Jvm.Pilot.@@N@@.asg n) c') n
  | [], _, _, h, _ => h
  | a :: L, c, c', h, hL => RK.fold L (h.asg (hL a List.mem_cons_self)) (fun b hb => hL b (List.mem_cons_of_mem _ hb))
theorem uin_c {P Q : Nat → Bool} {n : Nat} (h : ∀ a, a < n → P a = Q a) : ∀ m, m ≤ n → uin P m = uin Q m
  | 0, _ => rfl
  | m + 1, hm => by
    simp only [uin]
    rw [uin_c h m (by omega), h m (by omega)]
theorem uou_c {P Q : Nat → Nat → Bool} {n : Nat} (h : ∀ t a, a < n → P t a = Q t a) : ∀ T, uou P n T = uou Q n T
  | 0 => rfl
  | T + 1 => by
    simp only [uou]
    rw [uou_c h T, uin_c (h T) n (Nat.le_refl n)]
theorem uin_lt {P : Nat → Bool} : ∀ m a, a ∈ uin P m → a < m
  | 0, a, h => by cases h
  | m + 1, a, h => by
    simp only [uin] at h
    rcases List.mem_append.mp h with q | q
    · have := uin_lt m a q; omega
    · split at q
      · have := List.mem_singleton.mp q; omega
      · cases q
theorem uou_lt {P : Nat → Nat → Bool} {n : Nat} : ∀ T a, a ∈ uou P n T → a < n
  | 0, a, h => by cases h
  | T + 1, a, h => by
    simp only [uou] at h
    rcases List.mem_append.mp h with q | q
    · exact uou_lt T a q
    · exact uin_lt n a q
theorem RK.rou {c c' : aI} {n : Nat} (h : RK c c' n) (T : Nat) : RK (rou c n T) (rou c' n T) n := by
  rw [rou_e, rou_e, uou_c (P := uP c' n) (Q := uP c n) (fun t a ha => by
    unfold uP
    rw [h.lb ha, decide_eq_decide.mpr (h.1.usd n a)])]
  exact h.fold _ (fun a ha => uou_lt T a ha)
theorem sm_clr (c : aI) : ∀ n, sm c (clrC c n)
  | 0 => sm.rf
  | n + 1 => (sm_clr c n).tr (sm.up (by decide))
theorem clr_57 (c : aI) : ∀ n a, a < n → clrC c n 57 a = -2
  | 0, a, h => by omega
  | n + 1, a, h => by
    show up2 (clrC c n) 57 n (-2) 57 a = -2
    by_cases q : a = n
    · subst q; rw [up2_s]
    · rw [up2_j _ _ _ q, clr_57 c n a (by omega)]
theorem RK.clr {X X' : aI} {n : Nat} (h : LK X X' n) : RK (clrC (up2 X 43 18 0) n) (clrC (up2 X' 43 18 0) n) n := by
  refine ⟨(((sm.up (by decide)).tr (sm_clr (up2 X 43 18 0) n)).sy.tr h.1).tr ((sm.up (by decide)).tr (sm_clr (up2 X' 43 18 0) n)), ?_, fun a ha => ?_⟩
  · rw [clr_18 n, clr_18 n]
  · rw [clr_57 _ n a ha, clr_57 _ n a ha]
    refine ⟨?_, rfl⟩
    rw [(clr_sm _ n).1 55 (by decide) (by decide), (clr_sm _ n).1 55 (by decide) (by decide), up2_k _ _ _ (by decide), up2_k _ _ _ (by decide)]
    exact (h.2.2 a ha).1
theorem LK.sy {c c' : aI} {n : Nat} (h : LK c c' n) : LK c' c n := ⟨h.1.sy, h.2.1.symm, fun a ha => ⟨(h.2.2 a ha).1.symm, (h.2.2 a ha).2.1.symm, (h.2.2 a ha).2.2.symm⟩⟩
theorem LK.tr {c c' c2 : aI} {n : Nat} (h : LK c c' n) (h' : LK c' c2 n) : LK c c2 n := ⟨h.1.tr h'.1, h'.2.1.trans h.2.1, fun a ha => ⟨(h'.2.2 a ha).1.trans (h.2.2 a ha).1, (h'.2.2 a ha).2.1.trans (h.2.2 a ha).2.1, (h'.2.2 a ha).2.2.trans (h.2.2 a ha).2.2⟩⟩
theorem RK.sy {c c' : aI} {n : Nat} (h : RK c c' n) : RK c' c n := ⟨h.1.sy, h.2.1.symm, fun a ha => ⟨(h.2.2 a ha).1.symm, (h.2.2 a ha).2.symm⟩⟩
theorem RK.tr {c c' c2 : aI} {n : Nat} (h : RK c c' n) (h' : RK c' c2 n) : RK c c2 n := ⟨h.1.tr h'.1, h'.2.1.trans h.2.1, fun a ha => ⟨(h'.2.2 a ha).1.trans (h.2.2 a ha).1, (h'.2.2 a ha).2.trans (h.2.2 a ha).2⟩⟩
theorem RK.rf {c : aI} {n : Nat} : RK c c n := ⟨sm.rf, rfl, fun _ _ => ⟨rfl, rfl⟩⟩
/-- the block's plan, laid and with its REGISTERS -/
abbrev pnC (c0 : aI) (l : aL) (n T : Nat) : aI := rou (clrC (up2 (layC c0 l n) 43 18 0) n) n (T + 1)
/-- c holds its block's plan, whatever memory the laying began with -/
def PN (c : aI) (nu : Nat → Int64) (n T : Nat) : Prop := T ≤ 128 ∧ c 43 16 = nI T ∧ ∀ c0 l, sm c c0 → c0 43 16 = 0 → LSp c nu l n → LK (layC c0 l n) c n ∧ RK (pnC c0 l n T) c n
theorem smR_sm {c c' : aI} (h : smR c c') : sm c c' := sm.of fun k h1 h2 _ => h.1 k (by omega) (by omega)
theorem pn_LK {c0 : aI} {l : aL} {n T : Nat} : LK (layC c0 l n) (pnC c0 l n T) n := by
  have e := ((smR.v (c := layC c0 l n) (v := 0)).tr (clr_sm (up2 (layC c0 l n) 43 18 0) n)).tr (rou_sm (clrC (up2 (layC c0 l n) 43 18 0) n) n (T + 1))
  exact ⟨smR_sm e, e.2 16 (by decide), fun a _ => ⟨congrFun (e.1 55 (by decide) (by decide)) a, congrFun (e.1 56 (by decide) (by decide)) a, congrFun (e.1 63 (by decide) (by decide)) a⟩⟩
theorem LSp.sm {c c' : aI} {nu : Nat → Int64} {l : aL} {n : Nat} (h : LSp c nu l n) (hs : sm c c') : LSp c' nu l n := by
  intro i hi
  have e := hs.sC nu
  have e1 : SL c' nu = SL c nu := congrFun e 61
  have e2 : SH c' nu = SH c nu := congrFun e 62
  rw [e1, e2]
  exact h i hi
theorem PN_lay {c0 : aI} {nu : Nat → Int64} {l : aL} {n T : Nat} (h0 : c0 43 16 = 0) (hT : T ≤ 128) (h16 : layC c0 l n 43 16 = nI T) (hn : n ≤ 16) (w : ∀ i, i < n → WF c0 i) (hl : LSp c0 nu l n) : PN (pnC c0 l n T) nu n T := by
  have hLK : LK (layC c0 l n) (pnC c0 l n T) n := pn_LK
  refine ⟨hT, hLK.2.1.trans h16, fun c1 l1 hs h1 hl1 => ?_⟩
  have hs0 : sm c0 (pnC c0 l n T) := (sm_lay c0 l n).tr hLK.1
  have hs1 : sm c0 c1 := hs0.tr hs
  have e : layC c1 l1 n = layC c1 l n := lay_l hn (fun i hi => hs1.WF (w i hi)) (hl1.sm hs) (hl.sm hs1) n (Nat.le_refl n)
  have k := lay_k (l := l) hs1 (h1.trans h0.symm) n
  show LK (layC c1 l1 n) _ n ∧ RK (rou (clrC (up2 (layC c1 l1 n) 43 18 0) n) n (T + 1)) _ n
  rw [e]
  exact ⟨k.sy.tr hLK, (RK.rou (RK.clr k) (T + 1)).sy⟩
theorem PN.mv {c c' : aI} {nu : Nat → Int64} {n T : Nat} (h : PN c nu n T) (hL : LK c c' n) (hR : RK c c' n) : PN c' nu n T :=
  ⟨h.1, hL.2.1.trans h.2.1, fun c0 l hs h1 hl => ⟨(h.2.2 c0 l (hL.1.tr hs) h1 (hl.sm hL.1.sy)).1.tr hL, (h.2.2 c0 l (hL.1.tr hs) h1 (hl.sm hL.1.sy)).2.tr hR⟩⟩

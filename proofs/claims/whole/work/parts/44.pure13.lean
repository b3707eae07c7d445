/-! lists of ACTS by a key and their number -/
def uin (P : Nat → Bool) : Nat → List Nat
  | 0 => []
  | a + 1 => uin P a ++ (if P a then [a] else [])
def uou (P : Nat → Nat → Bool) (n : Nat) : Nat → List Nat
  | 0 => []
  | t + 1 => uou P n t ++ uin (P t) n
theorem uin_mem {P : Nat → Bool} {x : Nat} : ∀ n, x ∈ uin P n ↔ x < n ∧ P x = true
  | 0 => by simp [uin]
  | n + 1 => by
    simp only [uin, List.mem_append, uin_mem n]
    by_cases h : P n = true
    · rw [if_pos h]
      simp only [List.mem_singleton]
      constructor
      · rintro (⟨h1, h2⟩ | h1)
        · exact ⟨by omega, h2⟩
        · exact ⟨by omega, h1 ▸ h⟩
      · rintro ⟨h1, h2⟩
        by_cases e : x = n
        · exact Or.inr e
        · exact Or.inl ⟨by omega, h2⟩
    · rw [if_neg h]
      simp only [List.not_mem_nil, or_false]
      constructor
      · rintro ⟨h1, h2⟩; exact ⟨by omega, h2⟩
      · rintro ⟨h1, h2⟩
        by_cases e : x = n
        · exact absurd (e ▸ h2) h
        · exact ⟨by omega, h2⟩
theorem uou_mem {P : Nat → Nat → Bool} {n x : Nat} : ∀ T, x ∈ uou P n T ↔ x < n ∧ ∃ t, t < T ∧ P t x = true
  | 0 => by
    simp only [uou, List.not_mem_nil, false_iff]
    rintro ⟨-, t, h, -⟩; omega
  | T + 1 => by
    simp only [uou, List.mem_append, uou_mem T, uin_mem]
    constructor
    · rintro (⟨h1, t, h2, h3⟩ | ⟨h1, h2⟩)
      · exact ⟨h1, t, by omega, h3⟩
      · exact ⟨h1, T, by omega, h2⟩
    · rintro ⟨h1, t, h2, h3⟩
      by_cases e : t = T
      · subst e; exact Or.inr ⟨h1, h3⟩
      · exact Or.inl ⟨h1, t, by omega, h3⟩
theorem uin_pw {K : Nat → Int32} {P : Nat → Bool} {v : Int32} (hP : ∀ a, P a = true → K a = v) : ∀ n, (uin P n).Pairwise (LX K)
  | 0 => List.Pairwise.nil
  | n + 1 => by
    simp only [uin]
    rw [List.pairwise_append]
    refine ⟨uin_pw hP n, ?_, fun a ha b hb => ?_⟩
    · split
      · exact List.pairwise_singleton _ _
      · exact List.Pairwise.nil
    · obtain ⟨h1, h2⟩ := (uin_mem n).mp ha
      split at hb
      · rename_i h3
        rw [List.mem_singleton] at hb
        subst hb
        exact Or.inr ⟨(hP a h2).trans (hP b h3).symm, h1⟩
      · exact absurd hb (List.not_mem_nil)
theorem uou_pw {K : Nat → Int32} {P : Nat → Nat → Bool} {n : Nat} (hP : ∀ t a, P t a = true → K a = nI t) : ∀ T, T ≤ 2000 → (uou P n T).Pairwise (LX K)
  | 0, _ => List.Pairwise.nil
  | T + 1, hT => by
    simp only [uou]
    rw [List.pairwise_append]
    refine ⟨uou_pw hP T (by omega), uin_pw (v := nI T) (hP T) n, fun a ha b hb => ?_⟩
    obtain ⟨h1, t, h2, h3⟩ := (uou_mem T).mp ha
    obtain ⟨h4, h5⟩ := (uin_mem n).mp hb
    refine Or.inl ?_
    rw [hP t a h3, hP T b h5, Int32.lt_iff_toInt_lt, nI_toInt (by omega), nI_toInt (by omega)]
    omega
theorem LX.ir {T : Nat → Int32} {x : Nat} (h : LX T x x) : False := by
  rcases h with h | ⟨-, h⟩
  · exact Int32.lt_irrefl h
  · omega
theorem pw_uniq {T : Nat → Int32} : ∀ (l1 l2 : List Nat), l1.Pairwise (LX T) → l2.Pairwise (LX T) → (∀ x, x ∈ l1 ↔ x ∈ l2) → l1 = l2
  | [], [], _, _, _ => rfl
  | [], b :: l2, _, _, h => by have := (h b).mpr (List.mem_cons_self); simp at this
  | a :: l1, [], _, _, h => by have := (h a).mp (List.mem_cons_self); simp at this
  | a :: l1, b :: l2, h1, h2, h => by
    rw [List.pairwise_cons] at h1 h2
    have e : a = b := by
      rcases List.mem_cons.mp ((h a).mp List.mem_cons_self) with q | q
      · exact q
      · rcases List.mem_cons.mp ((h b).mpr List.mem_cons_self) with q2 | q2
        · exact q2.symm
        · exact (((h1.1 b q2).tr (h2.1 a q)).ir).elim
    subst e
    rw [pw_uniq l1 l2 h1.2 h2.2 (fun x => ?_)]
    constructor
    · intro hx
      rcases List.mem_cons.mp ((h x).mp (List.mem_cons_of_mem _ hx)) with q | q
      · subst q; exact ((h1.1 x hx).ir).elim
      · exact q
    · intro hx
      rcases List.mem_cons.mp ((h x).mpr (List.mem_cons_of_mem _ hx)) with q | q
      · subst q; exact ((h2.1 x hx).ir).elim
      · exact q
theorem pw_len {T : Nat → Int32} {n : Nat} {l : List Nat} (h : l.Pairwise (LX T)) (hm : ∀ x ∈ l, x < n) : l.length ≤ n := by
  refine fb_holes n l.length (fun i => if q : i < l.length then l[i] else 0) (fun i hi => ?_) (fun i j hij hj => ?_)
  · rw [dif_pos hi]; exact hm _ (List.getElem_mem hi)
  · rw [dif_pos (by omega), dif_pos hj]
    intro e
    have := (List.pairwise_iff_getElem.mp h) i j (by omega) hj hij
    rw [e] at this
    exact this.ir
/-! REGISTERS -/
/-- an ACT gets its REGISTER -/
def asg (n : Nat) (c : aI) (a : Nat) : aI := up2 (up2 c 57 a (nI (rgF c n a 17 0))) 43 18 (if nI (rgF c n a 17 0) < c 43 18 then c 43 18 else nI (rgF c n a 17 0 + 1))
theorem asg_sm (n : Nat) (c : aI) (a : Nat) : smR c (asg n c a) := smR.u.tr smR.v
theorem fold_sm (n : Nat) : ∀ (l : List Nat) (c : aI), smR c (l.foldl (asg n) c)
  | [], c => smR.rf
  | a :: l, c => (asg_sm n c a).tr (fold_sm n l (asg n c a))
theorem smR.us {c c' : aI} (h : smR c c') (a : Nat) : ∀ j, usI c' a j = usI c a j
  | 0 => rfl
  | j + 1 => by
    have e : (isO c' (nI a) (a + 1 + j)) = (isO c (nI a) (a + 1 + j)) := by simp only [isO, h.1 46 (by decide) (by decide)]
    simp only [usI]
    rw [smR.us h a j, bI_iff (Eq.to_iff e)]
theorem smR.usd {c c' : aI} (h : smR c c') (n a : Nat) : usd c' n a ↔ usd c n a := by
  unfold _root_.Jvm.Pilot.@@N@@.usd
  rw [h.us, h.1 44 (by decide) (by decide)]
theorem smR.ln {c c' : aI} (h : smR c c') (a : Nat) : ln c' a = ln c a := by simp only [_root_.Jvm.Pilot.@@N@@.ln, h.1 44 (by decide) (by decide), h.1 50 (by decide) (by decide)]
theorem smR.lb {c c' : aI} (h : smR c c') (a : Nat) : lbN c' a = lbN c a := by unfold lbN; rw [h.ln, h.1 55 (by decide) (by decide)]
theorem smR.le {c c' : aI} (h : smR c c') (a : Nat) : ∀ j, leF c' a j = leF c a j
  | 0 => rfl
  | j + 1 => by
    have e : (isO c' (nI a) (a + 1 + j)) ↔ (isO c (nI a) (a + 1 + j)) := by simp only [isO, h.1 46 (by decide) (by decide)]
    simp only [leF]
    rw [smR.le h a j, h.1 55 (by decide) (by decide)]
    by_cases q : isO c (nI a) (a + 1 + j)
    · rw [if_pos q, if_pos (e.mpr q)]
    · rw [if_neg q, if_neg (fun z => q (e.mp z))]
def uP (c : aI) (n : Nat) : Nat → Nat → Bool := fun t a => decide (usd c n a) && decide (lbN c a = nI t)
theorem uP_sm {c c' : aI} (h : smR c c') (n : Nat) : uP c' n = uP c n := by
  funext t a
  unfold uP
  rw [h.lb, decide_eq_decide.mpr (h.usd n a)]
theorem rst_e (c : aI) (n t a : Nat) : rst c n (nI t) a = if uP c n t a then asg n c a else c := by
  unfold rst uP
  by_cases h1 : usd c n a
  · rw [if_pos h1]
    by_cases h2 : lbN c a = nI t
    · rw [if_pos h2]
      show asg n c a = _
      rw [if_pos (by simp only [Bool.and_eq_true, decide_eq_true_eq]; exact ⟨h1, h2⟩)]
    · rw [if_neg h2, if_neg (by simp only [Bool.and_eq_true, decide_eq_true_eq]; exact fun q => h2 q.2)]
  · rw [if_neg h1, if_neg (by simp only [Bool.and_eq_true, decide_eq_true_eq]; exact fun q => h1 q.1)]
theorem rin_e (c : aI) (n t : Nat) : ∀ a, rin c n (nI t) a = (uin (uP c n t) a).foldl (asg n) c
  | 0 => rfl
  | a + 1 => by
    show rst (rin c n (nI t) a) n (nI t) a = _
    rw [rin_e c n t a, rst_e, uP_sm (fold_sm n _ c) n]
    simp only [uin, List.foldl_append]
    split
    · rfl
    · rfl
theorem rou_e (c : aI) (n : Nat) : ∀ T, rou c n T = (uou (uP c n) n T).foldl (asg n) c
  | 0 => rfl
  | T + 1 => by
    show rin (rou c n T) n (nI T) n = _
    rw [rin_e, rou_e c n T, uP_sm (fold_sm n _ c) n]
    simp only [uou, List.foldl_append]
/-- the class's rows of lives and REGISTERS are c's -/
def RR (c ci : aI) (n : Nat) : Prop := ∀ b, b < n → ci 17 b = c 57 b ∧ ci 15 b = (if usd c n b then lbN c b else -2) ∧ ci 16 b = (if usd c n b then leN c n b else -2) ∧ (c 57 b = -2 ∨ usd c n b)
theorem mr_st {c : aI} {n a r : Nat} {m : Nat} (h : mrI c n a r m = 1) : ∀ q, m ≤ q → mrI c n a r q = 1
  | 0, hq => by obtain rfl : m = 0 := by omega
                exact h
  | q + 1, hq => by
    by_cases e : m = q + 1
    · subst e; exact h
    · simp only [mrI]
      rw [mr_st h q (by omega)]
      split
      · rfl
      · split
        · split <;> rfl
        · rfl
theorem mr_a {c : aI} {n a r b : Nat} (hr : r < 100) (h57 : c 57 a = -2) (h : c 57 b = nI r) : ¬ nI b = nI a → ¬ b = a := fun q e => q (by rw [e])
theorem mr_s0 {c : aI} {n a r b : Nat} (h : mrI c n a r b = 0) (hn : ¬ (c 57 b = nI r ∧ tog c n a b)) : mrI c n a r (b + 1) = 0 := by
  simp only [mrI]
  rw [h]
  split
  · rfl
  · split
    · rename_i h1
      rw [if_neg (fun q => hn ⟨h1, q⟩)]
    · rfl
theorem mr_s1 {c : aI} {n a r b : Nat} (hr : r < 100) (ha : a < 100) (hb : b < 100) (h57 : c 57 a = -2) (h1 : c 57 b = nI r) (h2 : tog c n a b) : mrI c n a r (b + 1) = 1 := by
  simp only [mrI]
  have : ¬ nI b = nI a := fun e => by
    have e2 := (nI_eq (by omega) (by omega)).mp e
    subst e2
    rw [h57] at h1
    exact absurd (h1 ▸ nI_nn (by omega)) (by decide : ¬ (0 : Int32) ≤ -2)
  rw [if_neg this, if_pos h1, if_pos h2]
theorem RR_tog {c ci : aI} {n a b r : Nat} (h : RR c ci n) (ha : a < n) (hb : b < n) (hu : usd c n a) (hr : r < 100) (h1 : ci 17 b = nI r) : tog c n a b ↔ (ci 15 b ≤ ci 16 a ∧ ci 15 a ≤ ci 16 b) := by
  obtain ⟨b1, b2, b3, b4⟩ := h b hb
  obtain ⟨a1, a2, a3, -⟩ := h a ha
  have hub : usd c n b := b4.resolve_left (fun e => by
    rw [← b1, h1] at e
    exact absurd (e ▸ nI_nn (by omega)) (by decide : ¬ (0 : Int32) ≤ -2))
  rw [if_pos hub] at b2 b3
  rw [if_pos hu] at a2 a3
  rw [a2, a3, b2, b3]
  unfold tog
  rw [Int32.not_lt, Int32.not_lt]
  exact And.comm
/-- the class's choice of the next ACT -/
def nxF (F G : Nat → Int32) : Nat → Int32
  | 0 => -2
  | a + 1 => if ¬ F a = -2 ∧ G a = -2 then (if nxF F G a = -2 then nI a else if F a < F (nxF F G a).toNatClampNeg then nI a else nxF F G a) else nxF F G a
theorem nx_spec (F G : Nat → Int32) : ∀ n, n ≤ 16 → (nxF F G n = -2 ∧ ∀ b, b < n → ¬ (¬ F b = -2 ∧ G b = -2)) ∨ ∃ x, x < n ∧ nxF F G n = nI x ∧ (¬ F x = -2 ∧ G x = -2) ∧ ∀ b, b < n → (¬ F b = -2 ∧ G b = -2) → b = x ∨ LX F x b
  | 0, _ => Or.inl ⟨rfl, fun b h => by omega⟩
  | n + 1, hn => by
    simp only [nxF]
    by_cases h : ¬ F n = -2 ∧ G n = -2
    · rw [if_pos h]
      rcases nx_spec F G n (by omega) with ⟨e, h2⟩ | ⟨x, hx, e, h2, h3⟩
      · rw [if_pos e]
        refine Or.inr ⟨n, by omega, rfl, h, fun b hb hq => ?_⟩
        by_cases z : b = n
        · exact Or.inl z
        · exact absurd hq (h2 b (by omega))
      · rw [if_neg (by rw [e]; exact nn_2 (nI_nn (by omega))), e, nI_clamp (by omega)]
        by_cases z : F n < F x
        · rw [if_pos z]
          refine Or.inr ⟨n, by omega, rfl, h, fun b hb hq => ?_⟩
          by_cases z2 : b = n
          · exact Or.inl z2
          · rcases h3 b (by omega) hq with q | q
            · subst q; exact Or.inr (Or.inl z)
            · exact Or.inr (LX.tr (Or.inl z) q)
        · rw [if_neg z]
          refine Or.inr ⟨x, by omega, rfl, h2, fun b hb hq => ?_⟩
          by_cases z2 : b = n
          · subst z2
            refine Or.inr ?_
            by_cases z3 : F x = F b
            · exact Or.inr ⟨z3, hx⟩
            · exact Or.inl (by
                rcases Int32.lt_or_eq_of_le (Int32.not_lt.mp z) with q | q
                · exact q
                · exact absurd q z3)
          · exact h3 b (by omega) hq
    · rw [if_neg h]
      rcases nx_spec F G n (by omega) with ⟨e, h2⟩ | ⟨x, hx, e, h2, h3⟩
      · refine Or.inl ⟨e, fun b hb => ?_⟩
        by_cases z : b = n
        · subst z; exact h
        · exact h2 b (by omega)
      · refine Or.inr ⟨x, by omega, e, h2, fun b hb hq => ?_⟩
        by_cases z : b = n
        · subst z; exact absurd hq h
        · exact h3 b (by omega) hq
/-- findLife: after the first j ACTS behind a -/
def FL (c ci ci' : aI) (a j : Nat) : Prop := ci' 15 a = (if usI c a j = 0 then -2 else lbN c a) ∧ ci' 16 a = leF c a j ∧ (∀ k, ¬ k = 15 → ¬ k = 16 → ci' k = ci k) ∧ ∀ q, ¬ q = a → ci' 15 q = ci 15 q ∧ ci' 16 q = ci 16 q
theorem FL_0 {c ci : aI} {a : Nat} : FL c ci (up2 (up2 ci 15 a (-2)) 16 a (-2)) a 0 := by
  refine ⟨?_, by rw [up2_s]; rfl, fun k h1 h2 => (up2_k _ _ _ h2).trans (up2_k _ _ _ h1), fun q hq => ⟨?_, ?_⟩⟩
  · rw [up2_k _ _ _ (by decide), up2_s]; rfl
  · rw [up2_k _ _ _ (by decide), up2_j _ _ _ hq]
  · rw [up2_j _ _ _ hq, up2_k _ _ _ (by decide)]
theorem us_y {c : aI} {a j : Nat} (h : isO c (nI a) (a + 1 + j)) : ¬ usI c a (j + 1) = 0 := by
  simp only [usI]
  split
  · rw [bI_t h]; decide
  · decide
theorem us_n {c : aI} {a j : Nat} (h : ¬ isO c (nI a) (a + 1 + j)) : usI c a (j + 1) = 0 ↔ usI c a j = 0 := by
  simp only [usI]
  split
  · rename_i q; rw [bI_f h]; exact ⟨fun _ => q, fun _ => rfl⟩
  · rename_i q; exact ⟨fun z => absurd z (by decide), fun z => absurd z q⟩
theorem FL_n {c ci ci' : aI} {a j : Nat} (h : FL c ci ci' a j) (hn : ¬ isO c (nI a) (a + 1 + j)) : FL c ci ci' a (j + 1) := by
  refine ⟨?_, ?_, h.2.2⟩
  · rw [h.1]
    by_cases q : usI c a j = 0
    · rw [if_pos q, if_pos ((us_n hn).mpr q)]
    · rw [if_neg q, if_neg (fun z => q ((us_n hn).mp z))]
  · rw [h.2.1]; simp only [leF]; rw [if_neg hn]
theorem FL_y {c ci ci' : aI} {a j : Nat} {v w : Int32} (h : FL c ci ci' a j) (hy : isO c (nI a) (a + 1 + j)) (hv : v = lbN c a) (hw : w = if c 55 (a + 1 + j) ≤ leF c a j then leF c a j else c 55 (a + 1 + j)) : FL c ci (up2 (up2 ci' 15 a v) 16 a w) a (j + 1) := by
  refine ⟨?_, ?_, fun k h1 h2 => (up2_k _ _ _ h2).trans ((up2_k _ _ _ h1).trans (h.2.2.1 k h1 h2)), fun q hq => ⟨?_, ?_⟩⟩
  · rw [up2_k _ _ _ (by decide), up2_s, hv, if_neg (us_y hy)]
  · rw [up2_s, hw]; simp only [leF]; rw [if_pos hy]
  · rw [up2_k _ _ _ (by decide), up2_j _ _ _ hq]; exact (h.2.2.2 q hq).1
  · rw [up2_j _ _ _ hq, up2_k _ _ _ (by decide)]; exact (h.2.2.2 q hq).2
theorem us_le {c : aI} {a : Nat} : ∀ j, usI c a j = 0 → leF c a j = -2
  | 0, _ => rfl
  | j + 1, h => by
    simp only [usI] at h
    by_cases q : usI c a j = 0
    · rw [if_pos q] at h
      have hn := bI_0.mp h
      simp only [leF]
      rw [if_neg hn]
      exact us_le j q
    · rw [if_neg q] at h
      exact absurd h (by decide)
/-- what findLife leaves of ACT a -/
def FE (c ci ci' : aI) (n a : Nat) : Prop := ci' 15 a = (if usd c n a then lbN c a else -2) ∧ ci' 16 a = (if usd c n a then leN c n a else -2) ∧ (∀ k, ¬ k = 15 → ¬ k = 16 → ci' k = ci k) ∧ ∀ q, ¬ q = a → ci' 15 q = ci 15 q ∧ ci' 16 q = ci 16 q
theorem FE_c {c ci : aI} {n a : Nat} (h : c 44 a = 0) : FE c ci (up2 (up2 ci 15 a (-2)) 16 a (-2)) n a := by
  have hu : ¬ usd c n a := fun q => q.2 h
  refine ⟨?_, by rw [up2_s, if_neg hu], FL_0 (c := c) |>.2.2⟩
  rw [up2_k _ _ _ (by decide), up2_s, if_neg hu]
theorem FE_l {c ci ci' : aI} {n a : Nat} (h : ¬ c 44 a = 0) (hL : FL c ci ci' a (n - (a + 1))) : FE c ci ci' n a := by
  obtain ⟨l1, l2, l3⟩ := hL
  refine ⟨?_, ?_, l3⟩
  · rw [l1]
    by_cases q : usI c a (n - (a + 1)) = 0
    · rw [if_pos q, if_neg (fun z => z.1 q)]
    · rw [if_neg q, if_pos ⟨q, h⟩]
  · rw [l2]
    by_cases q : usI c a (n - (a + 1)) = 0
    · rw [if_neg (fun z => z.1 q)]; exact us_le _ q
    · rw [if_pos ⟨q, h⟩]
/-- the first a ACTS' lives are found, and they have no REGISTERS yet -/
def LV (c ci ci' : aI) (n a : Nat) : Prop := (∀ b, b < a → ci' 15 b = (if usd c n b then lbN c b else -2) ∧ ci' 16 b = (if usd c n b then leN c n b else -2) ∧ ci' 17 b = -2) ∧ ∀ k, ¬ k = 15 → ¬ k = 16 → ¬ k = 17 → ci' k = ci k
theorem LV_s {c ci ci' c1 : aI} {n a : Nat} (h : LV c ci ci' n a) (hF : FE c ci' c1 n a) : LV c ci (up2 c1 17 a (-2)) n (a + 1) := by
  refine ⟨fun b hb => ?_, fun k h1 h2 h3 => (up2_k _ _ _ h3).trans ((hF.2.2.1 k h1 h2).trans (h.2 k h1 h2 h3))⟩
  rw [up2_k _ _ _ (by decide), up2_k _ _ _ (by decide)]
  by_cases e : b = a
  · subst e; rw [up2_s]; exact ⟨hF.1, hF.2.1, rfl⟩
  · rw [up2_j _ _ _ e, (hF.2.2.2 b e).1, (hF.2.2.2 b e).2, hF.2.2.1 17 (by decide) (by decide)]
    exact h.1 b (by omega)
theorem LV_RR {c c0 ci ci' : aI} {n : Nat} (h : LV c ci ci' n n) (hs : smR c c0) (h57 : ∀ b, b < n → c0 57 b = -2) : RR c0 ci' n := by
  intro b hb
  obtain ⟨h1, h2, h3⟩ := h.1 b hb
  refine ⟨by rw [h3, h57 b hb], ?_, ?_, Or.inl (h57 b hb)⟩
  · rw [h1, hs.lb]
    by_cases q : usd c n b
    · rw [if_pos q, if_pos ((hs.usd n b).mpr q)]
    · rw [if_neg q, if_neg (fun z => q ((hs.usd n b).mp z))]
  · rw [h2, show leN c0 n b = leN c n b from hs.le b _]
    by_cases q : usd c n b
    · rw [if_pos q, if_pos ((hs.usd n b).mpr q)]
    · rw [if_neg q, if_neg (fun z => q ((hs.usd n b).mp z))]
/-- the REGISTERS of the first k of those in order -/
def rgK (c0 : aI) (n T k : Nat) : aI := ((uou (uP c0 n) n T).take k).foldl (asg n) c0
/-- what holds behind k turns -/
def RT (c0 ci ci' : aI) (n T k : Nat) : Prop := RR (rgK c0 n T k) ci' n ∧ (∃ t, t ≤ 16 ∧ rgK c0 n T k 43 18 = nI t) ∧ ci' 14 6 = rgK c0 n T k 43 18 ∧ (∀ b, b < n → (rgK c0 n T k 57 b = -2 ↔ ¬ b ∈ (uou (uP c0 n) n T).take k)) ∧ ∀ q, ¬ q = 14 → ¬ q = 15 → ¬ q = 16 → ¬ q = 17 → ci' q = ci q
theorem asg_R {n a b : Nat} {c : aI} : asg n c a 57 b = if b = a then nI (rgF c n a 17 0) else c 57 b := by
  unfold asg
  rw [up2_k _ _ _ (by decide)]
  by_cases e : b = a
  · subst e; rw [up2_s, if_pos rfl]
  · rw [up2_j _ _ _ e, if_neg e]
/-- every life begins within T TICKS -/
def LT (c : aI) (n T : Nat) : Prop := ∀ a, a < n → usd c n a → ∃ t, t < T ∧ lbN c a = nI t
theorem nxt {c0 ci ci' : aI} {n T k : Nat} (hn : n ≤ 16) (hT : T ≤ 2000) (hL : LT c0 n T) (h : RT c0 ci ci' n T k) : (nxF (ci' 15) (ci' 17) n = -2 ∧ (uou (uP c0 n) n T).length ≤ k) ∨ ∃ x, x < n ∧ nxF (ci' 15) (ci' 17) n = nI x ∧ usd (rgK c0 n T k) n x ∧ rgK c0 n T k 57 x = -2 ∧ (uou (uP c0 n) n T).take (k + 1) = (uou (uP c0 n) n T).take k ++ [x] := by
  obtain ⟨h1, -, -, h4, -⟩ := h
  have hs : smR c0 (rgK c0 n T k) := fold_sm n ((uou (uP c0 n) n T).take k) c0
  have hpw : (uou (uP c0 n) n T).Pairwise (LX (lbN c0)) := uou_pw (fun t a q => by
    simp only [uP, Bool.and_eq_true, decide_eq_true_eq] at q; exact q.2) T hT
  have hmem : ∀ x, x ∈ uou (uP c0 n) n T ↔ x < n ∧ usd c0 n x := fun x => by
    rw [uou_mem]
    constructor
    · rintro ⟨q1, t, q2, q3⟩
      simp only [uP, Bool.and_eq_true, decide_eq_true_eq] at q3
      exact ⟨q1, q3.1⟩
    · rintro ⟨q1, q2⟩
      obtain ⟨t, ht, e⟩ := hL x q1 q2
      exact ⟨q1, t, ht, by simp only [uP, Bool.and_eq_true, decide_eq_true_eq]; exact ⟨q2, e⟩⟩
  -- who waits
  have hw : ∀ b, b < n → ((¬ ci' 15 b = -2 ∧ ci' 17 b = -2) ↔ (usd c0 n b ∧ ¬ b ∈ (uou (uP c0 n) n T).take k)) := fun b hb => by
    obtain ⟨b1, b2, -, -⟩ := h1 b hb
    rw [b1, h4 b hb, b2]
    have hu := hs.usd n b
    by_cases q : usd c0 n b
    · rw [if_pos (hu.mpr q)]
      obtain ⟨t, ht, e⟩ := hL b hb q
      have e2 : lbN (rgK c0 n T k) b = nI t := (hs.lb b).trans e
      rw [e2]
      exact ⟨fun z => ⟨q, z.2⟩, fun z => ⟨nn_2 (nI_nn (by omega)), z.2⟩⟩
    · rw [if_neg (fun z => q (hu.mp z))]
      exact ⟨fun z => absurd rfl z.1, fun z => absurd z.1 q⟩
  rcases nx_spec (ci' 15) (ci' 17) n hn with ⟨e, h2⟩ | ⟨x, hx, e, h2, h3⟩
  · refine Or.inl ⟨e, Classical.byContradiction fun q => ?_⟩
    have hk : k < (uou (uP c0 n) n T).length := by omega
    have hm := (hmem _).mp (List.getElem_mem hk)
    refine h2 _ hm.1 ((hw _ hm.1).mpr ⟨hm.2, fun z => ?_⟩)
    obtain ⟨i, hi, ei⟩ := List.getElem_of_mem z
    rw [List.getElem_take] at ei
    rw [List.length_take] at hi
    have := (List.pairwise_iff_getElem.mp hpw) i k (by omega) hk (by omega)
    rw [ei] at this
    exact this.ir
  · obtain ⟨hxu, hxn⟩ := (hw x hx).mp h2
    have hxm : x ∈ uou (uP c0 n) n T := (hmem x).mpr ⟨hx, hxu⟩
    have hxd : x ∈ (uou (uP c0 n) n T).drop k := by
      rw [← List.take_append_drop k (uou (uP c0 n) n T), List.mem_append] at hxm
      exact hxm.resolve_left hxn
    have hk : k < (uou (uP c0 n) n T).length := by
      have := List.length_pos_of_mem hxd
      rw [List.length_drop] at this
      omega
    have hy := (hmem _).mp (List.getElem_mem hk)
    have hyn : ¬ (uou (uP c0 n) n T)[k] ∈ (uou (uP c0 n) n T).take k := fun z => by
      obtain ⟨i, hi, ei⟩ := List.getElem_of_mem z
      rw [List.getElem_take] at ei
      rw [List.length_take] at hi
      have := (List.pairwise_iff_getElem.mp hpw) i k (by omega) hk (by omega)
      rw [ei] at this
      exact this.ir
    have hexy : (uou (uP c0 n) n T)[k] = x := by
      rcases h3 _ hy.1 ((hw _ hy.1).mpr ⟨hy.2, hyn⟩) with q | q
      · exact q
      · exfalso
        -- x lies at or behind k
        obtain ⟨i, hi, ei⟩ := List.getElem_of_mem hxd
        rw [List.getElem_drop] at ei
        rw [List.length_drop] at hi
        have hu := (hs.usd n x).mpr hxu
        have huy := (hs.usd n _).mpr hy.2
        have e1 := (h1 x hx).2.1
        have e2 := (h1 _ hy.1).2.1
        rw [if_pos hu] at e1
        rw [if_pos huy] at e2
        have q' : LX (lbN c0) x (uou (uP c0 n) n T)[k] := by
          unfold LX at q ⊢
          rw [e1, e2] at q
          rw [← hs.lb x, ← hs.lb (uou (uP c0 n) n T)[k]]
          exact q
        by_cases hi0 : i = 0
        · subst hi0
          simp only [Nat.add_zero] at ei
          rw [ei] at q'
          exact q'.ir
        · have := (List.pairwise_iff_getElem.mp hpw) k (k + i) hk (by omega) (by omega)
          rw [ei] at this
          exact (this.tr q').ir
    refine Or.inr ⟨x, hx, e, (hs.usd n x).mpr hxu, (h4 x hx).mpr hxn, ?_⟩
    rw [List.take_succ_eq_append_getElem hk, hexy]
theorem rgK_0 {c0 : aI} {n T : Nat} : rgK c0 n T 0 = c0 := by unfold rgK; rw [List.take_zero]; rfl
theorem rgK_s {c0 : aI} {n T k x : Nat} (h : (uou (uP c0 n) n T).take (k + 1) = (uou (uP c0 n) n T).take k ++ [x]) : rgK c0 n T (k + 1) = asg n (rgK c0 n T k) x := by
  unfold rgK
  rw [h, List.foldl_append]
  rfl
theorem rgK_e {c0 : aI} {n T k : Nat} (h : (uou (uP c0 n) n T).length ≤ k) : rgK c0 n T k = rou c0 n T := by
  unfold rgK
  rw [List.take_of_length_le h, rou_e]
theorem RT_0 {c c0 ci ci' : aI} {n T : Nat} (h : LV c (up2 ci 14 6 0) ci' n n) (hs : smR c c0) (h57 : ∀ b, b < n → c0 57 b = -2) (h18 : c0 43 18 = 0) : RT c0 ci ci' n T 0 := by
  unfold RT
  rw [rgK_0]
  refine ⟨LV_RR h hs h57, ⟨0, by omega, h18⟩, ?_, fun b hb => ?_, fun q a1 a2 a3 a4 => ?_⟩
  · rw [h.2 14 (by decide) (by decide) (by decide), up2_s, h18]
  · rw [List.take_zero]; exact ⟨fun _ => List.not_mem_nil, fun _ => h57 b hb⟩
  · rw [h.2 q a2 a3 a4, up2_k _ _ _ a1]
theorem RT_n {c0 ci ci' : aI} {n T k : Nat} (h : RT c0 ci ci' n T k) (hk : (uou (uP c0 n) n T).length ≤ k) : RT c0 ci ci' n T (k + 1) := by
  have e : (uou (uP c0 n) n T).take (k + 1) = (uou (uP c0 n) n T).take k := by rw [List.take_of_length_le hk, List.take_of_length_le (by omega)]
  unfold RT rgK
  rw [e]
  exact h
theorem mxr {r t : Nat} (hr : r ≤ 15) (ht : t ≤ 16) : (if nI (r + 1) ≤ nI t then nI t else nI (r + 1)) = (if nI r < nI t then nI t else nI (r + 1)) := by
  by_cases h : r < t
  · rw [if_pos (nI_le (by omega) (by omega)), if_pos (by rw [Int32.lt_iff_toInt_lt, nI_toInt (by omega), nI_toInt (by omega)]; omega)]
  · rw [if_neg (nI_ge (by omega) (by omega)), if_neg (by rw [Int32.lt_iff_toInt_lt, nI_toInt (by omega), nI_toInt (by omega)]; omega)]
theorem RT_s {c0 ci ci' : aI} {n T k x : Nat} {v w : Int32} (hn : n ≤ 16) (hx : x < n) (h : RT c0 ci ci' n T k) (hu : usd (rgK c0 n T k) n x) (ht : (uou (uP c0 n) n T).take (k + 1) = (uou (uP c0 n) n T).take k ++ [x]) (hv : v = nI (rgF (rgK c0 n T k) n x 17 0)) (hw : w = if nI (rgF (rgK c0 n T k) n x 17 0 + 1) ≤ ci' 14 6 then ci' 14 6 else nI (rgF (rgK c0 n T k) n x 17 0 + 1)) : RT c0 ci (up2 (up2 ci' 17 x v) 14 6 w) n T (k + 1) := by
  obtain ⟨h1, ⟨t, t1, t2⟩, h3, h4, h5⟩ := h
  have hr := rg_le (c := rgK c0 n T k) hn hx
  have hs := asg_sm n (rgK c0 n T k) x
  have e18 : asg n (rgK c0 n T k) x 43 18 = if nI (rgF (rgK c0 n T k) n x 17 0) < nI t then nI t else nI (rgF (rgK c0 n T k) n x 17 0 + 1) := by unfold asg; rw [up2_s, t2]
  unfold RT
  rw [rgK_s ht]
  refine ⟨fun b hb => ?_, ?_, ?_, fun b hb => ?_, fun q a1 a2 a3 a4 => ?_⟩
  · obtain ⟨b1, b2, b3, b4⟩ := h1 b hb
    have q := hs.usd n b
    have u15 : up2 (up2 ci' 17 x v) 14 6 w 15 b = ci' 15 b := by rw [up2_k _ _ _ (by decide), up2_k _ _ _ (by decide)]
    have u16 : up2 (up2 ci' 17 x v) 14 6 w 16 b = ci' 16 b := by rw [up2_k _ _ _ (by decide), up2_k _ _ _ (by decide)]
    have u17 : up2 (up2 ci' 17 x v) 14 6 w 17 b = up2 ci' 17 x v 17 b := by rw [up2_k _ _ _ (by decide)]
    rw [u15, u16, u17, b2, b3, hs.lb, show leN (asg n (rgK c0 n T k) x) n b = leN (rgK c0 n T k) n b from hs.le b _, asg_R]
    refine ⟨?_, ?_, ?_, ?_⟩
    · by_cases e : b = x
      · subst e; rw [up2_s, if_pos rfl, hv]
      · rw [up2_j _ _ _ e, if_neg e, b1]
    · by_cases z : usd (rgK c0 n T k) n b
      · rw [if_pos z, if_pos (q.mpr z)]
      · rw [if_neg z, if_neg (fun y => z (q.mp y))]
    · by_cases z : usd (rgK c0 n T k) n b
      · rw [if_pos z, if_pos (q.mpr z)]
      · rw [if_neg z, if_neg (fun y => z (q.mp y))]
    · by_cases e : b = x
      · subst e; exact Or.inr (q.mpr hu)
      · rw [if_neg e]; exact b4.imp id q.mpr
  · rw [e18]
    split
    · exact ⟨t, t1, rfl⟩
    · exact ⟨_, by omega, rfl⟩
  · rw [up2_s, hw, h3, t2, mxr hr t1, e18]
  · rw [asg_R, ht, List.mem_append, List.mem_singleton]
    by_cases e : b = x
    · rw [if_pos e]
      exact ⟨fun z => absurd z (nn_2 (nI_nn (by omega))), fun z => absurd (Or.inr e) z⟩
    · rw [if_neg e, h4 b hb]
      exact ⟨fun z y => y.elim z e, fun z y => z (Or.inl y)⟩
  · rw [up2_k _ _ _ a1, up2_k _ _ _ a4]; exact h5 q a1 a2 a3 a4
theorem RT_e {c0 ci ci' : aI} {n T : Nat} (hT : T ≤ 2000) (h : RT c0 ci ci' n T n) : RR (rou c0 n T) ci' n ∧ ci' 14 6 = rou c0 n T 43 18 := by
  have hl : (uou (uP c0 n) n T).length ≤ n := pw_len (T := lbN c0) (uou_pw (fun t a q => by
    simp only [uP, Bool.and_eq_true, decide_eq_true_eq] at q; exact q.2) T hT) (fun x hx => ((uou_mem T).mp hx).1)
  have e := rgK_e (c0 := c0) hl
  obtain ⟨h1, -, h3, -, -⟩ := h
  rw [e] at h1 h3
  exact ⟨h1, h3⟩
theorem nx_in {F G : Nat → Int32} {n : Nat} (hn : n ≤ 16) (h : ¬ nxF F G n = -2) : ∃ x, x < n ∧ nxF F G n = nI x := by
  rcases nx_spec F G n hn with ⟨e, -⟩ | ⟨x, hx, e, -⟩
  · exact absurd e h
  · exact ⟨x, hx, e⟩
theorem rg_ge (c : aI) (n a : Nat) : ∀ k r, r ≤ rgF c n a k r
  | 0, r => Nat.le_refl r
  | k + 1, r => by
    simp only [rgF]
    split
    · exact Nat.le_refl r
    · have := rg_ge c n a k (r + 1); omega
theorem clr_18 {c : aI} : ∀ n, clrC (up2 c 43 18 0) n 43 18 = 0
  | 0 => by show up2 c 43 18 0 43 18 = 0; rw [up2_s]
  | n + 1 => by show up2 (clrC (up2 c 43 18 0) n) 57 n _ 43 18 = 0; rw [up2_k _ _ _ (by decide)]; exact clr_18 n

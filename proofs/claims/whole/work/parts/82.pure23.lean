/-! Numbers of a plan and of a run that don't rest on other cells -/
theorem ask_c {c c' : aI} {l : aL} {b : Nat} (hs : sm c c') (h : ∀ a, a < b → c' 55 a = c 55 a) : ∀ m, m ≤ b → askF c' l b m = askF c l b m
  | 0, _ => rfl
  | m + 1, hm => by
    simp only [askF]
    rw [ask_c hs h m (by omega), hs.nd, h m (by omega)]
theorem ft_c {c c' : aI} {l : aL} (hs : sm c c') : ∀ b, (∀ a, a < b → ftC c' l b 55 a = ftC c l b 55 a) ∧ ftA c' l b = ftA c l b
  | 0 => ⟨fun a h => by omega, rfl⟩
  | b + 1 => by
    obtain ⟨h1, h2⟩ := ft_c hs b
    have hsb : sm (ftC c l b) (ftC c' l b) := ((sm_ft c l b).sy.tr hs).tr (sm_ft c' l b)
    have hsb1 : sm (ftC c l (b + 1)) (ftC c' l (b + 1)) := ((sm_ft c l (b + 1)).sy.tr hs).tr (sm_ft c' l (b + 1))
    have ea : askF (ftC c' l b) l b b = askF (ftC c l b) l b b := ask_c hsb h1 b (Nat.le_refl b)
    refine ⟨fun a ha => ?_, ?_⟩
    · show up2 (ftC c' l b) 55 b (askF (ftC c' l b) l b b) 55 a = up2 (ftC c l b) 55 b (askF (ftC c l b) l b b) 55 a
      by_cases e : a = b
      · subst e; rw [up2_s, up2_s, ea]
      · rw [up2_j _ _ _ e, up2_j _ _ _ e]; exact h1 a (by omega)
    · simp only [ftA]
      rw [ea, h2, hsb1.ln]
theorem fd_c {c c' : aI} (hs : sm c c') (k : Int32) : ∀ n, fdF c' k n = fdF c k n
  | 0 => rfl
  | n + 1 => by
    simp only [fdF]
    rw [fd_c hs k n, hs.1, hs.fl]
theorem flB_c {c c' : aI} (hs : sm c c') (n k : Nat) : flB c' n k = flB c n k := by
  unfold flB
  rw [fd_c hs, hs.2.2.2.2.1]
theorem bm_c {c c' : aI} (hs : sm c c') (n : Nat) (t : Int32) : ∀ k, bmF c' n t k = bmF c n t k
  | 0 => rfl
  | k + 1 => by
    simp only [bmF]
    rw [bm_c hs n t k, flB_c hs]
theorem lay_fi2 {c : aI} {l : aL} {n : Nat} (h0 : c 43 16 = 0) (hL : LEN c) (hP : PAR c) (hn : n ≤ 16) : ∀ b, b < n → ¬ kd (c 44 b) < 0 → ∀ np, c 49 (kd (c 44 b)).toNatClampNeg = nI np → 0 ≤ fpF (ly1 (layC c l b) l b) b (askF (layC c l b) l b b + nI 200) np 0 := by
  intro b hb hk np hnp
  obtain ⟨A, h⟩ := PL_n (l := l) h0 hL hP hn b (by omega)
  obtain ⟨R, t, np', eR, hR, -, -, hq⟩ := lyT_b (l := l) (sm_lay c l b) hL hP (by omega) h
  obtain ⟨q1, q2, q3, -⟩ := hq hk
  have hA := h.2.1
  have h1 : 1 ≤ np := by
    rcases Nat.eq_zero_or_pos np with e | e
    · rw [e] at hnp
      have := (nI_eq (a := 0) (b := np') (by omega) (by omega)).mp (hnp.symm.trans q1)
      omega
    · exact e
  rw [eR, nI_add]
  exact fp_b h1 (fr_b ((sm_lay c l b).tr (sm_ly1 _ l b)) hL (by omega) (ly1_PL h) (by omega) (by omega) b (Nat.le_refl b))
/-- cells that laying leaves alone -/
theorem pn_k {c0 : aI} {l : aL} {n T k : Nat} (h : k < 43 ∨ (43 < k ∧ k < 55) ∨ 63 < k) : pnC c0 l n T k = c0 k := by
  have e1 : pnC c0 l n T k = (clrC (up2 (layC c0 l n) 43 18 0) n) k := by
    show rou _ n (T + 1) k = _
    rw [rou_e]
    exact (fold_sm n _ _).1 k (by omega) (by omega)
  have e2 : ∀ m, clrC (up2 (layC c0 l n) 43 18 0) m k = up2 (layC c0 l n) 43 18 0 k := by
    intro m
    induction m with
    | zero => rfl
    | succ m ih => exact (up2_k _ _ _ (by omega)).trans ih
  rw [e1, e2 n, up2_k _ _ _ (by omega)]
  exact (lay_sm c0 l n).1 k (by omega) (by omega) (by omega) (by omega)
theorem pn_43 {c0 : aI} {l : aL} {n T j : Nat} (h : ¬ j = 16) (h2 : ¬ j = 18) : pnC c0 l n T 43 j = c0 43 j := by
  have e1 : pnC c0 l n T 43 j = (clrC (up2 (layC c0 l n) 43 18 0) n) 43 j := by
    show rou _ n (T + 1) 43 j = _
    rw [rou_e]
    exact (fold_sm n _ _).2 j h2
  have e2 : ∀ m, clrC (up2 (layC c0 l n) 43 18 0) m 43 j = up2 (layC c0 l n) 43 18 0 43 j := by
    intro m
    induction m with
    | zero => rfl
    | succ m ih => exact (congrFun (up2_k _ _ _ (by decide)) j).trans ih
  rw [e1, e2 n, up2_j _ _ _ h2]
  exact (lay_sm c0 l n).2 j h
theorem fold_57 {n : Nat} (hn : n ≤ 16) : ∀ (L : List Nat) (c : aI) (x : Nat), (∀ a ∈ L, a < n) → x < n → (x ∈ L ∨ ∃ r, r ≤ 15 ∧ c 57 x = nI r) → ∃ r, r ≤ 15 ∧ (L.foldl (asg n) c) 57 x = nI r
  | [], c, x, _, _, h => by
    rcases h with h | h
    · cases h
    · exact h
  | a :: L, c, x, hL, hx, h => by
    refine fold_57 hn L (asg n c a) x (fun b hb => hL b (List.mem_cons_of_mem _ hb)) hx ?_
    by_cases e : x = a
    · exact Or.inr ⟨_, rg_le hn (hL a List.mem_cons_self), by rw [asg_R, if_pos e]⟩
    · rcases h with h | ⟨r, h1, h2⟩
      · rcases List.mem_cons.mp h with h | h
        · exact absurd h e
        · exact Or.inl h
      · exact Or.inr ⟨r, h1, by rw [asg_R, if_neg e]; exact h2⟩
/-- a used ACT that is no CONST has a REGISTER -/
theorem pn_57 {c0 : aI} {l : aL} {n T x : Nat} (hn : n ≤ 16) (hT : T ≤ 1000) (hLT : LT (layC c0 l n) n (T + 1)) (hx : x < n) (hu : usd c0 n x) : ∃ r, r ≤ 15 ∧ pnC c0 l n T 57 x = nI r := by
  show ∃ r, r ≤ 15 ∧ rou _ n (T + 1) 57 x = nI r
  rw [rou_e]
  have hs1 : sm c0 (clrC (up2 (layC c0 l n) 43 18 0) n) := ((sm_lay c0 l n).tr (sm.up (by decide))).tr (sm_clr _ n)
  have hs0 : sm (layC c0 l n) (clrC (up2 (layC c0 l n) 43 18 0) n) := (sm.up (by decide)).tr (sm_clr _ n)
  have e55 : ∀ m, clrC (up2 (layC c0 l n) 43 18 0) m 55 = layC c0 l n 55 := by
    intro m
    induction m with
    | zero => exact up2_k _ _ _ (by decide)
    | succ m ih => exact (up2_k _ _ _ (by decide)).trans ih
  refine fold_57 hn _ _ x (fun a ha => uou_lt _ a ha) hx (Or.inl ?_)
  rw [uou_mem]
  have hu2 : usd (layC c0 l n) n x := ((sm_lay c0 l n).usd n x).mpr hu
  obtain ⟨t, ht, et⟩ := hLT x hx hu2
  refine ⟨hx, t, ht, ?_⟩
  unfold uP
  rw [Bool.and_eq_true, decide_eq_true_eq, decide_eq_true_eq]
  refine ⟨(hs1.usd n x).mpr hu, ?_⟩
  unfold lbN at et ⊢
  rw [e55, hs0.ln]
  exact et
theorem us_of {c : aI} {a b : Nat} (h : isO c (nI a) b) (hab : a < b) : ∀ j, b < a + 1 + j → ¬ usI c a j = 0
  | 0, hj => by omega
  | j + 1, hj => by
    by_cases e : b = a + 1 + j
    · subst e; exact us_y h
    · have ih := us_of h hab j (by omega)
      simp only [usI]
      rw [if_neg ih]
      decide
theorem LEN.sm {c c' : aI} (h : LEN c) (hs : sm c c') : LEN c' := h.c hs.2.2.2.2.2.1
theorem PAR.sm {c c' : aI} (h : PAR c) (hs : sm c c') : PAR c' := fun k hk => by rw [hs.2.2.2.2.1]; exact h k hk
theorem SRC_of {c : aI} {nu : Nat → Int64} {n T w : Nat} (hn : n ≤ 16) (hw : w < 3) (hL : LEN c) (hP : PAR c) (hO : OX c n) (hPN : PN c nu n T) : SRC c n w := by
  intro a ha h0
  obtain ⟨x, hx, e⟩ := hO a ha w hw h0
  refine ⟨x, by omega, e, ?_⟩
  by_cases z : c 44 x = 0
  · exact Or.inl z
  · right
    obtain ⟨hT, h16, hq⟩ := hPN
    have hs : sm c (up2 c 43 16 0) := sm.up (by decide)
    obtain ⟨k1, k2⟩ := hq (up2 c 43 16 0) (sC c nu) hs (up2_s _ _ _ _) LSp_s
    obtain ⟨T2, t1, t2, t3, -⟩ := lay_T (l := sC c nu) (n := n) (up2_s c 43 16 0) (hL.sm hs) (hP.sm hs) hn
    have eT : T2 = T := (nI_eq (by omega) (by omega)).mp (t2.symm.trans (k1.2.1.symm.trans h16))
    subst eT
    have hio : isO c (nI x) a := by
      rcases (by omega : w = 0 ∨ w = 1 ∨ w = 2) with q | q | q <;> subst q
      · exact Or.inl e
      · exact Or.inr (Or.inl e)
      · exact Or.inr (Or.inr e)
    have hu : usd (up2 c 43 16 0) n x := (hs.usd n x).mpr ⟨us_of hio hx _ (by omega), z⟩
    obtain ⟨r, r1, r2⟩ := pn_57 (l := sC c nu) hn (by omega) t3 (by omega) hu
    exact ⟨r, r1, by rw [(k2.2.2 x (by omega)).2]; exact r2⟩
theorem lay_63 {c : aI} {l : aL} : ∀ n a, a < n → layC c l n 63 a = askF (layC c l a) l a a ∧ layC c l n 55 a = layC c l (a + 1) 55 a
  | 0, a, h => by omega
  | n + 1, a, h => by
    by_cases e : a = n
    · subst e
      refine ⟨?_, rfl⟩
      show lyS (layC c l a) l a 63 a = _
      rw [lyS_63, if_pos rfl]
    · obtain ⟨h1, h2⟩ := lay_63 (c := c) (l := l) n a (by omega)
      refine ⟨?_, ?_⟩
      · show lyS (layC c l n) l n 63 a = _
        rw [lyS_63, if_neg e]; exact h1
      · show lyS (layC c l n) l n 55 a = _
        rw [(lyS_k e).1]; exact h2
theorem lay_55 {c : aI} {l : aL} {a b n : Nat} (hab : a < b) (hbn : b ≤ n) : layC c l b 55 a = layC c l n 55 a := by
  rw [(lay_63 (c := c) (l := l) b a hab).2, (lay_63 (c := c) (l := l) n a (by omega)).2]
theorem pn_63 {c : aI} {nu : Nat → Int64} {n T a : Nat} (hn : n ≤ 16) (w : ∀ i, i < n → WF c i) (hPN : PN c nu n T) (ha : a < n) : c 63 a = askF c (sC c nu) a a := by
  obtain ⟨hT, h16, hq⟩ := hPN
  have hs : sm c (up2 c 43 16 0) := sm.up (by decide)
  obtain ⟨k1, -⟩ := hq (up2 c 43 16 0) (sC c nu) hs (up2_s _ _ _ _) LSp_s
  rw [(k1.2.2 a ha).2.2, (lay_63 n a ha).1]
  refine (ask_c ((sm_lay _ _ a).sy.tr hs.sy) (fun i hi => ?_) a (Nat.le_refl a)).symm
  rw [lay_55 hi (Nat.le_of_lt ha)]
  exact (k1.2.2 i (by omega)).1
/-! two states of a run that agree where the reference looks -/
def RA (s s' : aS) : Prop := (∀ k, 43 < k → s'.1 k = s.1 k) ∧ (∀ j, ¬ j = 0 → s'.1 43 j = s.1 43 j) ∧ ∀ k, 43 < k → s'.2 k = s.2 k
theorem RA.i {c c' : aI} {l l' : aL} {k j : Nat} {v v' : Int32} (h : RA (c, l) (c', l')) (hk : 43 < k) (hv : v' = v) : RA (up2 c k j v, l) (up2 c' k j v', l') := by
  subst hv
  refine ⟨fun q hq => ?_, fun q hq => ?_, h.2.2⟩
  · show up2 c' k j v' q = up2 c k j v' q
    by_cases e : q = k
    · subst e; rw [up2_e, up2_e]; exact congrArg (fun f => va_up f j v') (h.1 q hq)
    · rw [up2_k _ _ _ e, up2_k _ _ _ e]; exact h.1 q hq
  · show up2 c' k j v' 43 q = up2 c k j v' 43 q
    rw [up2_k _ _ _ (by omega), up2_k _ _ _ (by omega)]; exact h.2.1 q hq
theorem RA.z {c c' : aI} {l l' : aL} {j : Nat} {v v' : Int32} (h : RA (c, l) (c', l')) (hv : v' = v) : RA (up2 c 43 j v, l) (up2 c' 43 j v', l') := by
  subst hv
  refine ⟨fun q hq => ?_, fun q hq => ?_, h.2.2⟩
  · show up2 c' 43 j v' q = up2 c 43 j v' q
    rw [up2_k _ _ _ (by omega), up2_k _ _ _ (by omega)]; exact h.1 q hq
  · show up2 c' 43 j v' 43 q = up2 c 43 j v' 43 q
    by_cases e : q = j
    · subst e; rw [up2_s, up2_s]
    · rw [up2_j _ _ _ e, up2_j _ _ _ e]; exact h.2.1 q hq
theorem RA.l {c c' : aI} {l l' : aL} {k j j' : Nat} {v v' : Int64} (h : RA (c, l) (c', l')) (hk : 43 < k) (hj : j' = j) (hv : v' = v) : RA (c, up2 l k j v) (c', up2 l' k j' v') := by
  subst hv
  subst hj
  refine ⟨h.1, h.2.1, fun q hq => ?_⟩
  show up2 l' k j' v' q = up2 l k j' v' q
  by_cases e : q = k
  · subst e; rw [up2_e, up2_e]; exact congrArg (fun f => va_up f j' v') (h.2.2 q hq)
  · rw [up2_k _ _ _ e, up2_k _ _ _ e]; exact h.2.2 q hq
theorem RA.wh {c c' : aI} {l l' : aL} (h : RA (c, l) (c', l')) (a : Nat) : whF c' l' a = whF c l a := by
  have e44 := h.1 44 (by decide); have e46 := h.1 46 (by decide); have e47 := h.1 47 (by decide); have e52 := h.1 52 (by decide); have e66 := h.1 66 (by decide); have l65 := h.2.2 65 (by decide)
  dsimp only at e44 e46 e47 e52 e66 l65
  unfold whF vA
  rw [e44, e46, e47, e52, e66, l65]
theorem RA.gv {c c' : aI} {l l' : aL} (h : RA (c, l) (c', l')) (a : Nat) : gvF c' l' a = gvF c l a := by
  have e44 := h.1 44 (by decide); have e46 := h.1 46 (by decide); have e47 := h.1 47 (by decide); have e66 := h.1 66 (by decide); have l65 := h.2.2 65 (by decide); have l48 := h.2.2 48 (by decide); have l53 := h.2.2 53 (by decide); have l60 := h.2.2 60 (by decide)
  dsimp only at e44 e46 e47 e66 l65 l48 l53 l60
  unfold gvF vA
  rw [e44, e46, e47, e66, l65, l48, l53, l60]
theorem RA.bg {c c' : aI} {l l' : aL} (h : RA (c, l) (c', l')) (a : Nat) : RA (bgI c l a, bgL c l a) (bgI c' l' a, bgL c' l' a) := by
  have e44 := h.1 44 (by decide); have e45 := h.1 45 (by decide); have e46 := h.1 46 (by decide); have e47 := h.1 47 (by decide); have e58 := h.1 58 (by decide); have e66 := h.1 66 (by decide); have l65 := h.2.2 65 (by decide)
  dsimp only at e44 e45 e46 e47 e58 e66 l65
  have en : cutF (gvF c' l' a) (c' 45 a) = cutF (gvF c l a) (c 45 a) := by rw [h.gv, e45]
  unfold bgI bgL
  rw [h.wh, en, e44, e47, e58, e66]
  generalize hv : cutF (gvF c l a) (c 45 a) = v
  split
  · split
    · exact (h.i (by decide) rfl).l (by decide) rfl rfl
    · split
      · refine (h.l (by decide) rfl rfl).l (by decide) ?_ rfl
        unfold vA
        rw [e46, up2_e, up2_e, l65]
      · split
        · exact ((h.i (by decide) rfl).l (by decide) rfl rfl).l (by decide) rfl rfl
        · exact h.l (by decide) rfl rfl
  · exact h
theorem RA.bgn {s s' : aS} (h : RA s s') (a : Nat) : RA (bgn s a) (bgn s' a) := by
  obtain ⟨c, l⟩ := s
  obtain ⟨c', l'⟩ := s'
  have h1 : RA (up2 c 43 22 (c 43 22 + 1), l) (up2 c' 43 22 (c' 43 22 + 1), l') := h.z (by rw [show c' 43 22 = c 43 22 from h.2.1 22 (by decide)])
  have hR : bgR (up2 c' 43 22 (c' 43 22 + 1)) l' a = bgR (up2 c 43 22 (c 43 22 + 1)) l a := by unfold bgR; rw [h1.wh]
  unfold _root_.Jvm.Pilot.@@N@@.bgn
  dsimp only
  rw [hR]
  split
  · exact h1.bg a
  · exact ((h1.bg a).z rfl).z rfl
theorem RA.stp {s s' : aS} (h : RA s s') (a : Nat) : RA (stp s a) (stp s' a) := by
  have e := h.2.1 21 (by decide)
  unfold _root_.Jvm.Pilot.@@N@@.stp
  rw [e]
  split
  · exact h.bgn a
  · split
    · exact h.bgn a
    · exact h
theorem RA.fG {s s' : aS} (h : RA s s') (g : Nat → Nat) : ∀ i, RA (fG g s i) (fG g s' i)
  | 0 => h
  | i + 1 => (RA.fG h g i).stp (g i)
theorem RA.tp {c c' : aI} {l l' : aL} (h : RA (c, l) (c', l')) : ∀ p, RA (tpC c p, l) (tpC c' p, l')
  | 0 => h
  | p + 1 => ((RA.tp h p).i (by decide) rfl).i (by decide) rfl
theorem RA.rc {c c' : aI} {l l' : aL} (h : RA (c, l) (c', l')) : ∀ i, RA (c, rcL l i) (c', rcL l' i)
  | 0 => h
  | i + 1 => (RA.rc h i).l (by decide) rfl (congrFun ((RA.rc h i).2.2 54 (by decide)) i)
theorem RA.rs {c c' : aI} {l l' : aL} (h : RA (c, l) (c', l')) : RA (rs0 c l) (rs0 c' l') := ((((h.tp 4).z rfl).z rfl).z rfl).rc 16
theorem bgn_k {s : aS} {a k : Nat} (h1 : ¬ k = 43) (h2 : ¬ k = 58) (h3 : ¬ k = 66) : (bgn s a).1 k = s.1 k := by
  unfold bgn
  split
  · exact (bgI_k h2 h3).trans (up2_k _ _ _ h1)
  · exact (up2_k _ _ _ h1).trans ((up2_k _ _ _ h1).trans ((bgI_k h2 h3).trans (up2_k _ _ _ h1)))
theorem stp_k {s : aS} {a k : Nat} (h1 : ¬ k = 43) (h2 : ¬ k = 58) (h3 : ¬ k = 66) : (stp s a).1 k = s.1 k := by
  unfold stp
  split
  · exact bgn_k h1 h2 h3
  · split
    · exact bgn_k h1 h2 h3
    · rfl
theorem fG_k {g : Nat → Nat} {s : aS} {k : Nat} (h1 : ¬ k = 43) (h2 : ¬ k = 58) (h3 : ¬ k = 66) : ∀ i, (fG g s i).1 k = s.1 k
  | 0 => rfl
  | i + 1 => (stp_k h1 h2 h3).trans (fG_k h1 h2 h3 i)

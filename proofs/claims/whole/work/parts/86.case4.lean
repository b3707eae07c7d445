/-! The calls that build the block -/
section
variable {ci : aI} {cl : aL} {cr : Nat → Nat → Option Nat} {dy : aM} {nx n nx' : Nat} {r : Option Value} {M' : aM}
/-- the class's ints behind an ACT more -/
abbrev cA (ci : aI) (n : Nat) : aI := up2 (up2 (up2 ci 1 7 0) 1 8 0) 2 1 (nI (n + 1))
theorem cA_k {k : Nat} (h1 : ¬ k = 1) (h2 : ¬ k = 2) : cA ci n k = ci k := by
  show up2 (up2 (up2 ci 1 7 0) 1 8 0) 2 1 (nI (n + 1)) k = ci k
  rw [up2_k _ _ _ h2, up2_k _ _ _ h1, up2_k _ _ _ h1]
theorem cA_17 : cA ci n 1 7 = 0 := by
  show up2 (up2 (up2 ci 1 7 0) 1 8 0) 2 1 (nI (n + 1)) 1 7 = 0
  rw [up2_k _ _ _ (by decide), up2_j _ _ _ (by decide), up2_s]
theorem cA_18 : cA ci n 1 8 = 0 := by
  show up2 (up2 (up2 ci 1 7 0) 1 8 0) 2 1 (nI (n + 1)) 1 8 = 0
  rw [up2_k _ _ _ (by decide), up2_s]
theorem cA_2 : cA ci n 2 1 = nI (n + 1) := by
  show up2 (up2 (up2 ci 1 7 0) 1 8 0) 2 1 (nI (n + 1)) 2 1 = nI (n + 1)
  rw [up2_s]
theorem sm_cA : sm ci (cA ci n) := sm.of fun k h1 h2 _ => cA_k (by omega) (by omega)
theorem INV.BA (h : INV ci cl cr dy nx n) : BK (cA ci n) (cl 48) ci cr dy n := sm_cA.BK h.1.1 rfl rfl rfl rfl
theorem ad_1 {c : aI} {o w x y z : Int32} : adI c n o w x y z 43 1 = nI (n + 1) := by
  unfold adI
  rw [up2_j _ _ _ (by decide), up2_j _ _ _ (by decide), up2_s]
theorem ad_13 {c : aI} {o w x y z : Int32} : adI c n o w x y z 43 13 = 0 := by
  unfold adI
  rw [up2_j _ _ _ (by decide), up2_s]
theorem ad_19 {c : aI} {o w x y z : Int32} : adI c n o w x y z 43 19 = 0 := by
  unfold adI
  rw [up2_s]
theorem ad_16 {c : aI} {o w x y z : Int32} : adI c n o w x y z 43 16 = c 43 16 := by
  unfold adI
  rw [up2_j _ _ _ (by decide), up2_j _ _ _ (by decide), up2_j _ _ _ (by decide), up2_k _ _ _ (by decide), up2_k _ _ _ (by decide), up2_k _ _ _ (by decide), up2_k _ _ _ (by decide), up2_k _ _ _ (by decide), up2_k _ _ _ (by decide)]
theorem AT_ACT {c : aI} {nu : Nat → Int64} {dd : aM} {a k s s' : Nat} {o w q x y z : Int32} {lo hi : Int64} (h : AT c nu dd a k s') (hA : ACT dd k s o w q x y z lo hi) : SL c nu a = lo := by
  have e := h.2.2.1.symm.trans hA.2.2.1
  simp only [Option.some.injEq, Sum.inr.injEq, Prod.mk.injEq, List.cons.injEq, Value.int.injEq, Value.ref.injEq, true_and, and_true] at e
  have es : s' = s := e.2.2.2.2.2.2
  subst es
  have e2 := h.2.2.2.symm.trans hA.2.2.2
  simp only [Option.some.injEq, Sum.inr.injEq, Prod.mk.injEq, List.cons.injEq, Value.long.injEq, true_and, and_true] at e2
  exact e2.1
theorem INV_app (h : INV ci cl cr dy nx n) {dy' : aM} (hE : EX dy nx dy' nx') {c2 : aI} {l2 : aL} {k : Nat} {o w x y z : Int32} (hB : BK c2 (l2 48) c2 (up2 cr 3 n (some k)) dy' (n + 1)) (hk : ∀ q, ¬ q = 47 → c2 q = adI (up2 (cA ci n) 43 0 0) n o w x y z q) (h47 : ∀ a, a < n → c2 47 a = adI (up2 (cA ci n) 43 0 0) n o w x y z 47 a) (hl : ∀ q, ¬ q = 48 → l2 q = cl q) (h48 : ∀ a, a < n → l2 48 a = cl 48 a)
    (hx : 0 ≤ x → ∃ i, i < n ∧ x = nI i) (hy : 0 ≤ y → ∃ i, i < n ∧ y = nI i) (hz : 0 ≤ z → ∃ i, i < n ∧ z = nI i) (hC : o = 0 → SL c2 (l2 48) n = l2 48 n) : INV c2 l2 (up2 cr 3 n (some k)) dy' nx' (n + 1) := by
  have k0 : ∀ q, ¬ q = 1 → ¬ q = 2 → ¬ q = 43 → up2 (cA ci n) 43 0 0 q = ci q := fun q h1 h2 h3 => (up2_k _ _ _ h3).trans (cA_k h1 h2)
  have hG0 : AG (up2 (cA ci n) 43 0 0) (adI (up2 (cA ci n) 43 0 0) n o w x y z) (cl 48) (l2 48) n := ad_AG h48
  have e44 := k0 44 (by decide) (by decide) (by decide)
  have e45 := k0 45 (by decide) (by decide) (by decide)
  have e46 := k0 46 (by decide) (by decide) (by decide)
  have e47 := k0 47 (by decide) (by decide) (by decide)
  have c44 : c2 44 n = o := by rw [hk 44 (by decide), ad_4, va_up_self]
  obtain ⟨x0, x1, x2⟩ := ad_6x (c := up2 (cA ci n) 43 0 0) (n := n) (o := o) (w := w) (x := x) (y := y) (z := z)
  refine INV_add h hE hB ?_ ?_ ?_ ?_ ?_ ?_ (fun q a1 a2 a3 a4 a5 a6 a7 => ?_) hl (fun q hq => up2_k _ _ _ hq) (fun a ha => ?_) (fun v hv h0 => ?_) (fun q => ?_)
  · rw [hk 43 (by decide)]; exact ad_1
  · rw [hk 43 (by decide)]; exact ad_13
  · rw [hk 43 (by decide)]; exact ad_19
  · rw [hk 1 (by decide), ad_k (by omega), up2_k _ _ _ (by decide)]; exact cA_17
  · rw [hk 1 (by decide), ad_k (by omega), up2_k _ _ _ (by decide)]; exact cA_18
  · rw [hk 43 (by decide), ad_16, up2_j _ _ _ (by decide), cA_k (by decide) (by decide)]
  · rw [hk q a7, ad_k (by omega)]; exact k0 q a1 a2 a3
  · obtain ⟨g0, g1, g2, g3, g4, g5, g6⟩ := hG0 a ha
    rw [hk 44 (by decide), hk 45 (by decide), hk 46 (by decide), h47 a ha, g0, g1, g2, g3, g4, g5, g6, e44, e45, e46, e47]
    exact ⟨rfl, rfl, rfl, rfl, rfl, rfl, rfl⟩
  · rw [hk 46 (by decide)] at h0 ⊢
    rcases (by omega : v = 0 ∨ v = 1 ∨ v = 2) with e | e | e <;> subst e
    · rw [show 3 * n + 0 = 3 * n from rfl, x0] at h0 ⊢; exact hx h0
    · rw [x1] at h0 ⊢; exact hy h0
    · rw [x2] at h0 ⊢; exact hz h0
  · rw [c44] at q; exact hC q
theorem m1n : 0 ≤ (-1 : Int32) → ∃ i, i < n ∧ (-1 : Int32) = nI i := fun z => absurd z (by decide)
theorem kx {a : Nat} (ha : a < n) : 0 ≤ nI a → ∃ i, i < n ∧ nI a = nI i := fun _ => ⟨a, ha, rfl⟩
theorem INV.c1n (h : INV ci cl cr dy nx n) : cA ci n 43 1 = nI n := by rw [cA_k (by decide) (by decide)]; exact h.1.2.1
theorem A_constant (h : INV ci cl cr dy nx n) {v : Int64} {w : Int32} (p : p1_constant (cA ci n) (cl 48) v w n ci cl cr dy nx r M' nx') : ∃ x c1 r1 d1, r = some (.int x) ∧ M' = mm c1 cl r1 d1 ∧ c1 43 1 = nI n ∧ HF x (p2_constant v w n c1 cl r1 d1 nx') := by
  rcases p with ⟨a1, rfl, rfl, rfl⟩ | ⟨a1, k, s, dy', hE, hA, ⟨a2, rfl, rfl⟩ | ⟨a2, rfl, rfl⟩⟩
  · refine ⟨_, _, _, _, rfl, rfl, h.1.2.1, fun r2 M2 nx2 p2 => ?_⟩
    rcases p2 with ⟨-, rfl, rfl, rfl⟩ | ⟨b1, -⟩ | ⟨b1, -⟩
    · exact ⟨rfl, h.z0⟩
    · exact absurd b1 a1
    · exact absurd b1 a1
  · refine ⟨_, _, _, _, rfl, rfl, h.1.2.1, fun r2 M2 nx2 p2 => ?_⟩
    rcases p2 with ⟨b1, -⟩ | ⟨-, -, rfl, rfl, rfl⟩ | ⟨-, b2, -⟩
    · exact absurd a1 b1
    · exact ⟨rfl, (h.ex hE).z0⟩
    · omega
  · refine ⟨_, _, _, _, rfl, rfl, h.c1n, fun r2 M2 nx2 p2 => ?_⟩
    rcases p2 with ⟨b1, -⟩ | ⟨-, b2, -⟩ | ⟨-, -, rfl, rfl, rfl⟩
    · exact absurd a1 b1
    · omega
    · have hB := BK_const (nu' := up2 cl 48 n (cutF v w) 48) (ci' := adI (up2 (cA ci n) 43 0 0) n 0 w (-1) (-1) (-1)) (cr' := up2 cr 3 n (some k)) h.BA (h.1.2.2.1.sm sm_cA) a2 h.2.2.2.2.2.1 hE a1 hA (up2_e _ _ _ _) (by rw [ad_k (by omega), up2_k _ _ _ (by decide)]; exact cA_2) (by rw [ad_k (by omega), up2_k _ _ _ (by decide)]; exact cA_k (by decide) (by decide)) (by rw [ad_k (by omega), up2_k _ _ _ (by decide)]; exact cA_k (by decide) (by decide)) (by rw [ad_k (by omega), up2_k _ _ _ (by decide)]; exact cA_k (by decide) (by decide)) (up2_e _ _ _ _)
      refine ⟨rfl, NXT.i (INV_app h hE hB (fun _ _ => rfl) (fun _ _ => rfl) (fun q hq => up2_k _ _ _ hq) (fun a ha => up2_j _ _ _ (by omega)) m1n m1n m1n (fun _ => ?_))⟩
      obtain ⟨k', s', e1, e2⟩ := hB.1 n (by omega)
      rw [up2_s] at e1
      cases e1
      rw [AT_ACT e2 hA, up2_s]
theorem A_reckon (h : INV ci cl cr dy nx n) {o x y w : Int32} (p : p1_reckon (cA ci n) (cl 48) o x y w n ci cl cr dy nx r M' nx') : ∃ v c1 r1 d1, r = some (.int v) ∧ M' = mm c1 cl r1 d1 ∧ c1 43 1 = nI n ∧ HF v (p2_reckon o x y w n c1 cl r1 d1 nx') := by
  have h6 := h.n6
  rcases p with ⟨a1, rfl, rfl, rfl⟩ | ⟨a0, a1, a, b, ha, hb, rfl, rfl, k, s, dy', hE, hA, ⟨a2, rfl, rfl⟩ | ⟨a2, rfl, rfl⟩⟩
  · refine ⟨_, _, _, _, rfl, rfl, h.1.2.1, fun r2 M2 nx2 p2 => ?_⟩
    rcases p2 with ⟨-, rfl, rfl, rfl⟩ | ⟨b1, -⟩ | ⟨b1, -⟩
    · exact ⟨rfl, h.z0⟩
    · exact absurd b1 a1
    · exact absurd b1 a1
  · refine ⟨_, _, _, _, rfl, rfl, h.1.2.1, fun r2 M2 nx2 p2 => ?_⟩
    rcases p2 with ⟨b1, -⟩ | ⟨-, -, rfl, rfl, rfl⟩ | ⟨-, b2, -⟩
    · exact absurd ⟨a0, a_in ha (by omega), a_in hb (by omega), a1⟩ b1
    · exact ⟨rfl, (h.ex hE).z0⟩
    · omega
  · refine ⟨_, _, _, _, rfl, rfl, h.c1n, fun r2 M2 nx2 p2 => ?_⟩
    rcases p2 with ⟨b1, -⟩ | ⟨-, b2, -⟩ | ⟨-, -, rfl, rfl, rfl⟩
    · exact absurd ⟨a0, a_in ha (by omega), a_in hb (by omega), a1⟩ b1
    · omega
    · have hB := BK_reckon (ci' := adI (up2 (cA ci n) 43 0 0) n o w (nI a) (nI b) (-1)) (cr' := up2 cr 3 n (some k)) h.BA (h.1.2.2.1.sm sm_cA) a2 h.2.2.2.2.2.1 hE a0 a1 ha hb hA (by rw [ad_k (by omega), up2_k _ _ _ (by decide)]; exact cA_2) (by rw [ad_k (by omega), up2_k _ _ _ (by decide)]; exact cA_k (by decide) (by decide)) (by rw [ad_k (by omega), up2_k _ _ _ (by decide)]; exact cA_k (by decide) (by decide)) (by rw [ad_k (by omega), up2_k _ _ _ (by decide)]; exact cA_k (by decide) (by decide)) (up2_e _ _ _ _)
      refine ⟨rfl, NXT.i (INV_app h hE hB (fun _ _ => rfl) (fun _ _ => rfl) (fun q hq => rfl) (fun a ha => rfl) (kx ha) (kx hb) m1n (fun z => ?_))⟩
      subst z
      exact absurd a0.1 (by decide)
theorem A_pick (h : INV ci cl cr dy nx n) {x y z w : Int32} (p : p1_pick (cA ci n) (cl 48) x y z w n ci cl cr dy nx r M' nx') : ∃ v c1 r1 d1, r = some (.int v) ∧ M' = mm c1 cl r1 d1 ∧ c1 43 1 = nI n ∧ HF v (p2_pick x y z w n c1 cl r1 d1 nx') := by
  have h6 := h.n6
  rcases p with ⟨a1, rfl, rfl, rfl⟩ | ⟨a1, a, b, d, ha, hb, hd, rfl, rfl, rfl, k, s, dy', hE, hA, ⟨a2, rfl, rfl⟩ | ⟨a2, rfl, rfl⟩⟩
  · refine ⟨_, _, _, _, rfl, rfl, h.1.2.1, fun r2 M2 nx2 p2 => ?_⟩
    rcases p2 with ⟨-, rfl, rfl, rfl⟩ | ⟨b1, -⟩ | ⟨b1, -⟩
    · exact ⟨rfl, h.z0⟩
    · exact absurd b1 a1
    · exact absurd b1 a1
  · refine ⟨_, _, _, _, rfl, rfl, h.1.2.1, fun r2 M2 nx2 p2 => ?_⟩
    rcases p2 with ⟨b1, -⟩ | ⟨-, -, rfl, rfl, rfl⟩ | ⟨-, b2, -⟩
    · exact absurd ⟨a_in ha (by omega), a_in hb (by omega), a_in hd (by omega), a1⟩ b1
    · exact ⟨rfl, (h.ex hE).z0⟩
    · omega
  · refine ⟨_, _, _, _, rfl, rfl, h.c1n, fun r2 M2 nx2 p2 => ?_⟩
    rcases p2 with ⟨b1, -⟩ | ⟨-, b2, -⟩ | ⟨-, -, rfl, rfl, rfl⟩
    · exact absurd ⟨a_in ha (by omega), a_in hb (by omega), a_in hd (by omega), a1⟩ b1
    · omega
    · have hB := BK_pick (ci' := adI (up2 (cA ci n) 43 0 0) n 7 w (nI a) (nI b) (nI d)) (cr' := up2 cr 3 n (some k)) h.BA (h.1.2.2.1.sm sm_cA) a2 h.2.2.2.2.2.1 hE a1 ha hb hd hA (by rw [ad_k (by omega), up2_k _ _ _ (by decide)]; exact cA_2) (by rw [ad_k (by omega), up2_k _ _ _ (by decide)]; exact cA_k (by decide) (by decide)) (by rw [ad_k (by omega), up2_k _ _ _ (by decide)]; exact cA_k (by decide) (by decide)) (by rw [ad_k (by omega), up2_k _ _ _ (by decide)]; exact cA_k (by decide) (by decide)) (up2_e _ _ _ _)
      exact ⟨rfl, NXT.i (INV_app h hE hB (fun _ _ => rfl) (fun _ _ => rfl) (fun q hq => rfl) (fun a ha => rfl) (kx ha) (kx hb) (kx hd) (fun z => absurd z (by decide)))⟩
theorem n_m1 {a : Nat} (ha : a ≤ 1000) : ¬ nI a = -1 := fun z => absurd (z ▸ nI_nn (by omega)) (by decide : ¬ (0 : Int32) ≤ -1)
theorem A_touch (h : INV ci cl cr dy nx n) {x y w : Int32} (p : p1_touch (cA ci n) (cl 48) x y w n ci cl cr dy nx r M' nx') : ∃ v c1 r1 d1, r = some (.int v) ∧ M' = mm c1 cl r1 d1 ∧ c1 43 1 = nI n ∧ HF v (p2_touch x y w n c1 cl r1 d1 nx') := by
  have h6 := h.n6
  rcases p with ⟨a1, rfl, rfl, rfl⟩ | ⟨rfl, a1, a, ha, rfl, k, s, dy', hE, hA, ⟨a2, rfl, rfl⟩ | ⟨a2, rfl, rfl⟩⟩ | ⟨a0, a1, a, b, ha, hb, rfl, rfl, k, s, dy', hE, hA, ⟨a2, rfl, rfl⟩ | ⟨a2, rfl, rfl⟩⟩
  · refine ⟨_, _, _, _, rfl, rfl, h.1.2.1, fun r2 M2 nx2 p2 => ?_⟩
    rcases p2 with ⟨-, rfl, rfl, rfl⟩ | ⟨b1, -⟩ | ⟨b1, -⟩
    · exact ⟨rfl, h.z0⟩
    · exact absurd b1 a1
    · exact absurd b1 a1
  · refine ⟨_, _, _, _, rfl, rfl, h.1.2.1, fun r2 M2 nx2 p2 => ?_⟩
    rcases p2 with ⟨b1, -⟩ | ⟨-, -, rfl, rfl, rfl⟩ | ⟨-, b2, -⟩
    · exact absurd ⟨a_in ha (by omega), Or.inl rfl, a1⟩ b1
    · exact ⟨rfl, (h.ex hE).z0⟩
    · omega
  · refine ⟨_, _, _, _, rfl, rfl, h.c1n, fun r2 M2 nx2 p2 => ?_⟩
    rcases p2 with ⟨b1, -⟩ | ⟨-, b2, -⟩ | ⟨-, -, rfl, rfl, rfl⟩
    · exact absurd ⟨a_in ha (by omega), Or.inl rfl, a1⟩ b1
    · omega
    · have hB := BK_load (ci' := adI (up2 (cA ci n) 43 0 0) n 8 w (nI a) (-1) (-1)) (cr' := up2 cr 3 n (some k)) h.BA (h.1.2.2.1.sm sm_cA) a2 h.2.2.2.2.2.1 hE a1 ha hA (by rw [ad_k (by omega), up2_k _ _ _ (by decide)]; exact cA_2) (by rw [ad_k (by omega), up2_k _ _ _ (by decide)]; exact cA_k (by decide) (by decide)) (by rw [ad_k (by omega), up2_k _ _ _ (by decide)]; exact cA_k (by decide) (by decide)) (by rw [ad_k (by omega), up2_k _ _ _ (by decide)]; exact cA_k (by decide) (by decide)) (up2_e _ _ _ _)
      rw [if_pos rfl]
      exact ⟨rfl, NXT.i (INV_app h hE hB (fun _ _ => rfl) (fun _ _ => rfl) (fun q hq => rfl) (fun a ha => rfl) (kx ha) m1n m1n (fun z => absurd z (by decide)))⟩
  · refine ⟨_, _, _, _, rfl, rfl, h.1.2.1, fun r2 M2 nx2 p2 => ?_⟩
    rcases p2 with ⟨b1, -⟩ | ⟨-, -, rfl, rfl, rfl⟩ | ⟨-, b2, -⟩
    · exact absurd ⟨a_in ha (by omega), Or.inr (a_in hb (by omega)), a1⟩ b1
    · exact ⟨rfl, (h.ex hE).z0⟩
    · omega
  · refine ⟨_, _, _, _, rfl, rfl, h.c1n, fun r2 M2 nx2 p2 => ?_⟩
    rcases p2 with ⟨b1, -⟩ | ⟨-, b2, -⟩ | ⟨-, -, rfl, rfl, rfl⟩
    · exact absurd ⟨a_in ha (by omega), Or.inr (a_in hb (by omega)), a1⟩ b1
    · omega
    · have hB := BK_store (ci' := adI (up2 (cA ci n) 43 0 0) n 9 w (nI a) (nI b) (-1)) (cr' := up2 cr 3 n (some k)) h.BA (h.1.2.2.1.sm sm_cA) a2 h.2.2.2.2.2.1 hE a1 ha hb hA (by rw [ad_k (by omega), up2_k _ _ _ (by decide)]; exact cA_2) (by rw [ad_k (by omega), up2_k _ _ _ (by decide)]; exact cA_k (by decide) (by decide)) (by rw [ad_k (by omega), up2_k _ _ _ (by decide)]; exact cA_k (by decide) (by decide)) (by rw [ad_k (by omega), up2_k _ _ _ (by decide)]; exact cA_k (by decide) (by decide)) (up2_e _ _ _ _)
      rw [if_neg a0]
      exact ⟨rfl, NXT.i (INV_app h hE hB (fun _ _ => rfl) (fun _ _ => rfl) (fun q hq => rfl) (fun a ha => rfl) (kx ha) (kx hb) m1n (fun z => absurd z (by decide)))⟩
theorem A_port (h : INV ci cl cr dy nx n) {q x w : Int32} (p : p1_port (cA ci n) (cl 48) q x w n ci cl cr dy nx r M' nx') : ∃ v c1 r1 d1, r = some (.int v) ∧ M' = mm c1 cl r1 d1 ∧ c1 43 1 = nI n ∧ HF v (p2_port q x w n c1 cl r1 d1 nx') := by
  have h6 := h.n6
  rcases p with ⟨a1, rfl, rfl, rfl⟩ | ⟨hq, rfl, a1, k, s, dy', hE, hA, ⟨a2, rfl, rfl⟩ | ⟨a2, rfl, rfl⟩⟩ | ⟨hq, a0, a1, a, ha, rfl, k, s, dy', hE, hA, ⟨a2, rfl, rfl⟩ | ⟨a2, rfl, rfl⟩⟩
  · refine ⟨_, _, _, _, rfl, rfl, h.1.2.1, fun r2 M2 nx2 p2 => ?_⟩
    rcases p2 with ⟨-, rfl, rfl, rfl⟩ | ⟨b1, -⟩ | ⟨b1, -⟩
    · exact ⟨rfl, h.z0⟩
    · exact absurd b1 a1
    · exact absurd b1 a1
  · refine ⟨_, _, _, _, rfl, rfl, h.1.2.1, fun r2 M2 nx2 p2 => ?_⟩
    rcases p2 with ⟨b1, -⟩ | ⟨-, -, rfl, rfl, rfl⟩ | ⟨-, b2, -⟩
    · exact absurd ⟨hq, Or.inl rfl, a1⟩ b1
    · exact ⟨rfl, (h.ex hE).z0⟩
    · omega
  · refine ⟨_, _, _, _, rfl, rfl, h.c1n, fun r2 M2 nx2 p2 => ?_⟩
    rcases p2 with ⟨b1, -⟩ | ⟨-, b2, -⟩ | ⟨-, -, rfl, rfl, rfl⟩
    · exact absurd ⟨hq, Or.inl rfl, a1⟩ b1
    · omega
    · rw [if_pos rfl]
      have hB := BK_portI (ci' := up2 (adI (up2 (cA ci n) 43 0 0) n 1 w (-1) (-1) (-1)) 47 n q) (cr' := up2 cr 3 n (some k)) h.BA (h.1.2.2.1.sm sm_cA) a2 h.2.2.2.2.2.1 hE hq a1 hA (by rw [up2_k _ _ _ (by decide), ad_k (by omega), up2_k _ _ _ (by decide)]; exact cA_2) (by rw [up2_k _ _ _ (by decide), ad_k (by omega), up2_k _ _ _ (by decide)]; exact cA_k (by decide) (by decide)) (by rw [up2_k _ _ _ (by decide), ad_k (by omega), up2_k _ _ _ (by decide)]; exact cA_k (by decide) (by decide)) (by rw [up2_k _ _ _ (by decide), ad_k (by omega), up2_k _ _ _ (by decide)]; exact cA_k (by decide) (by decide)) (up2_e _ _ _ _)
      exact ⟨rfl, NXT.i (INV_app h hE hB (fun z hz => up2_k _ _ _ hz) (fun a ha => up2_j _ _ _ (by omega)) (fun q hq => rfl) (fun a ha => rfl) m1n m1n m1n (fun z => absurd z (by decide)))⟩
  · refine ⟨_, _, _, _, rfl, rfl, h.1.2.1, fun r2 M2 nx2 p2 => ?_⟩
    rcases p2 with ⟨b1, -⟩ | ⟨-, -, rfl, rfl, rfl⟩ | ⟨-, b2, -⟩
    · exact absurd ⟨hq, Or.inr (a_in ha (by omega)), a1⟩ b1
    · exact ⟨rfl, (h.ex hE).z0⟩
    · omega
  · refine ⟨_, _, _, _, rfl, rfl, h.c1n, fun r2 M2 nx2 p2 => ?_⟩
    rcases p2 with ⟨b1, -⟩ | ⟨-, b2, -⟩ | ⟨-, -, rfl, rfl, rfl⟩
    · exact absurd ⟨hq, Or.inr (a_in ha (by omega)), a1⟩ b1
    · omega
    · rw [if_neg a0]
      have hB := BK_portO (ci' := up2 (adI (up2 (cA ci n) 43 0 0) n 10 w (nI a) (-1) (-1)) 47 n q) (cr' := up2 cr 3 n (some k)) h.BA (h.1.2.2.1.sm sm_cA) a2 h.2.2.2.2.2.1 hE hq a1 ha hA (by rw [up2_k _ _ _ (by decide), ad_k (by omega), up2_k _ _ _ (by decide)]; exact cA_2) (by rw [up2_k _ _ _ (by decide), ad_k (by omega), up2_k _ _ _ (by decide)]; exact cA_k (by decide) (by decide)) (by rw [up2_k _ _ _ (by decide), ad_k (by omega), up2_k _ _ _ (by decide)]; exact cA_k (by decide) (by decide)) (by rw [up2_k _ _ _ (by decide), ad_k (by omega), up2_k _ _ _ (by decide)]; exact cA_k (by decide) (by decide)) (up2_e _ _ _ _)
      exact ⟨rfl, NXT.i (INV_app h hE hB (fun z hz => up2_k _ _ _ hz) (fun a ha => up2_j _ _ _ (by omega)) (fun q hq => rfl) (fun a ha => rfl) (kx ha) m1n m1n (fun z => absurd z (by decide)))⟩
theorem cl_k {c1 : aI} {k : Nat} (h : ¬ k = 43) : chI c1 k = c1 k := by
  show up2 (up2 c1 43 13 0) 43 19 0 k = c1 k
  rw [up2_k _ _ _ h, up2_k _ _ _ h]
theorem cl_13 {c1 : aI} : chI c1 43 13 = 0 := by
  show up2 (up2 c1 43 13 0) 43 19 0 43 13 = 0
  rw [up2_j _ _ _ (by decide), up2_s]
theorem cl_19 {c1 : aI} : chI c1 43 19 = 0 := by
  show up2 (up2 c1 43 13 0) 43 19 0 43 19 = 0
  rw [up2_s]
theorem cl_j {c1 : aI} {j : Nat} (h1 : ¬ j = 13) (h2 : ¬ j = 19) : chI c1 43 j = c1 43 j := by
  show up2 (up2 c1 43 13 0) 43 19 0 43 j = c1 43 j
  rw [up2_j _ _ _ h2, up2_j _ _ _ h1]
theorem A_drop (h : INV ci cl cr dy nx n) (p : p1_drop n ci cl cr dy nx r M' nx') : ∃ v c1, r = some (.int v) ∧ M' = mm c1 cl cr dy ∧ nx = nx' ∧ c1 43 1 = nI n ∧ HF v (p2_drop n c1 cl cr dy nx) := by
  rcases p with ⟨a1, rfl, rfl, rfl⟩ | ⟨m, rfl, rfl, rfl, rfl⟩
  · refine ⟨_, _, rfl, rfl, rfl, h.1.2.1, fun r2 M2 nx2 p2 => ?_⟩
    rcases p2 with ⟨-, rfl, rfl, rfl⟩ | ⟨b1, -⟩
    · exact ⟨rfl, h.z0⟩
    · exact absurd a1 b1
  · generalize hc : up2 (up2 (up2 ci 1 7 0) 1 8 0) 2 1 (nI m) = c1
    have k1 : ∀ k, ¬ k = 1 → ¬ k = 2 → c1 k = ci k := fun k q1 q2 => by rw [← hc, up2_k _ _ _ q2, up2_k _ _ _ q1, up2_k _ _ _ q1]
    refine ⟨_, c1, rfl, rfl, rfl, by rw [k1 43 (by decide) (by decide)]; exact h.1.2.1, fun r2 M2 nx2 p2 => ?_⟩
    rcases p2 with ⟨b1, -⟩ | ⟨-, rfl, rfl, rfl⟩
    · omega
    · have em : m + 1 - 1 = m := by omega
      rw [em]
      have k2 : ∀ k, ¬ k = 1 → ¬ k = 2 → ¬ k = 43 → chI (up2 (up2 c1 43 0 0) 43 1 (nI m)) k = ci k := fun k q1 q2 q3 => by rw [cl_k q3, up2_k _ _ _ q3, up2_k _ _ _ q3, k1 k q1 q2]
      have hsm : sm ci (chI (up2 (up2 c1 43 0 0) 43 1 (nI m))) := sm.of fun k h1 h2 _ => k2 k (by omega) (by omega) (by omega)
      refine ⟨rfl, NXT.i (INV_cl (m := m) h (h.1.1.down (m := m) hsm (by omega) ?_ (k2 5 (by decide) (by decide) (by decide)) (k2 6 (by decide) (by decide) (by decide)) (k2 7 (by decide) (by decide) (by decide))) (by omega) ?_ (h.1.2.2.1.sm hsm) (h.1.2.2.2.1.sm hsm) ?_ ?_ ?_ ?_ ?_ (fun k hk => k2 k (by omega) (by omega) (by omega)))⟩
      · rw [cl_k (by decide), up2_k _ _ _ (by decide), up2_k _ _ _ (by decide), ← hc, up2_s]
      · rw [cl_j (by decide) (by decide), up2_s]
      · exact cl_13
      · exact cl_19
      · rw [cl_k (by decide), up2_k _ _ _ (by decide), up2_k _ _ _ (by decide), ← hc, up2_k _ _ _ (by decide), up2_j _ _ _ (by decide), up2_s]
      · rw [cl_k (by decide), up2_k _ _ _ (by decide), up2_k _ _ _ (by decide), ← hc, up2_k _ _ _ (by decide), up2_s]
      · rw [cl_j (by decide) (by decide), up2_j _ _ _ (by decide), up2_j _ _ _ (by decide), k1 43 (by decide) (by decide)]
end

/-! the run in the order of the TICKS -/
theorem bgn_55 {s : aS} {a : Nat} : (bgn s a).1 55 = s.1 55 := by
  unfold bgn
  split
  · show bgI (up2 s.1 43 22 (s.1 43 22 + 1)) s.2 a 55 = _
    rw [bgI_k (by decide) (by decide), up2_k _ _ _ (by decide)]
  · dsimp only
    rw [up2_k _ _ _ (by decide), up2_k _ _ _ (by decide), bgI_k (by decide) (by decide), up2_k _ _ _ (by decide)]
theorem stp_55 {s : aS} {a : Nat} : (stp s a).1 55 = s.1 55 := by
  unfold stp
  split
  · exact bgn_55
  · split
    · exact bgn_55
    · rfl
theorem fold_55 : ∀ (L : List Nat) (s : aS), (L.foldl stp s).1 55 = s.1 55
  | [], s => rfl
  | a :: L, s => (fold_55 L (stp s a)).trans stp_55
theorem fG_fold (g : Nat → Nat) (s : aS) : ∀ n, fG g s n = ((List.range n).map g).foldl stp s
  | 0 => rfl
  | n + 1 => by
    rw [List.range_succ, List.map_append, List.foldl_append, ← fG_fold g s n]
    rfl
theorem rni_0 {t : Int32} {s : aS} : ∀ n, rni 0 t s n = fG (fun i => i) s n
  | 0 => rfl
  | n + 1 => by
    show rnS 0 t (rni 0 t s n) n = stp (fG (fun i => i) s n) n
    rw [rni_0 n]
    unfold rnS
    rw [if_pos rfl]
theorem run_0 {n : Nat} {s : aS} : rno 0 n s 1 = fG (fun i => i) s n := rni_0 n
theorem rni_e' {z t : Int32} (hz : ¬ z = 0) (s : aS) : ∀ n, rni z t s n = (uin (fun a => decide (s.1 55 a = t)) n).foldl stp s
  | 0 => rfl
  | n + 1 => by
    show rnS z t (rni z t s n) n = _
    rw [rni_e' hz s n]
    unfold rnS
    rw [if_neg hz, fold_55]
    simp only [uin, List.foldl_append]
    by_cases q : s.1 55 n = t
    · rw [if_pos q, if_pos (decide_eq_true q)]
      rfl
    · rw [if_neg q, if_neg (by simp only [decide_eq_true_eq]; exact q)]
      rfl
theorem rno_e' {z : Int32} (hz : ¬ z = 0) (s : aS) (n : Nat) : ∀ T, rno z n s T = (uou (fun t a => decide (s.1 55 a = nI t)) n T).foldl stp s
  | 0 => rfl
  | T + 1 => by
    show rni z (nI T) (rno z n s T) n = _
    rw [rni_e' hz, rno_e' hz s n T]
    simp only [uou, List.foldl_append]
    rw [fold_55]
theorem run_z {z : Int32} {c : aI} {l : aL} {ci : aI} {g : Nat → Nat} {n T : Nat} (hz : ¬ z = 0) (hO : OS (ci 11) g n) (h55 : ∀ a, a < n → c 55 a = ci 11 a) (ht : ∀ a, a < n → ∃ t, t ≤ T ∧ c 55 a = nI t) (hT : T ≤ 1000) : rno z n (rs0 c l) (T + 1) = fG g (rs0 c l) n := by
  rw [rno_e' hz, fG_fold]
  have e5 : (rs0 c l).1 55 = c 55 := rs0_i (by decide) (by decide) (by decide)
  rw [e5]
  congr 1
  refine pw_uniq (T := c 55) _ _ (uou_pw (fun t a h => of_decide_eq_true h) (T + 1) (by omega)) ?_ (fun x => ?_)
  · rw [List.pairwise_map]
    refine List.Pairwise.imp_of_mem (R := fun a b => a < b) ?_ List.pairwise_lt_range
    intro a b ha hb hab
    have hb2 := List.mem_range.mp hb
    have q := hO.2.1 a b hab hb2
    unfold LX at q ⊢
    rw [h55 _ (hO.1 a (by omega)), h55 _ (hO.1 b hb2)]
    exact q
  · rw [uou_mem, List.mem_map]
    constructor
    · rintro ⟨h1, -⟩
      obtain ⟨i, hi, e⟩ := hO.2.2 x h1
      exact ⟨i, List.mem_range.mpr hi, e⟩
    · rintro ⟨i, hi, e⟩
      have hx : x < n := e ▸ hO.1 i (List.mem_range.mp hi)
      obtain ⟨t, h1, h2⟩ := ht x hx
      exact ⟨hx, t, by omega, decide_eq_true h2⟩

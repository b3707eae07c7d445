theorem i_is {m : Int32} {k : Nat} (h : m.toInt = (k : Int)) : m = nI k := by
  have h2 := Int32.toInt_lt m
  refine Int32.toInt_inj.mp ?_
  rw [nI_toInt (by omega), h]
theorem nx_sub {a b : Nat} (h : b ≤ a) : nI a - nI b = nI (a - b) := by
  have e : nI a = nI (a - b) + nI b := by rw [nI_add]; congr 1; omega
  rw [e, Int32.add_sub_cancel]
theorem nx_subE {x y : Int32} {a b : Nat} (hx : x = nI a) (hy : y = nI b) (h : b ≤ a) : x - y = nI (a - b) := by subst hx; subst hy; exact nx_sub h
theorem pw_ti {w : Nat} (h1 : 1 ≤ w) (h2 : w ≤ 32) : 1 ≤ (pw (nI w)).toInt ∧ (pw (nI w)).toInt ≤ 2147483648 := by
  have : ∀ w, w < 33 → 1 ≤ w → 1 ≤ (pw (nI w)).toInt ∧ (pw (nI w)).toInt ≤ 2147483648 := by decide
  exact this w (by omega) h1
theorem l_neg {x : Int64} (h1 : 0 ≤ x.toInt) : (-x).toInt = -x.toInt := by
  have h2 := Int64.toInt_lt x
  rw [Int64.toInt_neg, Int.bmod_eq_of_le] <;> omega
theorem l_sub1 {x : Int64} (h1 : 0 ≤ x.toInt) : (x - 1).toInt = x.toInt - 1 := by
  have h2 := Int64.toInt_lt x
  have e : (1 : Int64).toInt = 1 := rfl
  rw [Int64.toInt_sub, e, Int.bmod_eq_of_le] <;> omega
theorem SL_eq (ci : Nat → Nat → Int32) (nu : Nat → Int64) (a : Nat) : ∃ lo hi : Int64, SL ci nu a = (if ¬ lo < -pw (ci 45 a) ∧ ¬ pw (ci 45 a) ≤ hi then lo else -pw (ci 45 a)) ∧ SH ci nu a = (if ¬ lo < -pw (ci 45 a) ∧ ¬ pw (ci 45 a) ≤ hi then hi else pw (ci 45 a) - 1) := by
  refine ⟨spLo ci nu (spT ci nu a).1 (spT ci nu a).2 a (pw (ci 45 a)), spHi ci nu (spT ci nu a).1 (spT ci nu a).2 a (pw (ci 45 a)), ?_, ?_⟩
  · show va_up _ a _ a = _
    rw [va_up, if_pos rfl]
  · show va_up _ a _ a = _
    rw [va_up, if_pos rfl]
theorem fit32 {c : aI} {nu : Nat → Int64} {a : Nat} (hw : WF c a) : fit (SL c nu a) (SH c nu a) (nI 32) := by
  obtain ⟨w, w1, w2, ew⟩ := hw.w
  obtain ⟨lo, hi, e1, e2⟩ := SL_eq c nu a
  rw [e1, e2, ew]
  obtain ⟨p1, p2⟩ := pw_ti w1 w2
  have e32 : (pw (nI 32)).toInt = 2147483648 := by decide
  have en : (-pw (nI 32)).toInt = -2147483648 := by decide
  by_cases h : ¬ lo < -pw (nI w) ∧ ¬ pw (nI w) ≤ hi
  · rw [if_pos h, if_pos h]
    obtain ⟨ha, hb⟩ := h
    unfold fit
    rw [Int64.lt_iff_toInt_lt, Int64.lt_iff_toInt_lt, en, e32]
    rw [Int64.lt_iff_toInt_lt, l_neg (by omega)] at ha
    rw [Int64.le_iff_toInt_le] at hb
    omega
  · rw [if_neg h, if_neg h]
    unfold fit
    rw [Int64.lt_iff_toInt_lt, Int64.lt_iff_toInt_lt, en, e32, l_neg (by omega), l_sub1 (by omega)]
    omega
theorem FSI.fit {c : aI} {l l' : aL} {n a : Nat} (h : FSI c l l' n) (ha : a < n) (hw : WF c a) : fit (l' 61 a) (l' 62 a) (nI 32) := by
  rw [(h.2 a ha).1, (h.2 a ha).2]; exact fit32 hw
/-- what `act` tells of ACT a -/
def acF (c : aI) (l : aL) (a : Nat) : Nat → Int32
  | 0 => c 44 a
  | 1 => c 45 a
  | 2 => if 0 ≤ c 46 (3 * a) then c 46 (3 * a) else -2
  | 3 => if 0 ≤ c 46 (3 * a + 1) then c 46 (3 * a + 1) else -2
  | 4 => if 0 ≤ c 46 (3 * a + 2) then c 46 (3 * a + 2) else -2
  | 5 => c 47 a
  | 6 => ln c a
  | 7 => nI (btF (l 61 a) (l 62 a) 32 1)
  | _ => kd (c 44 a)
/-- what `tick` tells of ACT a -/
def tkF (c : aI) (l : aL) (n a : Nat) : Nat → Int32
  | 0 => c 55 a
  | 1 => c 56 a
  | 2 => jbF c l a a 0
  | 3 => if c 55 a ≤ c 63 a then 0 else 1
  | 4 => c 57 a
  | 5 => if usd c n a then lbN c a else -2
  | _ => if usd c n a then leN c n a else -2
/-- the reference's freeTicks -/
def kpC (c : aI) : Nat → aI
  | 0 => c
  | a + 1 => up2 (kpC c a) 64 a (kpC c a 55 a)
def ftC (c : aI) (l : aL) : Nat → aI
  | 0 => c
  | b + 1 => up2 (ftC c l b) 55 b (askF (ftC c l b) l b b)
def ftA (c : aI) (l : aL) : Nat → Int32
  | 0 => 0
  | b + 1 => if askF (ftC c l b) l b b + ln (ftC c l (b + 1)) b ≤ ftA c l b then ftA c l b else askF (ftC c l b) l b b + ln (ftC c l (b + 1)) b
def rsC (c : aI) : Nat → aI
  | 0 => c
  | a + 1 => up2 (rsC c a) 55 a (rsC c a 64 a)
theorem kpC_k (c : aI) {k : Nat} (h : ¬ k = 64) : ∀ a, kpC c a k = c k
  | 0 => rfl
  | a + 1 => (up2_k _ _ _ h).trans (kpC_k c h a)
theorem ftC_k (c : aI) (l : aL) {k : Nat} (h : ¬ k = 55) : ∀ a, ftC c l a k = c k
  | 0 => rfl
  | a + 1 => (up2_k _ _ _ h).trans (ftC_k c l h a)
theorem rsC_k (c : aI) {k : Nat} (h : ¬ k = 55) : ∀ a, rsC c a k = c k
  | 0 => rfl
  | a + 1 => (up2_k _ _ _ h).trans (rsC_k c h a)
theorem kpC_4 (c : aI) : ∀ n a, a < n → kpC c n 64 a = c 55 a
  | 0, a, h => by omega
  | n + 1, a, h => by
    by_cases e : a = n
    · subst e; show up2 _ 64 a _ 64 a = _; rw [up2_s, kpC_k c (by decide)]
    · show up2 _ 64 n _ 64 a = _; rw [up2_j _ _ _ e]; exact kpC_4 c n a (by omega)
theorem ftC_5 (c : aI) (l : aL) : ∀ n a, n ≤ a → ftC c l n 55 a = c 55 a
  | 0, a, h => rfl
  | n + 1, a, h => by
    show up2 _ 55 n _ 55 a = _
    rw [up2_j _ _ _ (by omega)]; exact ftC_5 c l n a (by omega)
theorem rsC_5 (c : aI) : ∀ n a, rsC c n 55 a = if a < n then c 64 a else c 55 a
  | 0, a => by rw [if_neg (by omega)]; rfl
  | n + 1, a => by
    by_cases e : a = n
    · subst e; show up2 _ 55 a _ 55 a = _; rw [up2_s, rsC_k c (by decide), if_pos (by omega)]
    · show up2 _ 55 n _ 55 a = _; rw [up2_j _ _ _ e, rsC_5 c n a]; split <;> split <;> first | rfl | omega
/-- only kept (64) differs -/
def smB (c c' : aI) : Prop := ∀ k, ¬ k = 64 → c' k = c k
theorem fr_sm (c : aI) (l : aL) (n : Nat) : smB c (rsC (ftC (kpC c n) l n) n) := by
  intro k hk
  by_cases e : k = 55
  · subst e
    funext a
    rw [rsC_5]
    split
    · rename_i h; rw [ftC_k _ l (by decide), kpC_4 c n a h]
    · rw [ftC_5 _ l n a (by omega), kpC_k c (by decide)]
  · rw [rsC_k _ e, ftC_k _ l e, kpC_k c hk]
/-- TICKS that a kind wants -/
abbrev flB (c : aI) (n k : Nat) : Int32 := (fdF c (nI k) n + c 49 k - 1) / c 49 k
def bmF (c : aI) (n : Nat) (t : Int32) : Nat → Int32
  | 0 => t
  | k + 1 => if flB c n k ≤ bmF c n t k then bmF c n t k else flB c n k
theorem fdF_sm {c c' : aI} (h : smB c c') (k : Int32) : ∀ n, fdF c' k n = fdF c k n
  | 0 => rfl
  | n + 1 => by
    simp only [fdF, fl]
    rw [fdF_sm h k n, h 44 (by decide), h 50 (by decide), h 51 (by decide)]
theorem flB_sm {c c' : aI} (h : smB c c') (n k : Nat) : flB c' n k = flB c n k := by unfold flB; rw [fdF_sm h, h 49 (by decide)]
theorem bmF_sm {c c' : aI} (h : smB c c') (n : Nat) (t : Int32) : ∀ k, bmF c' n t k = bmF c n t k
  | 0 => rfl
  | k + 1 => by simp only [bmF]; rw [flB_sm h, bmF_sm h n t k]
def bdF (c : aI) (l : aL) (n : Nat) (k : Nat) : Int32 := if k = 0 then ftA (kpC c n) l n else if k < 5 then flB c n (k - 1) else bmF c n (ftA (kpC c n) l n) 4
/-- SOURCES of a PART -/
def csS (c : aI) (q i : Int32) (w a : Nat) : Int32 := if kd (c 44 a) = q then (if c 56 a = i then soF c a w else -1) else -1
def knI (c : aI) (q i : Int32) (w : Nat) (s : Int32) : Nat → Int32
  | 0 => if 0 ≤ s then 0 else 1
  | b + 1 => if knI c q i w s b = 0 then (if kd (c 44 b) = q then (if c 56 b = i then (if soF c b w = s then 1 else 0) else 0) else 0) else 1
def chN (c : aI) (q i : Int32) (w : Nat) : Nat → Int32
  | 0 => 0
  | a + 1 => chN c q i w a + (if knI c q i w (csS c q i w a) a = 0 then 1 else 0)
theorem kn_01 (c : aI) (q i : Int32) (w : Nat) (s : Int32) : ∀ b, knI c q i w s b = 0 ∨ knI c q i w s b = 1
  | 0 => by simp only [knI]; split <;> simp
  | b + 1 => by
    simp only [knI]
    split
    · split
      · split
        · split
          · exact Or.inr rfl
          · exact Or.inl rfl
        · exact Or.inl rfl
      · exact Or.inl rfl
    · exact Or.inr rfl
/-- the i-th ACT of TICK t, from a on, of k that are left, m are passed -/
def atF (c : aI) (t i : Int32) : Nat → Nat → Nat → Int32
  | 0, _, _ => -2
  | k + 1, a, m => if c 55 a = t then (if nI m = i then nI a else atF c t i k (a + 1) (m + 1)) else atF c t i k (a + 1) m
def tdF (c : aI) : Nat → Int32
  | 0 => c 43 20
  | 1 => c 43 21
  | 2 => c 43 22
  | 3 => c 43 23
  | _ => c 58 0 + c 58 1 + c 58 2 + c 58 3
def osN (c : aI) : Nat → Nat
  | 0 => 0
  | a + 1 => osN c a + opN c a 3
def cnF (c : aI) (n : Nat) (q : Int32) : Int32 :=
  if q = 0 then c 43 1 else if q = 1 then nI (osN c n) else if q = 2 then c 52 0 + c 52 1 + c 52 2 + c 52 3 else if q = 3 then c 49 0 else if q = 4 then c 49 1 else if q = 5 then c 49 2 else if q = 6 then c 49 3 else -1
abbrev NDC (n : Nat) (x y : Int32) : Prop := AI n y ∧ ¬ x < 0 ∧ x < y
theorem NDC.k {n : Nat} {x y : Int32} (h : NDC n x y) (h6 : n ≤ 16) : ∃ a b, a < b ∧ b < n ∧ x = nI a ∧ y = nI b := by
  obtain ⟨h1, h2, h3⟩ := h
  obtain ⟨b, hb, rfl⟩ := h1.k
  rw [Int32.not_lt, Int32.le_iff_toInt_le] at h2
  have e0 : (0 : Int32).toInt = 0 := rfl
  rw [e0] at h2
  rw [Int32.lt_iff_toInt_lt, nI_toInt (by omega)] at h3
  refine ⟨x.toInt.toNat, b, by omega, hb, i_ofToNat h2, rfl⟩

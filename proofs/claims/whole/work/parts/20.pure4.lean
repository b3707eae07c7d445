theorem i32_s {x : Int32} {m : Nat} : x + nI m + 1 = x + nI (m + 1) := by rw [Int32.add_assoc, nI_1]
theorem nI_add0 {x : Int32} : x + nI 0 = x := by rw [nI_0]; exact Int32.add_zero x
/-- the first TICK from t on at which a PART is free for ACT b, with f tries left -/
def sr (c : aI) (b np : Nat) : Nat → Int32 → Int32
  | 0, t => t
  | f + 1, t => if 0 ≤ fpF c b t np 0 then t else sr c b np f (t + 1)
def npF (c : aI) (b : Nat) : Nat := (c 49 (kd (c 44 b)).toNatClampNeg).toNatClampNeg
abbrev ly1 (c : aI) (cl : Nat → Nat → Int64) (b : Nat) : aI := up2 (up2 c 63 b (askF c cl b b)) 56 b (-2)
def lyT (c : aI) (cl : Nat → Nat → Int64) (b : Nat) : Int32 := if kd (ly1 c cl b 44 b) < 0 then askF c cl b b else sr (ly1 c cl b) b (npF (ly1 c cl b) b) 201 (askF c cl b b)
def ly2 (c : aI) (cl : Nat → Nat → Int64) (b : Nat) : aI := if kd (ly1 c cl b 44 b) < 0 then ly1 c cl b else up2 (ly1 c cl b) 56 b (fpF (ly1 c cl b) b (lyT c cl b) (npF (ly1 c cl b) b) 0)
abbrev ly3 (c : aI) (cl : Nat → Nat → Int64) (b : Nat) : aI := up2 (ly2 c cl b) 55 b (lyT c cl b)
def lyS (c : aI) (cl : Nat → Nat → Int64) (b : Nat) : aI := up2 (ly3 c cl b) 43 16 (if lyT c cl b + ln (ly3 c cl b) b ≤ ly2 c cl b 43 16 then ly2 c cl b 43 16 else lyT c cl b + ln (ly3 c cl b) b)
/-- the first n ACTS are laid -/
def layC (c : aI) (cl : Nat → Nat → Int64) : Nat → aI
  | 0 => c
  | b + 1 => lyS (layC c cl b) cl b
/-- only TICKS (55), PARTS (56), asked (63) and ALL TICKS (43, 16) differ -/
def smL (c c' : aI) : Prop := (∀ k, ¬ k = 55 → ¬ k = 56 → ¬ k = 63 → ¬ k = 43 → c' k = c k) ∧ ∀ j, ¬ j = 16 → c' 43 j = c 43 j
theorem smL.rf {c : aI} : smL c c := ⟨fun _ _ _ _ _ => rfl, fun _ _ => rfl⟩
theorem smL.tr {c c' c2 : aI} (h : smL c c') (h' : smL c' c2) : smL c c2 := ⟨fun k a b d e => (h'.1 k a b d e).trans (h.1 k a b d e), fun j a => (h'.2 j a).trans (h.2 j a)⟩
theorem smL.u5 {c : aI} {a : Nat} {v : Int32} : smL c (up2 c 55 a v) := ⟨fun k a b d e => up2_k _ _ _ a, fun j _ => by rw [up2_k _ _ _ (by decide)]⟩
theorem smL.u6 {c : aI} {a : Nat} {v : Int32} : smL c (up2 c 56 a v) := ⟨fun k a b d e => up2_k _ _ _ b, fun j _ => by rw [up2_k _ _ _ (by decide)]⟩
theorem smL.u3 {c : aI} {a : Nat} {v : Int32} : smL c (up2 c 63 a v) := ⟨fun k a b d e => up2_k _ _ _ d, fun j _ => by rw [up2_k _ _ _ (by decide)]⟩
theorem smL.v {c : aI} {v : Int32} : smL c (up2 c 43 16 v) := ⟨fun k a b d e => up2_k _ _ _ e, fun j h => up2_j _ _ _ h⟩
theorem ly1_sm (c : aI) (cl : Nat → Nat → Int64) (b : Nat) : smL c (ly1 c cl b) := smL.u3.tr smL.u6
theorem ly2_sm (c : aI) (cl : Nat → Nat → Int64) (b : Nat) : smL c (ly2 c cl b) := by
  unfold ly2
  split
  · exact ly1_sm c cl b
  · exact (ly1_sm c cl b).tr smL.u6
theorem lyS_sm (c : aI) (cl : Nat → Nat → Int64) (b : Nat) : smL c (lyS c cl b) := ((ly2_sm c cl b).tr smL.u5).tr smL.v
theorem lay_sm (c : aI) (cl : Nat → Nat → Int64) : ∀ b, smL c (layC c cl b)
  | 0 => smL.rf
  | b + 1 => (lay_sm c cl b).tr (lyS_sm _ cl b)
theorem smL.WF {c c' : aI} (h : smL c c') {i : Nat} (hw : WF c i) : WF c' i := by
  have e4 := h.1 44 (by decide) (by decide) (by decide) (by decide)
  have e5 := h.1 45 (by decide) (by decide) (by decide) (by decide)
  have e6 := h.1 46 (by decide) (by decide) (by decide) (by decide)
  have e7 := h.1 47 (by decide) (by decide) (by decide) (by decide)
  unfold _root_.Jvm.Pilot.@@N@@.WF
  rw [e4, e5, e6, e7]
  exact hw
theorem WF.o {c : aI} {i : Nat} (h : WF c i) (hi : i < 16) (h8 : c 44 i = 8 ∨ c 44 i = 9) : ∃ x, x < 16 ∧ c 46 (3 * i) = nI x := by
  obtain ⟨x, hx, e⟩ := h.x (by rcases h8 with q | q <;> rw [q] <;> decide) (by rcases h8 with q | q <;> rw [q] <;> decide)
  exact ⟨x, by omega, e⟩

/-! The memory as the loop begins -/
def ci0 : aI := fun k => if k = 5 then (upd (upd (upd (upd (fun _ => 0) (0 : Int32).toNatClampNeg 1) (1 : Int32).toNatClampNeg 1) (2 : Int32).toNatClampNeg 1) (3 : Int32).toNatClampNeg 1) else if k = 6 then (upd (upd (upd (upd (fun _ => 0) (0 : Int32).toNatClampNeg 1) (1 : Int32).toNatClampNeg 2) (2 : Int32).toNatClampNeg 4) (3 : Int32).toNatClampNeg 1) else if k = 24 then (upd (upd (upd (upd (upd (upd (upd (upd (upd (upd (upd (upd (upd (upd (upd (upd (fun _ => 0) (0 : Int32).toNatClampNeg 0) (1 : Int32).toNatClampNeg 1) (2 : Int32).toNatClampNeg 2) (3 : Int32).toNatClampNeg 3) (4 : Int32).toNatClampNeg 4) (5 : Int32).toNatClampNeg 5) (6 : Int32).toNatClampNeg 6) (7 : Int32).toNatClampNeg 7) (8 : Int32).toNatClampNeg 8) (9 : Int32).toNatClampNeg 9) (10 : Int32).toNatClampNeg 10) (11 : Int32).toNatClampNeg 11) (12 : Int32).toNatClampNeg 12) (13 : Int32).toNatClampNeg 13) (14 : Int32).toNatClampNeg 14) (15 : Int32).toNatClampNeg 15) else if k = 49 then (upd (upd (upd (upd (fun _ => 0) (0 : Int32).toNatClampNeg 1) (1 : Int32).toNatClampNeg 1) (2 : Int32).toNatClampNeg 1) (3 : Int32).toNatClampNeg 1) else if k = 50 then (upd (upd (upd (upd (fun _ => 0) (0 : Int32).toNatClampNeg 1) (1 : Int32).toNatClampNeg 2) (2 : Int32).toNatClampNeg 4) (3 : Int32).toNatClampNeg 1) else if k = 18 then (fun j => if j = 9 then -2 else 0) else fun _ => 0
def cl0 : aL := fun _ _ => 0
def cr0 : Nat → Nat → Option Nat := fun k => if k = 19 then (va_up (va_up (va_up (va_up (fun _ => none) (0 : Int32).toNatClampNeg (some 26)) (1 : Int32).toNatClampNeg (some 30)) (2 : Int32).toNatClampNeg (some 34)) (3 : Int32).toNatClampNeg (some 38)) else if k = 20 then (va_up (va_up (va_up (va_up (fun _ => none) (0 : Int32).toNatClampNeg (some 28)) (1 : Int32).toNatClampNeg (some 32)) (2 : Int32).toNatClampNeg (some 36)) (3 : Int32).toNatClampNeg (some 40)) else fun _ => none
def mc0 : aM := va_up (mz 43 73 (va_up (mz 1 43 (va_up (fun _ => none) 1 (some (.inr (10, [.null, .null, .null, .null, .null, .null, .null, .int 0, .int 0])))) lz_X11) 43 (some (.inr (11, [.int 0, .int 0, .null, .null, .null, .null, .null, .null, .null, .null, .null, .null, .null, .int 0, .null, .null, .int 0, .null, .int 0, .int 0, .int 0, .int 0, .int 0, .int 0, .null, .null, .null, .null, .null, .long 0, .long 0, .null, .null, .null, .null, .null, .null, .null, .null, .null, .null])))) lz_X12) 73 (some (.inl (1, 1, .inr (.inl (fun _ => 0)))))
set_option maxRecDepth 100000 in
theorem mc0_e : ∀ j ∈ List.range' 1 73, mc0 j = mm ci0 cl0 cr0 (fun _ => none) j := by
  refine List.forall_mem_cons.mpr ⟨rfl, ?_⟩
  refine List.forall_mem_cons.mpr ⟨rfl, ?_⟩
  refine List.forall_mem_cons.mpr ⟨rfl, ?_⟩
  refine List.forall_mem_cons.mpr ⟨rfl, ?_⟩
  refine List.forall_mem_cons.mpr ⟨rfl, ?_⟩
  refine List.forall_mem_cons.mpr ⟨rfl, ?_⟩
  refine List.forall_mem_cons.mpr ⟨rfl, ?_⟩
  refine List.forall_mem_cons.mpr ⟨rfl, ?_⟩
  refine List.forall_mem_cons.mpr ⟨rfl, ?_⟩
  refine List.forall_mem_cons.mpr ⟨rfl, ?_⟩
  refine List.forall_mem_cons.mpr ⟨rfl, ?_⟩
  refine List.forall_mem_cons.mpr ⟨rfl, ?_⟩
  refine List.forall_mem_cons.mpr ⟨rfl, ?_⟩
  refine List.forall_mem_cons.mpr ⟨rfl, ?_⟩
  refine List.forall_mem_cons.mpr ⟨rfl, ?_⟩
  refine List.forall_mem_cons.mpr ⟨rfl, ?_⟩
  refine List.forall_mem_cons.mpr ⟨rfl, ?_⟩
  refine List.forall_mem_cons.mpr ⟨rfl, ?_⟩
  refine List.forall_mem_cons.mpr ⟨rfl, ?_⟩
  refine List.forall_mem_cons.mpr ⟨rfl, ?_⟩
  refine List.forall_mem_cons.mpr ⟨rfl, ?_⟩
  refine List.forall_mem_cons.mpr ⟨rfl, ?_⟩
  refine List.forall_mem_cons.mpr ⟨rfl, ?_⟩
  refine List.forall_mem_cons.mpr ⟨rfl, ?_⟩
  refine List.forall_mem_cons.mpr ⟨rfl, ?_⟩
  refine List.forall_mem_cons.mpr ⟨rfl, ?_⟩
  refine List.forall_mem_cons.mpr ⟨rfl, ?_⟩
  refine List.forall_mem_cons.mpr ⟨rfl, ?_⟩
  refine List.forall_mem_cons.mpr ⟨rfl, ?_⟩
  refine List.forall_mem_cons.mpr ⟨rfl, ?_⟩
  refine List.forall_mem_cons.mpr ⟨rfl, ?_⟩
  refine List.forall_mem_cons.mpr ⟨rfl, ?_⟩
  refine List.forall_mem_cons.mpr ⟨rfl, ?_⟩
  refine List.forall_mem_cons.mpr ⟨rfl, ?_⟩
  refine List.forall_mem_cons.mpr ⟨rfl, ?_⟩
  refine List.forall_mem_cons.mpr ⟨rfl, ?_⟩
  refine List.forall_mem_cons.mpr ⟨rfl, ?_⟩
  refine List.forall_mem_cons.mpr ⟨rfl, ?_⟩
  refine List.forall_mem_cons.mpr ⟨rfl, ?_⟩
  refine List.forall_mem_cons.mpr ⟨rfl, ?_⟩
  refine List.forall_mem_cons.mpr ⟨rfl, ?_⟩
  refine List.forall_mem_cons.mpr ⟨rfl, ?_⟩
  refine List.forall_mem_cons.mpr ⟨rfl, ?_⟩
  refine List.forall_mem_cons.mpr ⟨rfl, ?_⟩
  refine List.forall_mem_cons.mpr ⟨rfl, ?_⟩
  refine List.forall_mem_cons.mpr ⟨rfl, ?_⟩
  refine List.forall_mem_cons.mpr ⟨rfl, ?_⟩
  refine List.forall_mem_cons.mpr ⟨rfl, ?_⟩
  refine List.forall_mem_cons.mpr ⟨rfl, ?_⟩
  refine List.forall_mem_cons.mpr ⟨rfl, ?_⟩
  refine List.forall_mem_cons.mpr ⟨rfl, ?_⟩
  refine List.forall_mem_cons.mpr ⟨rfl, ?_⟩
  refine List.forall_mem_cons.mpr ⟨rfl, ?_⟩
  refine List.forall_mem_cons.mpr ⟨rfl, ?_⟩
  refine List.forall_mem_cons.mpr ⟨rfl, ?_⟩
  refine List.forall_mem_cons.mpr ⟨rfl, ?_⟩
  refine List.forall_mem_cons.mpr ⟨rfl, ?_⟩
  refine List.forall_mem_cons.mpr ⟨rfl, ?_⟩
  refine List.forall_mem_cons.mpr ⟨rfl, ?_⟩
  refine List.forall_mem_cons.mpr ⟨rfl, ?_⟩
  refine List.forall_mem_cons.mpr ⟨rfl, ?_⟩
  refine List.forall_mem_cons.mpr ⟨rfl, ?_⟩
  refine List.forall_mem_cons.mpr ⟨rfl, ?_⟩
  refine List.forall_mem_cons.mpr ⟨rfl, ?_⟩
  refine List.forall_mem_cons.mpr ⟨rfl, ?_⟩
  refine List.forall_mem_cons.mpr ⟨rfl, ?_⟩
  refine List.forall_mem_cons.mpr ⟨rfl, ?_⟩
  refine List.forall_mem_cons.mpr ⟨rfl, ?_⟩
  refine List.forall_mem_cons.mpr ⟨rfl, ?_⟩
  refine List.forall_mem_cons.mpr ⟨rfl, ?_⟩
  refine List.forall_mem_cons.mpr ⟨rfl, ?_⟩
  refine List.forall_mem_cons.mpr ⟨rfl, ?_⟩
  refine List.forall_mem_cons.mpr ⟨rfl, ?_⟩
  exact fun _ h => nomatch h
theorem mc0_le : ∀ j x, mm ci0 cl0 cr0 (fun _ => none) j = some x → mc0 j = some x := by
  intro j x h
  by_cases h0 : j = 0
  · subst h0; cases h
  · by_cases h7 : 74 ≤ j
    · rw [mm_hi h7] at h; cases h
    · rw [mc0_e j (List.mem_range'_1.mpr ⟨by omega, by omega⟩)]; exact h
theorem k4 {k : Nat} (h : k < 4) : k = 0 ∨ k = 1 ∨ k = 2 ∨ k = 3 := by omega
theorem INV_0 : INV ci0 cl0 cr0 (fun _ => none) 74 0 := by
  refine ⟨⟨⟨fun a h => absurd h (Nat.not_lt_zero a), fun k hk => ?_, by decide, rfl, fun i h => absurd h (Nat.not_lt_zero i), fun i h => absurd h (Nat.not_lt_zero i), fun i h => absurd h (Nat.not_lt_zero i)⟩, rfl, fun k hk => ?_, fun k hk => ?_, fun a h => absurd h (Nat.not_lt_zero a), fun a h => absurd h (Nat.not_lt_zero a)⟩, ⟨fun p hp => ⟨?_, fun j hj => rfl⟩, fun p hp => ?_, fun p hp => ⟨0, by omega, ?_⟩, ⟨fun a ha => rfl, fun p hp j hj => rfl⟩, fun i hi => rfl, fun i hi => ?_, fun p hp => ⟨?_, 0, by omega, rfl⟩, fun i hi => rfl, 0, by omega, rfl⟩, ⟨rfl, rfl, fun z => absurd rfl z, Or.inl rfl⟩, fun z => absurd rfl z, ⟨fun e he => Or.inl ⟨rfl, rfl⟩, fun e he => ⟨0, by omega, rfl⟩, fun e g k k' q q' w w' he hg hne c1 => nomatch c1⟩, fun q hq => rfl, by decide⟩
  · rcases k4 hk with e | e | e | e <;> subst e <;> exact ⟨rfl, rfl, rfl⟩
  · rcases k4 hk with e | e | e | e <;> subst e
    · exact ⟨1, by decide, by decide, by decide +kernel⟩
    · exact ⟨2, by decide, by decide, by decide +kernel⟩
    · exact ⟨4, by decide, by decide, by decide +kernel⟩
    · exact ⟨1, by decide, by decide, by decide +kernel⟩
  · rcases k4 hk with e | e | e | e <;> subst e
    · exact ⟨1, by decide, by decide, by decide +kernel⟩
    · exact ⟨1, by decide, by decide, by decide +kernel⟩
    · exact ⟨1, by decide, by decide, by decide +kernel⟩
    · exact ⟨1, by decide, by decide, by decide +kernel⟩
  · rcases k4 hp with e | e | e | e <;> subst e <;> rfl
  · rcases k4 hp with e | e | e | e <;> subst e <;> exact ⟨by decide +kernel, by decide +kernel⟩
  · rcases k4 hp with e | e | e | e <;> subst e <;> rfl
  · have key : ∀ i : Fin 16, ci0 24 i.val = nI i.val := by decide +kernel
    exact key ⟨i, hi⟩
  · rcases k4 hp with e | e | e | e <;> subst e <;> rfl

section
variable {E : aG} {Γ : aC} {own : String} {cc : ByteArray} {nL : Nat} {ret : Option FieldType} {nm : String} {d mc ms : Nat} {M : aM} {nx ce sl pc pc' : Nat} {lv lv' : List (Nat × Value)} {st : List Value}

theorem sv_iconst (hΓ : CK E own cc nL ret nm d mc ms Γ) {n : Int} {v : Int32} (hd : decode cc pc = .ok (.iconst n, 1)) (hv : Int32.ofInt n = v) (hn : pc + 1 = pc') (k : SV E Γ nL M nx ce sl pc' lv (.int v :: st)) : SV E Γ nL M nx ce sl pc lv (st) := by
  obtain ⟨p, l, e, R, s, m, args, below, meth, c, Q⟩ := Γ
  obtain ⟨hx, hb, hml, hown, hts, hK, hr, hlk, hnm, hrm, hsz, hZ, hZC⟩ := hΓ
  subst hn
  intro H locs ls hR hS hl
  exact lv_iconst hx hb hd hv (k H locs ls hR hS hl)

theorem sv_bipush (hΓ : CK E own cc nL ret nm d mc ms Γ) {n : Int} {v : Int32} (hd : decode cc pc = .ok (.bipush n, 2)) (hv : (Int8.ofInt n).toInt32 = v) (hn : pc + 2 = pc') (k : SV E Γ nL M nx ce sl pc' lv (.int v :: st)) : SV E Γ nL M nx ce sl pc lv (st) := by
  obtain ⟨p, l, e, R, s, m, args, below, meth, c, Q⟩ := Γ
  obtain ⟨hx, hb, hml, hown, hts, hK, hr, hlk, hnm, hrm, hsz, hZ, hZC⟩ := hΓ
  subst hn
  intro H locs ls hR hS hl
  exact lv_bipush hx hb hd hv (k H locs ls hR hS hl)

theorem sv_sipush (hΓ : CK E own cc nL ret nm d mc ms Γ) {n : Int} {v : Int32} (hd : decode cc pc = .ok (.sipush n, 3)) (hv : (Int16.ofInt n).toInt32 = v) (hn : pc + 3 = pc') (k : SV E Γ nL M nx ce sl pc' lv (.int v :: st)) : SV E Γ nL M nx ce sl pc lv (st) := by
  obtain ⟨p, l, e, R, s, m, args, below, meth, c, Q⟩ := Γ
  obtain ⟨hx, hb, hml, hown, hts, hK, hr, hlk, hnm, hrm, hsz, hZ, hZC⟩ := hΓ
  subst hn
  intro H locs ls hR hS hl
  exact lv_sipush hx hb hd hv (k H locs ls hR hS hl)

theorem sv_lconst (hΓ : CK E own cc nL ret nm d mc ms Γ) {n : Fin 2} {v : Int64} (hd : decode cc pc = .ok (.lconst n, 1)) (hv : Int64.ofNat (n : Nat) = v) (hn : pc + 1 = pc') (k : SV E Γ nL M nx ce sl pc' lv (.long v :: st)) : SV E Γ nL M nx ce sl pc lv (st) := by
  obtain ⟨p, l, e, R, s, m, args, below, meth, c, Q⟩ := Γ
  obtain ⟨hx, hb, hml, hown, hts, hK, hr, hlk, hnm, hrm, hsz, hZ, hZC⟩ := hΓ
  subst hn
  intro H locs ls hR hS hl
  exact lv_lconst hx hb hd hv (k H locs ls hR hS hl)

theorem sv_iload_n (hΓ : CK E own cc nL ret nm d mc ms Γ) {kk : Fin 4} {i : Nat} {x : Int32} (hd : decode cc pc = .ok (.iload_n kk, 1)) (hi : (kk : Nat) = i) (q : Nat) (hq : lv[q]? = some (i, .int x)) (hn : pc + 1 = pc') (k : SV E Γ nL M nx ce sl pc' lv (.int x :: st)) : SV E Γ nL M nx ce sl pc lv (st) := by
  obtain ⟨p, l, e, R, s, m, args, below, meth, c, Q⟩ := Γ
  obtain ⟨hx, hb, hml, hown, hts, hK, hr, hlk, hnm, hrm, hsz, hZ, hZC⟩ := hΓ
  subst hn
  intro H locs ls hR hS hl
  exact lv_iload_n hx hb hd hi (lvm_at hl q hq) (k H locs ls hR hS hl)

theorem sv_iload (hΓ : CK E own cc nL ret nm d mc ms Γ) {i : Nat} {x : Int32} (hd : decode cc pc = .ok (.iload i, 2)) (q : Nat) (hq : lv[q]? = some (i, .int x)) (hn : pc + 2 = pc') (k : SV E Γ nL M nx ce sl pc' lv (.int x :: st)) : SV E Γ nL M nx ce sl pc lv (st) := by
  obtain ⟨p, l, e, R, s, m, args, below, meth, c, Q⟩ := Γ
  obtain ⟨hx, hb, hml, hown, hts, hK, hr, hlk, hnm, hrm, hsz, hZ, hZC⟩ := hΓ
  subst hn
  intro H locs ls hR hS hl
  exact lv_iload hx hb hd (lvm_at hl q hq) (k H locs ls hR hS hl)

theorem sv_lload_n (hΓ : CK E own cc nL ret nm d mc ms Γ) {kk : Fin 4} {i : Nat} {x : Int64} (hd : decode cc pc = .ok (.lload_n kk, 1)) (hi : (kk : Nat) = i) (q : Nat) (hq : lv[q]? = some (i, .long x)) (hn : pc + 1 = pc') (k : SV E Γ nL M nx ce sl pc' lv (.long x :: st)) : SV E Γ nL M nx ce sl pc lv (st) := by
  obtain ⟨p, l, e, R, s, m, args, below, meth, c, Q⟩ := Γ
  obtain ⟨hx, hb, hml, hown, hts, hK, hr, hlk, hnm, hrm, hsz, hZ, hZC⟩ := hΓ
  subst hn
  intro H locs ls hR hS hl
  exact lv_lload_n hx hb hd hi (lvm_at hl q hq) (k H locs ls hR hS hl)

theorem sv_lload (hΓ : CK E own cc nL ret nm d mc ms Γ) {i : Nat} {x : Int64} (hd : decode cc pc = .ok (.lload i, 2)) (q : Nat) (hq : lv[q]? = some (i, .long x)) (hn : pc + 2 = pc') (k : SV E Γ nL M nx ce sl pc' lv (.long x :: st)) : SV E Γ nL M nx ce sl pc lv (st) := by
  obtain ⟨p, l, e, R, s, m, args, below, meth, c, Q⟩ := Γ
  obtain ⟨hx, hb, hml, hown, hts, hK, hr, hlk, hnm, hrm, hsz, hZ, hZC⟩ := hΓ
  subst hn
  intro H locs ls hR hS hl
  exact lv_lload hx hb hd (lvm_at hl q hq) (k H locs ls hR hS hl)

theorem sv_aload_n (hΓ : CK E own cc nL ret nm d mc ms Γ) {kk : Fin 4} {i : Nat} {x : Nat} (hd : decode cc pc = .ok (.aload_n kk, 1)) (hi : (kk : Nat) = i) (q : Nat) (hq : lv[q]? = some (i, .ref x)) (hn : pc + 1 = pc') (k : SV E Γ nL M nx ce sl pc' lv (.ref x :: st)) : SV E Γ nL M nx ce sl pc lv (st) := by
  obtain ⟨p, l, e, R, s, m, args, below, meth, c, Q⟩ := Γ
  obtain ⟨hx, hb, hml, hown, hts, hK, hr, hlk, hnm, hrm, hsz, hZ, hZC⟩ := hΓ
  subst hn
  intro H locs ls hR hS hl
  exact lv_aload_n hx hb hd hi (lvm_at hl q hq) (k H locs ls hR hS hl)

theorem sv_aload (hΓ : CK E own cc nL ret nm d mc ms Γ) {i : Nat} {x : Nat} (hd : decode cc pc = .ok (.aload i, 2)) (q : Nat) (hq : lv[q]? = some (i, .ref x)) (hn : pc + 2 = pc') (k : SV E Γ nL M nx ce sl pc' lv (.ref x :: st)) : SV E Γ nL M nx ce sl pc lv (st) := by
  obtain ⟨p, l, e, R, s, m, args, below, meth, c, Q⟩ := Γ
  obtain ⟨hx, hb, hml, hown, hts, hK, hr, hlk, hnm, hrm, hsz, hZ, hZC⟩ := hΓ
  subst hn
  intro H locs ls hR hS hl
  exact lv_aload hx hb hd (lvm_at hl q hq) (k H locs ls hR hS hl)

theorem sv_aload_nN (hΓ : CK E own cc nL ret nm d mc ms Γ) {kk : Fin 4} {i : Nat} (hd : decode cc pc = .ok (.aload_n kk, 1)) (hi : (kk : Nat) = i) (q : Nat) (hq : lv[q]? = some (i, .null)) (hn : pc + 1 = pc') (k : SV E Γ nL M nx ce sl pc' lv (.null :: st)) : SV E Γ nL M nx ce sl pc lv (st) := by
  obtain ⟨p, l, e, R, s, m, args, below, meth, c, Q⟩ := Γ
  obtain ⟨hx, hb, hml, hown, hts, hK, hr, hlk, hnm, hrm, hsz, hZ, hZC⟩ := hΓ
  subst hn
  intro H locs ls hR hS hl
  exact lv_aload_nN hx hb hd hi (lvm_at hl q hq) (k H locs ls hR hS hl)

theorem sv_aloadN (hΓ : CK E own cc nL ret nm d mc ms Γ) {i : Nat} (hd : decode cc pc = .ok (.aload i, 2)) (q : Nat) (hq : lv[q]? = some (i, .null)) (hn : pc + 2 = pc') (k : SV E Γ nL M nx ce sl pc' lv (.null :: st)) : SV E Γ nL M nx ce sl pc lv (st) := by
  obtain ⟨p, l, e, R, s, m, args, below, meth, c, Q⟩ := Γ
  obtain ⟨hx, hb, hml, hown, hts, hK, hr, hlk, hnm, hrm, hsz, hZ, hZC⟩ := hΓ
  subst hn
  intro H locs ls hR hS hl
  exact lv_aloadN hx hb hd (lvm_at hl q hq) (k H locs ls hR hS hl)

theorem sv_iadd (hΓ : CK E own cc nL ret nm d mc ms Γ) {x y : Int32} (hd : decode cc pc = .ok (.iadd, 1))  (hn : pc + 1 = pc') (k : SV E Γ nL M nx ce sl pc' lv (.int (x + y) :: st)) : SV E Γ nL M nx ce sl pc lv (.int y :: .int x :: st) := by
  obtain ⟨p, l, e, R, s, m, args, below, meth, c, Q⟩ := Γ
  obtain ⟨hx, hb, hml, hown, hts, hK, hr, hlk, hnm, hrm, hsz, hZ, hZC⟩ := hΓ
  subst hn
  intro H locs ls hR hS hl
  exact lv_iadd hx hb hd (k H locs ls hR hS hl)

theorem sv_isub (hΓ : CK E own cc nL ret nm d mc ms Γ) {x y : Int32} (hd : decode cc pc = .ok (.isub, 1))  (hn : pc + 1 = pc') (k : SV E Γ nL M nx ce sl pc' lv (.int (x - y) :: st)) : SV E Γ nL M nx ce sl pc lv (.int y :: .int x :: st) := by
  obtain ⟨p, l, e, R, s, m, args, below, meth, c, Q⟩ := Γ
  obtain ⟨hx, hb, hml, hown, hts, hK, hr, hlk, hnm, hrm, hsz, hZ, hZC⟩ := hΓ
  subst hn
  intro H locs ls hR hS hl
  exact lv_isub hx hb hd (k H locs ls hR hS hl)

theorem sv_imul (hΓ : CK E own cc nL ret nm d mc ms Γ) {x y : Int32} (hd : decode cc pc = .ok (.imul, 1))  (hn : pc + 1 = pc') (k : SV E Γ nL M nx ce sl pc' lv (.int (x * y) :: st)) : SV E Γ nL M nx ce sl pc lv (.int y :: .int x :: st) := by
  obtain ⟨p, l, e, R, s, m, args, below, meth, c, Q⟩ := Γ
  obtain ⟨hx, hb, hml, hown, hts, hK, hr, hlk, hnm, hrm, hsz, hZ, hZC⟩ := hΓ
  subst hn
  intro H locs ls hR hS hl
  exact lv_imul hx hb hd (k H locs ls hR hS hl)

theorem sv_iand (hΓ : CK E own cc nL ret nm d mc ms Γ) {x y : Int32} (hd : decode cc pc = .ok (.iand, 1))  (hn : pc + 1 = pc') (k : SV E Γ nL M nx ce sl pc' lv (.int (x &&& y) :: st)) : SV E Γ nL M nx ce sl pc lv (.int y :: .int x :: st) := by
  obtain ⟨p, l, e, R, s, m, args, below, meth, c, Q⟩ := Γ
  obtain ⟨hx, hb, hml, hown, hts, hK, hr, hlk, hnm, hrm, hsz, hZ, hZC⟩ := hΓ
  subst hn
  intro H locs ls hR hS hl
  exact lv_iand hx hb hd (k H locs ls hR hS hl)

theorem sv_ior (hΓ : CK E own cc nL ret nm d mc ms Γ) {x y : Int32} (hd : decode cc pc = .ok (.ior, 1))  (hn : pc + 1 = pc') (k : SV E Γ nL M nx ce sl pc' lv (.int (x ||| y) :: st)) : SV E Γ nL M nx ce sl pc lv (.int y :: .int x :: st) := by
  obtain ⟨p, l, e, R, s, m, args, below, meth, c, Q⟩ := Γ
  obtain ⟨hx, hb, hml, hown, hts, hK, hr, hlk, hnm, hrm, hsz, hZ, hZC⟩ := hΓ
  subst hn
  intro H locs ls hR hS hl
  exact lv_ior hx hb hd (k H locs ls hR hS hl)

theorem sv_ladd (hΓ : CK E own cc nL ret nm d mc ms Γ) {x y : Int64} (hd : decode cc pc = .ok (.ladd, 1))  (hn : pc + 1 = pc') (k : SV E Γ nL M nx ce sl pc' lv (.long (x + y) :: st)) : SV E Γ nL M nx ce sl pc lv (.long y :: .long x :: st) := by
  obtain ⟨p, l, e, R, s, m, args, below, meth, c, Q⟩ := Γ
  obtain ⟨hx, hb, hml, hown, hts, hK, hr, hlk, hnm, hrm, hsz, hZ, hZC⟩ := hΓ
  subst hn
  intro H locs ls hR hS hl
  exact lv_ladd hx hb hd (k H locs ls hR hS hl)

theorem sv_lsub (hΓ : CK E own cc nL ret nm d mc ms Γ) {x y : Int64} (hd : decode cc pc = .ok (.lsub, 1))  (hn : pc + 1 = pc') (k : SV E Γ nL M nx ce sl pc' lv (.long (x - y) :: st)) : SV E Γ nL M nx ce sl pc lv (.long y :: .long x :: st) := by
  obtain ⟨p, l, e, R, s, m, args, below, meth, c, Q⟩ := Γ
  obtain ⟨hx, hb, hml, hown, hts, hK, hr, hlk, hnm, hrm, hsz, hZ, hZC⟩ := hΓ
  subst hn
  intro H locs ls hR hS hl
  exact lv_lsub hx hb hd (k H locs ls hR hS hl)

theorem sv_lmul (hΓ : CK E own cc nL ret nm d mc ms Γ) {x y : Int64} (hd : decode cc pc = .ok (.lmul, 1))  (hn : pc + 1 = pc') (k : SV E Γ nL M nx ce sl pc' lv (.long (x * y) :: st)) : SV E Γ nL M nx ce sl pc lv (.long y :: .long x :: st) := by
  obtain ⟨p, l, e, R, s, m, args, below, meth, c, Q⟩ := Γ
  obtain ⟨hx, hb, hml, hown, hts, hK, hr, hlk, hnm, hrm, hsz, hZ, hZC⟩ := hΓ
  subst hn
  intro H locs ls hR hS hl
  exact lv_lmul hx hb hd (k H locs ls hR hS hl)

theorem sv_land (hΓ : CK E own cc nL ret nm d mc ms Γ) {x y : Int64} (hd : decode cc pc = .ok (.land, 1))  (hn : pc + 1 = pc') (k : SV E Γ nL M nx ce sl pc' lv (.long (x &&& y) :: st)) : SV E Γ nL M nx ce sl pc lv (.long y :: .long x :: st) := by
  obtain ⟨p, l, e, R, s, m, args, below, meth, c, Q⟩ := Γ
  obtain ⟨hx, hb, hml, hown, hts, hK, hr, hlk, hnm, hrm, hsz, hZ, hZC⟩ := hΓ
  subst hn
  intro H locs ls hR hS hl
  exact lv_land hx hb hd (k H locs ls hR hS hl)

theorem sv_lor (hΓ : CK E own cc nL ret nm d mc ms Γ) {x y : Int64} (hd : decode cc pc = .ok (.lor, 1))  (hn : pc + 1 = pc') (k : SV E Γ nL M nx ce sl pc' lv (.long (x ||| y) :: st)) : SV E Γ nL M nx ce sl pc lv (.long y :: .long x :: st) := by
  obtain ⟨p, l, e, R, s, m, args, below, meth, c, Q⟩ := Γ
  obtain ⟨hx, hb, hml, hown, hts, hK, hr, hlk, hnm, hrm, hsz, hZ, hZC⟩ := hΓ
  subst hn
  intro H locs ls hR hS hl
  exact lv_lor hx hb hd (k H locs ls hR hS hl)

theorem sv_idiv (hΓ : CK E own cc nL ret nm d mc ms Γ) {x y : Int32} (hd : decode cc pc = .ok (.idiv, 1)) (hne : ¬ y = 0) (hn : pc + 1 = pc') (k : SV E Γ nL M nx ce sl pc' lv (.int (x / y) :: st)) : SV E Γ nL M nx ce sl pc lv (.int y :: .int x :: st) := by
  obtain ⟨p, l, e, R, s, m, args, below, meth, c, Q⟩ := Γ
  obtain ⟨hx, hb, hml, hown, hts, hK, hr, hlk, hnm, hrm, hsz, hZ, hZC⟩ := hΓ
  subst hn
  intro H locs ls hR hS hl
  exact lv_idiv hx hb hd hne (k H locs ls hR hS hl)

theorem sv_ldiv (hΓ : CK E own cc nL ret nm d mc ms Γ) {x y : Int64} (hd : decode cc pc = .ok (.ldiv, 1)) (hne : ¬ y = 0) (hn : pc + 1 = pc') (k : SV E Γ nL M nx ce sl pc' lv (.long (x / y) :: st)) : SV E Γ nL M nx ce sl pc lv (.long y :: .long x :: st) := by
  obtain ⟨p, l, e, R, s, m, args, below, meth, c, Q⟩ := Γ
  obtain ⟨hx, hb, hml, hown, hts, hK, hr, hlk, hnm, hrm, hsz, hZ, hZC⟩ := hΓ
  subst hn
  intro H locs ls hR hS hl
  exact lv_ldiv hx hb hd hne (k H locs ls hR hS hl)

theorem sv_lneg (hΓ : CK E own cc nL ret nm d mc ms Γ) {x : Int64} (hd : decode cc pc = .ok (.lneg, 1))  (hn : pc + 1 = pc') (k : SV E Γ nL M nx ce sl pc' lv (.long (-x) :: st)) : SV E Γ nL M nx ce sl pc lv (.long x :: st) := by
  obtain ⟨p, l, e, R, s, m, args, below, meth, c, Q⟩ := Γ
  obtain ⟨hx, hb, hml, hown, hts, hK, hr, hlk, hnm, hrm, hsz, hZ, hZC⟩ := hΓ
  subst hn
  intro H locs ls hR hS hl
  exact lv_lneg hx hb hd (k H locs ls hR hS hl)

theorem sv_ineg (hΓ : CK E own cc nL ret nm d mc ms Γ) {x : Int32} (hd : decode cc pc = .ok (.ineg, 1))  (hn : pc + 1 = pc') (k : SV E Γ nL M nx ce sl pc' lv (.int (-x) :: st)) : SV E Γ nL M nx ce sl pc lv (.int x :: st) := by
  obtain ⟨p, l, e, R, s, m, args, below, meth, c, Q⟩ := Γ
  obtain ⟨hx, hb, hml, hown, hts, hK, hr, hlk, hnm, hrm, hsz, hZ, hZC⟩ := hΓ
  subst hn
  intro H locs ls hR hS hl
  exact lv_ineg hx hb hd (k H locs ls hR hS hl)

theorem sv_ishl (hΓ : CK E own cc nL ret nm d mc ms Γ) {x y : Int32} (hd : decode cc pc = .ok (.ishl, 1))  (hn : pc + 1 = pc') (k : SV E Γ nL M nx ce sl pc' lv (.int (x <<< (y &&& 31)) :: st)) : SV E Γ nL M nx ce sl pc lv (.int y :: .int x :: st) := by
  obtain ⟨p, l, e, R, s, m, args, below, meth, c, Q⟩ := Γ
  obtain ⟨hx, hb, hml, hown, hts, hK, hr, hlk, hnm, hrm, hsz, hZ, hZC⟩ := hΓ
  subst hn
  intro H locs ls hR hS hl
  exact lv_ishl hx hb hd (k H locs ls hR hS hl)

theorem sv_iushr (hΓ : CK E own cc nL ret nm d mc ms Γ) {x y v : Int32} (hd : decode cc pc = .ok (.iushr, 1)) (hv : (x.toUInt32 >>> (y.toUInt32 &&& Int32.toUInt32 31)).toInt32 = v) (hn : pc + 1 = pc') (k : SV E Γ nL M nx ce sl pc' lv (.int v :: st)) : SV E Γ nL M nx ce sl pc lv (.int y :: .int x :: st) := by
  obtain ⟨p, l, e, R, s, m, args, below, meth, c, Q⟩ := Γ
  obtain ⟨hx, hb, hml, hown, hts, hK, hr, hlk, hnm, hrm, hsz, hZ, hZC⟩ := hΓ
  subst hn
  intro H locs ls hR hS hl
  exact lv_iushr hx hb hd hv (k H locs ls hR hS hl)

theorem sv_lshl (hΓ : CK E own cc nL ret nm d mc ms Γ) {x v : Int64} {y : Int32} (hd : decode cc pc = .ok (.lshl, 1)) (hv : x <<< (y.toInt64 &&& 63) = v) (hn : pc + 1 = pc') (k : SV E Γ nL M nx ce sl pc' lv (.long v :: st)) : SV E Γ nL M nx ce sl pc lv (.int y :: .long x :: st) := by
  obtain ⟨p, l, e, R, s, m, args, below, meth, c, Q⟩ := Γ
  obtain ⟨hx, hb, hml, hown, hts, hK, hr, hlk, hnm, hrm, hsz, hZ, hZC⟩ := hΓ
  subst hn
  intro H locs ls hR hS hl
  exact lv_lshl hx hb hd hv (k H locs ls hR hS hl)

theorem sv_lshr (hΓ : CK E own cc nL ret nm d mc ms Γ) {x v : Int64} {y : Int32} (hd : decode cc pc = .ok (.lshr, 1)) (hv : x >>> (y.toInt64 &&& 63) = v) (hn : pc + 1 = pc') (k : SV E Γ nL M nx ce sl pc' lv (.long v :: st)) : SV E Γ nL M nx ce sl pc lv (.int y :: .long x :: st) := by
  obtain ⟨p, l, e, R, s, m, args, below, meth, c, Q⟩ := Γ
  obtain ⟨hx, hb, hml, hown, hts, hK, hr, hlk, hnm, hrm, hsz, hZ, hZC⟩ := hΓ
  subst hn
  intro H locs ls hR hS hl
  exact lv_lshr hx hb hd hv (k H locs ls hR hS hl)

theorem sv_i2l (hΓ : CK E own cc nL ret nm d mc ms Γ) {x : Int32} {v : Int64} (hd : decode cc pc = .ok (.i2l, 1)) (hv : x.toInt64 = v) (hn : pc + 1 = pc') (k : SV E Γ nL M nx ce sl pc' lv (.long v :: st)) : SV E Γ nL M nx ce sl pc lv (.int x :: st) := by
  obtain ⟨p, l, e, R, s, m, args, below, meth, c, Q⟩ := Γ
  obtain ⟨hx, hb, hml, hown, hts, hK, hr, hlk, hnm, hrm, hsz, hZ, hZC⟩ := hΓ
  subst hn
  intro H locs ls hR hS hl
  exact lv_i2l hx hb hd hv (k H locs ls hR hS hl)

theorem sv_l2i (hΓ : CK E own cc nL ret nm d mc ms Γ) {x : Int64} {v : Int32} (hd : decode cc pc = .ok (.l2i, 1)) (hv : x.toInt32 = v) (hn : pc + 1 = pc') (k : SV E Γ nL M nx ce sl pc' lv (.int v :: st)) : SV E Γ nL M nx ce sl pc lv (.long x :: st) := by
  obtain ⟨p, l, e, R, s, m, args, below, meth, c, Q⟩ := Γ
  obtain ⟨hx, hb, hml, hown, hts, hK, hr, hlk, hnm, hrm, hsz, hZ, hZC⟩ := hΓ
  subst hn
  intro H locs ls hR hS hl
  exact lv_l2i hx hb hd hv (k H locs ls hR hS hl)

theorem sv_lcmp (hΓ : CK E own cc nL ret nm d mc ms Γ) {x y : Int64} (hd : decode cc pc = .ok (.lcmp, 1))  (hn : pc + 1 = pc') (k : SV E Γ nL M nx ce sl pc' lv (.int (lg_cmp x y) :: st)) : SV E Γ nL M nx ce sl pc lv (.long y :: .long x :: st) := by
  obtain ⟨p, l, e, R, s, m, args, below, meth, c, Q⟩ := Γ
  obtain ⟨hx, hb, hml, hown, hts, hK, hr, hlk, hnm, hrm, hsz, hZ, hZC⟩ := hΓ
  subst hn
  intro H locs ls hR hS hl
  exact W.lcmp hx hb hd (k H locs ls hR hS hl)

theorem sv_null (hΓ : CK E own cc nL ret nm d mc ms Γ)  (hd : decode cc pc = .ok (.aconst_null, 1))  (hn : pc + 1 = pc') (k : SV E Γ nL M nx ce sl pc' lv (.null :: st)) : SV E Γ nL M nx ce sl pc lv (st) := by
  obtain ⟨p, l, e, R, s, m, args, below, meth, c, Q⟩ := Γ
  obtain ⟨hx, hb, hml, hown, hts, hK, hr, hlk, hnm, hrm, hsz, hZ, hZC⟩ := hΓ
  subst hn
  intro H locs ls hR hS hl
  exact lv_null hx hb hd (k H locs ls hR hS hl)

theorem sv_dup (hΓ : CK E own cc nL ret nm d mc ms Γ) {v : Value} (hd : decode cc pc = .ok (.dup, 1)) (hc : v.category = 1) (hn : pc + 1 = pc') (k : SV E Γ nL M nx ce sl pc' lv (v :: v :: st)) : SV E Γ nL M nx ce sl pc lv (v :: st) := by
  obtain ⟨p, l, e, R, s, m, args, below, meth, c, Q⟩ := Γ
  obtain ⟨hx, hb, hml, hown, hts, hK, hr, hlk, hnm, hrm, hsz, hZ, hZC⟩ := hΓ
  subst hn
  intro H locs ls hR hS hl
  exact lv_dup hx hb hd (by rw [tv_cat]; exact hc) (k H locs ls hR hS hl)

theorem sv_pop (hΓ : CK E own cc nL ret nm d mc ms Γ) {v : Value} (hd : decode cc pc = .ok (.pop, 1)) (hc : v.category = 1) (hn : pc + 1 = pc') (k : SV E Γ nL M nx ce sl pc' lv (st)) : SV E Γ nL M nx ce sl pc lv (v :: st) := by
  obtain ⟨p, l, e, R, s, m, args, below, meth, c, Q⟩ := Γ
  obtain ⟨hx, hb, hml, hown, hts, hK, hr, hlk, hnm, hrm, hsz, hZ, hZC⟩ := hΓ
  subst hn
  intro H locs ls hR hS hl
  exact lv_pop hx hb hd (by rw [tv_cat]; exact hc) (k H locs ls hR hS hl)

theorem sv_dup2 (hΓ : CK E own cc nL ret nm d mc ms Γ) {v w : Value} (hd : decode cc pc = .ok (.dup2, 1)) (hc : v.category = 1) (hc2 : w.category = 1) (hn : pc + 1 = pc') (k : SV E Γ nL M nx ce sl pc' lv (v :: w :: v :: w :: st)) : SV E Γ nL M nx ce sl pc lv (v :: w :: st) := by
  obtain ⟨p, l, e, R, s, m, args, below, meth, c, Q⟩ := Γ
  obtain ⟨hx, hb, hml, hown, hts, hK, hr, hlk, hnm, hrm, hsz, hZ, hZC⟩ := hΓ
  subst hn
  intro H locs ls hR hS hl
  exact lv_dup2_11 hx hb hd (by rw [tv_cat]; exact hc) (by rw [tv_cat]; exact hc2) (k H locs ls hR hS hl)

theorem sv_ldc (hΓ : CK E own cc nL ret nm d mc ms Γ) {i : Nat} {v : Int32} (hd : decode cc pc = .ok (.ldc i, 2)) (hw : Cond.constant own i v ∈ TB) (hn : pc + 2 = pc') (k : SV E Γ nL M nx ce sl pc' lv (.int v :: st)) : SV E Γ nL M nx ce sl pc lv (st) := by
  obtain ⟨p, l, e, R, s, m, args, below, meth, c, Q⟩ := Γ
  obtain ⟨hx, hb, hml, hown, hts, hK, hr, hlk, hnm, hrm, hsz, hZ, hZC⟩ := hΓ
  subst hn
  intro H locs ls hR hS hl
  exact lv_ldc hx hb hown (hts _ hw) hd (k H locs ls hR hS hl)

theorem sv_ldcw (hΓ : CK E own cc nL ret nm d mc ms Γ) {i : Nat} {v : Int32} (hd : decode cc pc = .ok (.ldc_w i, 3)) (hw : Cond.constant own i v ∈ TB) (hn : pc + 3 = pc') (k : SV E Γ nL M nx ce sl pc' lv (.int v :: st)) : SV E Γ nL M nx ce sl pc lv (st) := by
  obtain ⟨p, l, e, R, s, m, args, below, meth, c, Q⟩ := Γ
  obtain ⟨hx, hb, hml, hown, hts, hK, hr, hlk, hnm, hrm, hsz, hZ, hZC⟩ := hΓ
  subst hn
  intro H locs ls hR hS hl
  exact lv_ldcw hx hb hown (hts _ hw) hd (k H locs ls hR hS hl)

theorem sv_ldc2 (hΓ : CK E own cc nL ret nm d mc ms Γ) {i : Nat} {v : Int64} (hd : decode cc pc = .ok (.ldc2_w i, 3)) (hw : Cond.constantLong own i v ∈ TB) (hn : pc + 3 = pc') (k : SV E Γ nL M nx ce sl pc' lv (.long v :: st)) : SV E Γ nL M nx ce sl pc lv (st) := by
  obtain ⟨p, l, e, R, s, m, args, below, meth, c, Q⟩ := Γ
  obtain ⟨hx, hb, hml, hown, hts, hK, hr, hlk, hnm, hrm, hsz, hZ, hZC⟩ := hΓ
  subst hn
  intro H locs ls hR hS hl
  exact lv_ldc2 hx hb hown (hts _ hw) hd (k H locs ls hR hS hl)

theorem sv_istore_n (hΓ : CK E own cc nL ret nm d mc ms Γ) {kk : Fin 4} {i : Nat} {x : Int32} (hd : decode cc pc = .ok (.istore_n kk, 1)) (hi : (kk : Nat) = i) (hi2 : i < nL) (hl' : (i, Value.int x) :: lv.filter (fun q => !(q.1 == i) && !(q.1 + 1 == i && q.2.category == 2)) = lv') (hn : pc + 1 = pc') (k : SV E Γ nL M nx ce sl pc' lv' st) : SV E Γ nL M nx ce sl pc lv (.int x :: st) := by
  obtain ⟨p, l, e, R, s, m, args, below, meth, c, Q⟩ := Γ
  obtain ⟨hx, hb, hml, hown, hts, hK, hr, hlk, hnm, hrm, hsz, hZ, hZC⟩ := hΓ
  subst hn
  subst hl'
  intro H locs ls hR hS hl
  exact lv_istore_n hx hb hd hi hl hi2 (by rw [lvm_f1]; rfl) (fun ls' hl' => k H locs ls' hR hS hl')

theorem sv_istore (hΓ : CK E own cc nL ret nm d mc ms Γ) {i : Nat} {x : Int32} (hd : decode cc pc = .ok (.istore i, 2)) (hi2 : i < nL) (hl' : (i, Value.int x) :: lv.filter (fun q => !(q.1 == i) && !(q.1 + 1 == i && q.2.category == 2)) = lv') (hn : pc + 2 = pc') (k : SV E Γ nL M nx ce sl pc' lv' st) : SV E Γ nL M nx ce sl pc lv (.int x :: st) := by
  obtain ⟨p, l, e, R, s, m, args, below, meth, c, Q⟩ := Γ
  obtain ⟨hx, hb, hml, hown, hts, hK, hr, hlk, hnm, hrm, hsz, hZ, hZC⟩ := hΓ
  subst hn
  subst hl'
  intro H locs ls hR hS hl
  exact lv_istore hx hb hd hl hi2 (by rw [lvm_f1]; rfl) (fun ls' hl' => k H locs ls' hR hS hl')

theorem sv_lstore_n (hΓ : CK E own cc nL ret nm d mc ms Γ) {kk : Fin 4} {i : Nat} {x : Int64} (hd : decode cc pc = .ok (.lstore_n kk, 1)) (hi : (kk : Nat) = i) (hi2 : i + 1 < nL) (hl' : (i, Value.long x) :: lv.filter (fun q => !(q.1 == i) && (!(q.1 == i + 1) && !(q.1 + 1 == i && q.2.category == 2))) = lv') (hn : pc + 1 = pc') (k : SV E Γ nL M nx ce sl pc' lv' st) : SV E Γ nL M nx ce sl pc lv (.long x :: st) := by
  obtain ⟨p, l, e, R, s, m, args, below, meth, c, Q⟩ := Γ
  obtain ⟨hx, hb, hml, hown, hts, hK, hr, hlk, hnm, hrm, hsz, hZ, hZC⟩ := hΓ
  subst hn
  subst hl'
  intro H locs ls hR hS hl
  exact lv_lstore_n hx hb hd hi hl hi2 (by rw [lvm_f2]; rfl) (fun ls' hl' => k H locs ls' hR hS hl')

theorem sv_lstore (hΓ : CK E own cc nL ret nm d mc ms Γ) {i : Nat} {x : Int64} (hd : decode cc pc = .ok (.lstore i, 2)) (hi2 : i + 1 < nL) (hl' : (i, Value.long x) :: lv.filter (fun q => !(q.1 == i) && (!(q.1 == i + 1) && !(q.1 + 1 == i && q.2.category == 2))) = lv') (hn : pc + 2 = pc') (k : SV E Γ nL M nx ce sl pc' lv' st) : SV E Γ nL M nx ce sl pc lv (.long x :: st) := by
  obtain ⟨p, l, e, R, s, m, args, below, meth, c, Q⟩ := Γ
  obtain ⟨hx, hb, hml, hown, hts, hK, hr, hlk, hnm, hrm, hsz, hZ, hZC⟩ := hΓ
  subst hn
  subst hl'
  intro H locs ls hR hS hl
  exact lv_lstore hx hb hd hl hi2 (by rw [lvm_f2]; rfl) (fun ls' hl' => k H locs ls' hR hS hl')

theorem sv_astore_n (hΓ : CK E own cc nL ret nm d mc ms Γ) {kk : Fin 4} {i : Nat} {x : Nat} (hd : decode cc pc = .ok (.astore_n kk, 1)) (hi : (kk : Nat) = i) (hi2 : i < nL) (hl' : (i, Value.ref x) :: lv.filter (fun q => !(q.1 == i) && !(q.1 + 1 == i && q.2.category == 2)) = lv') (hn : pc + 1 = pc') (k : SV E Γ nL M nx ce sl pc' lv' st) : SV E Γ nL M nx ce sl pc lv (.ref x :: st) := by
  obtain ⟨p, l, e, R, s, m, args, below, meth, c, Q⟩ := Γ
  obtain ⟨hx, hb, hml, hown, hts, hK, hr, hlk, hnm, hrm, hsz, hZ, hZC⟩ := hΓ
  subst hn
  subst hl'
  intro H locs ls hR hS hl
  exact lv_astore_n hx hb hd hi hl hi2 (by rw [lvm_f1]; rfl) (fun ls' hl' => k H locs ls' hR hS hl')

theorem sv_astore (hΓ : CK E own cc nL ret nm d mc ms Γ) {i : Nat} {x : Nat} (hd : decode cc pc = .ok (.astore i, 2)) (hi2 : i < nL) (hl' : (i, Value.ref x) :: lv.filter (fun q => !(q.1 == i) && !(q.1 + 1 == i && q.2.category == 2)) = lv') (hn : pc + 2 = pc') (k : SV E Γ nL M nx ce sl pc' lv' st) : SV E Γ nL M nx ce sl pc lv (.ref x :: st) := by
  obtain ⟨p, l, e, R, s, m, args, below, meth, c, Q⟩ := Γ
  obtain ⟨hx, hb, hml, hown, hts, hK, hr, hlk, hnm, hrm, hsz, hZ, hZC⟩ := hΓ
  subst hn
  subst hl'
  intro H locs ls hR hS hl
  exact lv_astore hx hb hd hl hi2 (by rw [lvm_f1]; rfl) (fun ls' hl' => k H locs ls' hR hS hl')

theorem sv_astore_nN (hΓ : CK E own cc nL ret nm d mc ms Γ) {kk : Fin 4} {i : Nat} (hd : decode cc pc = .ok (.astore_n kk, 1)) (hi : (kk : Nat) = i) (hi2 : i < nL) (hl' : (i, Value.null) :: lv.filter (fun q => !(q.1 == i) && !(q.1 + 1 == i && q.2.category == 2)) = lv') (hn : pc + 1 = pc') (k : SV E Γ nL M nx ce sl pc' lv' st) : SV E Γ nL M nx ce sl pc lv (.null :: st) := by
  obtain ⟨p, l, e, R, s, m, args, below, meth, c, Q⟩ := Γ
  obtain ⟨hx, hb, hml, hown, hts, hK, hr, hlk, hnm, hrm, hsz, hZ, hZC⟩ := hΓ
  subst hn
  subst hl'
  intro H locs ls hR hS hl
  exact lv_astore_nN hx hb hd hi hl hi2 (by rw [lvm_f1]; rfl) (fun ls' hl' => k H locs ls' hR hS hl')
theorem sv_astoreN (hΓ : CK E own cc nL ret nm d mc ms Γ) {i : Nat} (hd : decode cc pc = .ok (.astore i, 2)) (hi2 : i < nL) (hl' : (i, Value.null) :: lv.filter (fun q => !(q.1 == i) && !(q.1 + 1 == i && q.2.category == 2)) = lv') (hn : pc + 2 = pc') (k : SV E Γ nL M nx ce sl pc' lv' st) : SV E Γ nL M nx ce sl pc lv (.null :: st) := by
  obtain ⟨p, l, e, R, s, m, args, below, meth, c, Q⟩ := Γ
  obtain ⟨hx, hb, hml, hown, hts, hK, hr, hlk, hnm, hrm, hsz, hZ, hZC⟩ := hΓ
  subst hn
  subst hl'
  intro H locs ls hR hS hl
  exact lv_astoreN hx hb hd hl hi2 (by rw [lvm_f1]; rfl) (fun ls' hl' => k H locs ls' hR hS hl')
theorem sv_iinc (hΓ : CK E own cc nL ret nm d mc ms Γ) {i : Nat} {n : Int} {x v : Int32} (hd : decode cc pc = .ok (.iinc i n, 3)) (q : Nat) (hq : lv[q]? = some (i, .int x)) (hv : x + Int32.ofInt n = v) (hi2 : i < nL) (hl' : (i, Value.int v) :: lv.filter (fun q => !(q.1 == i) && !(q.1 + 1 == i && q.2.category == 2)) = lv') (hn : pc + 3 = pc') (k : SV E Γ nL M nx ce sl pc' lv' st) : SV E Γ nL M nx ce sl pc lv st := by
  obtain ⟨p, l, e, R, s, m, args, below, meth, c, Q⟩ := Γ
  obtain ⟨hx, hb, hml, hown, hts, hK, hr, hlk, hnm, hrm, hsz, hZ, hZC⟩ := hΓ
  subst hn
  subst hl'
  intro H locs ls hR hS hl
  exact lv_iinc hx hb hd hl (k := q) (by rw [List.getElem?_map, hq]; rfl) hv hi2 (by rw [lvm_f1]; rfl) (fun ls' hl' => k H locs ls' hR hS hl')
theorem sv_goto (hΓ : CK E own cc nL ret nm d mc ms Γ) {off : Int} (hd : decode cc pc = .ok (.goto off, 3)) (ht : (pc : Int) + off = (pc' : Int)) (k : SV E Γ nL M nx ce sl pc' lv st) : SV E Γ nL M nx ce sl pc lv st := by
  obtain ⟨p, l, e, R, s, m, args, below, meth, c, Q⟩ := Γ
  obtain ⟨hx, hb, hml, hown, hts, hK, hr, hlk, hnm, hrm, hsz, hZ, hZC⟩ := hΓ
  intro H locs ls hR hS hl
  exact lv_goto hx hb hd ht (k H locs ls hR hS hl)

theorem sv_if_eq (hΓ : CK E own cc nL ret nm d mc ms Γ) {x : Int32} {off : Int} {tgt : Nat} (hd : decode cc pc = .ok (.ifCond .eq off, 3)) (ht : (pc : Int) + off = (tgt : Int)) (hn : pc + 3 = pc') (kt : x = 0 → SV E Γ nL M nx ce sl tgt lv st) (kf : ¬ x = 0 → SV E Γ nL M nx ce sl pc' lv st) : SV E Γ nL M nx ce sl pc lv (.int x :: st) := by
  obtain ⟨p, l, e, R, s, m, args, below, meth, c, Q⟩ := Γ
  obtain ⟨hx, hb, hml, hown, hts, hK, hr, hlk, hnm, hrm, hsz, hZ, hZC⟩ := hΓ
  subst hn
  intro H locs ls hR hS hl
  exact lv_if_eq hx hb hd ht (fun h => kt h H locs ls hR hS hl) (fun h => kf h H locs ls hR hS hl)

theorem sv_icmp_eq (hΓ : CK E own cc nL ret nm d mc ms Γ) {x y : Int32} {off : Int} {tgt : Nat} (hd : decode cc pc = .ok (.if_icmp .eq off, 3)) (ht : (pc : Int) + off = (tgt : Int)) (hn : pc + 3 = pc') (kt : x = y → SV E Γ nL M nx ce sl tgt lv st) (kf : ¬ x = y → SV E Γ nL M nx ce sl pc' lv st) : SV E Γ nL M nx ce sl pc lv (.int y :: .int x :: st) := by
  obtain ⟨p, l, e, R, s, m, args, below, meth, c, Q⟩ := Γ
  obtain ⟨hx, hb, hml, hown, hts, hK, hr, hlk, hnm, hrm, hsz, hZ, hZC⟩ := hΓ
  subst hn
  intro H locs ls hR hS hl
  exact lv_icmp_eq hx hb hd ht (fun h => kt h H locs ls hR hS hl) (fun h => kf h H locs ls hR hS hl)

theorem sv_if_ne (hΓ : CK E own cc nL ret nm d mc ms Γ) {x : Int32} {off : Int} {tgt : Nat} (hd : decode cc pc = .ok (.ifCond .ne off, 3)) (ht : (pc : Int) + off = (tgt : Int)) (hn : pc + 3 = pc') (kt : ¬ x = 0 → SV E Γ nL M nx ce sl tgt lv st) (kf : x = 0 → SV E Γ nL M nx ce sl pc' lv st) : SV E Γ nL M nx ce sl pc lv (.int x :: st) := by
  obtain ⟨p, l, e, R, s, m, args, below, meth, c, Q⟩ := Γ
  obtain ⟨hx, hb, hml, hown, hts, hK, hr, hlk, hnm, hrm, hsz, hZ, hZC⟩ := hΓ
  subst hn
  intro H locs ls hR hS hl
  exact lv_if_ne hx hb hd ht (fun h => kt h H locs ls hR hS hl) (fun h => kf h H locs ls hR hS hl)

theorem sv_icmp_ne (hΓ : CK E own cc nL ret nm d mc ms Γ) {x y : Int32} {off : Int} {tgt : Nat} (hd : decode cc pc = .ok (.if_icmp .ne off, 3)) (ht : (pc : Int) + off = (tgt : Int)) (hn : pc + 3 = pc') (kt : ¬ x = y → SV E Γ nL M nx ce sl tgt lv st) (kf : x = y → SV E Γ nL M nx ce sl pc' lv st) : SV E Γ nL M nx ce sl pc lv (.int y :: .int x :: st) := by
  obtain ⟨p, l, e, R, s, m, args, below, meth, c, Q⟩ := Γ
  obtain ⟨hx, hb, hml, hown, hts, hK, hr, hlk, hnm, hrm, hsz, hZ, hZC⟩ := hΓ
  subst hn
  intro H locs ls hR hS hl
  exact lv_icmp_ne hx hb hd ht (fun h => kt h H locs ls hR hS hl) (fun h => kf h H locs ls hR hS hl)

theorem sv_if_lt (hΓ : CK E own cc nL ret nm d mc ms Γ) {x : Int32} {off : Int} {tgt : Nat} (hd : decode cc pc = .ok (.ifCond .lt off, 3)) (ht : (pc : Int) + off = (tgt : Int)) (hn : pc + 3 = pc') (kt : x < 0 → SV E Γ nL M nx ce sl tgt lv st) (kf : ¬ x < 0 → SV E Γ nL M nx ce sl pc' lv st) : SV E Γ nL M nx ce sl pc lv (.int x :: st) := by
  obtain ⟨p, l, e, R, s, m, args, below, meth, c, Q⟩ := Γ
  obtain ⟨hx, hb, hml, hown, hts, hK, hr, hlk, hnm, hrm, hsz, hZ, hZC⟩ := hΓ
  subst hn
  intro H locs ls hR hS hl
  exact lv_if_lt hx hb hd ht (fun h => kt h H locs ls hR hS hl) (fun h => kf h H locs ls hR hS hl)

theorem sv_icmp_lt (hΓ : CK E own cc nL ret nm d mc ms Γ) {x y : Int32} {off : Int} {tgt : Nat} (hd : decode cc pc = .ok (.if_icmp .lt off, 3)) (ht : (pc : Int) + off = (tgt : Int)) (hn : pc + 3 = pc') (kt : x < y → SV E Γ nL M nx ce sl tgt lv st) (kf : ¬ x < y → SV E Γ nL M nx ce sl pc' lv st) : SV E Γ nL M nx ce sl pc lv (.int y :: .int x :: st) := by
  obtain ⟨p, l, e, R, s, m, args, below, meth, c, Q⟩ := Γ
  obtain ⟨hx, hb, hml, hown, hts, hK, hr, hlk, hnm, hrm, hsz, hZ, hZC⟩ := hΓ
  subst hn
  intro H locs ls hR hS hl
  exact lv_icmp_lt hx hb hd ht (fun h => kt h H locs ls hR hS hl) (fun h => kf h H locs ls hR hS hl)

theorem sv_if_ge (hΓ : CK E own cc nL ret nm d mc ms Γ) {x : Int32} {off : Int} {tgt : Nat} (hd : decode cc pc = .ok (.ifCond .ge off, 3)) (ht : (pc : Int) + off = (tgt : Int)) (hn : pc + 3 = pc') (kt : 0 ≤ x → SV E Γ nL M nx ce sl tgt lv st) (kf : ¬ 0 ≤ x → SV E Γ nL M nx ce sl pc' lv st) : SV E Γ nL M nx ce sl pc lv (.int x :: st) := by
  obtain ⟨p, l, e, R, s, m, args, below, meth, c, Q⟩ := Γ
  obtain ⟨hx, hb, hml, hown, hts, hK, hr, hlk, hnm, hrm, hsz, hZ, hZC⟩ := hΓ
  subst hn
  intro H locs ls hR hS hl
  exact lv_if_ge hx hb hd ht (fun h => kt h H locs ls hR hS hl) (fun h => kf h H locs ls hR hS hl)

theorem sv_icmp_ge (hΓ : CK E own cc nL ret nm d mc ms Γ) {x y : Int32} {off : Int} {tgt : Nat} (hd : decode cc pc = .ok (.if_icmp .ge off, 3)) (ht : (pc : Int) + off = (tgt : Int)) (hn : pc + 3 = pc') (kt : y ≤ x → SV E Γ nL M nx ce sl tgt lv st) (kf : ¬ y ≤ x → SV E Γ nL M nx ce sl pc' lv st) : SV E Γ nL M nx ce sl pc lv (.int y :: .int x :: st) := by
  obtain ⟨p, l, e, R, s, m, args, below, meth, c, Q⟩ := Γ
  obtain ⟨hx, hb, hml, hown, hts, hK, hr, hlk, hnm, hrm, hsz, hZ, hZC⟩ := hΓ
  subst hn
  intro H locs ls hR hS hl
  exact lv_icmp_ge hx hb hd ht (fun h => kt h H locs ls hR hS hl) (fun h => kf h H locs ls hR hS hl)

theorem sv_if_gt (hΓ : CK E own cc nL ret nm d mc ms Γ) {x : Int32} {off : Int} {tgt : Nat} (hd : decode cc pc = .ok (.ifCond .gt off, 3)) (ht : (pc : Int) + off = (tgt : Int)) (hn : pc + 3 = pc') (kt : 0 < x → SV E Γ nL M nx ce sl tgt lv st) (kf : ¬ 0 < x → SV E Γ nL M nx ce sl pc' lv st) : SV E Γ nL M nx ce sl pc lv (.int x :: st) := by
  obtain ⟨p, l, e, R, s, m, args, below, meth, c, Q⟩ := Γ
  obtain ⟨hx, hb, hml, hown, hts, hK, hr, hlk, hnm, hrm, hsz, hZ, hZC⟩ := hΓ
  subst hn
  intro H locs ls hR hS hl
  exact lv_if_gt hx hb hd ht (fun h => kt h H locs ls hR hS hl) (fun h => kf h H locs ls hR hS hl)

theorem sv_icmp_gt (hΓ : CK E own cc nL ret nm d mc ms Γ) {x y : Int32} {off : Int} {tgt : Nat} (hd : decode cc pc = .ok (.if_icmp .gt off, 3)) (ht : (pc : Int) + off = (tgt : Int)) (hn : pc + 3 = pc') (kt : y < x → SV E Γ nL M nx ce sl tgt lv st) (kf : ¬ y < x → SV E Γ nL M nx ce sl pc' lv st) : SV E Γ nL M nx ce sl pc lv (.int y :: .int x :: st) := by
  obtain ⟨p, l, e, R, s, m, args, below, meth, c, Q⟩ := Γ
  obtain ⟨hx, hb, hml, hown, hts, hK, hr, hlk, hnm, hrm, hsz, hZ, hZC⟩ := hΓ
  subst hn
  intro H locs ls hR hS hl
  exact lv_icmp_gt hx hb hd ht (fun h => kt h H locs ls hR hS hl) (fun h => kf h H locs ls hR hS hl)

theorem sv_if_le (hΓ : CK E own cc nL ret nm d mc ms Γ) {x : Int32} {off : Int} {tgt : Nat} (hd : decode cc pc = .ok (.ifCond .le off, 3)) (ht : (pc : Int) + off = (tgt : Int)) (hn : pc + 3 = pc') (kt : x ≤ 0 → SV E Γ nL M nx ce sl tgt lv st) (kf : ¬ x ≤ 0 → SV E Γ nL M nx ce sl pc' lv st) : SV E Γ nL M nx ce sl pc lv (.int x :: st) := by
  obtain ⟨p, l, e, R, s, m, args, below, meth, c, Q⟩ := Γ
  obtain ⟨hx, hb, hml, hown, hts, hK, hr, hlk, hnm, hrm, hsz, hZ, hZC⟩ := hΓ
  subst hn
  intro H locs ls hR hS hl
  exact lv_if_le hx hb hd ht (fun h => kt h H locs ls hR hS hl) (fun h => kf h H locs ls hR hS hl)

theorem sv_icmp_le (hΓ : CK E own cc nL ret nm d mc ms Γ) {x y : Int32} {off : Int} {tgt : Nat} (hd : decode cc pc = .ok (.if_icmp .le off, 3)) (ht : (pc : Int) + off = (tgt : Int)) (hn : pc + 3 = pc') (kt : x ≤ y → SV E Γ nL M nx ce sl tgt lv st) (kf : ¬ x ≤ y → SV E Γ nL M nx ce sl pc' lv st) : SV E Γ nL M nx ce sl pc lv (.int y :: .int x :: st) := by
  obtain ⟨p, l, e, R, s, m, args, below, meth, c, Q⟩ := Γ
  obtain ⟨hx, hb, hml, hown, hts, hK, hr, hlk, hnm, hrm, hsz, hZ, hZC⟩ := hΓ
  subst hn
  intro H locs ls hR hS hl
  exact lv_icmp_le hx hb hd ht (fun h => kt h H locs ls hR hS hl) (fun h => kf h H locs ls hR hS hl)

theorem sv_ifnonnull (hΓ : CK E own cc nL ret nm d mc ms Γ) {x : Nat} {off : Int} (hd : decode cc pc = .ok (.ifnonnull off, 3)) (ht : (pc : Int) + off = (pc' : Int)) (k : SV E Γ nL M nx ce sl pc' lv st) : SV E Γ nL M nx ce sl pc lv (.ref x :: st) := by
  obtain ⟨p, l, e, R, s, m, args, below, meth, c, Q⟩ := Γ
  obtain ⟨hx, hb, hml, hown, hts, hK, hr, hlk, hnm, hrm, hsz, hZ, hZC⟩ := hΓ
  intro H locs ls hR hS hl
  exact lv_ifnonnull hx hb hd ht (k H locs ls hR hS hl)

theorem sv_ifnull (hΓ : CK E own cc nL ret nm d mc ms Γ) {x : Nat} {off : Int} (hd : decode cc pc = .ok (.ifnull off, 3)) (hn : pc + 3 = pc') (k : SV E Γ nL M nx ce sl pc' lv st) : SV E Γ nL M nx ce sl pc lv (.ref x :: st) := by
  obtain ⟨p, l, e, R, s, m, args, below, meth, c, Q⟩ := Γ
  obtain ⟨hx, hb, hml, hown, hts, hK, hr, hlk, hnm, hrm, hsz, hZ, hZC⟩ := hΓ
  subst hn
  intro H locs ls hR hS hl
  exact lv_ifnull hx hb hd (k H locs ls hR hS hl)

theorem sv_ifnullN (hΓ : CK E own cc nL ret nm d mc ms Γ) {off : Int} (hd : decode cc pc = .ok (.ifnull off, 3)) (ht : (pc : Int) + off = (pc' : Int)) (k : SV E Γ nL M nx ce sl pc' lv st) : SV E Γ nL M nx ce sl pc lv (.null :: st) := by
  obtain ⟨p, l, e, R, s, m, args, below, meth, c, Q⟩ := Γ
  obtain ⟨hx, hb, hml, hown, hts, hK, hr, hlk, hnm, hrm, hsz, hZ, hZC⟩ := hΓ
  intro H locs ls hR hS hl
  exact lv_ifnullN hx hb hd ht (k H locs ls hR hS hl)

theorem sv_ifnonnullN (hΓ : CK E own cc nL ret nm d mc ms Γ) {off : Int} (hd : decode cc pc = .ok (.ifnonnull off, 3)) (hn : pc + 3 = pc') (k : SV E Γ nL M nx ce sl pc' lv st) : SV E Γ nL M nx ce sl pc lv (.null :: st) := by
  obtain ⟨p, l, e, R, s, m, args, below, meth, c, Q⟩ := Γ
  obtain ⟨hx, hb, hml, hown, hts, hK, hr, hlk, hnm, hrm, hsz, hZ, hZC⟩ := hΓ
  subst hn
  intro H locs ls hR hS hl
  exact lv_ifnonnullN hx hb hd (k H locs ls hR hS hl)

theorem sv_lookup (hΓ : CK E own cc nL ret nm d mc ms Γ) {dflt : Int} {ps : Array (Int × Int)} {len : Nat} {x : Int32} {off : Int} (hd : decode cc pc = .ok (.lookupswitch dflt ps, len)) (hp : (ps.toList.zip (ps.toList.drop 1)).all (fun (a, next) => a.1 < next.1) = true) (ho : Op.lookupswitch.offset ps.toList dflt x.toInt = off) (ht : (pc : Int) + off = (pc' : Int)) (k : SV E Γ nL M nx ce sl pc' lv st) : SV E Γ nL M nx ce sl pc lv (.int x :: st) := by
  obtain ⟨p, l, e, R, s, m, args, below, meth, c, Q⟩ := Γ
  obtain ⟨hx, hb, hml, hown, hts, hK, hr, hlk, hnm, hrm, hsz, hZ, hZC⟩ := hΓ
  intro H locs ls hR hS hl
  exact lv_lookup hx hb hd hp ho ht (k H locs ls hR hS hl)
theorem sv_tableOut (hΓ : CK E own cc nL ret nm d mc ms Γ) {dflt lo hi : Int} {offs : Array Int} {len : Nat} {x : Int32} (hd : decode cc pc = .ok (.tableswitch dflt lo hi offs, len)) (h : x.toInt < lo ∨ hi < x.toInt) (ht : (pc : Int) + dflt = (pc' : Int)) (k : SV E Γ nL M nx ce sl pc' lv st) : SV E Γ nL M nx ce sl pc lv (.int x :: st) := by
  obtain ⟨p, l, e, R, s, m, args, below, meth, c, Q⟩ := Γ
  obtain ⟨hx, hb, hml, hown, hts, hK, hr, hlk, hnm, hrm, hsz, hZ, hZC⟩ := hΓ
  intro H locs ls hR hS hl
  exact lv_tableOut hx hb hd h ht (k H locs ls hR hS hl)
theorem sv_tableIn (hΓ : CK E own cc nL ret nm d mc ms Γ) {dflt lo hi : Int} {offs : Array Int} {len : Nat} {x : Int32} {off : Int} (hd : decode cc pc = .ok (.tableswitch dflt lo hi offs, len)) (h1 : ¬ x.toInt < lo) (h2 : ¬ hi < x.toInt) (ho : offs[(x.toInt - lo).toNat]? = some off) (ht : (pc : Int) + off = (pc' : Int)) (k : SV E Γ nL M nx ce sl pc' lv st) : SV E Γ nL M nx ce sl pc lv (.int x :: st) := by
  obtain ⟨p, l, e, R, s, m, args, below, meth, c, Q⟩ := Γ
  obtain ⟨hx, hb, hml, hown, hts, hK, hr, hlk, hnm, hrm, hsz, hZ, hZC⟩ := hΓ
  intro H locs ls hR hS hl
  exact lv_tableIn hx hb hd h1 h2 ho ht (k H locs ls hR hS hl)
/-- a table of targets, place by place: x is lo + k -/
theorem sv_table {x : Int32} {lo hi : Int} {A : Prop} (N : Nat) (hN : hi = lo + N) (hout : x.toInt < lo ∨ hi < x.toInt → A) (hin : ∀ k : Nat, k ≤ N → x.toInt = lo + k → A) : A := by
  by_cases h1 : x.toInt < lo
  · exact hout (Or.inl h1)
  · by_cases h2 : hi < x.toInt
    · exact hout (Or.inr h2)
    · exact hin (x.toInt - lo).toNat (by omega) (by omega)

theorem sv_get (hΓ : CK E own cc nL ret nm d mc ms Γ) {C : String} {T : u_T} {N ci index a : Nat} {fs : List Value} {v : Value} (hin : ∀ w ∈ u_ws C T N, w ∈ TB) (hc : vwCl[ci]? = some (C, T, N)) (k : Nat) (hk : k < N) (hlink : Cond.fieldLink own index C (T k).2.1 (T k).2.2.1 ∈ TB) (hdecl : (T k).1 = C) (hM : M a = some (.inr (ci, fs))) (hv : fs[k]? = some v) (hd : decode cc pc = .ok (.getfield index, 3)) (hn : pc + 3 = pc') (kk : SV E Γ nL M nx ce sl pc' lv (v :: st)) : SV E Γ nL M nx ce sl pc lv (.ref a :: st) := by
  obtain ⟨p, l, e, R, s, m, args, below, meth, c, Q⟩ := Γ
  obtain ⟨hx, hb, hml, hown, hts, hK, hr, hlk, hnm, hrm, hsz, hZ, hZC⟩ := hΓ
  subst hn
  intro H locs ls hR hS hl
  have hat := (hR.2.2 a _ hM).2.2
  exact va_get (D := gD E) (cl := vwCl) (ws := [(ta E a, te E (.inr (ci, fs)))]) (C := C) (T := T) (N := N) hx hb hts hin hown hK (va_P1 hat) 0 rfl hc k hk (hts _ hlink) (fun _ h9 => by rw [hdecl] at h9; exact h9) (v := tv E v) (by rw [List.getElem?_map, hv]; rfl) hd (kk H locs ls hR hS hl)
theorem sv_put (hΓ : CK E own cc nL ret nm d mc ms Γ) {C : String} {T : u_T} {N ci index a : Nat} {fs : List Value} {v : Value} (hin : ∀ w ∈ u_ws C T N, w ∈ TB) (ty0 : Nat → FieldType) (hty : ∀ k, k < N → parseFieldDescriptor (T k).2.2.1 = some (ty0 k)) (hnm : ∀ a, a < N → ∀ b, b < N → a ≠ b → (T a).2.1 ≠ (T b).2.1) (hc : vwCl[ci]? = some (C, T, N)) (k : Nat) (hk : k < N) (hlink : Cond.fieldLink own index C (T k).2.1 (T k).2.2.1 ∈ TB) (hdecl : (T k).1 = C) (hfin : (T k).2.2.2 = false) {ty : FieldType} (hp : parseFieldDescriptor (T k).2.2.1 = some ty) (hM : M a = some (.inr (ci, fs))) (hok : narrow ty (tv E v) = tv E v ∧ fits ty (tv E v) = true) (hlen : k < fs.length) (hd : decode cc pc = .ok (.putfield index, 3)) (hn : pc + 3 = pc') (kk : SV E Γ nL (va_up M a (some (.inr (ci, fs.set k v)))) nx ce sl pc' lv st) : SV E Γ nL M nx ce sl pc lv (v :: .ref a :: st) := by
  obtain ⟨p, l, e, R, s, m, args, below, meth, c, Q⟩ := Γ
  obtain ⟨hx, hb, hml, hown, hts, hK, hr, hlk, hnm', hrm, hsz, hZ, hZC⟩ := hΓ
  subst hn
  intro H locs ls hR hS hl
  obtain ⟨ha1, ha2, hat⟩ := hR.2.2 a _ hM
  have hap := va_apart (own := own) (D := gD E) hts hin ty0 hty hnm hK hc
  obtain ⟨r, h1, cell, q1, q2, q3, q4⟩ := hat
  have hre : r = (C, T, N) := Option.some.inj (h1.symm.trans hc)
  subst hre
  obtain ⟨hSl, hfc, kC, hkC, hkind⟩ := hK.1 ci _ hc
  obtain ⟨cf, kf, fi, f, hi, hsl⟩ := hSl k hk
  have hlay := hts _ (hin _ (u_in_lay hk))
  unfold u_lay at hlay
  rw [if_neg (by rw [hfin]; decide)] at hlay
  have hst := (u_facts hfc hkC (u_lays hts hin hk) hi).1
  have h6 := u_store hfc hkC hkind hlay hi hp hok.1 hok.2
  have hsame : s.fieldFound? C (T k).2.1 (T k).2.2.1 = some (cf, kf, fi, f) := by rw [hdecl] at hi; exact hi
  refine W.putK hx hb (f := f) ⟨hown, hts _ hlink, ⟨_, _, _, hsame⟩, hst⟩ (by rw [q2]; exact h6) q1 q3 (by rw [hsl]; exact k2_hasslot (q4 k hk)) rfl rfl hd fun H' e1 e2 e3 => ?_
  rw [hsl] at e1 ⊢
  refine kk H' _ ls (hR.set hM ⟨_, hc, t_OB.to (V := updV (vp_V (fs.map (tv E))) k (tv E v)) ⟨_, e1, q2, q3, t_set q4 hap hk (tv E v)⟩ (fun j _ => ?_)⟩ e2 e3) (hS.put e2 e3 (ta_ge ha1)) hl
  rw [vp_updV_set (by rw [List.length_map]; exact hlen) (tv E v) j]
  show vp_V ((fs.map (tv E)).set k (tv E v)) j = vp_V ((fs.set k v).map (tv E)) j
  rw [List.map_set]
theorem sv_putF (hΓ : CK E own cc nL ret nm d mc ms Γ) {T : u_T} {N ci index a : Nat} {fs : List Value} {v : Value} (hin : ∀ w ∈ u_ws own T N, w ∈ TB) (ty0 : Nat → FieldType) (hty : ∀ k, k < N → parseFieldDescriptor (T k).2.2.1 = some (ty0 k)) (hnm : ∀ a, a < N → ∀ b, b < N → a ≠ b → (T a).2.1 ≠ (T b).2.1) (hc : vwCl[ci]? = some (own, T, N)) (k : Nat) (hk : k < N) (hlink : Cond.fieldLink own index own (T k).2.1 (T k).2.2.1 ∈ TB) (hdecl : (T k).1 = own) (hfin : (T k).2.2.2 = true) (hini : nm = "<init>") {ty : FieldType} (hp : parseFieldDescriptor (T k).2.2.1 = some ty) (hM : M a = some (.inr (ci, fs))) (hok : narrow ty (tv E v) = tv E v ∧ fits ty (tv E v) = true) (hlen : k < fs.length) (hd : decode cc pc = .ok (.putfield index, 3)) (hn : pc + 3 = pc') (kk : SV E Γ nL (va_up M a (some (.inr (ci, fs.set k v)))) nx ce sl pc' lv st) : SV E Γ nL M nx ce sl pc lv (v :: .ref a :: st) := by
  obtain ⟨p, l, e, R, s, m, args, below, meth, c, Q⟩ := Γ
  obtain ⟨hx, hb, hml, hown, hts, hK, hr, hlk, hnm', hrm, hsz, hZ, hZC⟩ := hΓ
  subst hn
  intro H locs ls hR hS hl
  obtain ⟨ha1, ha2, hat⟩ := hR.2.2 a _ hM
  have hap := va_apart (own := own) (D := gD E) hts hin ty0 hty hnm hK hc
  obtain ⟨r, h1, cell, q1, q2, q3, q4⟩ := hat
  have hre : r = (own, T, N) := Option.some.inj (h1.symm.trans hc)
  subst hre
  obtain ⟨hSl, hfc, kC, hkC, hkind⟩ := hK.1 ci _ hc
  obtain ⟨cf, kf, fi, f, hi, hsl⟩ := hSl k hk
  have hlay := hts _ (hin _ (u_in_lay hk))
  unfold u_lay at hlay
  rw [if_pos hfin] at hlay
  have hst := (u_facts hfc hkC (u_lays hts hin hk) hi).1
  have hcf : m.cls = cf := by
    obtain ⟨_, _, c', _, _, _, -, -, hf', -, -, -, hown2, -⟩ := Cond.laysFinal_spec hlay
    have e1 : c' = cf := by have := hi.symm.trans hf'; simp at this; exact this.1.symm
    rw [hdecl] at hown2
    rw [← e1]; exact Option.some.inj (hown.symm.trans hown2)
  have h6 := u_fits hfc hkC hkind (Or.inr hlay) hi hp hok.1 hok.2
  have hsame : s.fieldFound? own (T k).2.1 (T k).2.2.1 = some (cf, kf, fi, f) := by rw [hdecl] at hi; exact hi
  refine W.putFinK hx hb hown (hts _ hlink) hsame hst hcf (hnm'.trans hini) (by rw [q2]; exact h6) q1 q3 (by rw [hsl]; exact k2_hasslot (q4 k hk)) rfl rfl hd fun H' e1 e2 e3 => ?_
  rw [hsl] at e1 ⊢
  refine kk H' _ ls (hR.set hM ⟨_, hc, t_OB.to (V := updV (vp_V (fs.map (tv E))) k (tv E v)) ⟨_, e1, q2, q3, t_set q4 hap hk (tv E v)⟩ (fun j _ => ?_)⟩ e2 e3) (hS.put e2 e3 (ta_ge ha1)) hl
  rw [vp_updV_set (by rw [List.length_map]; exact hlen) (tv E v) j]
  show vp_V ((fs.map (tv E)).set k (tv E v)) j = vp_V ((fs.set k v).map (tv E)) j
  rw [List.map_set]

theorem sv_iald (hΓ : CK E own cc nL ret nm d mc ms Γ) {a n : Nat} {f : Nat → Int32} {i : Int32} (hd : decode cc pc = .ok (.iaload, 1)) (hM : M a = some (.inl (0, n, .inl f))) (hin : vp_in i n) (hn : pc + 1 = pc') (k : SV E Γ nL M nx ce sl pc' lv (.int (f i.toNatClampNeg) :: st)) : SV E Γ nL M nx ce sl pc lv (.int i :: .ref a :: st) := by
  obtain ⟨p, l, e, R, s, m, args, below, meth, c, Q⟩ := Γ
  obtain ⟨hx, hb, hml, hown, hts, hK, hr, hlk, hnm, hrm, hsz, hZ, hZC⟩ := hΓ
  subst hn
  intro H locs ls hR hS hl
  exact va_iald (D := gD E) (cl := vwCl) (ws := [(ta E a, te E (.inl (0, n, .inl f)))]) hx hb hK (va_P1 (hR.2.2 a _ hM).2.2) 0 0 rfl rfl hin hd (k H locs ls hR hS hl)

theorem sv_zald (hΓ : CK E own cc nL ret nm d mc ms Γ) {a n : Nat} {f : Nat → Int32} {i : Int32} (hd : decode cc pc = .ok (.baload, 1)) (hM : M a = some (.inl (2, n, .inl f))) (hin : vp_in i n) (hn : pc + 1 = pc') (k : SV E Γ nL M nx ce sl pc' lv (.int (f i.toNatClampNeg) :: st)) : SV E Γ nL M nx ce sl pc lv (.int i :: .ref a :: st) := by
  obtain ⟨p, l, e, R, s, m, args, below, meth, c, Q⟩ := Γ
  obtain ⟨hx, hb, hml, hown, hts, hK, hr, hlk, hnm, hrm, hsz, hZ, hZC⟩ := hΓ
  subst hn
  intro H locs ls hR hS hl
  exact va_zald (D := gD E) (cl := vwCl) (ws := [(ta E a, te E (.inl (2, n, .inl f)))]) hx hb hK (va_P1 (hR.2.2 a _ hM).2.2) 0 2 rfl rfl hin hd (k H locs ls hR hS hl)

theorem sv_lald (hΓ : CK E own cc nL ret nm d mc ms Γ) {a n : Nat} {f : Nat → Int64} {i : Int32} (hd : decode cc pc = .ok (.laload, 1)) (hM : M a = some (.inl (1, n, .inr (.inl f)))) (hin : vp_in i n) (hn : pc + 1 = pc') (k : SV E Γ nL M nx ce sl pc' lv (.long (f i.toNatClampNeg) :: st)) : SV E Γ nL M nx ce sl pc lv (.int i :: .ref a :: st) := by
  obtain ⟨p, l, e, R, s, m, args, below, meth, c, Q⟩ := Γ
  obtain ⟨hx, hb, hml, hown, hts, hK, hr, hlk, hnm, hrm, hsz, hZ, hZC⟩ := hΓ
  subst hn
  intro H locs ls hR hS hl
  exact va_lald (D := gD E) (cl := vwCl) (ws := [(ta E a, te E (.inl (1, n, .inr (.inl f))))]) hx hb hK (va_P1 (hR.2.2 a _ hM).2.2) 0 1 rfl rfl hin hd (k H locs ls hR hS hl)

theorem tv_rf (E : aG) (r : Option Nat) : tv E (va_rf r) = va_rf (r.map (ta E)) := by cases r <;> rfl
theorem sv_aald (hΓ : CK E own cc nL ret nm d mc ms Γ) {a n t : Nat} {C : String} {f : Nat → Option Nat} {i : Int32} (ht : (gTys E)[t]? = some (gA E t, .object C)) (hd : decode cc pc = .ok (.aaload, 1)) (hM : M a = some (.inl (t, n, .inr (.inr (.inr (.inr f)))))) (hin : vp_in i n) {v : Value} (hv : va_rf (f i.toNatClampNeg) = v) (hn : pc + 1 = pc') (k : SV E Γ nL M nx ce sl pc' lv (v :: st)) : SV E Γ nL M nx ce sl pc lv (.int i :: .ref a :: st) := by
  obtain ⟨p, l, e, R, s, m, args, below, meth, c, Q⟩ := Γ
  obtain ⟨hx, hb, hml, hown, hts, hK, hr, hlk, hnm, hrm, hsz, hZ, hZC⟩ := hΓ
  subst hn
  subst hv
  intro H locs ls hR hS hl
  have kk := k H locs ls hR hS hl
  rw [List.map_cons, tv_rf] at kk
  exact va_aldq (D := gD E) (cl := vwCl) (ws := [(ta E a, te E (.inl (t, n, .inr (.inr (.inr (.inr f))))))]) hx hb hK (va_P1 (hR.2.2 a _ hM).2.2) 0 t rfl ht hin hd kk
theorem sv_alen (hΓ : CK E own cc nL ret nm d mc ms Γ) {a t : Nat} {x : vp_A} {ty : FieldType} (ht : (gTys E)[t]? = some (gA E t, ty)) (hd : decode cc pc = .ok (.arraylength, 1)) (hM : M a = some (.inl (t, x))) {v : Int32} (hv : Int32.ofNat x.1 = v) (hn : pc + 1 = pc') (k : SV E Γ nL M nx ce sl pc' lv (.int v :: st)) : SV E Γ nL M nx ce sl pc lv (.ref a :: st) := by
  obtain ⟨p, l, e, R, s, m, args, below, meth, c, Q⟩ := Γ
  obtain ⟨hx, hb, hml, hown, hts, hK, hr, hlk, hnm, hrm, hsz, hZ, hZC⟩ := hΓ
  subst hn
  intro H locs ls hR hS hl
  obtain ⟨n, y⟩ := x
  exact va_alen (D := gD E) (cl := vwCl) (ws := [(ta E a, te E (.inl (t, n, y)))]) hx hb hK (va_P1 (hR.2.2 a _ hM).2.2) 0 t rfl ht hv hd (k H locs ls hR hS hl)

theorem sv_iast (hΓ : CK E own cc nL ret nm d mc ms Γ) {a n : Nat} {f : Nat → Int32} {i : Int32} {x : Int32} (hd : decode cc pc = .ok (.iastore, 1)) (hM : M a = some (.inl (0, n, .inl f))) (hin : vp_in i n) (hn : pc + 1 = pc') (k : SV E Γ nL (va_up M a (some (.inl (0, n, .inl (upd f i.toNatClampNeg x))))) nx ce sl pc' lv st) : SV E Γ nL M nx ce sl pc lv (.int x :: .int i :: .ref a :: st) := by
  obtain ⟨p, l, e, R, s, m, args, below, meth, c, Q⟩ := Γ
  obtain ⟨hx, hb, hml, hown, hts, hK, hr, hlk, hnm, hrm, hsz, hZ, hZC⟩ := hΓ
  subst hn
  intro H locs ls hR hS hl
  obtain ⟨ha1, ha2, hat⟩ := hR.2.2 a _ hM
  refine W.iast hx hb hat ((hK.2 0 _ rfl).1 n _) (fun q => by cases q) (by show ¬ (i < 0 ∨ (arrV _ _ _).slots.size ≤ _); rw [arrV_size]; exact hin) rfl rfl hd fun H1 e z oq => ?_
  refine k H1 _ ls (hR.set hM ?_ z oq) (hS.put z oq (ta_ge ha1)) hl
  show H1[ta E a]? = some (vp_cell (gA E 0) (n, .inl (upd f i.toNatClampNeg x)))
  rw [e]
  show some ((vp_cell (gA E 0) (n, .inl f)).setSlot _ _) = _
  rw [vp_cell_i, vp_cell_i, arrV_store]
  congr 2
  funext q
  by_cases hq : q = i.toNatClampNeg
  · subst hq
    simp [updV, upd]
  · simp [updV, upd, hq]

theorem sv_last (hΓ : CK E own cc nL ret nm d mc ms Γ) {a n : Nat} {f : Nat → Int64} {i : Int32} {x : Int64} (hd : decode cc pc = .ok (.lastore, 1)) (hM : M a = some (.inl (1, n, .inr (.inl f)))) (hin : vp_in i n) (hn : pc + 1 = pc') (k : SV E Γ nL (va_up M a (some (.inl (1, n, .inr (.inl (vp_updL f i.toNatClampNeg x)))))) nx ce sl pc' lv st) : SV E Γ nL M nx ce sl pc lv (.long x :: .int i :: .ref a :: st) := by
  obtain ⟨p, l, e, R, s, m, args, below, meth, c, Q⟩ := Γ
  obtain ⟨hx, hb, hml, hown, hts, hK, hr, hlk, hnm, hrm, hsz, hZ, hZC⟩ := hΓ
  subst hn
  intro H locs ls hR hS hl
  obtain ⟨ha1, ha2, hat⟩ := hR.2.2 a _ hM
  refine W.last hx hb hat ((hK.2 1 _ rfl).1 n _) (fun q => by cases q) (by show ¬ (i < 0 ∨ (arrV _ _ _).slots.size ≤ _); rw [arrV_size]; exact hin) rfl rfl hd fun H1 e z oq => ?_
  refine k H1 _ ls (hR.set hM ?_ z oq) (hS.put z oq (ta_ge ha1)) hl
  show H1[ta E a]? = some (vp_cell (gA E 1) (n, .inr (.inl (vp_updL f i.toNatClampNeg x))))
  rw [e]
  show some ((vp_cell (gA E 1) (n, .inr (.inl f))).setSlot _ _) = _
  rw [vp_cell_l, vp_cell_l, arrV_store]
  congr 2
  funext q
  by_cases hq : q = i.toNatClampNeg
  · subst hq
    simp [updV, vp_updL]
  · simp [updV, vp_updL, hq]

theorem sv_zast (hΓ : CK E own cc nL ret nm d mc ms Γ) {a n : Nat} {f : Nat → Int32} {i : Int32} {x : Int32} (hd : decode cc pc = .ok (.bastore, 1)) (hM : M a = some (.inl (2, n, .inl f))) (hin : vp_in i n) (hz : narrow .boolean (.int x) = .int x) (hn : pc + 1 = pc') (k : SV E Γ nL (va_up M a (some (.inl (2, n, .inl (upd f i.toNatClampNeg x))))) nx ce sl pc' lv st) : SV E Γ nL M nx ce sl pc lv (.int x :: .int i :: .ref a :: st) := by
  obtain ⟨p, l, e, R, s, m, args, below, meth, c, Q⟩ := Γ
  obtain ⟨hx, hb, hml, hown, hts, hK, hr, hlk, hnm, hrm, hsz, hZ, hZC⟩ := hΓ
  subst hn
  intro H locs ls hR hS hl
  obtain ⟨ha1, ha2, hat⟩ := hR.2.2 a _ hM
  refine W.zast hx hb hat ((hK.2 2 _ rfl).1 n _) (fun q => by cases q) (by show ¬ (i < 0 ∨ (arrV _ _ _).slots.size ≤ _); rw [arrV_size]; exact hin) rfl rfl hd fun H1 e z oq => ?_
  refine k H1 _ ls (hR.set hM ?_ z oq) (hS.put z oq (ta_ge ha1)) hl
  show H1[ta E a]? = some (vp_cell (gA E 2) (n, .inl (upd f i.toNatClampNeg x)))
  rw [e]
  show some ((vp_cell (gA E 2) (n, .inl f)).setSlot _ _) = _
  rw [vp_cell_i, vp_cell_i, arrV_store]
  congr 2
  funext q
  by_cases hq : q = i.toNatClampNeg
  · subst hq
    simp [updV, upd, hz]
  · simp [updV, upd, hz, hq]

end

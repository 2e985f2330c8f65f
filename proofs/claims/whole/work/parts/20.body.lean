/-! THE MACHINE IS SOUND: the body of a method -/
def usedOp : Instr → Bool
  | .sipush _ => true
  | .ldc2_w _ => true
  | .ldc _ => true
  | .iload _ => true
  | .lload _ => true
  | .aload _ => true
  | .istore _ => true
  | .lstore _ => true
  | .astore _ => true
  | .iinc _ _ => true
  | .iadd => true
  | .isub => true
  | .imul => true
  | .idiv => true
  | .irem => true
  | .ineg => true
  | .iand => true
  | .ior => true
  | .ixor => true
  | .ishl => true
  | .ishr => true
  | .iushr => true
  | .ladd => true
  | .lsub => true
  | .lmul => true
  | .ldiv => true
  | .lrem => true
  | .land => true
  | .lor => true
  | .lshl => true
  | .lcmp => true
  | .i2l => true
  | .l2i => true
  | .i2b => true
  | .i2s => true
  | .dup => true
  | .dup2 => true
  | .dup2_x1 => true
  | .pop => true
  | .iaload => true
  | .faload => true
  | .baload => true
  | .laload => true
  | .iastore => true
  | .bastore => true
  | .lastore => true
  | .aaload => true
  | .aastore => true
  | .arraylength => true
  | .ireturn => true
  | .lreturn => true
  | .return_ => true
  | .getfield _ => true
  | .putfield _ => true
  | .new _ => true
  | .newarray _ => true
  | .anewarray _ => true
  | .multianewarray _ _ => true
  | .goto _ => true
  | .ifCond _ _ => true
  | .if_icmp _ _ => true
  | .tableswitch _ _ _ _ => true
  | .invokeinterface _ _ => true
  | .invokedynamic _ => true
  | .invokestatic _ => true
  | .invokevirtual _ => true
  | .invokespecial _ => true
  | _ => false
noncomputable def okU (y : Nat) : Bool := (nthT tbs y).all fun ch => ch.all fun e => usedOp e.2.2.1
theorem okU_all : (List.range 405).all okU = true := by decide +kernel

theorem okDyn0 {own : String} {ini : Bool} {Ls : List Nat} {nL : Nat} {rt : Option FieldType} {pc : Nat} {raw : Instr} {len : Nat} {ax : Ax} (h : okEn own ini Ls nL rt (pc, (raw, len), .invokedynamic 0, ax) = true) : ∃ i, raw = .invokestatic i ∧ len = 3 ∧ Jvm.Cond.methodLink own i arraycopyName ∈ lw_tbl := by
  cases raw
  case invokestatic i =>
    have h : (len == 3 && wAt ax.1.2.2 (.methodLink own i arraycopyName)) = true := h
    rw [Bool.and_eq_true] at h
    exact ⟨i, rfl, beq_iff_eq.mp h.1, wAt_mem h.2⟩
  all_goals (have h : false = true := h; cases h)
theorem okDyn1 {own : String} {ini : Bool} {Ls : List Nat} {nL : Nat} {rt : Option FieldType} {pc : Nat} {raw : Instr} {len : Nat} {ax : Ax} (h : okEn own ini Ls nL rt (pc, (raw, len), .invokedynamic 1, ax) = true) : ∃ i, raw = .invokevirtual i ∧ len = 3 ∧ Jvm.Cond.methodLink own i y_len ∈ lw_tbl := by
  cases raw
  case invokevirtual i =>
    have h : (len == 3 && wAt ax.1.2.2 (.methodLink own i y_len)) = true := h
    rw [Bool.and_eq_true] at h
    exact ⟨i, rfl, beq_iff_eq.mp h.1, wAt_mem h.2⟩
  all_goals (have h : false = true := h; cases h)
theorem okDyn3 {own : String} {ini : Bool} {Ls : List Nat} {nL : Nat} {rt : Option FieldType} {pc : Nat} {raw : Instr} {len : Nat} {ax : Ax} (h : okEn own ini Ls nL rt (pc, (raw, len), .invokedynamic 3, ax) = true) : ∃ i, raw = .invokestatic i ∧ len = 3 ∧ Jvm.Cond.methodLink own i Lib.Math.max.name ∈ lw_tbl := by
  cases raw
  case invokestatic i =>
    have h : (len == 3 && wAt ax.1.2.2 (.methodLink own i Lib.Math.max.name)) = true := h
    rw [Bool.and_eq_true] at h
    exact ⟨i, rfl, beq_iff_eq.mp h.1, wAt_mem h.2⟩
  all_goals (have h : false = true := h; cases h)
theorem okDyn4 {own : String} {ini : Bool} {Ls : List Nat} {nL : Nat} {rt : Option FieldType} {pc : Nat} {raw : Instr} {len : Nat} {ax : Ax} (h : okEn own ini Ls nL rt (pc, (raw, len), .invokedynamic 4, ax) = true) : ∃ i, raw = .invokestatic i ∧ len = 3 ∧ Jvm.Cond.methodLink own i Lib.Math.min.name ∈ lw_tbl := by
  cases raw
  case invokestatic i =>
    have h : (len == 3 && wAt ax.1.2.2 (.methodLink own i Lib.Math.min.name)) = true := h
    rw [Bool.and_eq_true] at h
    exact ⟨i, rfl, beq_iff_eq.mp h.1, wAt_mem h.2⟩
  all_goals (have h : false = true := h; cases h)
theorem okCall_of {own : String} {i : Nat} {ax : Ax} (h : okCall own i ax = true) : (Jvm.Cond.methodLink own i (yN.getD ax.1.1 y0) ∈ lw_tbl ∨ Jvm.Cond.methodLinkNest own i (yN.getD ax.1.1 y0) "CargoFlag" ∈ lw_tbl) ∧ ax.1.1 < 404 := by
  unfold okCall at h
  rw [Bool.and_eq_true] at h
  refine ⟨?_, by simpa using h.2⟩
  have h1 := h.1
  split at h1
  · exact Or.inl (wAt_mem h1)
  · exact Or.inr (wAt_mem h1)
theorem sort0 {rt : Option FieldType} (h : sortOf rt = 0) : rt = none := by
  unfold sortOf at h
  split at h
  · rfl
  · cases h
  · cases h
theorem inv_spec {K : Cal} {y n so : Nat} {st : List AV} {S : Sp} {M : Mm} {go : List AV → Sp → Mm → Option Rs} {res : Rs} (h : inv K y n so st S M go = some res) : ∃ (r1 : Option AV) (S1 : Sp) (M1 : Mm), Nat.ble (wds (dropA n st)) 8 = true ∧ Nat.ble n (lenA st) = true ∧ K y (takeR n st []) S M = some (r1, S1, M1) ∧ go (r1.toList ++ dropA n st) S1 M1 = some res := by
  unfold inv at h
  cases hc0 : (Nat.ble (wds (dropA n st)) 8 && Nat.ble n (lenA st)) with
  | false => rw [hc0] at h; cases h
  | true =>
    rw [hc0] at h
    rw [Bool.and_eq_true] at hc0
    dsimp only [cond_true] at h
    split at h
    · rcases hq : K y (takeR n st []) S M with _ | ⟨_ | v, S1, M1⟩
      · rw [hq] at h; cases h
      · rw [hq] at h; exact ⟨_, _, _, hc0.1, hc0.2, rfl, h⟩
      · rw [hq] at h; cases h
    · rcases hq : K y (takeR n st []) S M with _ | ⟨_ | (x | v), S1, M1⟩
      · rw [hq] at h; cases h
      · rw [hq] at h; cases h
      · rw [hq] at h; exact ⟨_, _, _, hc0.1, hc0.2, rfl, h⟩
      · rw [hq] at h; cases h
    · rcases hq : K y (takeR n st []) S M with _ | ⟨_ | (x | (x | v)), S1, M1⟩
      · rw [hq] at h; cases h
      · rw [hq] at h; cases h
      · rw [hq] at h; cases h
      · rw [hq] at h; exact ⟨_, _, _, hc0.1, hc0.2, rfl, h⟩
      · rw [hq] at h; cases h
theorem inv_spec0 {K : Cal} {y n : Nat} {st : List AV} {S : Sp} {M : Mm} {go : List AV → Sp → Mm → Option Rs} {res : Rs} (h : inv K y n 0 st S M go = some res) : ∃ (S1 : Sp) (M1 : Mm), Nat.ble (wds (dropA n st)) 8 = true ∧ Nat.ble n (lenA st) = true ∧ K y (takeR n st []) S M = some (none, S1, M1) ∧ go (dropA n st) S1 M1 = some res := by
  unfold inv at h
  cases hc0 : (Nat.ble (wds (dropA n st)) 8 && Nat.ble n (lenA st)) with
  | false => rw [hc0] at h; cases h
  | true =>
    rw [hc0] at h
    rw [Bool.and_eq_true] at hc0
    dsimp only [cond_true] at h
    rcases hq : K y (takeR n st []) S M with _ | ⟨_ | v, S1, M1⟩
    · rw [hq] at h; cases h
    · rw [hq] at h; exact ⟨_, _, hc0.1, hc0.2, rfl, h⟩
    · rw [hq] at h; cases h
section SND
variable {p : Program} {l : Launch} {e : Env} {R : Room} {s : State} {m : MethodId} {args : Array Value} {below : List Frame} {meth : Method} {c : Code} {Q : State → Prop}
variable {cc : ByteArray} {own : String} {nL d n0 m0 L base : Nat} {Ls : List Nat} {dC : Nat → ClassId} {dI : Nat → Nat → Nat} {dA : Nat → ClassId} {cv adV : Nat → Nat} {xs : Nat → Int}
variable {pc : Nat} {ls r : List AV} {S : Sp} {M : Mm}
theorem bd_sipush (X : CX p R s m args c cc own nL d L base dC dI dA cv adV xs) (m1 : Int) {C : Cd} {ini : Bool} {rt : Option FieldType} {raw : Instr} {len : Nat} {ax : Ax} {rcv : Kon} {r' : Option AV} {S' : Sp} {M' : Mm} {st : List AV} (hlk : lk C pc = some ((raw, len), .sipush m1, ax)) (he : okEn own ini Ls nL rt (pc, (raw, len), .sipush m1, ax) = true) (hd : decode cc pc = .ok (raw, len)) (ih : ∀ (pc : Nat) (ls st : List AV) (S1 : Sp) (M1 : Mm), rcv pc ls st S1 M1 = some (r', S', M') → WW p l e R s m args below meth c Q nL n0 m0 L base Ls dC dI dA cv xs pc ls st S1 M1) (h : FF (callD d) C rcv pc ls st S M = some (r', S', M')) : WW p l e R s m args below meth c Q nL n0 m0 L base Ls dC dI dA cv xs pc ls st S M := by
      unfold FF at h
      rw [hlk] at h
      dsimp only at h
      unfold okEn at he
      dsimp only at he
      split at he
      · simp only [Bool.and_eq_true, Bool.or_eq_true, decide_eq_true_eq, beq_iff_eq, Bool.not_eq_true'] at he
        obtain ⟨⟨rfl, rfl⟩, h2⟩ := he
        exact s_iconst X hd h2 (ih _ _ _ _ _ h)
      · simp only [Bool.and_eq_true, Bool.or_eq_true, decide_eq_true_eq, beq_iff_eq, Bool.not_eq_true'] at he
        obtain ⟨⟨rfl, rfl⟩, h2⟩ := he
        exact s_bipush X hd h2 (ih _ _ _ _ _ h)
      · simp only [Bool.and_eq_true, Bool.or_eq_true, decide_eq_true_eq, beq_iff_eq, Bool.not_eq_true'] at he
        obtain ⟨⟨rfl, rfl⟩, h2⟩ := he
        exact s_sipush X hd h2 (ih _ _ _ _ _ h)
      · simp only [Bool.and_eq_true, Bool.or_eq_true, decide_eq_true_eq, beq_iff_eq, Bool.not_eq_true'] at he
        obtain ⟨⟨rfl, h1⟩, h2⟩ := he
        exact s_ldc X hd (wAt_mem h1) h2 (ih _ _ _ _ _ h)
      · simp only [Bool.and_eq_true, Bool.or_eq_true, decide_eq_true_eq, beq_iff_eq, Bool.not_eq_true'] at he
        obtain ⟨⟨rfl, h1⟩, h2⟩ := he
        exact s_ldcw X hd (wAt_mem h1) h2 (ih _ _ _ _ _ h)
      · cases he
theorem bd_ldc2_w (X : CX p R s m args c cc own nL d L base dC dI dA cv adV xs) (m1 : Nat) {C : Cd} {ini : Bool} {rt : Option FieldType} {raw : Instr} {len : Nat} {ax : Ax} {rcv : Kon} {r' : Option AV} {S' : Sp} {M' : Mm} {st : List AV} (hlk : lk C pc = some ((raw, len), .ldc2_w m1, ax)) (he : okEn own ini Ls nL rt (pc, (raw, len), .ldc2_w m1, ax) = true) (hd : decode cc pc = .ok (raw, len)) (ih : ∀ (pc : Nat) (ls st : List AV) (S1 : Sp) (M1 : Mm), rcv pc ls st S1 M1 = some (r', S', M') → WW p l e R s m args below meth c Q nL n0 m0 L base Ls dC dI dA cv xs pc ls st S1 M1) (h : FF (callD d) C rcv pc ls st S M = some (r', S', M')) : WW p l e R s m args below meth c Q nL n0 m0 L base Ls dC dI dA cv xs pc ls st S M := by
      unfold FF at h
      rw [hlk] at h
      dsimp only at h
      unfold okEn at he
      dsimp only at he
      split at he
      · simp only [Bool.and_eq_true, Bool.or_eq_true, decide_eq_true_eq, beq_iff_eq, Bool.not_eq_true'] at he
        obtain ⟨rfl, h2⟩ := he
        exact s_lconst X hd h2 (ih _ _ _ _ _ h)
      · simp only [Bool.and_eq_true, Bool.or_eq_true, decide_eq_true_eq, beq_iff_eq, Bool.not_eq_true'] at he
        obtain ⟨⟨rfl, h1⟩, h2⟩ := he
        exact s_ldc2 X hd (wAt_mem h1) h2 (ih _ _ _ _ _ h)
      · cases he
theorem bd_ldc (X : CX p R s m args c cc own nL d L base dC dI dA cv adV xs) (m1 : Nat) {C : Cd} {ini : Bool} {rt : Option FieldType} {raw : Instr} {len : Nat} {ax : Ax} {rcv : Kon} {r' : Option AV} {S' : Sp} {M' : Mm} {st : List AV} (hlk : lk C pc = some ((raw, len), .ldc m1, ax)) (he : okEn own ini Ls nL rt (pc, (raw, len), .ldc m1, ax) = true) (hd : decode cc pc = .ok (raw, len)) (ih : ∀ (pc : Nat) (ls st : List AV) (S1 : Sp) (M1 : Mm), rcv pc ls st S1 M1 = some (r', S', M') → WW p l e R s m args below meth c Q nL n0 m0 L base Ls dC dI dA cv xs pc ls st S1 M1) (h : FF (callD d) C rcv pc ls st S M = some (r', S', M')) : WW p l e R s m args below meth c Q nL n0 m0 L base Ls dC dI dA cv xs pc ls st S M := by
      unfold FF at h
      rw [hlk] at h
      dsimp only at h
      unfold okEn at he
      dsimp only at he
      simp only [Bool.and_eq_true, Bool.or_eq_true, decide_eq_true_eq, beq_iff_eq, Bool.not_eq_true'] at he
      obtain ⟨⟨rfl, rfl⟩, h2⟩ := he
      refine s_ldcS X hd ?_ (ih _ _ _ _ _ h)
      rcases h2 with ⟨⟨⟨a1, a2⟩, a3⟩, a4⟩ | ⟨⟨⟨a1, a2⟩, a3⟩, a4⟩
      · exact Or.inl ⟨a1, a2, a3, a4⟩
      · exact Or.inr ⟨a1, a2, a3, a4⟩
theorem bd_iload (X : CX p R s m args c cc own nL d L base dC dI dA cv adV xs) (k1 : Nat) {C : Cd} {ini : Bool} {rt : Option FieldType} {raw : Instr} {len : Nat} {ax : Ax} {rcv : Kon} {r' : Option AV} {S' : Sp} {M' : Mm} {st : List AV} (hlk : lk C pc = some ((raw, len), .iload k1, ax)) (he : okEn own ini Ls nL rt (pc, (raw, len), .iload k1, ax) = true) (hd : decode cc pc = .ok (raw, len)) (ih : ∀ (pc : Nat) (ls st : List AV) (S1 : Sp) (M1 : Mm), rcv pc ls st S1 M1 = some (r', S', M') → WW p l e R s m args below meth c Q nL n0 m0 L base Ls dC dI dA cv xs pc ls st S1 M1) (h : FF (callD d) C rcv pc ls st S M = some (r', S', M')) : WW p l e R s m args below meth c Q nL n0 m0 L base Ls dC dI dA cv xs pc ls st S M := by
      unfold FF at h
      rw [hlk] at h
      dsimp only at h
      unfold okEn at he
      dsimp only at he
      split at h
      · next hv =>
        split at he
        · simp only [Bool.and_eq_true, Bool.or_eq_true, decide_eq_true_eq, beq_iff_eq, Bool.not_eq_true'] at he
          obtain ⟨rfl, rfl⟩ := he
          exact s_iload X hd hv (ih _ _ _ _ _ h)
        · simp only [Bool.and_eq_true, Bool.or_eq_true, decide_eq_true_eq, beq_iff_eq, Bool.not_eq_true'] at he
          obtain ⟨rfl, h2⟩ := he
          exact s_iload_n X hd h2 hv (ih _ _ _ _ _ h)
        · cases he
      · cases h
theorem bd_lload (X : CX p R s m args c cc own nL d L base dC dI dA cv adV xs) (k1 : Nat) {C : Cd} {ini : Bool} {rt : Option FieldType} {raw : Instr} {len : Nat} {ax : Ax} {rcv : Kon} {r' : Option AV} {S' : Sp} {M' : Mm} {st : List AV} (hlk : lk C pc = some ((raw, len), .lload k1, ax)) (he : okEn own ini Ls nL rt (pc, (raw, len), .lload k1, ax) = true) (hd : decode cc pc = .ok (raw, len)) (ih : ∀ (pc : Nat) (ls st : List AV) (S1 : Sp) (M1 : Mm), rcv pc ls st S1 M1 = some (r', S', M') → WW p l e R s m args below meth c Q nL n0 m0 L base Ls dC dI dA cv xs pc ls st S1 M1) (h : FF (callD d) C rcv pc ls st S M = some (r', S', M')) : WW p l e R s m args below meth c Q nL n0 m0 L base Ls dC dI dA cv xs pc ls st S M := by
      unfold FF at h
      rw [hlk] at h
      dsimp only at h
      unfold okEn at he
      dsimp only at he
      split at h
      · next hv =>
        split at he
        · simp only [Bool.and_eq_true, Bool.or_eq_true, decide_eq_true_eq, beq_iff_eq, Bool.not_eq_true'] at he
          obtain ⟨rfl, rfl⟩ := he
          exact s_lload X hd hv (ih _ _ _ _ _ h)
        · simp only [Bool.and_eq_true, Bool.or_eq_true, decide_eq_true_eq, beq_iff_eq, Bool.not_eq_true'] at he
          obtain ⟨rfl, h2⟩ := he
          exact s_lload_n X hd h2 hv (ih _ _ _ _ _ h)
        · cases he
      · cases h
theorem bd_aload (X : CX p R s m args c cc own nL d L base dC dI dA cv adV xs) (k1 : Nat) {C : Cd} {ini : Bool} {rt : Option FieldType} {raw : Instr} {len : Nat} {ax : Ax} {rcv : Kon} {r' : Option AV} {S' : Sp} {M' : Mm} {st : List AV} (hlk : lk C pc = some ((raw, len), .aload k1, ax)) (he : okEn own ini Ls nL rt (pc, (raw, len), .aload k1, ax) = true) (hd : decode cc pc = .ok (raw, len)) (ih : ∀ (pc : Nat) (ls st : List AV) (S1 : Sp) (M1 : Mm), rcv pc ls st S1 M1 = some (r', S', M') → WW p l e R s m args below meth c Q nL n0 m0 L base Ls dC dI dA cv xs pc ls st S1 M1) (h : FF (callD d) C rcv pc ls st S M = some (r', S', M')) : WW p l e R s m args below meth c Q nL n0 m0 L base Ls dC dI dA cv xs pc ls st S M := by
      unfold FF at h
      rw [hlk] at h
      dsimp only at h
      unfold okEn at he
      dsimp only at he
      split at h
      · next hv =>
        split at he
        · simp only [Bool.and_eq_true, Bool.or_eq_true, decide_eq_true_eq, beq_iff_eq, Bool.not_eq_true'] at he
          obtain ⟨rfl, rfl⟩ := he
          exact s_aload X hd hv (ih _ _ _ _ _ h)
        · simp only [Bool.and_eq_true, Bool.or_eq_true, decide_eq_true_eq, beq_iff_eq, Bool.not_eq_true'] at he
          obtain ⟨rfl, h2⟩ := he
          exact s_aload_n X hd h2 hv (ih _ _ _ _ _ h)
        · cases he
      · cases h
theorem bd_istore (X : CX p R s m args c cc own nL d L base dC dI dA cv adV xs) (k1 : Nat) {C : Cd} {ini : Bool} {rt : Option FieldType} {raw : Instr} {len : Nat} {ax : Ax} {rcv : Kon} {r' : Option AV} {S' : Sp} {M' : Mm} {st : List AV} (hlk : lk C pc = some ((raw, len), .istore k1, ax)) (he : okEn own ini Ls nL rt (pc, (raw, len), .istore k1, ax) = true) (hd : decode cc pc = .ok (raw, len)) (ih : ∀ (pc : Nat) (ls st : List AV) (S1 : Sp) (M1 : Mm), rcv pc ls st S1 M1 = some (r', S', M') → WW p l e R s m args below meth c Q nL n0 m0 L base Ls dC dI dA cv xs pc ls st S1 M1) (h : FF (callD d) C rcv pc ls st S M = some (r', S', M')) : WW p l e R s m args below meth c Q nL n0 m0 L base Ls dC dI dA cv xs pc ls st S M := by
      unfold FF at h
      rw [hlk] at h
      dsimp only at h
      unfold okEn at he
      dsimp only at he
      split at h
      · simp only [Bool.and_eq_true, Bool.or_eq_true, decide_eq_true_eq, beq_iff_eq, Bool.not_eq_true'] at he
        obtain ⟨⟨g1, g2⟩, g3⟩ := he
        split at g3
        · simp only [Bool.and_eq_true, beq_iff_eq] at g3
          obtain ⟨rfl, rfl⟩ := g3
          exact s_istore X hd g1 g2 (ih _ _ _ _ _ h)
        · simp only [Bool.and_eq_true, beq_iff_eq] at g3
          obtain ⟨rfl, h2⟩ := g3
          exact s_istore_n X hd h2 g1 g2 (ih _ _ _ _ _ h)
        · cases g3
      · cases h
theorem bd_astore (X : CX p R s m args c cc own nL d L base dC dI dA cv adV xs) (k1 : Nat) {C : Cd} {ini : Bool} {rt : Option FieldType} {raw : Instr} {len : Nat} {ax : Ax} {rcv : Kon} {r' : Option AV} {S' : Sp} {M' : Mm} {st : List AV} (hlk : lk C pc = some ((raw, len), .astore k1, ax)) (he : okEn own ini Ls nL rt (pc, (raw, len), .astore k1, ax) = true) (hd : decode cc pc = .ok (raw, len)) (ih : ∀ (pc : Nat) (ls st : List AV) (S1 : Sp) (M1 : Mm), rcv pc ls st S1 M1 = some (r', S', M') → WW p l e R s m args below meth c Q nL n0 m0 L base Ls dC dI dA cv xs pc ls st S1 M1) (h : FF (callD d) C rcv pc ls st S M = some (r', S', M')) : WW p l e R s m args below meth c Q nL n0 m0 L base Ls dC dI dA cv xs pc ls st S M := by
      unfold FF at h
      rw [hlk] at h
      dsimp only at h
      unfold okEn at he
      dsimp only at he
      split at h
      · simp only [Bool.and_eq_true, Bool.or_eq_true, decide_eq_true_eq, beq_iff_eq, Bool.not_eq_true'] at he
        obtain ⟨⟨g1, g2⟩, g3⟩ := he
        split at g3
        · simp only [Bool.and_eq_true, beq_iff_eq] at g3
          obtain ⟨rfl, rfl⟩ := g3
          exact s_astore X hd g1 g2 (ih _ _ _ _ _ h)
        · simp only [Bool.and_eq_true, beq_iff_eq] at g3
          obtain ⟨rfl, h2⟩ := g3
          exact s_astore_n X hd h2 g1 g2 (ih _ _ _ _ _ h)
        · cases g3
      · cases h
theorem bd_lstore (X : CX p R s m args c cc own nL d L base dC dI dA cv adV xs) (k1 : Nat) {C : Cd} {ini : Bool} {rt : Option FieldType} {raw : Instr} {len : Nat} {ax : Ax} {rcv : Kon} {r' : Option AV} {S' : Sp} {M' : Mm} {st : List AV} (hlk : lk C pc = some ((raw, len), .lstore k1, ax)) (he : okEn own ini Ls nL rt (pc, (raw, len), .lstore k1, ax) = true) (hd : decode cc pc = .ok (raw, len)) (ih : ∀ (pc : Nat) (ls st : List AV) (S1 : Sp) (M1 : Mm), rcv pc ls st S1 M1 = some (r', S', M') → WW p l e R s m args below meth c Q nL n0 m0 L base Ls dC dI dA cv xs pc ls st S1 M1) (h : FF (callD d) C rcv pc ls st S M = some (r', S', M')) : WW p l e R s m args below meth c Q nL n0 m0 L base Ls dC dI dA cv xs pc ls st S M := by
      unfold FF at h
      rw [hlk] at h
      dsimp only at h
      unfold okEn at he
      dsimp only at he
      split at h
      · simp only [Bool.and_eq_true, Bool.or_eq_true, decide_eq_true_eq, beq_iff_eq, Bool.not_eq_true'] at he
        obtain ⟨⟨⟨g1, g0⟩, g2⟩, g3⟩ := he
        split at g3
        · simp only [Bool.and_eq_true, beq_iff_eq] at g3
          obtain ⟨rfl, rfl⟩ := g3
          exact s_lstore X hd g1 g0 g2 (ih _ _ _ _ _ h)
        · simp only [Bool.and_eq_true, beq_iff_eq] at g3
          obtain ⟨rfl, h2⟩ := g3
          exact s_lstore_n X hd h2 g1 g0 g2 (ih _ _ _ _ _ h)
        · cases g3
      · cases h
theorem bd_iinc (X : CX p R s m args c cc own nL d L base dC dI dA cv adV xs) (k1 : Nat) (n1 : Int) {C : Cd} {ini : Bool} {rt : Option FieldType} {raw : Instr} {len : Nat} {ax : Ax} {rcv : Kon} {r' : Option AV} {S' : Sp} {M' : Mm} {st : List AV} (hlk : lk C pc = some ((raw, len), .iinc k1 n1, ax)) (he : okEn own ini Ls nL rt (pc, (raw, len), .iinc k1 n1, ax) = true) (hd : decode cc pc = .ok (raw, len)) (ih : ∀ (pc : Nat) (ls st : List AV) (S1 : Sp) (M1 : Mm), rcv pc ls st S1 M1 = some (r', S', M') → WW p l e R s m args below meth c Q nL n0 m0 L base Ls dC dI dA cv xs pc ls st S1 M1) (h : FF (callD d) C rcv pc ls st S M = some (r', S', M')) : WW p l e R s m args below meth c Q nL n0 m0 L base Ls dC dI dA cv xs pc ls st S M := by
      unfold FF at h
      rw [hlk] at h
      dsimp only at h
      unfold okEn at he
      dsimp only at he
      split at h
      · next hv =>
        simp only [Bool.and_eq_true, Bool.or_eq_true, decide_eq_true_eq, beq_iff_eq, Bool.not_eq_true'] at he
        obtain ⟨⟨g1, rfl⟩, rfl⟩ := he
        exact s_iinc X hd g1 hv (ih _ _ _ _ _ h)
      · cases h
theorem bd_iadd (X : CX p R s m args c cc own nL d L base dC dI dA cv adV xs)  {C : Cd} {ini : Bool} {rt : Option FieldType} {raw : Instr} {len : Nat} {ax : Ax} {rcv : Kon} {r' : Option AV} {S' : Sp} {M' : Mm} {st : List AV} (hlk : lk C pc = some ((raw, len), .iadd, ax)) (he : okEn own ini Ls nL rt (pc, (raw, len), .iadd, ax) = true) (hd : decode cc pc = .ok (raw, len)) (ih : ∀ (pc : Nat) (ls st : List AV) (S1 : Sp) (M1 : Mm), rcv pc ls st S1 M1 = some (r', S', M') → WW p l e R s m args below meth c Q nL n0 m0 L base Ls dC dI dA cv xs pc ls st S1 M1) (h : FF (callD d) C rcv pc ls st S M = some (r', S', M')) : WW p l e R s m args below meth c Q nL n0 m0 L base Ls dC dI dA cv xs pc ls st S M := by
      unfold FF at h
      rw [hlk] at h
      dsimp only at h
      unfold okEn at he
      dsimp only at he
      split at h
      · simp only [Bool.and_eq_true, Bool.or_eq_true, decide_eq_true_eq, beq_iff_eq, Bool.not_eq_true'] at he
        obtain ⟨rfl, rfl⟩ := he
        exact s_iadd X hd (ih _ _ _ _ _ h)
      · cases h
theorem bd_isub (X : CX p R s m args c cc own nL d L base dC dI dA cv adV xs)  {C : Cd} {ini : Bool} {rt : Option FieldType} {raw : Instr} {len : Nat} {ax : Ax} {rcv : Kon} {r' : Option AV} {S' : Sp} {M' : Mm} {st : List AV} (hlk : lk C pc = some ((raw, len), .isub, ax)) (he : okEn own ini Ls nL rt (pc, (raw, len), .isub, ax) = true) (hd : decode cc pc = .ok (raw, len)) (ih : ∀ (pc : Nat) (ls st : List AV) (S1 : Sp) (M1 : Mm), rcv pc ls st S1 M1 = some (r', S', M') → WW p l e R s m args below meth c Q nL n0 m0 L base Ls dC dI dA cv xs pc ls st S1 M1) (h : FF (callD d) C rcv pc ls st S M = some (r', S', M')) : WW p l e R s m args below meth c Q nL n0 m0 L base Ls dC dI dA cv xs pc ls st S M := by
      unfold FF at h
      rw [hlk] at h
      dsimp only at h
      unfold okEn at he
      dsimp only at he
      split at h
      · simp only [Bool.and_eq_true, Bool.or_eq_true, decide_eq_true_eq, beq_iff_eq, Bool.not_eq_true'] at he
        obtain ⟨rfl, rfl⟩ := he
        exact s_isub X hd (ih _ _ _ _ _ h)
      · cases h
theorem bd_imul (X : CX p R s m args c cc own nL d L base dC dI dA cv adV xs)  {C : Cd} {ini : Bool} {rt : Option FieldType} {raw : Instr} {len : Nat} {ax : Ax} {rcv : Kon} {r' : Option AV} {S' : Sp} {M' : Mm} {st : List AV} (hlk : lk C pc = some ((raw, len), .imul, ax)) (he : okEn own ini Ls nL rt (pc, (raw, len), .imul, ax) = true) (hd : decode cc pc = .ok (raw, len)) (ih : ∀ (pc : Nat) (ls st : List AV) (S1 : Sp) (M1 : Mm), rcv pc ls st S1 M1 = some (r', S', M') → WW p l e R s m args below meth c Q nL n0 m0 L base Ls dC dI dA cv xs pc ls st S1 M1) (h : FF (callD d) C rcv pc ls st S M = some (r', S', M')) : WW p l e R s m args below meth c Q nL n0 m0 L base Ls dC dI dA cv xs pc ls st S M := by
      unfold FF at h
      rw [hlk] at h
      dsimp only at h
      unfold okEn at he
      dsimp only at he
      split at h
      · simp only [Bool.and_eq_true, Bool.or_eq_true, decide_eq_true_eq, beq_iff_eq, Bool.not_eq_true'] at he
        obtain ⟨rfl, rfl⟩ := he
        exact s_imul X hd (ih _ _ _ _ _ h)
      · cases h
theorem bd_ineg (X : CX p R s m args c cc own nL d L base dC dI dA cv adV xs)  {C : Cd} {ini : Bool} {rt : Option FieldType} {raw : Instr} {len : Nat} {ax : Ax} {rcv : Kon} {r' : Option AV} {S' : Sp} {M' : Mm} {st : List AV} (hlk : lk C pc = some ((raw, len), .ineg, ax)) (he : okEn own ini Ls nL rt (pc, (raw, len), .ineg, ax) = true) (hd : decode cc pc = .ok (raw, len)) (ih : ∀ (pc : Nat) (ls st : List AV) (S1 : Sp) (M1 : Mm), rcv pc ls st S1 M1 = some (r', S', M') → WW p l e R s m args below meth c Q nL n0 m0 L base Ls dC dI dA cv xs pc ls st S1 M1) (h : FF (callD d) C rcv pc ls st S M = some (r', S', M')) : WW p l e R s m args below meth c Q nL n0 m0 L base Ls dC dI dA cv xs pc ls st S M := by
      unfold FF at h
      rw [hlk] at h
      dsimp only at h
      unfold okEn at he
      dsimp only at he
      split at h
      · simp only [Bool.and_eq_true, Bool.or_eq_true, decide_eq_true_eq, beq_iff_eq, Bool.not_eq_true'] at he
        obtain ⟨rfl, rfl⟩ := he
        exact s_ineg X hd (ih _ _ _ _ _ h)
      · cases h
theorem bd_iand (X : CX p R s m args c cc own nL d L base dC dI dA cv adV xs)  {C : Cd} {ini : Bool} {rt : Option FieldType} {raw : Instr} {len : Nat} {ax : Ax} {rcv : Kon} {r' : Option AV} {S' : Sp} {M' : Mm} {st : List AV} (hlk : lk C pc = some ((raw, len), .iand, ax)) (he : okEn own ini Ls nL rt (pc, (raw, len), .iand, ax) = true) (hd : decode cc pc = .ok (raw, len)) (ih : ∀ (pc : Nat) (ls st : List AV) (S1 : Sp) (M1 : Mm), rcv pc ls st S1 M1 = some (r', S', M') → WW p l e R s m args below meth c Q nL n0 m0 L base Ls dC dI dA cv xs pc ls st S1 M1) (h : FF (callD d) C rcv pc ls st S M = some (r', S', M')) : WW p l e R s m args below meth c Q nL n0 m0 L base Ls dC dI dA cv xs pc ls st S M := by
      unfold FF at h
      rw [hlk] at h
      dsimp only at h
      unfold okEn at he
      dsimp only at he
      split at h
      · simp only [Bool.and_eq_true, Bool.or_eq_true, decide_eq_true_eq, beq_iff_eq, Bool.not_eq_true'] at he
        obtain ⟨rfl, rfl⟩ := he
        exact s_iand X hd (ih _ _ _ _ _ h)
      · cases h
theorem bd_ior (X : CX p R s m args c cc own nL d L base dC dI dA cv adV xs)  {C : Cd} {ini : Bool} {rt : Option FieldType} {raw : Instr} {len : Nat} {ax : Ax} {rcv : Kon} {r' : Option AV} {S' : Sp} {M' : Mm} {st : List AV} (hlk : lk C pc = some ((raw, len), .ior, ax)) (he : okEn own ini Ls nL rt (pc, (raw, len), .ior, ax) = true) (hd : decode cc pc = .ok (raw, len)) (ih : ∀ (pc : Nat) (ls st : List AV) (S1 : Sp) (M1 : Mm), rcv pc ls st S1 M1 = some (r', S', M') → WW p l e R s m args below meth c Q nL n0 m0 L base Ls dC dI dA cv xs pc ls st S1 M1) (h : FF (callD d) C rcv pc ls st S M = some (r', S', M')) : WW p l e R s m args below meth c Q nL n0 m0 L base Ls dC dI dA cv xs pc ls st S M := by
      unfold FF at h
      rw [hlk] at h
      dsimp only at h
      unfold okEn at he
      dsimp only at he
      split at h
      · simp only [Bool.and_eq_true, Bool.or_eq_true, decide_eq_true_eq, beq_iff_eq, Bool.not_eq_true'] at he
        obtain ⟨rfl, rfl⟩ := he
        exact s_ior X hd (ih _ _ _ _ _ h)
      · cases h
theorem bd_ixor (X : CX p R s m args c cc own nL d L base dC dI dA cv adV xs)  {C : Cd} {ini : Bool} {rt : Option FieldType} {raw : Instr} {len : Nat} {ax : Ax} {rcv : Kon} {r' : Option AV} {S' : Sp} {M' : Mm} {st : List AV} (hlk : lk C pc = some ((raw, len), .ixor, ax)) (he : okEn own ini Ls nL rt (pc, (raw, len), .ixor, ax) = true) (hd : decode cc pc = .ok (raw, len)) (ih : ∀ (pc : Nat) (ls st : List AV) (S1 : Sp) (M1 : Mm), rcv pc ls st S1 M1 = some (r', S', M') → WW p l e R s m args below meth c Q nL n0 m0 L base Ls dC dI dA cv xs pc ls st S1 M1) (h : FF (callD d) C rcv pc ls st S M = some (r', S', M')) : WW p l e R s m args below meth c Q nL n0 m0 L base Ls dC dI dA cv xs pc ls st S M := by
      unfold FF at h
      rw [hlk] at h
      dsimp only at h
      unfold okEn at he
      dsimp only at he
      split at h
      · simp only [Bool.and_eq_true, Bool.or_eq_true, decide_eq_true_eq, beq_iff_eq, Bool.not_eq_true'] at he
        obtain ⟨rfl, rfl⟩ := he
        exact s_ixor X hd (ih _ _ _ _ _ h)
      · cases h
theorem bd_ishl (X : CX p R s m args c cc own nL d L base dC dI dA cv adV xs)  {C : Cd} {ini : Bool} {rt : Option FieldType} {raw : Instr} {len : Nat} {ax : Ax} {rcv : Kon} {r' : Option AV} {S' : Sp} {M' : Mm} {st : List AV} (hlk : lk C pc = some ((raw, len), .ishl, ax)) (he : okEn own ini Ls nL rt (pc, (raw, len), .ishl, ax) = true) (hd : decode cc pc = .ok (raw, len)) (ih : ∀ (pc : Nat) (ls st : List AV) (S1 : Sp) (M1 : Mm), rcv pc ls st S1 M1 = some (r', S', M') → WW p l e R s m args below meth c Q nL n0 m0 L base Ls dC dI dA cv xs pc ls st S1 M1) (h : FF (callD d) C rcv pc ls st S M = some (r', S', M')) : WW p l e R s m args below meth c Q nL n0 m0 L base Ls dC dI dA cv xs pc ls st S M := by
      unfold FF at h
      rw [hlk] at h
      dsimp only at h
      unfold okEn at he
      dsimp only at he
      split at h
      · simp only [Bool.and_eq_true, Bool.or_eq_true, decide_eq_true_eq, beq_iff_eq, Bool.not_eq_true'] at he
        obtain ⟨rfl, rfl⟩ := he
        exact s_ishl X hd (ih _ _ _ _ _ h)
      · cases h
theorem bd_ishr (X : CX p R s m args c cc own nL d L base dC dI dA cv adV xs)  {C : Cd} {ini : Bool} {rt : Option FieldType} {raw : Instr} {len : Nat} {ax : Ax} {rcv : Kon} {r' : Option AV} {S' : Sp} {M' : Mm} {st : List AV} (hlk : lk C pc = some ((raw, len), .ishr, ax)) (he : okEn own ini Ls nL rt (pc, (raw, len), .ishr, ax) = true) (hd : decode cc pc = .ok (raw, len)) (ih : ∀ (pc : Nat) (ls st : List AV) (S1 : Sp) (M1 : Mm), rcv pc ls st S1 M1 = some (r', S', M') → WW p l e R s m args below meth c Q nL n0 m0 L base Ls dC dI dA cv xs pc ls st S1 M1) (h : FF (callD d) C rcv pc ls st S M = some (r', S', M')) : WW p l e R s m args below meth c Q nL n0 m0 L base Ls dC dI dA cv xs pc ls st S M := by
      unfold FF at h
      rw [hlk] at h
      dsimp only at h
      unfold okEn at he
      dsimp only at he
      split at h
      · simp only [Bool.and_eq_true, Bool.or_eq_true, decide_eq_true_eq, beq_iff_eq, Bool.not_eq_true'] at he
        obtain ⟨rfl, rfl⟩ := he
        exact s_ishr X hd (ih _ _ _ _ _ h)
      · cases h
theorem bd_iushr (X : CX p R s m args c cc own nL d L base dC dI dA cv adV xs)  {C : Cd} {ini : Bool} {rt : Option FieldType} {raw : Instr} {len : Nat} {ax : Ax} {rcv : Kon} {r' : Option AV} {S' : Sp} {M' : Mm} {st : List AV} (hlk : lk C pc = some ((raw, len), .iushr, ax)) (he : okEn own ini Ls nL rt (pc, (raw, len), .iushr, ax) = true) (hd : decode cc pc = .ok (raw, len)) (ih : ∀ (pc : Nat) (ls st : List AV) (S1 : Sp) (M1 : Mm), rcv pc ls st S1 M1 = some (r', S', M') → WW p l e R s m args below meth c Q nL n0 m0 L base Ls dC dI dA cv xs pc ls st S1 M1) (h : FF (callD d) C rcv pc ls st S M = some (r', S', M')) : WW p l e R s m args below meth c Q nL n0 m0 L base Ls dC dI dA cv xs pc ls st S M := by
      unfold FF at h
      rw [hlk] at h
      dsimp only at h
      unfold okEn at he
      dsimp only at he
      split at h
      · simp only [Bool.and_eq_true, Bool.or_eq_true, decide_eq_true_eq, beq_iff_eq, Bool.not_eq_true'] at he
        obtain ⟨rfl, rfl⟩ := he
        exact s_iushr X hd (ih _ _ _ _ _ h)
      · cases h
theorem bd_ladd (X : CX p R s m args c cc own nL d L base dC dI dA cv adV xs)  {C : Cd} {ini : Bool} {rt : Option FieldType} {raw : Instr} {len : Nat} {ax : Ax} {rcv : Kon} {r' : Option AV} {S' : Sp} {M' : Mm} {st : List AV} (hlk : lk C pc = some ((raw, len), .ladd, ax)) (he : okEn own ini Ls nL rt (pc, (raw, len), .ladd, ax) = true) (hd : decode cc pc = .ok (raw, len)) (ih : ∀ (pc : Nat) (ls st : List AV) (S1 : Sp) (M1 : Mm), rcv pc ls st S1 M1 = some (r', S', M') → WW p l e R s m args below meth c Q nL n0 m0 L base Ls dC dI dA cv xs pc ls st S1 M1) (h : FF (callD d) C rcv pc ls st S M = some (r', S', M')) : WW p l e R s m args below meth c Q nL n0 m0 L base Ls dC dI dA cv xs pc ls st S M := by
      unfold FF at h
      rw [hlk] at h
      dsimp only at h
      unfold okEn at he
      dsimp only at he
      split at h
      · simp only [Bool.and_eq_true, Bool.or_eq_true, decide_eq_true_eq, beq_iff_eq, Bool.not_eq_true'] at he
        obtain ⟨rfl, rfl⟩ := he
        exact s_ladd X hd (ih _ _ _ _ _ h)
      · cases h
theorem bd_lsub (X : CX p R s m args c cc own nL d L base dC dI dA cv adV xs)  {C : Cd} {ini : Bool} {rt : Option FieldType} {raw : Instr} {len : Nat} {ax : Ax} {rcv : Kon} {r' : Option AV} {S' : Sp} {M' : Mm} {st : List AV} (hlk : lk C pc = some ((raw, len), .lsub, ax)) (he : okEn own ini Ls nL rt (pc, (raw, len), .lsub, ax) = true) (hd : decode cc pc = .ok (raw, len)) (ih : ∀ (pc : Nat) (ls st : List AV) (S1 : Sp) (M1 : Mm), rcv pc ls st S1 M1 = some (r', S', M') → WW p l e R s m args below meth c Q nL n0 m0 L base Ls dC dI dA cv xs pc ls st S1 M1) (h : FF (callD d) C rcv pc ls st S M = some (r', S', M')) : WW p l e R s m args below meth c Q nL n0 m0 L base Ls dC dI dA cv xs pc ls st S M := by
      unfold FF at h
      rw [hlk] at h
      dsimp only at h
      unfold okEn at he
      dsimp only at he
      split at h
      · simp only [Bool.and_eq_true, Bool.or_eq_true, decide_eq_true_eq, beq_iff_eq, Bool.not_eq_true'] at he
        obtain ⟨rfl, rfl⟩ := he
        exact s_lsub X hd (ih _ _ _ _ _ h)
      · cases h
theorem bd_lmul (X : CX p R s m args c cc own nL d L base dC dI dA cv adV xs)  {C : Cd} {ini : Bool} {rt : Option FieldType} {raw : Instr} {len : Nat} {ax : Ax} {rcv : Kon} {r' : Option AV} {S' : Sp} {M' : Mm} {st : List AV} (hlk : lk C pc = some ((raw, len), .lmul, ax)) (he : okEn own ini Ls nL rt (pc, (raw, len), .lmul, ax) = true) (hd : decode cc pc = .ok (raw, len)) (ih : ∀ (pc : Nat) (ls st : List AV) (S1 : Sp) (M1 : Mm), rcv pc ls st S1 M1 = some (r', S', M') → WW p l e R s m args below meth c Q nL n0 m0 L base Ls dC dI dA cv xs pc ls st S1 M1) (h : FF (callD d) C rcv pc ls st S M = some (r', S', M')) : WW p l e R s m args below meth c Q nL n0 m0 L base Ls dC dI dA cv xs pc ls st S M := by
      unfold FF at h
      rw [hlk] at h
      dsimp only at h
      unfold okEn at he
      dsimp only at he
      split at h
      · simp only [Bool.and_eq_true, Bool.or_eq_true, decide_eq_true_eq, beq_iff_eq, Bool.not_eq_true'] at he
        obtain ⟨rfl, rfl⟩ := he
        exact s_lmul X hd (ih _ _ _ _ _ h)
      · cases h
theorem bd_land (X : CX p R s m args c cc own nL d L base dC dI dA cv adV xs)  {C : Cd} {ini : Bool} {rt : Option FieldType} {raw : Instr} {len : Nat} {ax : Ax} {rcv : Kon} {r' : Option AV} {S' : Sp} {M' : Mm} {st : List AV} (hlk : lk C pc = some ((raw, len), .land, ax)) (he : okEn own ini Ls nL rt (pc, (raw, len), .land, ax) = true) (hd : decode cc pc = .ok (raw, len)) (ih : ∀ (pc : Nat) (ls st : List AV) (S1 : Sp) (M1 : Mm), rcv pc ls st S1 M1 = some (r', S', M') → WW p l e R s m args below meth c Q nL n0 m0 L base Ls dC dI dA cv xs pc ls st S1 M1) (h : FF (callD d) C rcv pc ls st S M = some (r', S', M')) : WW p l e R s m args below meth c Q nL n0 m0 L base Ls dC dI dA cv xs pc ls st S M := by
      unfold FF at h
      rw [hlk] at h
      dsimp only at h
      unfold okEn at he
      dsimp only at he
      split at h
      · simp only [Bool.and_eq_true, Bool.or_eq_true, decide_eq_true_eq, beq_iff_eq, Bool.not_eq_true'] at he
        obtain ⟨rfl, rfl⟩ := he
        exact s_land X hd (ih _ _ _ _ _ h)
      · cases h
theorem bd_lor (X : CX p R s m args c cc own nL d L base dC dI dA cv adV xs)  {C : Cd} {ini : Bool} {rt : Option FieldType} {raw : Instr} {len : Nat} {ax : Ax} {rcv : Kon} {r' : Option AV} {S' : Sp} {M' : Mm} {st : List AV} (hlk : lk C pc = some ((raw, len), .lor, ax)) (he : okEn own ini Ls nL rt (pc, (raw, len), .lor, ax) = true) (hd : decode cc pc = .ok (raw, len)) (ih : ∀ (pc : Nat) (ls st : List AV) (S1 : Sp) (M1 : Mm), rcv pc ls st S1 M1 = some (r', S', M') → WW p l e R s m args below meth c Q nL n0 m0 L base Ls dC dI dA cv xs pc ls st S1 M1) (h : FF (callD d) C rcv pc ls st S M = some (r', S', M')) : WW p l e R s m args below meth c Q nL n0 m0 L base Ls dC dI dA cv xs pc ls st S M := by
      unfold FF at h
      rw [hlk] at h
      dsimp only at h
      unfold okEn at he
      dsimp only at he
      split at h
      · simp only [Bool.and_eq_true, Bool.or_eq_true, decide_eq_true_eq, beq_iff_eq, Bool.not_eq_true'] at he
        obtain ⟨rfl, rfl⟩ := he
        exact s_lor X hd (ih _ _ _ _ _ h)
      · cases h
theorem bd_lshl (X : CX p R s m args c cc own nL d L base dC dI dA cv adV xs)  {C : Cd} {ini : Bool} {rt : Option FieldType} {raw : Instr} {len : Nat} {ax : Ax} {rcv : Kon} {r' : Option AV} {S' : Sp} {M' : Mm} {st : List AV} (hlk : lk C pc = some ((raw, len), .lshl, ax)) (he : okEn own ini Ls nL rt (pc, (raw, len), .lshl, ax) = true) (hd : decode cc pc = .ok (raw, len)) (ih : ∀ (pc : Nat) (ls st : List AV) (S1 : Sp) (M1 : Mm), rcv pc ls st S1 M1 = some (r', S', M') → WW p l e R s m args below meth c Q nL n0 m0 L base Ls dC dI dA cv xs pc ls st S1 M1) (h : FF (callD d) C rcv pc ls st S M = some (r', S', M')) : WW p l e R s m args below meth c Q nL n0 m0 L base Ls dC dI dA cv xs pc ls st S M := by
      unfold FF at h
      rw [hlk] at h
      dsimp only at h
      unfold okEn at he
      dsimp only at he
      split at h
      · simp only [Bool.and_eq_true, Bool.or_eq_true, decide_eq_true_eq, beq_iff_eq, Bool.not_eq_true'] at he
        obtain ⟨rfl, rfl⟩ := he
        exact s_lshl X hd (ih _ _ _ _ _ h)
      · cases h
theorem bd_lcmp (X : CX p R s m args c cc own nL d L base dC dI dA cv adV xs)  {C : Cd} {ini : Bool} {rt : Option FieldType} {raw : Instr} {len : Nat} {ax : Ax} {rcv : Kon} {r' : Option AV} {S' : Sp} {M' : Mm} {st : List AV} (hlk : lk C pc = some ((raw, len), .lcmp, ax)) (he : okEn own ini Ls nL rt (pc, (raw, len), .lcmp, ax) = true) (hd : decode cc pc = .ok (raw, len)) (ih : ∀ (pc : Nat) (ls st : List AV) (S1 : Sp) (M1 : Mm), rcv pc ls st S1 M1 = some (r', S', M') → WW p l e R s m args below meth c Q nL n0 m0 L base Ls dC dI dA cv xs pc ls st S1 M1) (h : FF (callD d) C rcv pc ls st S M = some (r', S', M')) : WW p l e R s m args below meth c Q nL n0 m0 L base Ls dC dI dA cv xs pc ls st S M := by
      unfold FF at h
      rw [hlk] at h
      dsimp only at h
      unfold okEn at he
      dsimp only at he
      split at h
      · simp only [Bool.and_eq_true, Bool.or_eq_true, decide_eq_true_eq, beq_iff_eq, Bool.not_eq_true'] at he
        obtain ⟨rfl, rfl⟩ := he
        exact s_lcmp X hd (ih _ _ _ _ _ h)
      · cases h
theorem bd_i2l (X : CX p R s m args c cc own nL d L base dC dI dA cv adV xs)  {C : Cd} {ini : Bool} {rt : Option FieldType} {raw : Instr} {len : Nat} {ax : Ax} {rcv : Kon} {r' : Option AV} {S' : Sp} {M' : Mm} {st : List AV} (hlk : lk C pc = some ((raw, len), .i2l, ax)) (he : okEn own ini Ls nL rt (pc, (raw, len), .i2l, ax) = true) (hd : decode cc pc = .ok (raw, len)) (ih : ∀ (pc : Nat) (ls st : List AV) (S1 : Sp) (M1 : Mm), rcv pc ls st S1 M1 = some (r', S', M') → WW p l e R s m args below meth c Q nL n0 m0 L base Ls dC dI dA cv xs pc ls st S1 M1) (h : FF (callD d) C rcv pc ls st S M = some (r', S', M')) : WW p l e R s m args below meth c Q nL n0 m0 L base Ls dC dI dA cv xs pc ls st S M := by
      unfold FF at h
      rw [hlk] at h
      dsimp only at h
      unfold okEn at he
      dsimp only at he
      split at h
      · simp only [Bool.and_eq_true, Bool.or_eq_true, decide_eq_true_eq, beq_iff_eq, Bool.not_eq_true'] at he
        obtain ⟨rfl, rfl⟩ := he
        exact s_i2l X hd (ih _ _ _ _ _ h)
      · cases h
theorem bd_l2i (X : CX p R s m args c cc own nL d L base dC dI dA cv adV xs)  {C : Cd} {ini : Bool} {rt : Option FieldType} {raw : Instr} {len : Nat} {ax : Ax} {rcv : Kon} {r' : Option AV} {S' : Sp} {M' : Mm} {st : List AV} (hlk : lk C pc = some ((raw, len), .l2i, ax)) (he : okEn own ini Ls nL rt (pc, (raw, len), .l2i, ax) = true) (hd : decode cc pc = .ok (raw, len)) (ih : ∀ (pc : Nat) (ls st : List AV) (S1 : Sp) (M1 : Mm), rcv pc ls st S1 M1 = some (r', S', M') → WW p l e R s m args below meth c Q nL n0 m0 L base Ls dC dI dA cv xs pc ls st S1 M1) (h : FF (callD d) C rcv pc ls st S M = some (r', S', M')) : WW p l e R s m args below meth c Q nL n0 m0 L base Ls dC dI dA cv xs pc ls st S M := by
      unfold FF at h
      rw [hlk] at h
      dsimp only at h
      unfold okEn at he
      dsimp only at he
      split at h
      · simp only [Bool.and_eq_true, Bool.or_eq_true, decide_eq_true_eq, beq_iff_eq, Bool.not_eq_true'] at he
        obtain ⟨rfl, rfl⟩ := he
        exact s_l2i X hd (ih _ _ _ _ _ h)
      · cases h
theorem bd_i2b (X : CX p R s m args c cc own nL d L base dC dI dA cv adV xs)  {C : Cd} {ini : Bool} {rt : Option FieldType} {raw : Instr} {len : Nat} {ax : Ax} {rcv : Kon} {r' : Option AV} {S' : Sp} {M' : Mm} {st : List AV} (hlk : lk C pc = some ((raw, len), .i2b, ax)) (he : okEn own ini Ls nL rt (pc, (raw, len), .i2b, ax) = true) (hd : decode cc pc = .ok (raw, len)) (ih : ∀ (pc : Nat) (ls st : List AV) (S1 : Sp) (M1 : Mm), rcv pc ls st S1 M1 = some (r', S', M') → WW p l e R s m args below meth c Q nL n0 m0 L base Ls dC dI dA cv xs pc ls st S1 M1) (h : FF (callD d) C rcv pc ls st S M = some (r', S', M')) : WW p l e R s m args below meth c Q nL n0 m0 L base Ls dC dI dA cv xs pc ls st S M := by
      unfold FF at h
      rw [hlk] at h
      dsimp only at h
      unfold okEn at he
      dsimp only at he
      split at h
      · simp only [Bool.and_eq_true, Bool.or_eq_true, decide_eq_true_eq, beq_iff_eq, Bool.not_eq_true'] at he
        obtain ⟨rfl, rfl⟩ := he
        exact s_i2b X hd (ih _ _ _ _ _ h)
      · cases h
theorem bd_i2s (X : CX p R s m args c cc own nL d L base dC dI dA cv adV xs)  {C : Cd} {ini : Bool} {rt : Option FieldType} {raw : Instr} {len : Nat} {ax : Ax} {rcv : Kon} {r' : Option AV} {S' : Sp} {M' : Mm} {st : List AV} (hlk : lk C pc = some ((raw, len), .i2s, ax)) (he : okEn own ini Ls nL rt (pc, (raw, len), .i2s, ax) = true) (hd : decode cc pc = .ok (raw, len)) (ih : ∀ (pc : Nat) (ls st : List AV) (S1 : Sp) (M1 : Mm), rcv pc ls st S1 M1 = some (r', S', M') → WW p l e R s m args below meth c Q nL n0 m0 L base Ls dC dI dA cv xs pc ls st S1 M1) (h : FF (callD d) C rcv pc ls st S M = some (r', S', M')) : WW p l e R s m args below meth c Q nL n0 m0 L base Ls dC dI dA cv xs pc ls st S M := by
      unfold FF at h
      rw [hlk] at h
      dsimp only at h
      unfold okEn at he
      dsimp only at he
      split at h
      · simp only [Bool.and_eq_true, Bool.or_eq_true, decide_eq_true_eq, beq_iff_eq, Bool.not_eq_true'] at he
        obtain ⟨rfl, rfl⟩ := he
        exact s_i2s X hd (ih _ _ _ _ _ h)
      · cases h
theorem bd_dup2_x1 (X : CX p R s m args c cc own nL d L base dC dI dA cv adV xs)  {C : Cd} {ini : Bool} {rt : Option FieldType} {raw : Instr} {len : Nat} {ax : Ax} {rcv : Kon} {r' : Option AV} {S' : Sp} {M' : Mm} {st : List AV} (hlk : lk C pc = some ((raw, len), .dup2_x1, ax)) (he : okEn own ini Ls nL rt (pc, (raw, len), .dup2_x1, ax) = true) (hd : decode cc pc = .ok (raw, len)) (ih : ∀ (pc : Nat) (ls st : List AV) (S1 : Sp) (M1 : Mm), rcv pc ls st S1 M1 = some (r', S', M') → WW p l e R s m args below meth c Q nL n0 m0 L base Ls dC dI dA cv xs pc ls st S1 M1) (h : FF (callD d) C rcv pc ls st S M = some (r', S', M')) : WW p l e R s m args below meth c Q nL n0 m0 L base Ls dC dI dA cv xs pc ls st S M := by
      unfold FF at h
      rw [hlk] at h
      dsimp only at h
      unfold okEn at he
      dsimp only at he
      split at h
      · simp only [Bool.and_eq_true, Bool.or_eq_true, decide_eq_true_eq, beq_iff_eq, Bool.not_eq_true'] at he
        obtain ⟨rfl, rfl⟩ := he
        exact s_dup2l X hd (ih _ _ _ _ _ h)
      · cases h
theorem bd_idiv (X : CX p R s m args c cc own nL d L base dC dI dA cv adV xs)  {C : Cd} {ini : Bool} {rt : Option FieldType} {raw : Instr} {len : Nat} {ax : Ax} {rcv : Kon} {r' : Option AV} {S' : Sp} {M' : Mm} {st : List AV} (hlk : lk C pc = some ((raw, len), .idiv, ax)) (he : okEn own ini Ls nL rt (pc, (raw, len), .idiv, ax) = true) (hd : decode cc pc = .ok (raw, len)) (ih : ∀ (pc : Nat) (ls st : List AV) (S1 : Sp) (M1 : Mm), rcv pc ls st S1 M1 = some (r', S', M') → WW p l e R s m args below meth c Q nL n0 m0 L base Ls dC dI dA cv xs pc ls st S1 M1) (h : FF (callD d) C rcv pc ls st S M = some (r', S', M')) : WW p l e R s m args below meth c Q nL n0 m0 L base Ls dC dI dA cv xs pc ls st S M := by
      unfold FF at h
      rw [hlk] at h
      dsimp only at h
      unfold okEn at he
      dsimp only at he
      split at h
      · simp only [Bool.and_eq_true, Bool.or_eq_true, decide_eq_true_eq, beq_iff_eq, Bool.not_eq_true'] at he
        obtain ⟨rfl, rfl⟩ := he
        split at h
        · cases h
        · next hy => exact s_idiv X hd hy (ih _ _ _ _ _ h)
      · cases h
theorem bd_irem (X : CX p R s m args c cc own nL d L base dC dI dA cv adV xs)  {C : Cd} {ini : Bool} {rt : Option FieldType} {raw : Instr} {len : Nat} {ax : Ax} {rcv : Kon} {r' : Option AV} {S' : Sp} {M' : Mm} {st : List AV} (hlk : lk C pc = some ((raw, len), .irem, ax)) (he : okEn own ini Ls nL rt (pc, (raw, len), .irem, ax) = true) (hd : decode cc pc = .ok (raw, len)) (ih : ∀ (pc : Nat) (ls st : List AV) (S1 : Sp) (M1 : Mm), rcv pc ls st S1 M1 = some (r', S', M') → WW p l e R s m args below meth c Q nL n0 m0 L base Ls dC dI dA cv xs pc ls st S1 M1) (h : FF (callD d) C rcv pc ls st S M = some (r', S', M')) : WW p l e R s m args below meth c Q nL n0 m0 L base Ls dC dI dA cv xs pc ls st S M := by
      unfold FF at h
      rw [hlk] at h
      dsimp only at h
      unfold okEn at he
      dsimp only at he
      split at h
      · simp only [Bool.and_eq_true, Bool.or_eq_true, decide_eq_true_eq, beq_iff_eq, Bool.not_eq_true'] at he
        obtain ⟨rfl, rfl⟩ := he
        split at h
        · cases h
        · next hy => exact s_irem X hd hy (ih _ _ _ _ _ h)
      · cases h
theorem bd_ldiv (X : CX p R s m args c cc own nL d L base dC dI dA cv adV xs)  {C : Cd} {ini : Bool} {rt : Option FieldType} {raw : Instr} {len : Nat} {ax : Ax} {rcv : Kon} {r' : Option AV} {S' : Sp} {M' : Mm} {st : List AV} (hlk : lk C pc = some ((raw, len), .ldiv, ax)) (he : okEn own ini Ls nL rt (pc, (raw, len), .ldiv, ax) = true) (hd : decode cc pc = .ok (raw, len)) (ih : ∀ (pc : Nat) (ls st : List AV) (S1 : Sp) (M1 : Mm), rcv pc ls st S1 M1 = some (r', S', M') → WW p l e R s m args below meth c Q nL n0 m0 L base Ls dC dI dA cv xs pc ls st S1 M1) (h : FF (callD d) C rcv pc ls st S M = some (r', S', M')) : WW p l e R s m args below meth c Q nL n0 m0 L base Ls dC dI dA cv xs pc ls st S M := by
      unfold FF at h
      rw [hlk] at h
      dsimp only at h
      unfold okEn at he
      dsimp only at he
      split at h
      · simp only [Bool.and_eq_true, Bool.or_eq_true, decide_eq_true_eq, beq_iff_eq, Bool.not_eq_true'] at he
        obtain ⟨rfl, rfl⟩ := he
        split at h
        · cases h
        · next hy => exact s_ldiv X hd hy (ih _ _ _ _ _ h)
      · cases h
theorem bd_lrem (X : CX p R s m args c cc own nL d L base dC dI dA cv adV xs)  {C : Cd} {ini : Bool} {rt : Option FieldType} {raw : Instr} {len : Nat} {ax : Ax} {rcv : Kon} {r' : Option AV} {S' : Sp} {M' : Mm} {st : List AV} (hlk : lk C pc = some ((raw, len), .lrem, ax)) (he : okEn own ini Ls nL rt (pc, (raw, len), .lrem, ax) = true) (hd : decode cc pc = .ok (raw, len)) (ih : ∀ (pc : Nat) (ls st : List AV) (S1 : Sp) (M1 : Mm), rcv pc ls st S1 M1 = some (r', S', M') → WW p l e R s m args below meth c Q nL n0 m0 L base Ls dC dI dA cv xs pc ls st S1 M1) (h : FF (callD d) C rcv pc ls st S M = some (r', S', M')) : WW p l e R s m args below meth c Q nL n0 m0 L base Ls dC dI dA cv xs pc ls st S M := by
      unfold FF at h
      rw [hlk] at h
      dsimp only at h
      unfold okEn at he
      dsimp only at he
      split at h
      · simp only [Bool.and_eq_true, Bool.or_eq_true, decide_eq_true_eq, beq_iff_eq, Bool.not_eq_true'] at he
        obtain ⟨rfl, rfl⟩ := he
        split at h
        · cases h
        · next hy => exact s_lrem X hd hy (ih _ _ _ _ _ h)
      · cases h
theorem bd_dup (X : CX p R s m args c cc own nL d L base dC dI dA cv adV xs)  {C : Cd} {ini : Bool} {rt : Option FieldType} {raw : Instr} {len : Nat} {ax : Ax} {rcv : Kon} {r' : Option AV} {S' : Sp} {M' : Mm} {st : List AV} (hlk : lk C pc = some ((raw, len), .dup, ax)) (he : okEn own ini Ls nL rt (pc, (raw, len), .dup, ax) = true) (hd : decode cc pc = .ok (raw, len)) (ih : ∀ (pc : Nat) (ls st : List AV) (S1 : Sp) (M1 : Mm), rcv pc ls st S1 M1 = some (r', S', M') → WW p l e R s m args below meth c Q nL n0 m0 L base Ls dC dI dA cv xs pc ls st S1 M1) (h : FF (callD d) C rcv pc ls st S M = some (r', S', M')) : WW p l e R s m args below meth c Q nL n0 m0 L base Ls dC dI dA cv xs pc ls st S M := by
      unfold FF at h
      rw [hlk] at h
      dsimp only at h
      unfold okEn at he
      dsimp only at he
      split at h
      · simp only [Bool.and_eq_true, Bool.or_eq_true, decide_eq_true_eq, beq_iff_eq, Bool.not_eq_true'] at he
        obtain ⟨rfl, rfl⟩ := he
        cases hc0 : Nat.beq (wds [_]) 1 with
        | false => rw [hc0] at h; cases h
        | true => rw [hc0] at h; exact s_dup X hd hc0 (ih _ _ _ _ _ h)
      · cases h
theorem bd_dup2 (X : CX p R s m args c cc own nL d L base dC dI dA cv adV xs)  {C : Cd} {ini : Bool} {rt : Option FieldType} {raw : Instr} {len : Nat} {ax : Ax} {rcv : Kon} {r' : Option AV} {S' : Sp} {M' : Mm} {st : List AV} (hlk : lk C pc = some ((raw, len), .dup2, ax)) (he : okEn own ini Ls nL rt (pc, (raw, len), .dup2, ax) = true) (hd : decode cc pc = .ok (raw, len)) (ih : ∀ (pc : Nat) (ls st : List AV) (S1 : Sp) (M1 : Mm), rcv pc ls st S1 M1 = some (r', S', M') → WW p l e R s m args below meth c Q nL n0 m0 L base Ls dC dI dA cv xs pc ls st S1 M1) (h : FF (callD d) C rcv pc ls st S M = some (r', S', M')) : WW p l e R s m args below meth c Q nL n0 m0 L base Ls dC dI dA cv xs pc ls st S M := by
      unfold FF at h
      rw [hlk] at h
      dsimp only at h
      unfold okEn at he
      dsimp only at he
      split at h
      · simp only [Bool.and_eq_true, Bool.or_eq_true, decide_eq_true_eq, beq_iff_eq, Bool.not_eq_true'] at he
        obtain ⟨rfl, rfl⟩ := he
        cases hc0 : Nat.beq (wds [_, _]) 2 with
        | false => rw [hc0] at h; cases h
        | true => rw [hc0] at h; exact s_dup2 X hd hc0 (ih _ _ _ _ _ h)
      · cases h
theorem bd_pop (X : CX p R s m args c cc own nL d L base dC dI dA cv adV xs)  {C : Cd} {ini : Bool} {rt : Option FieldType} {raw : Instr} {len : Nat} {ax : Ax} {rcv : Kon} {r' : Option AV} {S' : Sp} {M' : Mm} {st : List AV} (hlk : lk C pc = some ((raw, len), .pop, ax)) (he : okEn own ini Ls nL rt (pc, (raw, len), .pop, ax) = true) (hd : decode cc pc = .ok (raw, len)) (ih : ∀ (pc : Nat) (ls st : List AV) (S1 : Sp) (M1 : Mm), rcv pc ls st S1 M1 = some (r', S', M') → WW p l e R s m args below meth c Q nL n0 m0 L base Ls dC dI dA cv xs pc ls st S1 M1) (h : FF (callD d) C rcv pc ls st S M = some (r', S', M')) : WW p l e R s m args below meth c Q nL n0 m0 L base Ls dC dI dA cv xs pc ls st S M := by
      unfold FF at h
      rw [hlk] at h
      dsimp only at h
      unfold okEn at he
      dsimp only at he
      split at h
      · simp only [Bool.and_eq_true, Bool.or_eq_true, decide_eq_true_eq, beq_iff_eq, Bool.not_eq_true'] at he
        obtain ⟨rfl, rfl⟩ := he
        cases hc0 : Nat.beq (wds [_]) 1 with
        | false => rw [hc0] at h; cases h
        | true => rw [hc0] at h; exact s_pop X hd hc0 (ih _ _ _ _ _ h)
      · cases h
theorem bd_iaload (X : CX p R s m args c cc own nL d L base dC dI dA cv adV xs)  {C : Cd} {ini : Bool} {rt : Option FieldType} {raw : Instr} {len : Nat} {ax : Ax} {rcv : Kon} {r' : Option AV} {S' : Sp} {M' : Mm} {st : List AV} (hlk : lk C pc = some ((raw, len), .iaload, ax)) (he : okEn own ini Ls nL rt (pc, (raw, len), .iaload, ax) = true) (hd : decode cc pc = .ok (raw, len)) (ih : ∀ (pc : Nat) (ls st : List AV) (S1 : Sp) (M1 : Mm), rcv pc ls st S1 M1 = some (r', S', M') → WW p l e R s m args below meth c Q nL n0 m0 L base Ls dC dI dA cv xs pc ls st S1 M1) (h : FF (callD d) C rcv pc ls st S M = some (r', S', M')) : WW p l e R s m args below meth c Q nL n0 m0 L base Ls dC dI dA cv xs pc ls st S M := by
      unfold FF at h
      rw [hlk] at h
      dsimp only at h
      unfold okEn at he
      dsimp only at he
      split at h
      · next i t n a r =>
        simp only [Bool.and_eq_true, Bool.or_eq_true, decide_eq_true_eq, beq_iff_eq, Bool.not_eq_true'] at he
        obtain ⟨rfl, rfl⟩ := he
        cases hc0 : Nat.beq t 20 with
        | false => rw [hc0] at h; cases h
        | true =>
          rw [hc0] at h
          dsimp only [cond_true] at h
          have ht := Nat.eq_of_beq_eq_true hc0
          subst ht
          split at h
          · next hi => exact s_iaload X hd hi (ih _ _ _ _ _ h)
          · cases h
      · cases h
theorem bd_faload (X : CX p R s m args c cc own nL d L base dC dI dA cv adV xs)  {C : Cd} {ini : Bool} {rt : Option FieldType} {raw : Instr} {len : Nat} {ax : Ax} {rcv : Kon} {r' : Option AV} {S' : Sp} {M' : Mm} {st : List AV} (hlk : lk C pc = some ((raw, len), .faload, ax)) (he : okEn own ini Ls nL rt (pc, (raw, len), .faload, ax) = true) (hd : decode cc pc = .ok (raw, len)) (ih : ∀ (pc : Nat) (ls st : List AV) (S1 : Sp) (M1 : Mm), rcv pc ls st S1 M1 = some (r', S', M') → WW p l e R s m args below meth c Q nL n0 m0 L base Ls dC dI dA cv xs pc ls st S1 M1) (h : FF (callD d) C rcv pc ls st S M = some (r', S', M')) : WW p l e R s m args below meth c Q nL n0 m0 L base Ls dC dI dA cv xs pc ls st S M := by
      unfold FF at h
      rw [hlk] at h
      dsimp only at h
      unfold okEn at he
      dsimp only at he
      split at h
      · next i t n a r =>
        simp only [Bool.and_eq_true, Bool.or_eq_true, decide_eq_true_eq, beq_iff_eq, Bool.not_eq_true'] at he
        obtain ⟨rfl, rfl⟩ := he
        cases hc0 : Nat.beq t 29 with
        | false => rw [hc0] at h; cases h
        | true =>
          rw [hc0] at h
          dsimp only [cond_true] at h
          have ht := Nat.eq_of_beq_eq_true hc0
          subst ht
          split at h
          · next hi => exact s_scr X hd hi (ih _ _ _ _ _ h)
          · cases h
      · cases h
theorem bd_baload (X : CX p R s m args c cc own nL d L base dC dI dA cv adV xs)  {C : Cd} {ini : Bool} {rt : Option FieldType} {raw : Instr} {len : Nat} {ax : Ax} {rcv : Kon} {r' : Option AV} {S' : Sp} {M' : Mm} {st : List AV} (hlk : lk C pc = some ((raw, len), .baload, ax)) (he : okEn own ini Ls nL rt (pc, (raw, len), .baload, ax) = true) (hd : decode cc pc = .ok (raw, len)) (ih : ∀ (pc : Nat) (ls st : List AV) (S1 : Sp) (M1 : Mm), rcv pc ls st S1 M1 = some (r', S', M') → WW p l e R s m args below meth c Q nL n0 m0 L base Ls dC dI dA cv xs pc ls st S1 M1) (h : FF (callD d) C rcv pc ls st S M = some (r', S', M')) : WW p l e R s m args below meth c Q nL n0 m0 L base Ls dC dI dA cv xs pc ls st S M := by
      unfold FF at h
      rw [hlk] at h
      dsimp only at h
      unfold okEn at he
      dsimp only at he
      split at h
      · next i t n a r =>
        simp only [Bool.and_eq_true, Bool.or_eq_true, decide_eq_true_eq, beq_iff_eq, Bool.not_eq_true'] at he
        obtain ⟨rfl, rfl⟩ := he
        cases hc0 : Nat.beq t 22 with
        | false => rw [hc0] at h; cases h
        | true =>
          rw [hc0] at h
          dsimp only [cond_true] at h
          have ht := Nat.eq_of_beq_eq_true hc0
          subst ht
          split at h
          · next hi => exact s_baload X hd hi (ih _ _ _ _ _ h)
          · cases h
      · cases h
theorem bd_laload (X : CX p R s m args c cc own nL d L base dC dI dA cv adV xs)  {C : Cd} {ini : Bool} {rt : Option FieldType} {raw : Instr} {len : Nat} {ax : Ax} {rcv : Kon} {r' : Option AV} {S' : Sp} {M' : Mm} {st : List AV} (hlk : lk C pc = some ((raw, len), .laload, ax)) (he : okEn own ini Ls nL rt (pc, (raw, len), .laload, ax) = true) (hd : decode cc pc = .ok (raw, len)) (ih : ∀ (pc : Nat) (ls st : List AV) (S1 : Sp) (M1 : Mm), rcv pc ls st S1 M1 = some (r', S', M') → WW p l e R s m args below meth c Q nL n0 m0 L base Ls dC dI dA cv xs pc ls st S1 M1) (h : FF (callD d) C rcv pc ls st S M = some (r', S', M')) : WW p l e R s m args below meth c Q nL n0 m0 L base Ls dC dI dA cv xs pc ls st S M := by
      unfold FF at h
      rw [hlk] at h
      dsimp only at h
      unfold okEn at he
      dsimp only at he
      split at h
      · next i t n a r =>
        simp only [Bool.and_eq_true, Bool.or_eq_true, decide_eq_true_eq, beq_iff_eq, Bool.not_eq_true'] at he
        obtain ⟨rfl, rfl⟩ := he
        cases hc0 : Nat.beq t 21 with
        | false => rw [hc0] at h; cases h
        | true =>
          rw [hc0] at h
          dsimp only [cond_true] at h
          have ht := Nat.eq_of_beq_eq_true hc0
          subst ht
          split at h
          · next hi => exact s_laload X hd hi (ih _ _ _ _ _ h)
          · cases h
      · cases h
theorem bd_iastore (X : CX p R s m args c cc own nL d L base dC dI dA cv adV xs)  {C : Cd} {ini : Bool} {rt : Option FieldType} {raw : Instr} {len : Nat} {ax : Ax} {rcv : Kon} {r' : Option AV} {S' : Sp} {M' : Mm} {st : List AV} (hlk : lk C pc = some ((raw, len), .iastore, ax)) (he : okEn own ini Ls nL rt (pc, (raw, len), .iastore, ax) = true) (hd : decode cc pc = .ok (raw, len)) (ih : ∀ (pc : Nat) (ls st : List AV) (S1 : Sp) (M1 : Mm), rcv pc ls st S1 M1 = some (r', S', M') → WW p l e R s m args below meth c Q nL n0 m0 L base Ls dC dI dA cv xs pc ls st S1 M1) (h : FF (callD d) C rcv pc ls st S M = some (r', S', M')) : WW p l e R s m args below meth c Q nL n0 m0 L base Ls dC dI dA cv xs pc ls st S M := by
      unfold FF at h
      rw [hlk] at h
      dsimp only at h
      unfold okEn at he
      dsimp only at he
      split at h
      · next x i t n a r =>
        simp only [Bool.and_eq_true, Bool.or_eq_true, decide_eq_true_eq, beq_iff_eq, Bool.not_eq_true'] at he
        obtain ⟨rfl, rfl⟩ := he
        cases hc0 : Nat.beq t 20 with
        | false => rw [hc0] at h; cases h
        | true =>
          rw [hc0] at h
          dsimp only [cond_true] at h
          have ht := Nat.eq_of_beq_eq_true hc0
          subst ht
          split at h
          · next hi => exact s_iastore X hd hi (ih _ _ _ _ _ h)
          · cases h
      · cases h
theorem bd_bastore (X : CX p R s m args c cc own nL d L base dC dI dA cv adV xs)  {C : Cd} {ini : Bool} {rt : Option FieldType} {raw : Instr} {len : Nat} {ax : Ax} {rcv : Kon} {r' : Option AV} {S' : Sp} {M' : Mm} {st : List AV} (hlk : lk C pc = some ((raw, len), .bastore, ax)) (he : okEn own ini Ls nL rt (pc, (raw, len), .bastore, ax) = true) (hd : decode cc pc = .ok (raw, len)) (ih : ∀ (pc : Nat) (ls st : List AV) (S1 : Sp) (M1 : Mm), rcv pc ls st S1 M1 = some (r', S', M') → WW p l e R s m args below meth c Q nL n0 m0 L base Ls dC dI dA cv xs pc ls st S1 M1) (h : FF (callD d) C rcv pc ls st S M = some (r', S', M')) : WW p l e R s m args below meth c Q nL n0 m0 L base Ls dC dI dA cv xs pc ls st S M := by
      unfold FF at h
      rw [hlk] at h
      dsimp only at h
      unfold okEn at he
      dsimp only at he
      split at h
      · next x i t n a r =>
        simp only [Bool.and_eq_true, Bool.or_eq_true, decide_eq_true_eq, beq_iff_eq, Bool.not_eq_true'] at he
        obtain ⟨rfl, rfl⟩ := he
        cases hc0 : Nat.beq t 22 with
        | false => rw [hc0] at h; cases h
        | true =>
          rw [hc0] at h
          dsimp only [cond_true] at h
          have ht := Nat.eq_of_beq_eq_true hc0
          subst ht
          split at h
          · next hi => exact s_bastore X hd hi (ih _ _ _ _ _ h)
          · cases h
      · cases h
theorem bd_lastore (X : CX p R s m args c cc own nL d L base dC dI dA cv adV xs)  {C : Cd} {ini : Bool} {rt : Option FieldType} {raw : Instr} {len : Nat} {ax : Ax} {rcv : Kon} {r' : Option AV} {S' : Sp} {M' : Mm} {st : List AV} (hlk : lk C pc = some ((raw, len), .lastore, ax)) (he : okEn own ini Ls nL rt (pc, (raw, len), .lastore, ax) = true) (hd : decode cc pc = .ok (raw, len)) (ih : ∀ (pc : Nat) (ls st : List AV) (S1 : Sp) (M1 : Mm), rcv pc ls st S1 M1 = some (r', S', M') → WW p l e R s m args below meth c Q nL n0 m0 L base Ls dC dI dA cv xs pc ls st S1 M1) (h : FF (callD d) C rcv pc ls st S M = some (r', S', M')) : WW p l e R s m args below meth c Q nL n0 m0 L base Ls dC dI dA cv xs pc ls st S M := by
      unfold FF at h
      rw [hlk] at h
      dsimp only at h
      unfold okEn at he
      dsimp only at he
      split at h
      · next x i t n a r =>
        simp only [Bool.and_eq_true, Bool.or_eq_true, decide_eq_true_eq, beq_iff_eq, Bool.not_eq_true'] at he
        obtain ⟨rfl, rfl⟩ := he
        cases hc0 : Nat.beq t 21 with
        | false => rw [hc0] at h; cases h
        | true =>
          rw [hc0] at h
          dsimp only [cond_true] at h
          have ht := Nat.eq_of_beq_eq_true hc0
          subst ht
          split at h
          · next hi => exact s_lastore X hd hi (ih _ _ _ _ _ h)
          · cases h
      · cases h
theorem bd_aaload (X : CX p R s m args c cc own nL d L base dC dI dA cv adV xs)  {C : Cd} {ini : Bool} {rt : Option FieldType} {raw : Instr} {len : Nat} {ax : Ax} {rcv : Kon} {r' : Option AV} {S' : Sp} {M' : Mm} {st : List AV} (hlk : lk C pc = some ((raw, len), .aaload, ax)) (he : okEn own ini Ls nL rt (pc, (raw, len), .aaload, ax) = true) (hd : decode cc pc = .ok (raw, len)) (ih : ∀ (pc : Nat) (ls st : List AV) (S1 : Sp) (M1 : Mm), rcv pc ls st S1 M1 = some (r', S', M') → WW p l e R s m args below meth c Q nL n0 m0 L base Ls dC dI dA cv xs pc ls st S1 M1) (h : FF (callD d) C rcv pc ls st S M = some (r', S', M')) : WW p l e R s m args below meth c Q nL n0 m0 L base Ls dC dI dA cv xs pc ls st S M := by
      unfold FF at h
      rw [hlk] at h
      dsimp only at h
      unfold okEn at he
      dsimp only at he
      split at h
      · next i t n a r =>
        simp only [Bool.and_eq_true, Bool.or_eq_true, decide_eq_true_eq, beq_iff_eq, Bool.not_eq_true'] at he
        obtain ⟨⟨⟨rfl, rfl⟩, ht⟩, hx⟩ := he
        cases hc0 : Nat.beq t ax.1.1 with
        | false => rw [hc0] at h; cases h
        | true =>
          rw [hc0] at h
          dsimp only [cond_true] at h
          have ht1 := Nat.eq_of_beq_eq_true hc0
          rw [← ht1] at ht hx
          split at h
          · next hi =>
            rcases hb : refOf S a i.toNat with _ | b
            · rw [hb] at h; cases h
            · rw [hb, bR_some, hx] at h
              exact s_aaload X hd ht hi hb (ih _ _ _ _ _ h)
          · cases h
      · cases h
theorem bd_aastore (X : CX p R s m args c cc own nL d L base dC dI dA cv adV xs)  {C : Cd} {ini : Bool} {rt : Option FieldType} {raw : Instr} {len : Nat} {ax : Ax} {rcv : Kon} {r' : Option AV} {S' : Sp} {M' : Mm} {st : List AV} (hlk : lk C pc = some ((raw, len), .aastore, ax)) (he : okEn own ini Ls nL rt (pc, (raw, len), .aastore, ax) = true) (hd : decode cc pc = .ok (raw, len)) (ih : ∀ (pc : Nat) (ls st : List AV) (S1 : Sp) (M1 : Mm), rcv pc ls st S1 M1 = some (r', S', M') → WW p l e R s m args below meth c Q nL n0 m0 L base Ls dC dI dA cv xs pc ls st S1 M1) (h : FF (callD d) C rcv pc ls st S M = some (r', S', M')) : WW p l e R s m args below meth c Q nL n0 m0 L base Ls dC dI dA cv xs pc ls st S M := by
      unfold FF at h
      rw [hlk] at h
      dsimp only at h
      unfold okEn at he
      dsimp only at he
      split at h
      · next t' n' b i t n a r =>
        simp only [Bool.and_eq_true, Bool.or_eq_true, decide_eq_true_eq, beq_iff_eq, Bool.not_eq_true'] at he
        obtain ⟨⟨⟨rfl, rfl⟩, ht⟩, hx⟩ := he
        cases hc0 : (Nat.beq t ax.1.1 && Nat.beq t' ax.2.1.1) with
        | false => rw [hc0] at h; cases h
        | true =>
          rw [hc0] at h
          dsimp only [cond_true] at h
          rw [Bool.and_eq_true] at hc0
          have ht1 := Nat.eq_of_beq_eq_true hc0.1
          have ht2 := Nat.eq_of_beq_eq_true hc0.2
          rw [← ht1] at ht hx
          rw [hx] at ht2
          split at h
          · next hi => exact s_aastore X hd ht hi ht2 (ih _ _ _ _ _ h)
          · cases h
      · cases h
theorem bd_arraylength (X : CX p R s m args c cc own nL d L base dC dI dA cv adV xs)  {C : Cd} {ini : Bool} {rt : Option FieldType} {raw : Instr} {len : Nat} {ax : Ax} {rcv : Kon} {r' : Option AV} {S' : Sp} {M' : Mm} {st : List AV} (hlk : lk C pc = some ((raw, len), .arraylength, ax)) (he : okEn own ini Ls nL rt (pc, (raw, len), .arraylength, ax) = true) (hd : decode cc pc = .ok (raw, len)) (ih : ∀ (pc : Nat) (ls st : List AV) (S1 : Sp) (M1 : Mm), rcv pc ls st S1 M1 = some (r', S', M') → WW p l e R s m args below meth c Q nL n0 m0 L base Ls dC dI dA cv xs pc ls st S1 M1) (h : FF (callD d) C rcv pc ls st S M = some (r', S', M')) : WW p l e R s m args below meth c Q nL n0 m0 L base Ls dC dI dA cv xs pc ls st S M := by
      unfold FF at h
      rw [hlk] at h
      dsimp only at h
      unfold okEn at he
      dsimp only at he
      split at h
      · next t n a r =>
        simp only [Bool.and_eq_true, Bool.or_eq_true, decide_eq_true_eq, beq_iff_eq, Bool.not_eq_true'] at he
        obtain ⟨rfl, rfl⟩ := he
        cases hc0 : Nat.blt 19 t with
        | false => rw [hc0] at h; cases h
        | true =>
          rw [hc0] at h
          dsimp only [cond_true] at h
          exact s_alen X hd hc0 (ih _ _ _ _ _ h)
      · cases h
theorem bd_getfield (X : CX p R s m args c cc own nL d L base dC dI dA cv adV xs) (ty : Nat) {C : Cd} {ini : Bool} {rt : Option FieldType} {raw : Instr} {len : Nat} {ax : Ax} {rcv : Kon} {r' : Option AV} {S' : Sp} {M' : Mm} {st : List AV} (hlk : lk C pc = some ((raw, len), .getfield ty, ax)) (he : okEn own ini Ls nL rt (pc, (raw, len), .getfield ty, ax) = true) (hd : decode cc pc = .ok (raw, len)) (ih : ∀ (pc : Nat) (ls st : List AV) (S1 : Sp) (M1 : Mm), rcv pc ls st S1 M1 = some (r', S', M') → WW p l e R s m args below meth c Q nL n0 m0 L base Ls dC dI dA cv xs pc ls st S1 M1) (h : FF (callD d) C rcv pc ls st S M = some (r', S', M')) : WW p l e R s m args below meth c Q nL n0 m0 L base Ls dC dI dA cv xs pc ls st S M := by
      unfold FF at h
      rw [hlk] at h
      dsimp only at h
      unfold okEn at he
      dsimp only at he
      split at he
      · simp only [Bool.and_eq_true, Bool.or_eq_true, decide_eq_true_eq, beq_iff_eq, Bool.not_eq_true'] at he
        obtain ⟨⟨⟨⟨rfl, h13⟩, hkn⟩, hw⟩, hty⟩ := he
        split at h
        · next t n a r =>
          cases hc0 : Nat.beq t ax.1.1 with
          | false => rw [hc0] at h; cases h
          | true =>
            rw [hc0] at h
            dsimp only [cond_true] at h
            have ht1 := Nat.eq_of_beq_eq_true hc0
            subst ht1
            split at h
            · exact s_getI X hd h13 hkn (wAt_mem hw) (of_decide_eq_true hty) (ih _ _ _ _ _ h)
            · exact s_getL X hd h13 hkn (wAt_mem hw) (of_decide_eq_true hty) (ih _ _ _ _ _ h)
            · next hq1 hq2 =>
              have hty : nthN (fK.getD ax.1.1 []) ax.1.2.1 = 2 ∧ ax.2.1 = (fR.getD ax.1.1 []).getD ax.1.2.1 (0, 0) := by
                split at hty
                · exact absurd rfl hq1
                · exact absurd rfl hq2
                · exact of_decide_eq_true hty
              rcases hb : refOf S a ax.1.2.1 with _ | b
              · rw [hb] at h; cases h
              · rw [hb, bR_some, hty.2] at h
                exact s_getR X hd h13 hkn (wAt_mem hw) hty.1 hb (ih _ _ _ _ _ h)
        · cases h
      · cases he
theorem bd_putfield (X : CX p R s m args c cc own nL d L base dC dI dA cv adV xs) (ty : Nat) {C : Cd} {ini : Bool} {rt : Option FieldType} {raw : Instr} {len : Nat} {ax : Ax} {rcv : Kon} {r' : Option AV} {S' : Sp} {M' : Mm} {st : List AV} (hlk : lk C pc = some ((raw, len), .putfield ty, ax)) (he : okEn own ini Ls nL rt (pc, (raw, len), .putfield ty, ax) = true) (hd : decode cc pc = .ok (raw, len)) (hini : ini = true → meth.name = "<init>") (ih : ∀ (pc : Nat) (ls st : List AV) (S1 : Sp) (M1 : Mm), rcv pc ls st S1 M1 = some (r', S', M') → WW p l e R s m args below meth c Q nL n0 m0 L base Ls dC dI dA cv xs pc ls st S1 M1) (h : FF (callD d) C rcv pc ls st S M = some (r', S', M')) : WW p l e R s m args below meth c Q nL n0 m0 L base Ls dC dI dA cv xs pc ls st S M := by
      unfold FF at h
      rw [hlk] at h
      dsimp only at h
      unfold okEn at he
      dsimp only at he
      split at he
      · simp only [Bool.and_eq_true, Bool.or_eq_true, decide_eq_true_eq, beq_iff_eq, Bool.not_eq_true'] at he
        obtain ⟨⟨⟨⟨⟨⟨⟨rfl, h13⟩, hkn⟩, hw⟩, hf⟩, hlt⟩, hfin⟩, hrf⟩ := he
        split at h
        · split at h
          · next x t n a r =>
            cases hc0 : Nat.beq t ax.1.1 with
            | false => rw [hc0] at h; cases h
            | true =>
              rw [hc0] at h
              have ht1 := Nat.eq_of_beq_eq_true hc0
              subst ht1
              exact s_putI X hd h13 hkn (wAt_mem hw) (by rcases hfin with g | g; exact Or.inl g; exact Or.inr ⟨hini g.1, g.2⟩) hf (ih _ _ _ _ _ h)
          · cases h
        · split at h
          · next x t n a r =>
            cases hc0 : Nat.beq t ax.1.1 with
            | false => rw [hc0] at h; cases h
            | true =>
              rw [hc0] at h
              have ht1 := Nat.eq_of_beq_eq_true hc0
              subst ht1
              exact s_putL X hd h13 hkn (wAt_mem hw) (by rcases hfin with g | g; exact Or.inl g; exact Or.inr ⟨hini g.1, g.2⟩) hf (ih _ _ _ _ _ h)
          · cases h
        · split at h
          · next t' n' b t n a r =>
            cases hc0 : (Nat.beq t ax.1.1 && Nat.beq t' ax.2.1.1) with
            | false => rw [hc0] at h; cases h
            | true =>
              rw [hc0] at h
              rw [Bool.and_eq_true] at hc0
              have ht1 := Nat.eq_of_beq_eq_true hc0.1
              have ht2 := Nat.eq_of_beq_eq_true hc0.2
              subst ht1
              dsimp only [cond_true] at h
              split at h
              · next hn2 =>
                have hrf := hrf rfl
                rw [hrf] at ht2 hn2
                exact s_putR X hd h13 hkn (wAt_mem hw) (by rcases hfin with g | g; exact Or.inl g; exact Or.inr ⟨hini g.1, g.2⟩) hf ht2 hn2 (ih _ _ _ _ _ h)
              · cases h
          · cases h
        · next q0 q1 q2 =>
          have h3 : ty = 3 := by
            rcases ty with _ | _ | _ | _ | ty
            · exact absurd rfl q0
            · exact absurd rfl q1
            · exact absurd rfl q2
            · rfl
            · omega
          split at h
          · next x t n a r =>
            cases hc0 : Nat.beq t ax.1.1 with
            | false => rw [hc0] at h; cases h
            | true =>
              rw [hc0] at h
              have ht1 := Nat.eq_of_beq_eq_true hc0
              subst ht1
              dsimp only [cond_true] at h
              split at h
              · next hx => exact s_putZ X hd h13 hkn (wAt_mem hw) (by rcases hfin with g | g; exact Or.inl g; exact Or.inr ⟨hini g.1, g.2⟩) (hf.trans h3) hx (ih _ _ _ _ _ h)
              · cases h
          · cases h
      · cases he
theorem bd_new (X : CX p R s m args c cc own nL d L base dC dI dA cv adV xs) (i1 : Nat) {C : Cd} {ini : Bool} {rt : Option FieldType} {raw : Instr} {len : Nat} {ax : Ax} {rcv : Kon} {r' : Option AV} {S' : Sp} {M' : Mm} {st : List AV} (hlk : lk C pc = some ((raw, len), .new i1, ax)) (he : okEn own ini Ls nL rt (pc, (raw, len), .new i1, ax) = true) (hd : decode cc pc = .ok (raw, len)) (hgr : ∀ (pc : Nat) (ls st : List AV) (S1 : Sp) (M1 : Mm), rcv pc ls st S1 M1 = some (r', S', M') → LE S1 S') (hc : S'.length ≤ R.cells + n0) (hs : slO S' ≤ R.slots + m0) (ih : ∀ (pc : Nat) (ls st : List AV) (S1 : Sp) (M1 : Mm), rcv pc ls st S1 M1 = some (r', S', M') → WW p l e R s m args below meth c Q nL n0 m0 L base Ls dC dI dA cv xs pc ls st S1 M1) (h : FF (callD d) C rcv pc ls st S M = some (r', S', M')) : WW p l e R s m args below meth c Q nL n0 m0 L base Ls dC dI dA cv xs pc ls st S M := by
      unfold FF at h
      rw [hlk] at h
      dsimp only at h
      unfold okEn at he
      dsimp only at he
      split at he
      · simp only [Bool.and_eq_true, Bool.or_eq_true, decide_eq_true_eq, beq_iff_eq, Bool.not_eq_true'] at he
        obtain ⟨⟨⟨rfl, h13⟩, hnf⟩, hw⟩ := he
        have hg := hgr _ _ _ _ _ h
        rw [hnf] at h hg
        have h1 := hg.1
        have h2 := hg.2
        rw [List.length_append, List.length_singleton] at h1
        rw [slO_push, if_pos h13] at h2
        exact s_new X hd h13 (wAt_mem hw) (by omega) (by omega) (ih _ _ _ _ _ h)
      · cases he
theorem bd_newarray (X : CX p R s m args c cc own nL d L base dC dI dA cv adV xs) (i1 : ArrayType) {C : Cd} {ini : Bool} {rt : Option FieldType} {raw : Instr} {len : Nat} {ax : Ax} {rcv : Kon} {r' : Option AV} {S' : Sp} {M' : Mm} {st : List AV} (hlk : lk C pc = some ((raw, len), .newarray i1, ax)) (he : okEn own ini Ls nL rt (pc, (raw, len), .newarray i1, ax) = true) (hd : decode cc pc = .ok (raw, len)) (hgr : ∀ (pc : Nat) (ls st : List AV) (S1 : Sp) (M1 : Mm), rcv pc ls st S1 M1 = some (r', S', M') → LE S1 S') (hc : S'.length ≤ R.cells + n0) (hs : slO S' ≤ R.slots + m0) (ih : ∀ (pc : Nat) (ls st : List AV) (S1 : Sp) (M1 : Mm), rcv pc ls st S1 M1 = some (r', S', M') → WW p l e R s m args below meth c Q nL n0 m0 L base Ls dC dI dA cv xs pc ls st S1 M1) (h : FF (callD d) C rcv pc ls st S M = some (r', S', M')) : WW p l e R s m args below meth c Q nL n0 m0 L base Ls dC dI dA cv xs pc ls st S M := by
      unfold FF at h
      rw [hlk] at h
      dsimp only at h
      unfold okEn at he
      dsimp only at he
      split at h
      · next n r =>
        split at h
        · next hn =>
          simp only [Bool.and_eq_true, Bool.or_eq_true, decide_eq_true_eq, beq_iff_eq, Bool.not_eq_true'] at he
          obtain ⟨rfl, he⟩ := he
          have hg := hgr _ _ _ _ _ h
          split at he
          · have he := beq_iff_eq.mp he
            rw [he] at h hg
            have h1 := hg.1
            have h2 := hg.2
            rw [List.length_append, List.length_singleton] at h1
            rw [slO_push, if_neg (by decide)] at h2
            exact s_new_int X hd k_AC.1 hn (by omega) (by omega) (ih _ _ _ _ _ h)
          · have he := beq_iff_eq.mp he
            rw [he] at h hg
            have h1 := hg.1
            have h2 := hg.2
            rw [List.length_append, List.length_singleton] at h1
            rw [slO_push, if_neg (by decide)] at h2
            exact s_new_long X hd k_AC.2.1 hn (by omega) (by omega) (ih _ _ _ _ _ h)
          · have he := beq_iff_eq.mp he
            rw [he] at h hg
            have h1 := hg.1
            have h2 := hg.2
            rw [List.length_append, List.length_singleton] at h1
            rw [slO_push, if_neg (by decide)] at h2
            exact s_new_byte X hd k_AC.2.2.1 hn (by omega) (by omega) (ih _ _ _ _ _ h)
          · cases he
        · cases h
      · cases h
theorem bd_anewarray (X : CX p R s m args c cc own nL d L base dC dI dA cv adV xs) (i1 : Nat) {C : Cd} {ini : Bool} {rt : Option FieldType} {raw : Instr} {len : Nat} {ax : Ax} {rcv : Kon} {r' : Option AV} {S' : Sp} {M' : Mm} {st : List AV} (hlk : lk C pc = some ((raw, len), .anewarray i1, ax)) (he : okEn own ini Ls nL rt (pc, (raw, len), .anewarray i1, ax) = true) (hd : decode cc pc = .ok (raw, len)) (hY : YY s) (hgr : ∀ (pc : Nat) (ls st : List AV) (S1 : Sp) (M1 : Mm), rcv pc ls st S1 M1 = some (r', S', M') → LE S1 S') (hc : S'.length ≤ R.cells + n0) (hs : slO S' ≤ R.slots + m0) (ih : ∀ (pc : Nat) (ls st : List AV) (S1 : Sp) (M1 : Mm), rcv pc ls st S1 M1 = some (r', S', M') → WW p l e R s m args below meth c Q nL n0 m0 L base Ls dC dI dA cv xs pc ls st S1 M1) (h : FF (callD d) C rcv pc ls st S M = some (r', S', M')) : WW p l e R s m args below meth c Q nL n0 m0 L base Ls dC dI dA cv xs pc ls st S M := by
      unfold FF at h
      rw [hlk] at h
      dsimp only at h
      unfold okEn at he
      dsimp only at he
      split at he
      · split at h
        · next n r =>
          split at h
          · next hn =>
            simp only [Bool.and_eq_true, Bool.or_eq_true, decide_eq_true_eq, beq_iff_eq, Bool.not_eq_true'] at he
            obtain ⟨⟨rfl, ht⟩, hw⟩ := he
            have hg := hgr _ _ _ _ _ h
            have h1 := hg.1
            have h2 := hg.2
            rw [List.length_append, List.length_singleton] at h1
            rw [slO_push, if_neg (by omega)] at h2
            have hw := wAt_mem hw
            rcases (show ax.1.1 = 23 ∨ ax.1.1 = 24 by omega) with e | e
            · rw [e] at h hw
              exact s_anew_23 X hd hw hY.2.1 hn (by omega) (by omega) (ih _ _ _ _ _ h)
            · rw [e] at h hw
              exact s_anew_24 X hd hw hY.2.2.1 hn (by omega) (by omega) (ih _ _ _ _ _ h)
          · cases h
        · cases h
      · cases he
theorem bd_multianewarray (X : CX p R s m args c cc own nL d L base dC dI dA cv adV xs) (i1 : Nat) (i2 : Nat) {C : Cd} {ini : Bool} {rt : Option FieldType} {raw : Instr} {len : Nat} {ax : Ax} {rcv : Kon} {r' : Option AV} {S' : Sp} {M' : Mm} {st : List AV} (hlk : lk C pc = some ((raw, len), .multianewarray i1 i2, ax)) (he : okEn own ini Ls nL rt (pc, (raw, len), .multianewarray i1 i2, ax) = true) (hd : decode cc pc = .ok (raw, len)) (hgr : ∀ (pc : Nat) (ls st : List AV) (S1 : Sp) (M1 : Mm), rcv pc ls st S1 M1 = some (r', S', M') → LE S1 S') (hc : S'.length ≤ R.cells + n0) (hs : slO S' ≤ R.slots + m0) (hMul : ∀ (pc : Nat) (ls r : List AV) (S : Sp) (M : Mm) (t idx : Nat) (k n : Int) (kk : Nat), decode cc pc = .ok (.multianewarray idx 2, 4) → 25 ≤ t ∧ t ≤ 28 → Jvm.Cond.classLink own idx (mlN t) ∈ lw_tbl → k = (kk : Int) → kk = (elT t).2 → 0 ≤ n ∧ n ≤ 100 → LE (S ++ ((t, n.toNat, (List.range n.toNat).map fun j => some (S.length + 1 + j)) :: List.replicate n.toNat ((elT t).1, kk, []))) S' → WW p l e R s m args below meth c Q nL n0 m0 L base Ls dC dI dA cv xs (pc + 4) ls (vR t n S.length :: r) (S ++ ((t, n.toNat, (List.range n.toNat).map fun j => some (S.length + 1 + j)) :: List.replicate n.toNat ((elT t).1, kk, []))) M → WW p l e R s m args below meth c Q nL n0 m0 L base Ls dC dI dA cv xs pc ls (vI k :: vI n :: r) S M) (ih : ∀ (pc : Nat) (ls st : List AV) (S1 : Sp) (M1 : Mm), rcv pc ls st S1 M1 = some (r', S', M') → WW p l e R s m args below meth c Q nL n0 m0 L base Ls dC dI dA cv xs pc ls st S1 M1) (h : FF (callD d) C rcv pc ls st S M = some (r', S', M')) : WW p l e R s m args below meth c Q nL n0 m0 L base Ls dC dI dA cv xs pc ls st S M := by
      unfold FF at h
      rw [hlk] at h
      dsimp only at h
      unfold okEn at he
      dsimp only at he
      split at he
      · split at h
        · next k n r =>
          split at h
          · next hn =>
            simp only [Bool.and_eq_true, Bool.or_eq_true, decide_eq_true_eq, beq_iff_eq, Bool.not_eq_true'] at he
            obtain ⟨⟨⟨⟨rfl, ht⟩, hw⟩, hx⟩, hkk⟩ := he
            have hg := hgr _ _ _ _ _ h
            rw [hx] at h hg
            exact hMul _ _ _ _ _ _ _ _ _ _ hd ht (wAt_mem hw) hn.1 hkk hn.2 hg (ih _ _ _ _ _ h)
          · cases h
        · cases h
      · cases he
theorem bd_goto (X : CX p R s m args c cc own nL d L base dC dI dA cv adV xs) (o1 : Int) {C : Cd} {ini : Bool} {rt : Option FieldType} {raw : Instr} {len : Nat} {ax : Ax} {rcv : Kon} {r' : Option AV} {S' : Sp} {M' : Mm} {st : List AV} (hlk : lk C pc = some ((raw, len), .goto o1, ax)) (he : okEn own ini Ls nL rt (pc, (raw, len), .goto o1, ax) = true) (hd : decode cc pc = .ok (raw, len)) (ih : ∀ (pc : Nat) (ls st : List AV) (S1 : Sp) (M1 : Mm), rcv pc ls st S1 M1 = some (r', S', M') → WW p l e R s m args below meth c Q nL n0 m0 L base Ls dC dI dA cv xs pc ls st S1 M1) (h : FF (callD d) C rcv pc ls st S M = some (r', S', M')) : WW p l e R s m args below meth c Q nL n0 m0 L base Ls dC dI dA cv xs pc ls st S M := by
      unfold FF at h
      rw [hlk] at h
      dsimp only at h
      unfold okEn at he
      dsimp only at he
      split at he
      · simp only [Bool.and_eq_true, Bool.or_eq_true, decide_eq_true_eq, beq_iff_eq, Bool.not_eq_true'] at he
        obtain ⟨rfl, ht⟩ := he
        exact s_goto X hd ht (ih _ _ _ _ _ h)
      · cases he
theorem bd_ifCond (X : CX p R s m args c cc own nL d L base dC dI dA cv adV xs) (c1 : Jvm.ClassFile.Cond) (o1 : Int) {C : Cd} {ini : Bool} {rt : Option FieldType} {raw : Instr} {len : Nat} {ax : Ax} {rcv : Kon} {r' : Option AV} {S' : Sp} {M' : Mm} {st : List AV} (hlk : lk C pc = some ((raw, len), .ifCond c1 o1, ax)) (he : okEn own ini Ls nL rt (pc, (raw, len), .ifCond c1 o1, ax) = true) (hd : decode cc pc = .ok (raw, len)) (ih : ∀ (pc : Nat) (ls st : List AV) (S1 : Sp) (M1 : Mm), rcv pc ls st S1 M1 = some (r', S', M') → WW p l e R s m args below meth c Q nL n0 m0 L base Ls dC dI dA cv xs pc ls st S1 M1) (h : FF (callD d) C rcv pc ls st S M = some (r', S', M')) : WW p l e R s m args below meth c Q nL n0 m0 L base Ls dC dI dA cv xs pc ls st S M := by
      unfold FF at h
      rw [hlk] at h
      dsimp only at h
      unfold okEn at he
      dsimp only at he
      split at he
      · simp only [Bool.and_eq_true, Bool.or_eq_true, decide_eq_true_eq, beq_iff_eq, Bool.not_eq_true'] at he
        obtain ⟨⟨rfl, e1⟩, ht⟩ := he
        rw [e1] at hd
        split at h
        · next x r =>
          cases c1
          · dsimp only at h
            refine s_if_eq X hd ht (fun z => ?_) (fun z => ?_)
            · rw [if_pos z] at h; exact ih _ _ _ _ _ h
            · rw [if_neg z] at h; exact ih _ _ _ _ _ h
          · dsimp only at h
            refine s_if_ne X hd ht (fun z => ?_) (fun z => ?_)
            · rw [if_pos z] at h; exact ih _ _ _ _ _ h
            · rw [if_neg z] at h; exact ih _ _ _ _ _ h
          · dsimp only at h
            refine s_if_lt X hd ht (fun z => ?_) (fun z => ?_)
            · rw [if_pos z] at h; exact ih _ _ _ _ _ h
            · rw [if_neg z] at h; exact ih _ _ _ _ _ h
          · dsimp only at h
            refine s_if_ge X hd ht (fun z => ?_) (fun z => ?_)
            · rw [if_pos z] at h; exact ih _ _ _ _ _ h
            · rw [if_neg z] at h; exact ih _ _ _ _ _ h
          · dsimp only at h
            refine s_if_gt X hd ht (fun z => ?_) (fun z => ?_)
            · rw [if_pos z] at h; exact ih _ _ _ _ _ h
            · rw [if_neg z] at h; exact ih _ _ _ _ _ h
          · dsimp only at h
            refine s_if_le X hd ht (fun z => ?_) (fun z => ?_)
            · rw [if_pos z] at h; exact ih _ _ _ _ _ h
            · rw [if_neg z] at h; exact ih _ _ _ _ _ h
        · cases h
      · cases he
theorem bd_if_icmp (X : CX p R s m args c cc own nL d L base dC dI dA cv adV xs) (c1 : Jvm.ClassFile.Cond) (o1 : Int) {C : Cd} {ini : Bool} {rt : Option FieldType} {raw : Instr} {len : Nat} {ax : Ax} {rcv : Kon} {r' : Option AV} {S' : Sp} {M' : Mm} {st : List AV} (hlk : lk C pc = some ((raw, len), .if_icmp c1 o1, ax)) (he : okEn own ini Ls nL rt (pc, (raw, len), .if_icmp c1 o1, ax) = true) (hd : decode cc pc = .ok (raw, len)) (ih : ∀ (pc : Nat) (ls st : List AV) (S1 : Sp) (M1 : Mm), rcv pc ls st S1 M1 = some (r', S', M') → WW p l e R s m args below meth c Q nL n0 m0 L base Ls dC dI dA cv xs pc ls st S1 M1) (h : FF (callD d) C rcv pc ls st S M = some (r', S', M')) : WW p l e R s m args below meth c Q nL n0 m0 L base Ls dC dI dA cv xs pc ls st S M := by
      unfold FF at h
      rw [hlk] at h
      dsimp only at h
      unfold okEn at he
      dsimp only at he
      split at he
      · simp only [Bool.and_eq_true, Bool.or_eq_true, decide_eq_true_eq, beq_iff_eq, Bool.not_eq_true'] at he
        obtain ⟨⟨rfl, e1⟩, ht⟩ := he
        rw [e1] at hd
        split at h
        · next y x r =>
          cases c1
          · dsimp only at h
            refine s_icmp_eq X hd ht (fun z => ?_) (fun z => ?_)
            · rw [if_pos z] at h; exact ih _ _ _ _ _ h
            · rw [if_neg z] at h; exact ih _ _ _ _ _ h
          · dsimp only at h
            refine s_icmp_ne X hd ht (fun z => ?_) (fun z => ?_)
            · rw [if_pos z] at h; exact ih _ _ _ _ _ h
            · rw [if_neg z] at h; exact ih _ _ _ _ _ h
          · dsimp only at h
            refine s_icmp_lt X hd ht (fun z => ?_) (fun z => ?_)
            · rw [if_pos z] at h; exact ih _ _ _ _ _ h
            · rw [if_neg z] at h; exact ih _ _ _ _ _ h
          · dsimp only at h
            refine s_icmp_ge X hd ht (fun z => ?_) (fun z => ?_)
            · rw [if_pos z] at h; exact ih _ _ _ _ _ h
            · rw [if_neg z] at h; exact ih _ _ _ _ _ h
          · dsimp only at h
            refine s_icmp_gt X hd ht (fun z => ?_) (fun z => ?_)
            · rw [if_pos z] at h; exact ih _ _ _ _ _ h
            · rw [if_neg z] at h; exact ih _ _ _ _ _ h
          · dsimp only at h
            refine s_icmp_le X hd ht (fun z => ?_) (fun z => ?_)
            · rw [if_pos z] at h; exact ih _ _ _ _ _ h
            · rw [if_neg z] at h; exact ih _ _ _ _ _ h
        · cases h
      · cases he
theorem bd_tableswitch (X : CX p R s m args c cc own nL d L base dC dI dA cv adV xs) (d1 : Int) (lo1 : Int) (hi1 : Int) (offs1 : Array Int) {C : Cd} {ini : Bool} {rt : Option FieldType} {raw : Instr} {len : Nat} {ax : Ax} {rcv : Kon} {r' : Option AV} {S' : Sp} {M' : Mm} {st : List AV} (hlk : lk C pc = some ((raw, len), .tableswitch d1 lo1 hi1 offs1, ax)) (he : okEn own ini Ls nL rt (pc, (raw, len), .tableswitch d1 lo1 hi1 offs1, ax) = true) (hd : decode cc pc = .ok (raw, len)) (ih : ∀ (pc : Nat) (ls st : List AV) (S1 : Sp) (M1 : Mm), rcv pc ls st S1 M1 = some (r', S', M') → WW p l e R s m args below meth c Q nL n0 m0 L base Ls dC dI dA cv xs pc ls st S1 M1) (h : FF (callD d) C rcv pc ls st S M = some (r', S', M')) : WW p l e R s m args below meth c Q nL n0 m0 L base Ls dC dI dA cv xs pc ls st S M := by
      unfold FF at h
      rw [hlk] at h
      dsimp only at h
      unfold okEn at he
      dsimp only at he
      split at he
      · simp only [Bool.and_eq_true, Bool.or_eq_true, decide_eq_true_eq, beq_iff_eq, Bool.not_eq_true'] at he
        obtain ⟨⟨⟨ht, rfl⟩, hhi⟩, hts⟩ := he
        split at h
        · next x r =>
          rcases swt_spec h with ⟨t, h1, h2, h3, h4⟩ | ⟨h1, h4⟩
          · exact s_swIn X hd hhi hts h1 h2 h3 (ih _ _ _ _ _ h4)
          · exact s_swOut X hd hhi hts ht h1 (ih _ _ _ _ _ h4)
        · cases h
      · cases he
theorem bd_invokeinterface (X : CX p R s m args c cc own nL d L base dC dI dA cv adV xs) (i1 : Nat) (i2 : Nat) {C : Cd} {ini : Bool} {rt : Option FieldType} {raw : Instr} {len : Nat} {ax : Ax} {rcv : Kon} {r' : Option AV} {S' : Sp} {M' : Mm} {st : List AV} (hlk : lk C pc = some ((raw, len), .invokeinterface i1 i2, ax)) (he : okEn own ini Ls nL rt (pc, (raw, len), .invokeinterface i1 i2, ax) = true) (hd : decode cc pc = .ok (raw, len)) (ih : ∀ (pc : Nat) (ls st : List AV) (S1 : Sp) (M1 : Mm), rcv pc ls st S1 M1 = some (r', S', M') → WW p l e R s m args below meth c Q nL n0 m0 L base Ls dC dI dA cv xs pc ls st S1 M1) (h : FF (callD d) C rcv pc ls st S M = some (r', S', M')) : WW p l e R s m args below meth c Q nL n0 m0 L base Ls dC dI dA cv xs pc ls st S M := by
      unfold FF at h
      rw [hlk] at h
      dsimp only at h
      unfold okEn at he
      dsimp only at he
      split at he
      · simp only [Bool.and_eq_true, Bool.or_eq_true, decide_eq_true_eq, beq_iff_eq, Bool.not_eq_true'] at he
        obtain ⟨rfl, hw⟩ := he
        split at h
        · next q r =>
          cases hc0 : Nat.ble (wds r) 8 with
          | false => rw [hc0] at h; cases h
          | true =>
            rw [hc0] at h
            dsimp only [cond_true] at h
            exact s_obj X hd (wAt_mem hw) k_OI.1 k_OI.2 hc0 (ih _ _ _ _ _ h)
        · cases h
      · cases he
theorem bd_invokedynamic (X : CX p R s m args c cc own nL d L base dC dI dA cv adV xs) (b1 : Nat) {C : Cd} {ini : Bool} {rt : Option FieldType} {raw : Instr} {len : Nat} {ax : Ax} {rcv : Kon} {r' : Option AV} {S' : Sp} {M' : Mm} {st : List AV} (hlk : lk C pc = some ((raw, len), .invokedynamic b1, ax)) (he : okEn own ini Ls nL rt (pc, (raw, len), .invokedynamic b1, ax) = true) (hd : decode cc pc = .ok (raw, len)) (hY : YY s) (hcur : LE S S') (hc : S'.length ≤ R.cells + n0) (hs : slO S' ≤ R.slots + m0) (hSL : ∀ (pc : Nat) (ls r : List AV) (S : Sp) (M : Mm) (idx : Nat) (k : Int) (a : Nat), decode cc pc = .ok (.invokevirtual idx, 3) → Jvm.Cond.methodLink own idx y_len ∈ lw_tbl → Nat.ble (wds r) 8 = true → LE S S' → WW p l e R s m args below meth c Q nL n0 m0 L base Ls dC dI dA cv xs (pc + 3) ls (vI (strL k) :: r) S M → WW p l e R s m args below meth c Q nL n0 m0 L base Ls dC dI dA cv xs pc ls (vR 13 k a :: r) S M) (hSC : ∀ (pc : Nat) (ls r : List AV) (S : Sp) (M : Mm) (idx : Nat) (k i : Int) (a : Nat), decode cc pc = .ok (.invokevirtual idx, 3) → Jvm.Cond.methodLink own idx y_chr ∈ lw_tbl → 0 ≤ i ∧ i < strL k → Nat.ble (wds r) 8 = true → LE S S' → WW p l e R s m args below meth c Q nL n0 m0 L base Ls dC dI dA cv xs (pc + 3) ls (vI (strC k i.toNat) :: r) S M → WW p l e R s m args below meth c Q nL n0 m0 L base Ls dC dI dA cv xs pc ls (vI i :: vR 13 k a :: r) S M) (ih : ∀ (pc : Nat) (ls st : List AV) (S1 : Sp) (M1 : Mm), rcv pc ls st S1 M1 = some (r', S', M') → WW p l e R s m args below meth c Q nL n0 m0 L base Ls dC dI dA cv xs pc ls st S1 M1) (h : FF (callD d) C rcv pc ls st S M = some (r', S', M')) : WW p l e R s m args below meth c Q nL n0 m0 L base Ls dC dI dA cv xs pc ls st S M := by
      unfold FF at h
      rw [hlk] at h
      dsimp only at h
      have he0 := he
      unfold okEn at he
      dsimp only at he
      split at h
      · obtain ⟨i1, rfl, rfl, hw⟩ := okDyn0 he0
        · skip
          split at h
          · next n dp t' n' b' sp t n0' a r =>
            cases hc0 : (Nat.ble (wds r) 8 && ((Nat.beq t 20 && Nat.beq t' 20) || (Nat.beq t 21 && Nat.beq t' 21))) with
            | false => rw [hc0] at h; cases h
            | true =>
              rw [hc0] at h
              simp only [Bool.and_eq_true, Bool.or_eq_true] at hc0
              dsimp only [cond_true] at h
              split at h
              · next hh =>
                obtain ⟨h8, ⟨g1, g2⟩ | ⟨g1, g2⟩⟩ := hc0
                · have g1 := Nat.eq_of_beq_eq_true g1
                  have g2 := Nat.eq_of_beq_eq_true g2
                  subst g1
                  subst g2
                  exact s_copy_20 X hd hw k_AY.1 k_AY.2.1 k_AY.2.2 (Nat.le_of_ble_eq_true h8) hh (ih _ _ _ _ _ h)
                · have g1 := Nat.eq_of_beq_eq_true g1
                  have g2 := Nat.eq_of_beq_eq_true g2
                  subst g1
                  subst g2
                  exact s_copy_21 X hd hw k_AY.1 k_AY.2.1 k_AY.2.2 (Nat.le_of_ble_eq_true h8) hh (ih _ _ _ _ _ h)
              · cases h
          · cases h
      · obtain ⟨i1, rfl, rfl, hw⟩ := okDyn1 he0
        · skip
          split at h
          · next t k a r =>
            cases hc0 : (Nat.beq t 13 && Nat.ble (wds r) 8) with
            | false => rw [hc0] at h; cases h
            | true =>
              rw [hc0] at h
              rw [Bool.and_eq_true] at hc0
              have g1 := Nat.eq_of_beq_eq_true hc0.1
              subst g1
              exact hSL _ _ _ _ _ _ _ _ hd hw hc0.2 hcur (ih _ _ _ _ _ h)
          · cases h
      · obtain ⟨i1, rfl, rfl, hw⟩ := okDyn3 he0
        · skip
          split at h
          · next y x r =>
            cases hc0 : Nat.ble (wds r) 8 with
            | false => rw [hc0] at h; cases h
            | true =>
              rw [hc0] at h
              exact s_mmax X hd hw k_Mm.1 k_Mm.2.1 k_Mm.2.2.1 hc0 (Nat.le_trans hcur.1 hc) (Nat.le_trans hcur.2 hs) (ih _ _ _ _ _ h)
          · cases h
      · obtain ⟨i1, rfl, rfl, hw⟩ := okDyn4 he0
        · skip
          split at h
          · next y x r =>
            cases hc0 : Nat.ble (wds r) 8 with
            | false => rw [hc0] at h; cases h
            | true =>
              rw [hc0] at h
              exact s_mmin X hd hw k_Mm.2.2.2.1 k_Mm.2.1 k_Mm.2.2.2.2 hc0 (Nat.le_trans hcur.1 hc) (Nat.le_trans hcur.2 hs) (ih _ _ _ _ _ h)
          · cases h
      · next z0 z1 z3 z4 =>
        split at he
        · exact absurd rfl z0
        · exact absurd rfl z1
        · exact absurd rfl z3
        · exact absurd rfl z4
        · split at he
          · simp only [Bool.and_eq_true, Bool.or_eq_true, decide_eq_true_eq, beq_iff_eq, Bool.not_eq_true'] at he
            obtain ⟨rfl, hw⟩ := he
            split at h
            · next i t k a r =>
              cases hc0 : (Nat.beq t 13 && Nat.ble (wds r) 8) with
              | false => rw [hc0] at h; cases h
              | true =>
                rw [hc0] at h
                rw [Bool.and_eq_true] at hc0
                have g1 := Nat.eq_of_beq_eq_true hc0.1
                subst g1
                dsimp only [cond_true] at h
                split at h
                · next hi => exact hSC _ _ _ _ _ _ _ _ _ hd (wAt_mem hw) hi hc0.2 hcur (ih _ _ _ _ _ h)
                · cases h
            · cases h
          · cases he
theorem bd_invokestatic (X : CX p R s m args c cc own nL d L base dC dI dA cv adV xs) (so : Nat) {C : Cd} {ini : Bool} {rt : Option FieldType} {raw : Instr} {len : Nat} {ax : Ax} {rcv : Kon} {r' : Option AV} {S' : Sp} {M' : Mm} {st : List AV} (hlk : lk C pc = some ((raw, len), .invokestatic so, ax)) (he : okEn own ini Ls nL rt (pc, (raw, len), .invokestatic so, ax) = true) (hd : decode cc pc = .ok (raw, len)) (hY : YY s) (hgr : ∀ (pc : Nat) (ls st : List AV) (S1 : Sp) (M1 : Mm), rcv pc ls st S1 M1 = some (r', S', M') → LE S1 S') (hc : S'.length ≤ R.cells + n0) (hs : slO S' ≤ R.slots + m0) (hK : ∀ d1, d = d1 + 1 → ∀ (y : Nat) (a : List AV) (S : Sp) (M : Mm) (r : Option AV) (S' : Sp) (M' : Mm), y < 404 → callD d y a S M = some (r, S', M') → okS L S → okM xs S M → OKs S a → Mt dC dI dA cv adV base L xs l d1 y a S M r S' M') (ih : ∀ (pc : Nat) (ls st : List AV) (S1 : Sp) (M1 : Mm), rcv pc ls st S1 M1 = some (r', S', M') → WW p l e R s m args below meth c Q nL n0 m0 L base Ls dC dI dA cv xs pc ls st S1 M1) (h : FF (callD d) C rcv pc ls st S M = some (r', S', M')) : WW p l e R s m args below meth c Q nL n0 m0 L base Ls dC dI dA cv xs pc ls st S M := by
      unfold FF at h
      rw [hlk] at h
      dsimp only at h
      unfold okEn at he
      dsimp only at he
      split at he
      · simp only [Bool.and_eq_true, Bool.or_eq_true, decide_eq_true_eq, beq_iff_eq, Bool.not_eq_true'] at he
        obtain ⟨⟨⟨⟨rfl, hcall⟩, hst⟩, hnp⟩, hso⟩ := he
        obtain ⟨hlink, hy⟩ := okCall_of hcall
        obtain ⟨r1, S1, M1, h8, hn, hcl, hcont⟩ := inv_spec h
        have hgk := hgr _ _ _ _ _ hcont
        have hc1 := Nat.le_trans hgk.1 hc
        have hs1 := Nat.le_trans hgk.2 hs
        obtain ⟨d1, hdd⟩ : ∃ d1, d = d1 + 1 := by
          cases d with
          | zero => cases hcl
          | succ d1 => exact ⟨d1, rfl⟩
        have hMt := fun g1 g2 g3 => hK d1 hdd _ _ _ _ _ _ _ hy hcl g1 g2 g3
        rcases hlink with hl | hl
        · exact s_static X hY hy hdd hMt (callD_grow _ _ _ _ _ _ _ _ hcl) hc1 hs1 h8 hn hd hl hst hnp (ih _ _ _ _ _ hcont)
        · exact s_staticN X hY hy hdd hMt (callD_grow _ _ _ _ _ _ _ _ hcl) hc1 hs1 h8 hn hd hl hst hnp (ih _ _ _ _ _ hcont)
      · cases he
theorem bd_invokevirtual (X : CX p R s m args c cc own nL d L base dC dI dA cv adV xs) (so : Nat) {C : Cd} {ini : Bool} {rt : Option FieldType} {raw : Instr} {len : Nat} {ax : Ax} {rcv : Kon} {r' : Option AV} {S' : Sp} {M' : Mm} {st : List AV} (hlk : lk C pc = some ((raw, len), .invokevirtual so, ax)) (he : okEn own ini Ls nL rt (pc, (raw, len), .invokevirtual so, ax) = true) (hd : decode cc pc = .ok (raw, len)) (hY : YY s) (hgr : ∀ (pc : Nat) (ls st : List AV) (S1 : Sp) (M1 : Mm), rcv pc ls st S1 M1 = some (r', S', M') → LE S1 S') (hc : S'.length ≤ R.cells + n0) (hs : slO S' ≤ R.slots + m0) (hK : ∀ d1, d = d1 + 1 → ∀ (y : Nat) (a : List AV) (S : Sp) (M : Mm) (r : Option AV) (S' : Sp) (M' : Mm), y < 404 → callD d y a S M = some (r, S', M') → okS L S → okM xs S M → OKs S a → Mt dC dI dA cv adV base L xs l d1 y a S M r S' M') (ih : ∀ (pc : Nat) (ls st : List AV) (S1 : Sp) (M1 : Mm), rcv pc ls st S1 M1 = some (r', S', M') → WW p l e R s m args below meth c Q nL n0 m0 L base Ls dC dI dA cv xs pc ls st S1 M1) (h : FF (callD d) C rcv pc ls st S M = some (r', S', M')) : WW p l e R s m args below meth c Q nL n0 m0 L base Ls dC dI dA cv xs pc ls st S M := by
      unfold FF at h
      rw [hlk] at h
      dsimp only at h
      unfold okEn at he
      dsimp only at he
      split at he
      · simp only [Bool.and_eq_true, Bool.or_eq_true, decide_eq_true_eq, beq_iff_eq, Bool.not_eq_true'] at he
        obtain ⟨⟨⟨⟨⟨⟨⟨rfl, hcall⟩, hst⟩, hnp⟩, hso⟩, htg⟩, h13⟩, hni⟩ := he
        obtain ⟨hlink, hy⟩ := okCall_of hcall
        split at h
        · next t1 n1 b1 a1 hta =>
          cases hc0 : Nat.beq t1 ax.2.1.1 with
          | false => rw [hc0] at h; cases h
          | true =>
            rw [hc0] at h
            have ht1 := Nat.eq_of_beq_eq_true hc0
            obtain ⟨r1, S1, M1, h8, hn, hcl, hcont⟩ := inv_spec h
            have hgk := hgr _ _ _ _ _ hcont
            have hc1 := Nat.le_trans hgk.1 hc
            have hs1 := Nat.le_trans hgk.2 hs
            obtain ⟨d1, hdd⟩ : ∃ d1, d = d1 + 1 := by
              cases d with
              | zero => cases hcl
              | succ d1 => exact ⟨d1, rfl⟩
            have hMt := fun g1 g2 g3 => hK d1 hdd _ _ _ _ _ _ _ hy hcl g1 g2 g3
            rcases hlink with hl | hl
            · exact s_virtual X hY hy hdd hMt (callD_grow _ _ _ _ _ _ _ _ hcl) hc1 hs1 h8 hn hta hd hl hst hnp (htg.trans ht1.symm) (by rw [ht1]; exact h13) hni (ih _ _ _ _ _ hcont)
            · exact s_virtualN X hY hy hdd hMt (callD_grow _ _ _ _ _ _ _ _ hcl) hc1 hs1 h8 hn hta hd hl hst hnp (htg.trans ht1.symm) (by rw [ht1]; exact h13) hni (ih _ _ _ _ _ hcont)
        · cases h
      · cases he
theorem bd_invokespecial (X : CX p R s m args c cc own nL d L base dC dI dA cv adV xs) (so : Nat) {C : Cd} {ini : Bool} {rt : Option FieldType} {raw : Instr} {len : Nat} {ax : Ax} {rcv : Kon} {r' : Option AV} {S' : Sp} {M' : Mm} {st : List AV} (hlk : lk C pc = some ((raw, len), .invokespecial so, ax)) (he : okEn own ini Ls nL rt (pc, (raw, len), .invokespecial so, ax) = true) (hd : decode cc pc = .ok (raw, len)) (hY : YY s) (hgr : ∀ (pc : Nat) (ls st : List AV) (S1 : Sp) (M1 : Mm), rcv pc ls st S1 M1 = some (r', S', M') → LE S1 S') (hc : S'.length ≤ R.cells + n0) (hs : slO S' ≤ R.slots + m0) (hK : ∀ d1, d = d1 + 1 → ∀ (y : Nat) (a : List AV) (S : Sp) (M : Mm) (r : Option AV) (S' : Sp) (M' : Mm), y < 404 → callD d y a S M = some (r, S', M') → okS L S → okM xs S M → OKs S a → Mt dC dI dA cv adV base L xs l d1 y a S M r S' M') (ih : ∀ (pc : Nat) (ls st : List AV) (S1 : Sp) (M1 : Mm), rcv pc ls st S1 M1 = some (r', S', M') → WW p l e R s m args below meth c Q nL n0 m0 L base Ls dC dI dA cv xs pc ls st S1 M1) (h : FF (callD d) C rcv pc ls st S M = some (r', S', M')) : WW p l e R s m args below meth c Q nL n0 m0 L base Ls dC dI dA cv xs pc ls st S M := by
      unfold FF at h
      rw [hlk] at h
      dsimp only at h
      unfold okEn at he
      dsimp only at he
      split at he
      · simp only [Bool.and_eq_true, Bool.or_eq_true, decide_eq_true_eq, beq_iff_eq, Bool.not_eq_true'] at he
        obtain ⟨⟨⟨⟨⟨⟨rfl, hcall⟩, hst⟩, hnp⟩, rfl⟩, hso⟩, hni⟩ := he
        obtain ⟨hlink, hy⟩ := okCall_of hcall
        split at h
        · next t1 n1 b1 a1 hta =>
          cases hc0 : Nat.beq t1 ax.2.1.1 with
          | false => rw [hc0] at h; cases h
          | true =>
            rw [hc0] at h
            obtain ⟨S1, M1, h8, hn, hcl, hcont⟩ := inv_spec0 h
            have hgk := hgr _ _ _ _ _ hcont
            have hc1 := Nat.le_trans hgk.1 hc
            have hs1 := Nat.le_trans hgk.2 hs
            obtain ⟨d1, hdd⟩ : ∃ d1, d = d1 + 1 := by
              cases d with
              | zero => cases hcl
              | succ d1 => exact ⟨d1, rfl⟩
            have hMt := fun g1 g2 g3 => hK d1 hdd _ _ _ _ _ _ _ hy hcl g1 g2 g3
            rcases hlink with hl | hl
            · exact s_special X hY hy hdd hMt (callD_grow _ _ _ _ _ _ _ _ hcl) hc1 hs1 h8 hn hta hd hl hst hnp hni (sort0 hso) (ih _ _ _ _ _ hcont)
            · exact s_specialN X hY hy hdd hMt (callD_grow _ _ _ _ _ _ _ _ hcl) hc1 hs1 h8 hn hta hd hl hst hnp hni (sort0 hso) (ih _ _ _ _ _ hcont)
        · cases h
      · cases he
theorem bd (X : CX p R s m args c cc own nL d L base dC dI dA cv adV xs) (hY : YY s) {C : Cd} {ini : Bool} {rt : Option FieldType} {raw : Instr} {len : Nat} {ins : Instr} {ax : Ax} {rcv : Kon} {r' : Option AV} {S' : Sp} {M' : Mm} {st : List AV} (hlk : lk C pc = some ((raw, len), ins, ax)) (he : okEn own ini Ls nL rt (pc, (raw, len), ins, ax) = true) (hd : decode cc pc = .ok (raw, len)) (hu : usedOp ins = true) (hini : ini = true → meth.name = "<init>") (hgr : ∀ (pc : Nat) (ls st : List AV) (S1 : Sp) (M1 : Mm), rcv pc ls st S1 M1 = some (r', S', M') → LE S1 S') (hcur : LE S S') (hc : S'.length ≤ R.cells + n0) (hs : slO S' ≤ R.slots + m0) (hMul : ∀ (pc : Nat) (ls r : List AV) (S : Sp) (M : Mm) (t idx : Nat) (k n : Int) (kk : Nat), decode cc pc = .ok (.multianewarray idx 2, 4) → 25 ≤ t ∧ t ≤ 28 → Jvm.Cond.classLink own idx (mlN t) ∈ lw_tbl → k = (kk : Int) → kk = (elT t).2 → 0 ≤ n ∧ n ≤ 100 → LE (S ++ ((t, n.toNat, (List.range n.toNat).map fun j => some (S.length + 1 + j)) :: List.replicate n.toNat ((elT t).1, kk, []))) S' → WW p l e R s m args below meth c Q nL n0 m0 L base Ls dC dI dA cv xs (pc + 4) ls (vR t n S.length :: r) (S ++ ((t, n.toNat, (List.range n.toNat).map fun j => some (S.length + 1 + j)) :: List.replicate n.toNat ((elT t).1, kk, []))) M → WW p l e R s m args below meth c Q nL n0 m0 L base Ls dC dI dA cv xs pc ls (vI k :: vI n :: r) S M) (hSL : ∀ (pc : Nat) (ls r : List AV) (S : Sp) (M : Mm) (idx : Nat) (k : Int) (a : Nat), decode cc pc = .ok (.invokevirtual idx, 3) → Jvm.Cond.methodLink own idx y_len ∈ lw_tbl → Nat.ble (wds r) 8 = true → LE S S' → WW p l e R s m args below meth c Q nL n0 m0 L base Ls dC dI dA cv xs (pc + 3) ls (vI (strL k) :: r) S M → WW p l e R s m args below meth c Q nL n0 m0 L base Ls dC dI dA cv xs pc ls (vR 13 k a :: r) S M) (hSC : ∀ (pc : Nat) (ls r : List AV) (S : Sp) (M : Mm) (idx : Nat) (k i : Int) (a : Nat), decode cc pc = .ok (.invokevirtual idx, 3) → Jvm.Cond.methodLink own idx y_chr ∈ lw_tbl → 0 ≤ i ∧ i < strL k → Nat.ble (wds r) 8 = true → LE S S' → WW p l e R s m args below meth c Q nL n0 m0 L base Ls dC dI dA cv xs (pc + 3) ls (vI (strC k i.toNat) :: r) S M → WW p l e R s m args below meth c Q nL n0 m0 L base Ls dC dI dA cv xs pc ls (vI i :: vR 13 k a :: r) S M) (hK : ∀ d1, d = d1 + 1 → ∀ (y : Nat) (a : List AV) (S : Sp) (M : Mm) (r : Option AV) (S' : Sp) (M' : Mm), y < 404 → callD d y a S M = some (r, S', M') → okS L S → okM xs S M → OKs S a → Mt dC dI dA cv adV base L xs l d1 y a S M r S' M')
    (hEnd : (ins = .ireturn ∨ ins = .lreturn ∨ ins = .return_) → WW p l e R s m args below meth c Q nL n0 m0 L base Ls dC dI dA cv xs pc ls st S M)
    (ih : ∀ (pc : Nat) (ls st : List AV) (S1 : Sp) (M1 : Mm), rcv pc ls st S1 M1 = some (r', S', M') → WW p l e R s m args below meth c Q nL n0 m0 L base Ls dC dI dA cv xs pc ls st S1 M1) (h : FF (callD d) C rcv pc ls st S M = some (r', S', M')) : WW p l e R s m args below meth c Q nL n0 m0 L base Ls dC dI dA cv xs pc ls st S M := by
  cases ins
  case sipush m1 => exact bd_sipush X _ hlk he hd ih h
  case ldc2_w m1 => exact bd_ldc2_w X _ hlk he hd ih h
  case ldc m1 => exact bd_ldc X _ hlk he hd ih h
  case iload k1 => exact bd_iload X _ hlk he hd ih h
  case lload k1 => exact bd_lload X _ hlk he hd ih h
  case aload k1 => exact bd_aload X _ hlk he hd ih h
  case istore k1 => exact bd_istore X _ hlk he hd ih h
  case astore k1 => exact bd_astore X _ hlk he hd ih h
  case lstore k1 => exact bd_lstore X _ hlk he hd ih h
  case iinc k1 n1 => exact bd_iinc X _ _ hlk he hd ih h
  case iadd => exact bd_iadd X  hlk he hd ih h
  case isub => exact bd_isub X  hlk he hd ih h
  case imul => exact bd_imul X  hlk he hd ih h
  case ineg => exact bd_ineg X  hlk he hd ih h
  case iand => exact bd_iand X  hlk he hd ih h
  case ior => exact bd_ior X  hlk he hd ih h
  case ixor => exact bd_ixor X  hlk he hd ih h
  case ishl => exact bd_ishl X  hlk he hd ih h
  case ishr => exact bd_ishr X  hlk he hd ih h
  case iushr => exact bd_iushr X  hlk he hd ih h
  case ladd => exact bd_ladd X  hlk he hd ih h
  case lsub => exact bd_lsub X  hlk he hd ih h
  case lmul => exact bd_lmul X  hlk he hd ih h
  case land => exact bd_land X  hlk he hd ih h
  case lor => exact bd_lor X  hlk he hd ih h
  case lshl => exact bd_lshl X  hlk he hd ih h
  case lcmp => exact bd_lcmp X  hlk he hd ih h
  case i2l => exact bd_i2l X  hlk he hd ih h
  case l2i => exact bd_l2i X  hlk he hd ih h
  case i2b => exact bd_i2b X  hlk he hd ih h
  case i2s => exact bd_i2s X  hlk he hd ih h
  case dup2_x1 => exact bd_dup2_x1 X  hlk he hd ih h
  case idiv => exact bd_idiv X  hlk he hd ih h
  case irem => exact bd_irem X  hlk he hd ih h
  case ldiv => exact bd_ldiv X  hlk he hd ih h
  case lrem => exact bd_lrem X  hlk he hd ih h
  case dup => exact bd_dup X  hlk he hd ih h
  case dup2 => exact bd_dup2 X  hlk he hd ih h
  case pop => exact bd_pop X  hlk he hd ih h
  case iaload => exact bd_iaload X  hlk he hd ih h
  case faload => exact bd_faload X  hlk he hd ih h
  case baload => exact bd_baload X  hlk he hd ih h
  case laload => exact bd_laload X  hlk he hd ih h
  case iastore => exact bd_iastore X  hlk he hd ih h
  case bastore => exact bd_bastore X  hlk he hd ih h
  case lastore => exact bd_lastore X  hlk he hd ih h
  case aaload => exact bd_aaload X  hlk he hd ih h
  case aastore => exact bd_aastore X  hlk he hd ih h
  case arraylength => exact bd_arraylength X  hlk he hd ih h
  case getfield ty => exact bd_getfield X _ hlk he hd ih h
  case putfield ty => exact bd_putfield X _ hlk he hd hini ih h
  case new i1 => exact bd_new X _ hlk he hd hgr hc hs ih h
  case newarray i1 => exact bd_newarray X _ hlk he hd hgr hc hs ih h
  case anewarray i1 => exact bd_anewarray X _ hlk he hd hY hgr hc hs ih h
  case multianewarray i1 i2 => exact bd_multianewarray X _ _ hlk he hd hgr hc hs hMul ih h
  case goto o1 => exact bd_goto X _ hlk he hd ih h
  case ifCond c1 o1 => exact bd_ifCond X _ _ hlk he hd ih h
  case if_icmp c1 o1 => exact bd_if_icmp X _ _ hlk he hd ih h
  case tableswitch d1 lo1 hi1 offs1 => exact bd_tableswitch X _ _ _ _ hlk he hd ih h
  case invokeinterface i1 i2 => exact bd_invokeinterface X _ _ hlk he hd ih h
  case invokedynamic b1 => exact bd_invokedynamic X _ hlk he hd hY hcur hc hs hSL hSC ih h
  case invokestatic so => exact bd_invokestatic X _ hlk he hd hY hgr hc hs hK ih h
  case invokevirtual so => exact bd_invokevirtual X _ hlk he hd hY hgr hc hs hK ih h
  case invokespecial so => exact bd_invokespecial X _ hlk he hd hY hgr hc hs hK ih h
  case ireturn => exact hEnd (Or.inl rfl)
  case lreturn => exact hEnd (Or.inr (Or.inl rfl))
  case return_ => exact hEnd (Or.inr (Or.inr rfl))
  all_goals cases hu
theorem body (X : CX p R s m args c cc own nL d L base dC dI dA cv adV xs) {C : Cd} {ini : Bool} {rt : Option FieldType} {r' : Option AV} {S' : Sp} {M' : Mm} (hY : YY s) (hE : ∀ ch ∈ C, ∀ q ∈ ch, okEn own ini Ls nL rt q = true) (hD : ∀ ch ∈ C, ∀ q ∈ ch, decode cc q.1 = .ok q.2.1) (hU : ∀ ch ∈ C, ∀ q ∈ ch, usedOp q.2.2.1 = true) (hini : ini = true → meth.name = "<init>") (hMul : ∀ (pc : Nat) (ls r : List AV) (S : Sp) (M : Mm) (t idx : Nat) (k n : Int) (kk : Nat), decode cc pc = .ok (.multianewarray idx 2, 4) → 25 ≤ t ∧ t ≤ 28 → Jvm.Cond.classLink own idx (mlN t) ∈ lw_tbl → k = (kk : Int) → kk = (elT t).2 → 0 ≤ n ∧ n ≤ 100 → LE (S ++ ((t, n.toNat, (List.range n.toNat).map fun j => some (S.length + 1 + j)) :: List.replicate n.toNat ((elT t).1, kk, []))) S' → WW p l e R s m args below meth c Q nL n0 m0 L base Ls dC dI dA cv xs (pc + 4) ls (vR t n S.length :: r) (S ++ ((t, n.toNat, (List.range n.toNat).map fun j => some (S.length + 1 + j)) :: List.replicate n.toNat ((elT t).1, kk, []))) M → WW p l e R s m args below meth c Q nL n0 m0 L base Ls dC dI dA cv xs pc ls (vI k :: vI n :: r) S M) (hSL : ∀ (pc : Nat) (ls r : List AV) (S : Sp) (M : Mm) (idx : Nat) (k : Int) (a : Nat), decode cc pc = .ok (.invokevirtual idx, 3) → Jvm.Cond.methodLink own idx y_len ∈ lw_tbl → Nat.ble (wds r) 8 = true → LE S S' → WW p l e R s m args below meth c Q nL n0 m0 L base Ls dC dI dA cv xs (pc + 3) ls (vI (strL k) :: r) S M → WW p l e R s m args below meth c Q nL n0 m0 L base Ls dC dI dA cv xs pc ls (vR 13 k a :: r) S M) (hSC : ∀ (pc : Nat) (ls r : List AV) (S : Sp) (M : Mm) (idx : Nat) (k i : Int) (a : Nat), decode cc pc = .ok (.invokevirtual idx, 3) → Jvm.Cond.methodLink own idx y_chr ∈ lw_tbl → 0 ≤ i ∧ i < strL k → Nat.ble (wds r) 8 = true → LE S S' → WW p l e R s m args below meth c Q nL n0 m0 L base Ls dC dI dA cv xs (pc + 3) ls (vI (strC k i.toNat) :: r) S M → WW p l e R s m args below meth c Q nL n0 m0 L base Ls dC dI dA cv xs pc ls (vI i :: vR 13 k a :: r) S M) (hK : ∀ d1, d = d1 + 1 → ∀ (y : Nat) (a : List AV) (S : Sp) (M : Mm) (r : Option AV) (S' : Sp) (M' : Mm), y < 404 → callD d y a S M = some (r, S', M') → okS L S → okM xs S M → OKs S a → Mt dC dI dA cv adV base L xs l d1 y a S M r S' M')
    (hc : S'.length ≤ R.cells + n0) (hs : slO S' ≤ R.slots + m0)
    (hEnd : ∀ (pc : Nat) (ls st : List AV) (S : Sp) (M : Mm) (q : (Instr × Nat) × Instr × Ax), lk C pc = some q → (q.2.1 = .ireturn ∨ q.2.1 = .lreturn ∨ q.2.1 = .return_) → FF (callD d) C (fun _ _ _ _ _ => none) pc ls st S M = some (r', S', M') → WW p l e R s m args below meth c Q nL n0 m0 L base Ls dC dI dA cv xs pc ls st S M) :
    ∀ (n pc : Nat) (ls st : List AV) (S : Sp) (M : Mm), runN (callD d) C n pc ls st S M = some (r', S', M') → WW p l e R s m args below meth c Q nL n0 m0 L base Ls dC dI dA cv xs pc ls st S M := by
  intro n
  induction n with
  | zero => intro pc ls st S M h; cases h
  | succ n ih =>
    intro pc ls st S M h
    have hcur : LE S S' := runN_grow (callD d) (callD_ext d) C (n + 1) _ _ _ _ _ _ _ _ h
    have hgr : ∀ (pc : Nat) (ls st : List AV) (S1 : Sp) (M1 : Mm), runN (callD d) C n pc ls st S1 M1 = some (r', S', M') → LE S1 S' := fun _ _ _ _ _ h => runN_grow (callD d) (callD_ext d) C n _ _ _ _ _ _ _ _ h
    have h : FF (callD d) C (runN (callD d) C n) pc ls st S M = some (r', S', M') := h
    rcases hlk : lk C pc with _ | ⟨⟨raw, len⟩, ins, ax⟩
    · unfold FF at h
      rw [hlk] at h
      cases h
    obtain ⟨ch, hch, hmem⟩ := lk_mem hlk
    have he := hE ch hch (pc, (raw, len), ins, ax) hmem
    have hd : decode cc pc = .ok (raw, len) := hD ch hch (pc, (raw, len), ins, ax) hmem
    have hu : usedOp ins = true := hU ch hch (pc, (raw, len), ins, ax) hmem
    refine bd X hY hlk he hd hu hini hgr hcur hc hs hMul hSL hSC hK (fun hq => hEnd pc ls st S M _ hlk hq ?_) ih h
    have ha : ∀ rc rc' : Kon, FF (callD d) C rc pc ls st S M = FF (callD d) C rc' pc ls st S M := fun rc rc' => by
      unfold FF
      rw [hlk]
      rcases hq with rfl | rfl | rfl <;> rfl
    rw [ha _ (runN (callD d) C n)]
    exact h
end SND

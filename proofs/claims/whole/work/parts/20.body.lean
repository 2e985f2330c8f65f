/-! THE MACHINE IS SOUND: the body of a method -/
theorem okCall_of {own : String} {i : Nat} {ax : Ax} (h : okCall own i ax = true) : (Jvm.Cond.methodLink own i (yN.getD ax.1.1 y0) ∈ lw_tbl ∨ Jvm.Cond.methodLinkNest own i (yN.getD ax.1.1 y0) "CargoFlag" ∈ lw_tbl) ∧ ax.1.1 < 404 := by
  unfold okCall at h
  rw [Bool.and_eq_true] at h
  refine ⟨?_, by simpa using h.2⟩
  have h1 := h.1
  split at h1
  · exact Or.inl (wAt_mem h1)
  · exact Or.inr (wAt_mem h1)
theorem sort0 {rt : Option FieldType} (h : sortOf rt = 0) : rt = none := by
  unfold sortOf at h
  split at h
  · rfl
  · cases h
  · cases h
theorem inv_spec {K : Cal} {y n so : Nat} {st : List AV} {S : Sp} {M : Mm} {go : List AV → Sp → Mm → Option Rs} {res : Rs} (h : inv K y n so st S M go = some res) : ∃ (r1 : Option AV) (S1 : Sp) (M1 : Mm), Nat.ble (wds (dropA n st)) 8 = true ∧ Nat.ble n (lenA st) = true ∧ K y (takeR n st []) S M = some (r1, S1, M1) ∧ go (r1.toList ++ dropA n st) S1 M1 = some res := by
  unfold inv at h
  cases hc0 : (Nat.ble (wds (dropA n st)) 8 && Nat.ble n (lenA st)) with
  | false => rw [hc0] at h; cases h
  | true =>
    rw [hc0] at h
    rw [Bool.and_eq_true] at hc0
    dsimp only [cond_true] at h
    split at h
    · rcases hq : K y (takeR n st []) S M with _ | ⟨_ | v, S1, M1⟩
      · rw [hq] at h; cases h
      · rw [hq] at h; exact ⟨_, _, _, hc0.1, hc0.2, rfl, h⟩
      · rw [hq] at h; cases h
    · rcases hq : K y (takeR n st []) S M with _ | ⟨_ | (x | v), S1, M1⟩
      · rw [hq] at h; cases h
      · rw [hq] at h; cases h
      · rw [hq] at h; exact ⟨_, _, _, hc0.1, hc0.2, rfl, h⟩
      · rw [hq] at h; cases h
    · rcases hq : K y (takeR n st []) S M with _ | ⟨_ | (x | (x | v)), S1, M1⟩
      · rw [hq] at h; cases h
      · rw [hq] at h; cases h
      · rw [hq] at h; cases h
      · rw [hq] at h; exact ⟨_, _, _, hc0.1, hc0.2, rfl, h⟩
      · rw [hq] at h; cases h
theorem inv_spec0 {K : Cal} {y n : Nat} {st : List AV} {S : Sp} {M : Mm} {go : List AV → Sp → Mm → Option Rs} {res : Rs} (h : inv K y n 0 st S M go = some res) : ∃ (S1 : Sp) (M1 : Mm), Nat.ble (wds (dropA n st)) 8 = true ∧ Nat.ble n (lenA st) = true ∧ K y (takeR n st []) S M = some (none, S1, M1) ∧ go (dropA n st) S1 M1 = some res := by
  unfold inv at h
  cases hc0 : (Nat.ble (wds (dropA n st)) 8 && Nat.ble n (lenA st)) with
  | false => rw [hc0] at h; cases h
  | true =>
    rw [hc0] at h
    rw [Bool.and_eq_true] at hc0
    dsimp only [cond_true] at h
    rcases hq : K y (takeR n st []) S M with _ | ⟨_ | v, S1, M1⟩
    · rw [hq] at h; cases h
    · rw [hq] at h; exact ⟨_, _, hc0.1, hc0.2, rfl, h⟩
    · rw [hq] at h; cases h
section SND
variable {p : Program} {l : Launch} {e : Env} {R : Room} {s : State} {m : MethodId} {args : Array Value} {below : List Frame} {meth : Method} {c : Code} {Q : State → Prop}
variable {cc : ByteArray} {own : String} {nL d n0 m0 L base : Nat} {Ls : List Nat} {dC : Nat → ClassId} {dI : Nat → Nat → Nat} {dA : Nat → ClassId} {cv adV : Nat → Nat} {xs : Nat → Int}
variable {pc : Nat} {ls r : List AV} {S : Sp} {M : Mm}
set_option maxHeartbeats 8000000 in
set_option maxRecDepth 10000 in
theorem body (X : CX p R s m args c cc own nL d L base dC dI dA cv adV xs) {C : Cd} {ini : Bool} {rt : Option FieldType} {r' : Option AV} {S' : Sp} {M' : Mm} (hY : YY s) (hE : ∀ ch ∈ C, ∀ q ∈ ch, okEn own ini Ls nL rt q = true) (hD : ∀ ch ∈ C, ∀ q ∈ ch, decode cc q.1 = .ok q.2.1) (hini : ini = true → meth.name = "<init>")
    (hAC : Jvm.Cond.arrayClass .int ∈ lw_tbl ∧ Jvm.Cond.arrayClass .long ∈ lw_tbl ∧ Jvm.Cond.arrayClass .byte ∈ lw_tbl ∧ True) (hOI : Jvm.Cond.instanceMethod objectInit ∈ lw_tbl ∧ Jvm.Cond.code objectInit ⟨#[0xb1]⟩ 1 none ∈ lw_tbl)
    (hAY : Jvm.Cond.native arraycopyName ∈ lw_tbl ∧ Jvm.Cond.static arraycopyName ∈ lw_tbl ∧ Jvm.Cond.initialized "java/lang/System" ∈ lw_tbl)
    (hMm : Jvm.Cond.static Lib.Math.max.name ∈ lw_tbl ∧ Jvm.Cond.initialized "java/lang/Math" ∈ lw_tbl ∧ Jvm.Cond.code Lib.Math.max.name Lib.Math.max.code 2 (some .int) ∈ lw_tbl ∧ Jvm.Cond.static Lib.Math.min.name ∈ lw_tbl ∧ Jvm.Cond.code Lib.Math.min.name Lib.Math.min.code 2 (some .int) ∈ lw_tbl)
    (hMul : ∀ (pc : Nat) (ls r : List AV) (S : Sp) (M : Mm) (t idx : Nat) (k n : Int) (kk : Nat), decode cc pc = .ok (.multianewarray idx 2, 4) → 25 ≤ t ∧ t ≤ 28 → Jvm.Cond.classLink own idx (mlN t) ∈ lw_tbl → k = (kk : Int) → kk = (elT t).2 → 0 ≤ n ∧ n ≤ 100 → LE (S ++ ((t, n.toNat, (List.range n.toNat).map fun j => some (S.length + 1 + j)) :: List.replicate n.toNat ((elT t).1, kk, []))) S' → WW p l e R s m args below meth c Q nL n0 m0 L base Ls dC dI dA cv xs (pc + 4) ls (vR t n S.length :: r) (S ++ ((t, n.toNat, (List.range n.toNat).map fun j => some (S.length + 1 + j)) :: List.replicate n.toNat ((elT t).1, kk, []))) M → WW p l e R s m args below meth c Q nL n0 m0 L base Ls dC dI dA cv xs pc ls (vI k :: vI n :: r) S M)
    (hSL : ∀ (pc : Nat) (ls r : List AV) (S : Sp) (M : Mm) (idx : Nat) (k : Int) (a : Nat), decode cc pc = .ok (.invokevirtual idx, 3) → Jvm.Cond.methodLink own idx y_len ∈ lw_tbl → Nat.ble (wds r) 8 = true → LE S S' → WW p l e R s m args below meth c Q nL n0 m0 L base Ls dC dI dA cv xs (pc + 3) ls (vI (strL k) :: r) S M → WW p l e R s m args below meth c Q nL n0 m0 L base Ls dC dI dA cv xs pc ls (vR 13 k a :: r) S M)
    (hSC : ∀ (pc : Nat) (ls r : List AV) (S : Sp) (M : Mm) (idx : Nat) (k i : Int) (a : Nat), decode cc pc = .ok (.invokevirtual idx, 3) → Jvm.Cond.methodLink own idx y_chr ∈ lw_tbl → 0 ≤ i ∧ i < strL k → Nat.ble (wds r) 8 = true → LE S S' → WW p l e R s m args below meth c Q nL n0 m0 L base Ls dC dI dA cv xs (pc + 3) ls (vI (strC k i.toNat) :: r) S M → WW p l e R s m args below meth c Q nL n0 m0 L base Ls dC dI dA cv xs pc ls (vI i :: vR 13 k a :: r) S M)
    (hK : ∀ d1, d = d1 + 1 → ∀ (y : Nat) (a : List AV) (S : Sp) (M : Mm) (r : Option AV) (S' : Sp) (M' : Mm), y < 404 → callD d y a S M = some (r, S', M') → okS L S → okM xs S M → OKs S a → Mt dC dI dA cv adV base L xs l d1 y a S M r S' M')
    (hc : S'.length ≤ R.cells + n0) (hs : slO S' ≤ R.slots + m0)
    (hEnd : ∀ (pc : Nat) (ls st : List AV) (S : Sp) (M : Mm) (q : (Instr × Nat) × Instr × Ax), lk C pc = some q → (q.2.1 = .ireturn ∨ q.2.1 = .lreturn ∨ q.2.1 = .return_) → FF (callD d) C (fun _ _ _ _ _ => none) pc ls st S M = some (r', S', M') → WW p l e R s m args below meth c Q nL n0 m0 L base Ls dC dI dA cv xs pc ls st S M) :
    ∀ (n pc : Nat) (ls st : List AV) (S : Sp) (M : Mm), runN (callD d) C n pc ls st S M = some (r', S', M') → WW p l e R s m args below meth c Q nL n0 m0 L base Ls dC dI dA cv xs pc ls st S M := by
  intro n
  induction n with
  | zero => intro pc ls st S M h; cases h
  | succ n ih =>
    intro pc ls st S M h
    have hcur : LE S S' := runN_grow (callD d) (callD_ext d) C (n + 1) _ _ _ _ _ _ _ _ h
    have hgr : ∀ (pc : Nat) (ls st : List AV) (S1 : Sp) (M1 : Mm), runN (callD d) C n pc ls st S1 M1 = some (r', S', M') → LE S1 S' := fun _ _ _ _ _ h => runN_grow (callD d) (callD_ext d) C n _ _ _ _ _ _ _ _ h
    have h : FF (callD d) C (runN (callD d) C n) pc ls st S M = some (r', S', M') := h
    rcases hlk : lk C pc with _ | ⟨⟨raw, len⟩, ins, ax⟩
    · unfold FF at h
      rw [hlk] at h
      cases h
    obtain ⟨ch, hch, hmem⟩ := lk_mem hlk
    have he := hE ch hch (pc, (raw, len), ins, ax) hmem
    have hd : decode cc pc = .ok (raw, len) := hD ch hch (pc, (raw, len), ins, ax) hmem
    unfold FF at h
    rw [hlk] at h
    dsimp only at h
    cases ins
    case sipush m1 =>
      dsimp only at h
      unfold okEn at he
      dsimp only at he
      split at he
      · simp only [Bool.and_eq_true, Bool.or_eq_true, decide_eq_true_eq, beq_iff_eq, Bool.not_eq_true'] at he
        obtain ⟨⟨rfl, rfl⟩, h2⟩ := he
        exact s_iconst X hd h2 (ih _ _ _ _ _ h)
      · simp only [Bool.and_eq_true, Bool.or_eq_true, decide_eq_true_eq, beq_iff_eq, Bool.not_eq_true'] at he
        obtain ⟨⟨rfl, rfl⟩, h2⟩ := he
        exact s_bipush X hd h2 (ih _ _ _ _ _ h)
      · simp only [Bool.and_eq_true, Bool.or_eq_true, decide_eq_true_eq, beq_iff_eq, Bool.not_eq_true'] at he
        obtain ⟨⟨rfl, rfl⟩, h2⟩ := he
        exact s_sipush X hd h2 (ih _ _ _ _ _ h)
      · simp only [Bool.and_eq_true, Bool.or_eq_true, decide_eq_true_eq, beq_iff_eq, Bool.not_eq_true'] at he
        obtain ⟨⟨rfl, h1⟩, h2⟩ := he
        exact s_ldc X hd (wAt_mem h1) h2 (ih _ _ _ _ _ h)
      · simp only [Bool.and_eq_true, Bool.or_eq_true, decide_eq_true_eq, beq_iff_eq, Bool.not_eq_true'] at he
        obtain ⟨⟨rfl, h1⟩, h2⟩ := he
        exact s_ldcw X hd (wAt_mem h1) h2 (ih _ _ _ _ _ h)
      · cases he
    case ldc2_w m1 =>
      dsimp only at h
      unfold okEn at he
      dsimp only at he
      split at he
      · simp only [Bool.and_eq_true, Bool.or_eq_true, decide_eq_true_eq, beq_iff_eq, Bool.not_eq_true'] at he
        obtain ⟨rfl, h2⟩ := he
        exact s_lconst X hd h2 (ih _ _ _ _ _ h)
      · simp only [Bool.and_eq_true, Bool.or_eq_true, decide_eq_true_eq, beq_iff_eq, Bool.not_eq_true'] at he
        obtain ⟨⟨rfl, h1⟩, h2⟩ := he
        exact s_ldc2 X hd (wAt_mem h1) h2 (ih _ _ _ _ _ h)
      · cases he
    case ldc m1 =>
      dsimp only at h
      unfold okEn at he
      dsimp only at he
      simp only [Bool.and_eq_true, Bool.or_eq_true, decide_eq_true_eq, beq_iff_eq, Bool.not_eq_true'] at he
      obtain ⟨⟨rfl, rfl⟩, h2⟩ := he
      refine s_ldcS X hd ?_ (ih _ _ _ _ _ h)
      rcases h2 with ⟨⟨⟨a1, a2⟩, a3⟩, a4⟩ | ⟨⟨⟨a1, a2⟩, a3⟩, a4⟩
      · exact Or.inl ⟨a1, a2, a3, a4⟩
      · exact Or.inr ⟨a1, a2, a3, a4⟩
    case iload k1 =>
      dsimp only at h
      unfold okEn at he
      dsimp only at he
      split at h
      · next hv =>
        split at he
        · simp only [Bool.and_eq_true, Bool.or_eq_true, decide_eq_true_eq, beq_iff_eq, Bool.not_eq_true'] at he
          obtain ⟨rfl, rfl⟩ := he
          exact s_iload X hd hv (ih _ _ _ _ _ h)
        · simp only [Bool.and_eq_true, Bool.or_eq_true, decide_eq_true_eq, beq_iff_eq, Bool.not_eq_true'] at he
          obtain ⟨rfl, h2⟩ := he
          exact s_iload_n X hd h2 hv (ih _ _ _ _ _ h)
        · cases he
      · cases h
    case lload k1 =>
      dsimp only at h
      unfold okEn at he
      dsimp only at he
      split at h
      · next hv =>
        split at he
        · simp only [Bool.and_eq_true, Bool.or_eq_true, decide_eq_true_eq, beq_iff_eq, Bool.not_eq_true'] at he
          obtain ⟨rfl, rfl⟩ := he
          exact s_lload X hd hv (ih _ _ _ _ _ h)
        · simp only [Bool.and_eq_true, Bool.or_eq_true, decide_eq_true_eq, beq_iff_eq, Bool.not_eq_true'] at he
          obtain ⟨rfl, h2⟩ := he
          exact s_lload_n X hd h2 hv (ih _ _ _ _ _ h)
        · cases he
      · cases h
    case aload k1 =>
      dsimp only at h
      unfold okEn at he
      dsimp only at he
      split at h
      · next hv =>
        split at he
        · simp only [Bool.and_eq_true, Bool.or_eq_true, decide_eq_true_eq, beq_iff_eq, Bool.not_eq_true'] at he
          obtain ⟨rfl, rfl⟩ := he
          exact s_aload X hd hv (ih _ _ _ _ _ h)
        · simp only [Bool.and_eq_true, Bool.or_eq_true, decide_eq_true_eq, beq_iff_eq, Bool.not_eq_true'] at he
          obtain ⟨rfl, h2⟩ := he
          exact s_aload_n X hd h2 hv (ih _ _ _ _ _ h)
        · cases he
      · cases h
    case istore k1 =>
      dsimp only at h
      unfold okEn at he
      dsimp only at he
      split at h
      · simp only [Bool.and_eq_true, Bool.or_eq_true, decide_eq_true_eq, beq_iff_eq, Bool.not_eq_true'] at he
        obtain ⟨⟨g1, g2⟩, g3⟩ := he
        split at g3
        · simp only [Bool.and_eq_true, beq_iff_eq] at g3
          obtain ⟨rfl, rfl⟩ := g3
          exact s_istore X hd g1 g2 (ih _ _ _ _ _ h)
        · simp only [Bool.and_eq_true, beq_iff_eq] at g3
          obtain ⟨rfl, h2⟩ := g3
          exact s_istore_n X hd h2 g1 g2 (ih _ _ _ _ _ h)
        · cases g3
      · cases h
    case astore k1 =>
      dsimp only at h
      unfold okEn at he
      dsimp only at he
      split at h
      · simp only [Bool.and_eq_true, Bool.or_eq_true, decide_eq_true_eq, beq_iff_eq, Bool.not_eq_true'] at he
        obtain ⟨⟨g1, g2⟩, g3⟩ := he
        split at g3
        · simp only [Bool.and_eq_true, beq_iff_eq] at g3
          obtain ⟨rfl, rfl⟩ := g3
          exact s_astore X hd g1 g2 (ih _ _ _ _ _ h)
        · simp only [Bool.and_eq_true, beq_iff_eq] at g3
          obtain ⟨rfl, h2⟩ := g3
          exact s_astore_n X hd h2 g1 g2 (ih _ _ _ _ _ h)
        · cases g3
      · cases h
    case lstore k1 =>
      dsimp only at h
      unfold okEn at he
      dsimp only at he
      split at h
      · simp only [Bool.and_eq_true, Bool.or_eq_true, decide_eq_true_eq, beq_iff_eq, Bool.not_eq_true'] at he
        obtain ⟨⟨⟨g1, g0⟩, g2⟩, g3⟩ := he
        split at g3
        · simp only [Bool.and_eq_true, beq_iff_eq] at g3
          obtain ⟨rfl, rfl⟩ := g3
          exact s_lstore X hd g1 g0 g2 (ih _ _ _ _ _ h)
        · simp only [Bool.and_eq_true, beq_iff_eq] at g3
          obtain ⟨rfl, h2⟩ := g3
          exact s_lstore_n X hd h2 g1 g0 g2 (ih _ _ _ _ _ h)
        · cases g3
      · cases h
    case iinc k1 n1 =>
      dsimp only at h
      unfold okEn at he
      dsimp only at he
      split at h
      · next hv =>
        simp only [Bool.and_eq_true, Bool.or_eq_true, decide_eq_true_eq, beq_iff_eq, Bool.not_eq_true'] at he
        obtain ⟨⟨g1, rfl⟩, rfl⟩ := he
        exact s_iinc X hd g1 hv (ih _ _ _ _ _ h)
      · cases h
    case iadd =>
      dsimp only at h
      unfold okEn at he
      dsimp only at he
      split at h
      · simp only [Bool.and_eq_true, Bool.or_eq_true, decide_eq_true_eq, beq_iff_eq, Bool.not_eq_true'] at he
        obtain ⟨rfl, rfl⟩ := he
        exact s_iadd X hd (ih _ _ _ _ _ h)
      · cases h
    case isub =>
      dsimp only at h
      unfold okEn at he
      dsimp only at he
      split at h
      · simp only [Bool.and_eq_true, Bool.or_eq_true, decide_eq_true_eq, beq_iff_eq, Bool.not_eq_true'] at he
        obtain ⟨rfl, rfl⟩ := he
        exact s_isub X hd (ih _ _ _ _ _ h)
      · cases h
    case imul =>
      dsimp only at h
      unfold okEn at he
      dsimp only at he
      split at h
      · simp only [Bool.and_eq_true, Bool.or_eq_true, decide_eq_true_eq, beq_iff_eq, Bool.not_eq_true'] at he
        obtain ⟨rfl, rfl⟩ := he
        exact s_imul X hd (ih _ _ _ _ _ h)
      · cases h
    case ineg =>
      dsimp only at h
      unfold okEn at he
      dsimp only at he
      split at h
      · simp only [Bool.and_eq_true, Bool.or_eq_true, decide_eq_true_eq, beq_iff_eq, Bool.not_eq_true'] at he
        obtain ⟨rfl, rfl⟩ := he
        exact s_ineg X hd (ih _ _ _ _ _ h)
      · cases h
    case iand =>
      dsimp only at h
      unfold okEn at he
      dsimp only at he
      split at h
      · simp only [Bool.and_eq_true, Bool.or_eq_true, decide_eq_true_eq, beq_iff_eq, Bool.not_eq_true'] at he
        obtain ⟨rfl, rfl⟩ := he
        exact s_iand X hd (ih _ _ _ _ _ h)
      · cases h
    case ior =>
      dsimp only at h
      unfold okEn at he
      dsimp only at he
      split at h
      · simp only [Bool.and_eq_true, Bool.or_eq_true, decide_eq_true_eq, beq_iff_eq, Bool.not_eq_true'] at he
        obtain ⟨rfl, rfl⟩ := he
        exact s_ior X hd (ih _ _ _ _ _ h)
      · cases h
    case ixor =>
      dsimp only at h
      unfold okEn at he
      dsimp only at he
      split at h
      · simp only [Bool.and_eq_true, Bool.or_eq_true, decide_eq_true_eq, beq_iff_eq, Bool.not_eq_true'] at he
        obtain ⟨rfl, rfl⟩ := he
        exact s_ixor X hd (ih _ _ _ _ _ h)
      · cases h
    case ishl =>
      dsimp only at h
      unfold okEn at he
      dsimp only at he
      split at h
      · simp only [Bool.and_eq_true, Bool.or_eq_true, decide_eq_true_eq, beq_iff_eq, Bool.not_eq_true'] at he
        obtain ⟨rfl, rfl⟩ := he
        exact s_ishl X hd (ih _ _ _ _ _ h)
      · cases h
    case ishr =>
      dsimp only at h
      unfold okEn at he
      dsimp only at he
      split at h
      · simp only [Bool.and_eq_true, Bool.or_eq_true, decide_eq_true_eq, beq_iff_eq, Bool.not_eq_true'] at he
        obtain ⟨rfl, rfl⟩ := he
        exact s_ishr X hd (ih _ _ _ _ _ h)
      · cases h
    case iushr =>
      dsimp only at h
      unfold okEn at he
      dsimp only at he
      split at h
      · simp only [Bool.and_eq_true, Bool.or_eq_true, decide_eq_true_eq, beq_iff_eq, Bool.not_eq_true'] at he
        obtain ⟨rfl, rfl⟩ := he
        exact s_iushr X hd (ih _ _ _ _ _ h)
      · cases h
    case ladd =>
      dsimp only at h
      unfold okEn at he
      dsimp only at he
      split at h
      · simp only [Bool.and_eq_true, Bool.or_eq_true, decide_eq_true_eq, beq_iff_eq, Bool.not_eq_true'] at he
        obtain ⟨rfl, rfl⟩ := he
        exact s_ladd X hd (ih _ _ _ _ _ h)
      · cases h
    case lsub =>
      dsimp only at h
      unfold okEn at he
      dsimp only at he
      split at h
      · simp only [Bool.and_eq_true, Bool.or_eq_true, decide_eq_true_eq, beq_iff_eq, Bool.not_eq_true'] at he
        obtain ⟨rfl, rfl⟩ := he
        exact s_lsub X hd (ih _ _ _ _ _ h)
      · cases h
    case lmul =>
      dsimp only at h
      unfold okEn at he
      dsimp only at he
      split at h
      · simp only [Bool.and_eq_true, Bool.or_eq_true, decide_eq_true_eq, beq_iff_eq, Bool.not_eq_true'] at he
        obtain ⟨rfl, rfl⟩ := he
        exact s_lmul X hd (ih _ _ _ _ _ h)
      · cases h
    case land =>
      dsimp only at h
      unfold okEn at he
      dsimp only at he
      split at h
      · simp only [Bool.and_eq_true, Bool.or_eq_true, decide_eq_true_eq, beq_iff_eq, Bool.not_eq_true'] at he
        obtain ⟨rfl, rfl⟩ := he
        exact s_land X hd (ih _ _ _ _ _ h)
      · cases h
    case lor =>
      dsimp only at h
      unfold okEn at he
      dsimp only at he
      split at h
      · simp only [Bool.and_eq_true, Bool.or_eq_true, decide_eq_true_eq, beq_iff_eq, Bool.not_eq_true'] at he
        obtain ⟨rfl, rfl⟩ := he
        exact s_lor X hd (ih _ _ _ _ _ h)
      · cases h
    case lshl =>
      dsimp only at h
      unfold okEn at he
      dsimp only at he
      split at h
      · simp only [Bool.and_eq_true, Bool.or_eq_true, decide_eq_true_eq, beq_iff_eq, Bool.not_eq_true'] at he
        obtain ⟨rfl, rfl⟩ := he
        exact s_lshl X hd (ih _ _ _ _ _ h)
      · cases h
    case lcmp =>
      dsimp only at h
      unfold okEn at he
      dsimp only at he
      split at h
      · simp only [Bool.and_eq_true, Bool.or_eq_true, decide_eq_true_eq, beq_iff_eq, Bool.not_eq_true'] at he
        obtain ⟨rfl, rfl⟩ := he
        exact s_lcmp X hd (ih _ _ _ _ _ h)
      · cases h
    case i2l =>
      dsimp only at h
      unfold okEn at he
      dsimp only at he
      split at h
      · simp only [Bool.and_eq_true, Bool.or_eq_true, decide_eq_true_eq, beq_iff_eq, Bool.not_eq_true'] at he
        obtain ⟨rfl, rfl⟩ := he
        exact s_i2l X hd (ih _ _ _ _ _ h)
      · cases h
    case l2i =>
      dsimp only at h
      unfold okEn at he
      dsimp only at he
      split at h
      · simp only [Bool.and_eq_true, Bool.or_eq_true, decide_eq_true_eq, beq_iff_eq, Bool.not_eq_true'] at he
        obtain ⟨rfl, rfl⟩ := he
        exact s_l2i X hd (ih _ _ _ _ _ h)
      · cases h
    case i2b =>
      dsimp only at h
      unfold okEn at he
      dsimp only at he
      split at h
      · simp only [Bool.and_eq_true, Bool.or_eq_true, decide_eq_true_eq, beq_iff_eq, Bool.not_eq_true'] at he
        obtain ⟨rfl, rfl⟩ := he
        exact s_i2b X hd (ih _ _ _ _ _ h)
      · cases h
    case i2s =>
      dsimp only at h
      unfold okEn at he
      dsimp only at he
      split at h
      · simp only [Bool.and_eq_true, Bool.or_eq_true, decide_eq_true_eq, beq_iff_eq, Bool.not_eq_true'] at he
        obtain ⟨rfl, rfl⟩ := he
        exact s_i2s X hd (ih _ _ _ _ _ h)
      · cases h
    case dup2_x1 =>
      dsimp only at h
      unfold okEn at he
      dsimp only at he
      split at h
      · simp only [Bool.and_eq_true, Bool.or_eq_true, decide_eq_true_eq, beq_iff_eq, Bool.not_eq_true'] at he
        obtain ⟨rfl, rfl⟩ := he
        exact s_dup2l X hd (ih _ _ _ _ _ h)
      · cases h
    case idiv =>
      dsimp only at h
      unfold okEn at he
      dsimp only at he
      split at h
      · simp only [Bool.and_eq_true, Bool.or_eq_true, decide_eq_true_eq, beq_iff_eq, Bool.not_eq_true'] at he
        obtain ⟨rfl, rfl⟩ := he
        split at h
        · cases h
        · next hy => exact s_idiv X hd hy (ih _ _ _ _ _ h)
      · cases h
    case irem =>
      dsimp only at h
      unfold okEn at he
      dsimp only at he
      split at h
      · simp only [Bool.and_eq_true, Bool.or_eq_true, decide_eq_true_eq, beq_iff_eq, Bool.not_eq_true'] at he
        obtain ⟨rfl, rfl⟩ := he
        split at h
        · cases h
        · next hy => exact s_irem X hd hy (ih _ _ _ _ _ h)
      · cases h
    case ldiv =>
      dsimp only at h
      unfold okEn at he
      dsimp only at he
      split at h
      · simp only [Bool.and_eq_true, Bool.or_eq_true, decide_eq_true_eq, beq_iff_eq, Bool.not_eq_true'] at he
        obtain ⟨rfl, rfl⟩ := he
        split at h
        · cases h
        · next hy => exact s_ldiv X hd hy (ih _ _ _ _ _ h)
      · cases h
    case lrem =>
      dsimp only at h
      unfold okEn at he
      dsimp only at he
      split at h
      · simp only [Bool.and_eq_true, Bool.or_eq_true, decide_eq_true_eq, beq_iff_eq, Bool.not_eq_true'] at he
        obtain ⟨rfl, rfl⟩ := he
        split at h
        · cases h
        · next hy => exact s_lrem X hd hy (ih _ _ _ _ _ h)
      · cases h
    case dup =>
      dsimp only at h
      unfold okEn at he
      dsimp only at he
      split at h
      · simp only [Bool.and_eq_true, Bool.or_eq_true, decide_eq_true_eq, beq_iff_eq, Bool.not_eq_true'] at he
        obtain ⟨rfl, rfl⟩ := he
        cases hc0 : Nat.beq (wds [_]) 1 with
        | false => rw [hc0] at h; cases h
        | true => rw [hc0] at h; exact s_dup X hd hc0 (ih _ _ _ _ _ h)
      · cases h
    case dup2 =>
      dsimp only at h
      unfold okEn at he
      dsimp only at he
      split at h
      · simp only [Bool.and_eq_true, Bool.or_eq_true, decide_eq_true_eq, beq_iff_eq, Bool.not_eq_true'] at he
        obtain ⟨rfl, rfl⟩ := he
        cases hc0 : Nat.beq (wds [_, _]) 2 with
        | false => rw [hc0] at h; cases h
        | true => rw [hc0] at h; exact s_dup2 X hd hc0 (ih _ _ _ _ _ h)
      · cases h
    case pop =>
      dsimp only at h
      unfold okEn at he
      dsimp only at he
      split at h
      · simp only [Bool.and_eq_true, Bool.or_eq_true, decide_eq_true_eq, beq_iff_eq, Bool.not_eq_true'] at he
        obtain ⟨rfl, rfl⟩ := he
        cases hc0 : Nat.beq (wds [_]) 1 with
        | false => rw [hc0] at h; cases h
        | true => rw [hc0] at h; exact s_pop X hd hc0 (ih _ _ _ _ _ h)
      · cases h
    case iaload =>
      dsimp only at h
      unfold okEn at he
      dsimp only at he
      split at h
      · next i t n a r =>
        simp only [Bool.and_eq_true, Bool.or_eq_true, decide_eq_true_eq, beq_iff_eq, Bool.not_eq_true'] at he
        obtain ⟨rfl, rfl⟩ := he
        cases hc0 : Nat.beq t 20 with
        | false => rw [hc0] at h; cases h
        | true =>
          rw [hc0] at h
          dsimp only [cond_true] at h
          have ht := Nat.eq_of_beq_eq_true hc0
          subst ht
          split at h
          · next hi => exact s_iaload X hd hi (ih _ _ _ _ _ h)
          · cases h
      · cases h
    case faload =>
      dsimp only at h
      unfold okEn at he
      dsimp only at he
      split at h
      · next i t n a r =>
        simp only [Bool.and_eq_true, Bool.or_eq_true, decide_eq_true_eq, beq_iff_eq, Bool.not_eq_true'] at he
        obtain ⟨rfl, rfl⟩ := he
        cases hc0 : Nat.beq t 29 with
        | false => rw [hc0] at h; cases h
        | true =>
          rw [hc0] at h
          dsimp only [cond_true] at h
          have ht := Nat.eq_of_beq_eq_true hc0
          subst ht
          split at h
          · next hi => exact s_scr X hd hi (ih _ _ _ _ _ h)
          · cases h
      · cases h
    case baload =>
      dsimp only at h
      unfold okEn at he
      dsimp only at he
      split at h
      · next i t n a r =>
        simp only [Bool.and_eq_true, Bool.or_eq_true, decide_eq_true_eq, beq_iff_eq, Bool.not_eq_true'] at he
        obtain ⟨rfl, rfl⟩ := he
        cases hc0 : Nat.beq t 22 with
        | false => rw [hc0] at h; cases h
        | true =>
          rw [hc0] at h
          dsimp only [cond_true] at h
          have ht := Nat.eq_of_beq_eq_true hc0
          subst ht
          split at h
          · next hi => exact s_baload X hd hi (ih _ _ _ _ _ h)
          · cases h
      · cases h
    case laload =>
      dsimp only at h
      unfold okEn at he
      dsimp only at he
      split at h
      · next i t n a r =>
        simp only [Bool.and_eq_true, Bool.or_eq_true, decide_eq_true_eq, beq_iff_eq, Bool.not_eq_true'] at he
        obtain ⟨rfl, rfl⟩ := he
        cases hc0 : Nat.beq t 21 with
        | false => rw [hc0] at h; cases h
        | true =>
          rw [hc0] at h
          dsimp only [cond_true] at h
          have ht := Nat.eq_of_beq_eq_true hc0
          subst ht
          split at h
          · next hi => exact s_laload X hd hi (ih _ _ _ _ _ h)
          · cases h
      · cases h
    case iastore =>
      dsimp only at h
      unfold okEn at he
      dsimp only at he
      split at h
      · next x i t n a r =>
        simp only [Bool.and_eq_true, Bool.or_eq_true, decide_eq_true_eq, beq_iff_eq, Bool.not_eq_true'] at he
        obtain ⟨rfl, rfl⟩ := he
        cases hc0 : Nat.beq t 20 with
        | false => rw [hc0] at h; cases h
        | true =>
          rw [hc0] at h
          dsimp only [cond_true] at h
          have ht := Nat.eq_of_beq_eq_true hc0
          subst ht
          split at h
          · next hi => exact s_iastore X hd hi (ih _ _ _ _ _ h)
          · cases h
      · cases h
    case bastore =>
      dsimp only at h
      unfold okEn at he
      dsimp only at he
      split at h
      · next x i t n a r =>
        simp only [Bool.and_eq_true, Bool.or_eq_true, decide_eq_true_eq, beq_iff_eq, Bool.not_eq_true'] at he
        obtain ⟨rfl, rfl⟩ := he
        cases hc0 : Nat.beq t 22 with
        | false => rw [hc0] at h; cases h
        | true =>
          rw [hc0] at h
          dsimp only [cond_true] at h
          have ht := Nat.eq_of_beq_eq_true hc0
          subst ht
          split at h
          · next hi => exact s_bastore X hd hi (ih _ _ _ _ _ h)
          · cases h
      · cases h
    case lastore =>
      dsimp only at h
      unfold okEn at he
      dsimp only at he
      split at h
      · next x i t n a r =>
        simp only [Bool.and_eq_true, Bool.or_eq_true, decide_eq_true_eq, beq_iff_eq, Bool.not_eq_true'] at he
        obtain ⟨rfl, rfl⟩ := he
        cases hc0 : Nat.beq t 21 with
        | false => rw [hc0] at h; cases h
        | true =>
          rw [hc0] at h
          dsimp only [cond_true] at h
          have ht := Nat.eq_of_beq_eq_true hc0
          subst ht
          split at h
          · next hi => exact s_lastore X hd hi (ih _ _ _ _ _ h)
          · cases h
      · cases h
    case aaload =>
      dsimp only at h
      unfold okEn at he
      dsimp only at he
      split at h
      · next i t n a r =>
        simp only [Bool.and_eq_true, Bool.or_eq_true, decide_eq_true_eq, beq_iff_eq, Bool.not_eq_true'] at he
        obtain ⟨⟨⟨rfl, rfl⟩, ht⟩, hx⟩ := he
        cases hc0 : Nat.beq t ax.1.1 with
        | false => rw [hc0] at h; cases h
        | true =>
          rw [hc0] at h
          dsimp only [cond_true] at h
          have ht1 := Nat.eq_of_beq_eq_true hc0
          rw [← ht1] at ht hx
          split at h
          · next hi =>
            rcases hb : refOf S a i.toNat with _ | b
            · rw [hb] at h; cases h
            · rw [hb, bR_some, hx] at h
              exact s_aaload X hd ht hi hb (ih _ _ _ _ _ h)
          · cases h
      · cases h
    case aastore =>
      dsimp only at h
      unfold okEn at he
      dsimp only at he
      split at h
      · next t' n' b i t n a r =>
        simp only [Bool.and_eq_true, Bool.or_eq_true, decide_eq_true_eq, beq_iff_eq, Bool.not_eq_true'] at he
        obtain ⟨⟨⟨rfl, rfl⟩, ht⟩, hx⟩ := he
        cases hc0 : (Nat.beq t ax.1.1 && Nat.beq t' ax.2.1.1) with
        | false => rw [hc0] at h; cases h
        | true =>
          rw [hc0] at h
          dsimp only [cond_true] at h
          rw [Bool.and_eq_true] at hc0
          have ht1 := Nat.eq_of_beq_eq_true hc0.1
          have ht2 := Nat.eq_of_beq_eq_true hc0.2
          rw [← ht1] at ht hx
          rw [hx] at ht2
          split at h
          · next hi => exact s_aastore X hd ht hi ht2 (ih _ _ _ _ _ h)
          · cases h
      · cases h
    case arraylength =>
      dsimp only at h
      unfold okEn at he
      dsimp only at he
      split at h
      · next t n a r =>
        simp only [Bool.and_eq_true, Bool.or_eq_true, decide_eq_true_eq, beq_iff_eq, Bool.not_eq_true'] at he
        obtain ⟨rfl, rfl⟩ := he
        cases hc0 : Nat.blt 19 t with
        | false => rw [hc0] at h; cases h
        | true =>
          rw [hc0] at h
          dsimp only [cond_true] at h
          exact s_alen X hd hc0 (ih _ _ _ _ _ h)
      · cases h
    case getfield ty =>
      dsimp only at h
      unfold okEn at he
      dsimp only at he
      split at he
      · simp only [Bool.and_eq_true, Bool.or_eq_true, decide_eq_true_eq, beq_iff_eq, Bool.not_eq_true'] at he
        obtain ⟨⟨⟨⟨rfl, h13⟩, hkn⟩, hw⟩, hty⟩ := he
        split at h
        · next t n a r =>
          cases hc0 : Nat.beq t ax.1.1 with
          | false => rw [hc0] at h; cases h
          | true =>
            rw [hc0] at h
            dsimp only [cond_true] at h
            have ht1 := Nat.eq_of_beq_eq_true hc0
            subst ht1
            split at h
            · exact s_getI X hd h13 hkn (wAt_mem hw) (of_decide_eq_true hty) (ih _ _ _ _ _ h)
            · exact s_getL X hd h13 hkn (wAt_mem hw) (of_decide_eq_true hty) (ih _ _ _ _ _ h)
            · next hq1 hq2 =>
              have hty : nthN (fK.getD ax.1.1 []) ax.1.2.1 = 2 ∧ ax.2.1 = (fR.getD ax.1.1 []).getD ax.1.2.1 (0, 0) := by
                split at hty
                · exact absurd rfl hq1
                · exact absurd rfl hq2
                · exact of_decide_eq_true hty
              rcases hb : refOf S a ax.1.2.1 with _ | b
              · rw [hb] at h; cases h
              · rw [hb, bR_some, hty.2] at h
                exact s_getR X hd h13 hkn (wAt_mem hw) hty.1 hb (ih _ _ _ _ _ h)
        · cases h
      · cases he
    case putfield ty =>
      dsimp only at h
      unfold okEn at he
      dsimp only at he
      split at he
      · simp only [Bool.and_eq_true, Bool.or_eq_true, decide_eq_true_eq, beq_iff_eq, Bool.not_eq_true'] at he
        obtain ⟨⟨⟨⟨⟨⟨⟨rfl, h13⟩, hkn⟩, hw⟩, hf⟩, hlt⟩, hfin⟩, hrf⟩ := he
        split at h
        · split at h
          · next x t n a r =>
            cases hc0 : Nat.beq t ax.1.1 with
            | false => rw [hc0] at h; cases h
            | true =>
              rw [hc0] at h
              have ht1 := Nat.eq_of_beq_eq_true hc0
              subst ht1
              exact s_putI X hd h13 hkn (wAt_mem hw) (by rcases hfin with g | g; exact Or.inl g; exact Or.inr ⟨hini g.1, g.2⟩) hf (ih _ _ _ _ _ h)
          · cases h
        · split at h
          · next x t n a r =>
            cases hc0 : Nat.beq t ax.1.1 with
            | false => rw [hc0] at h; cases h
            | true =>
              rw [hc0] at h
              have ht1 := Nat.eq_of_beq_eq_true hc0
              subst ht1
              exact s_putL X hd h13 hkn (wAt_mem hw) (by rcases hfin with g | g; exact Or.inl g; exact Or.inr ⟨hini g.1, g.2⟩) hf (ih _ _ _ _ _ h)
          · cases h
        · split at h
          · next t' n' b t n a r =>
            cases hc0 : (Nat.beq t ax.1.1 && Nat.beq t' ax.2.1.1) with
            | false => rw [hc0] at h; cases h
            | true =>
              rw [hc0] at h
              rw [Bool.and_eq_true] at hc0
              have ht1 := Nat.eq_of_beq_eq_true hc0.1
              have ht2 := Nat.eq_of_beq_eq_true hc0.2
              subst ht1
              dsimp only [cond_true] at h
              split at h
              · next hn2 =>
                have hrf := hrf rfl
                rw [hrf] at ht2 hn2
                exact s_putR X hd h13 hkn (wAt_mem hw) (by rcases hfin with g | g; exact Or.inl g; exact Or.inr ⟨hini g.1, g.2⟩) hf ht2 hn2 (ih _ _ _ _ _ h)
              · cases h
          · cases h
        · next q0 q1 q2 =>
          have h3 : ty = 3 := by
            rcases ty with _ | _ | _ | _ | ty
            · exact absurd rfl q0
            · exact absurd rfl q1
            · exact absurd rfl q2
            · rfl
            · omega
          split at h
          · next x t n a r =>
            cases hc0 : Nat.beq t ax.1.1 with
            | false => rw [hc0] at h; cases h
            | true =>
              rw [hc0] at h
              have ht1 := Nat.eq_of_beq_eq_true hc0
              subst ht1
              dsimp only [cond_true] at h
              split at h
              · next hx => exact s_putZ X hd h13 hkn (wAt_mem hw) (by rcases hfin with g | g; exact Or.inl g; exact Or.inr ⟨hini g.1, g.2⟩) (hf.trans h3) hx (ih _ _ _ _ _ h)
              · cases h
          · cases h
      · cases he
    case new i1 =>
      dsimp only at h
      unfold okEn at he
      dsimp only at he
      split at he
      · simp only [Bool.and_eq_true, Bool.or_eq_true, decide_eq_true_eq, beq_iff_eq, Bool.not_eq_true'] at he
        obtain ⟨⟨⟨rfl, h13⟩, hnf⟩, hw⟩ := he
        have hg := hgr _ _ _ _ _ h
        rw [hnf] at h hg
        have h1 := hg.1
        have h2 := hg.2
        rw [List.length_append, List.length_singleton] at h1
        rw [slO_push, if_pos h13] at h2
        exact s_new X hd h13 (wAt_mem hw) (by omega) (by omega) (ih _ _ _ _ _ h)
      · cases he
    case newarray i1 =>
      dsimp only at h
      unfold okEn at he
      dsimp only at he
      split at h
      · next n r =>
        split at h
        · next hn =>
          simp only [Bool.and_eq_true, Bool.or_eq_true, decide_eq_true_eq, beq_iff_eq, Bool.not_eq_true'] at he
          obtain ⟨rfl, he⟩ := he
          have hg := hgr _ _ _ _ _ h
          split at he
          · have he := beq_iff_eq.mp he
            rw [he] at h hg
            have h1 := hg.1
            have h2 := hg.2
            rw [List.length_append, List.length_singleton] at h1
            rw [slO_push, if_neg (by decide)] at h2
            exact s_new_int X hd hAC.1 hn (by omega) (by omega) (ih _ _ _ _ _ h)
          · have he := beq_iff_eq.mp he
            rw [he] at h hg
            have h1 := hg.1
            have h2 := hg.2
            rw [List.length_append, List.length_singleton] at h1
            rw [slO_push, if_neg (by decide)] at h2
            exact s_new_long X hd hAC.2.1 hn (by omega) (by omega) (ih _ _ _ _ _ h)
          · have he := beq_iff_eq.mp he
            rw [he] at h hg
            have h1 := hg.1
            have h2 := hg.2
            rw [List.length_append, List.length_singleton] at h1
            rw [slO_push, if_neg (by decide)] at h2
            exact s_new_byte X hd hAC.2.2.1 hn (by omega) (by omega) (ih _ _ _ _ _ h)
          · cases he
        · cases h
      · cases h
    case anewarray i1 =>
      dsimp only at h
      unfold okEn at he
      dsimp only at he
      split at he
      · split at h
        · next n r =>
          split at h
          · next hn =>
            simp only [Bool.and_eq_true, Bool.or_eq_true, decide_eq_true_eq, beq_iff_eq, Bool.not_eq_true'] at he
            obtain ⟨⟨rfl, ht⟩, hw⟩ := he
            have hg := hgr _ _ _ _ _ h
            have h1 := hg.1
            have h2 := hg.2
            rw [List.length_append, List.length_singleton] at h1
            rw [slO_push, if_neg (by omega)] at h2
            have hw := wAt_mem hw
            rcases (show ax.1.1 = 23 ∨ ax.1.1 = 24 by omega) with e | e
            · rw [e] at h hw
              exact s_anew_23 X hd hw hY.2.1 hn (by omega) (by omega) (ih _ _ _ _ _ h)
            · rw [e] at h hw
              exact s_anew_24 X hd hw hY.2.2 hn (by omega) (by omega) (ih _ _ _ _ _ h)
          · cases h
        · cases h
      · cases he
    case multianewarray i1 i2 =>
      dsimp only at h
      unfold okEn at he
      dsimp only at he
      split at he
      · split at h
        · next k n r =>
          split at h
          · next hn =>
            simp only [Bool.and_eq_true, Bool.or_eq_true, decide_eq_true_eq, beq_iff_eq, Bool.not_eq_true'] at he
            obtain ⟨⟨⟨⟨rfl, ht⟩, hw⟩, hx⟩, hkk⟩ := he
            have hg := hgr _ _ _ _ _ h
            rw [hx] at h hg
            exact hMul _ _ _ _ _ _ _ _ _ _ hd ht (wAt_mem hw) hn.1 hkk hn.2 hg (ih _ _ _ _ _ h)
          · cases h
        · cases h
      · cases he
    case goto o1 =>
      dsimp only at h
      unfold okEn at he
      dsimp only at he
      split at he
      · simp only [Bool.and_eq_true, Bool.or_eq_true, decide_eq_true_eq, beq_iff_eq, Bool.not_eq_true'] at he
        obtain ⟨rfl, ht⟩ := he
        exact s_goto X hd ht (ih _ _ _ _ _ h)
      · cases he
    case ifCond c1 o1 =>
      dsimp only at h
      unfold okEn at he
      dsimp only at he
      split at he
      · simp only [Bool.and_eq_true, Bool.or_eq_true, decide_eq_true_eq, beq_iff_eq, Bool.not_eq_true'] at he
        obtain ⟨⟨rfl, rfl⟩, ht⟩ := he
        split at h
        · next x r =>
          cases c1
          · dsimp only at h
            refine s_if_eq X hd ht (fun z => ?_) (fun z => ?_)
            · rw [if_pos z] at h; exact ih _ _ _ _ _ h
            · rw [if_neg z] at h; exact ih _ _ _ _ _ h
          · dsimp only at h
            refine s_if_ne X hd ht (fun z => ?_) (fun z => ?_)
            · rw [if_pos z] at h; exact ih _ _ _ _ _ h
            · rw [if_neg z] at h; exact ih _ _ _ _ _ h
          · dsimp only at h
            refine s_if_lt X hd ht (fun z => ?_) (fun z => ?_)
            · rw [if_pos z] at h; exact ih _ _ _ _ _ h
            · rw [if_neg z] at h; exact ih _ _ _ _ _ h
          · dsimp only at h
            refine s_if_ge X hd ht (fun z => ?_) (fun z => ?_)
            · rw [if_pos z] at h; exact ih _ _ _ _ _ h
            · rw [if_neg z] at h; exact ih _ _ _ _ _ h
          · dsimp only at h
            refine s_if_gt X hd ht (fun z => ?_) (fun z => ?_)
            · rw [if_pos z] at h; exact ih _ _ _ _ _ h
            · rw [if_neg z] at h; exact ih _ _ _ _ _ h
          · dsimp only at h
            refine s_if_le X hd ht (fun z => ?_) (fun z => ?_)
            · rw [if_pos z] at h; exact ih _ _ _ _ _ h
            · rw [if_neg z] at h; exact ih _ _ _ _ _ h
        · cases h
      · cases he
    case if_icmp c1 o1 =>
      dsimp only at h
      unfold okEn at he
      dsimp only at he
      split at he
      · simp only [Bool.and_eq_true, Bool.or_eq_true, decide_eq_true_eq, beq_iff_eq, Bool.not_eq_true'] at he
        obtain ⟨⟨rfl, rfl⟩, ht⟩ := he
        split at h
        · next y x r =>
          cases c1
          · dsimp only at h
            refine s_icmp_eq X hd ht (fun z => ?_) (fun z => ?_)
            · rw [if_pos z] at h; exact ih _ _ _ _ _ h
            · rw [if_neg z] at h; exact ih _ _ _ _ _ h
          · dsimp only at h
            refine s_icmp_ne X hd ht (fun z => ?_) (fun z => ?_)
            · rw [if_pos z] at h; exact ih _ _ _ _ _ h
            · rw [if_neg z] at h; exact ih _ _ _ _ _ h
          · dsimp only at h
            refine s_icmp_lt X hd ht (fun z => ?_) (fun z => ?_)
            · rw [if_pos z] at h; exact ih _ _ _ _ _ h
            · rw [if_neg z] at h; exact ih _ _ _ _ _ h
          · dsimp only at h
            refine s_icmp_ge X hd ht (fun z => ?_) (fun z => ?_)
            · rw [if_pos z] at h; exact ih _ _ _ _ _ h
            · rw [if_neg z] at h; exact ih _ _ _ _ _ h
          · dsimp only at h
            refine s_icmp_gt X hd ht (fun z => ?_) (fun z => ?_)
            · rw [if_pos z] at h; exact ih _ _ _ _ _ h
            · rw [if_neg z] at h; exact ih _ _ _ _ _ h
          · dsimp only at h
            refine s_icmp_le X hd ht (fun z => ?_) (fun z => ?_)
            · rw [if_pos z] at h; exact ih _ _ _ _ _ h
            · rw [if_neg z] at h; exact ih _ _ _ _ _ h
        · cases h
      · cases he
    case tableswitch d1 lo1 hi1 offs1 =>
      dsimp only at h
      unfold okEn at he
      dsimp only at he
      split at he
      · simp only [Bool.and_eq_true, Bool.or_eq_true, decide_eq_true_eq, beq_iff_eq, Bool.not_eq_true'] at he
        obtain ⟨⟨⟨ht, rfl⟩, hhi⟩, hts⟩ := he
        split at h
        · next x r =>
          rcases swt_spec h with ⟨t, h1, h2, h3, h4⟩ | ⟨h1, h4⟩
          · exact s_swIn X hd hhi hts h1 h2 h3 (ih _ _ _ _ _ h4)
          · exact s_swOut X hd hhi hts ht h1 (ih _ _ _ _ _ h4)
        · cases h
      · cases he
    case invokeinterface i1 i2 =>
      dsimp only at h
      unfold okEn at he
      dsimp only at he
      split at he
      · simp only [Bool.and_eq_true, Bool.or_eq_true, decide_eq_true_eq, beq_iff_eq, Bool.not_eq_true'] at he
        obtain ⟨rfl, hw⟩ := he
        split at h
        · next q r =>
          cases hc0 : Nat.ble (wds r) 8 with
          | false => rw [hc0] at h; cases h
          | true =>
            rw [hc0] at h
            dsimp only [cond_true] at h
            exact s_obj X hd (wAt_mem hw) hOI.1 hOI.2 hc0 (ih _ _ _ _ _ h)
        · cases h
      · cases he
    case invokedynamic b1 =>
      dsimp only at h
      unfold okEn at he
      dsimp only at he
      split at h
      · split at he
        · simp only [Bool.and_eq_true, Bool.or_eq_true, decide_eq_true_eq, beq_iff_eq, Bool.not_eq_true'] at he
          obtain ⟨rfl, hw⟩ := he
          split at h
          · next n dp t' n' b' sp t n0' a r =>
            cases hc0 : (Nat.ble (wds r) 8 && ((Nat.beq t 20 && Nat.beq t' 20) || (Nat.beq t 21 && Nat.beq t' 21))) with
            | false => rw [hc0] at h; cases h
            | true =>
              rw [hc0] at h
              simp only [Bool.and_eq_true, Bool.or_eq_true] at hc0
              dsimp only [cond_true] at h
              split at h
              · next hh =>
                obtain ⟨h8, ⟨g1, g2⟩ | ⟨g1, g2⟩⟩ := hc0
                · have g1 := Nat.eq_of_beq_eq_true g1
                  have g2 := Nat.eq_of_beq_eq_true g2
                  subst g1
                  subst g2
                  exact s_copy_20 X hd (wAt_mem hw) hAY.1 hAY.2.1 hAY.2.2 (Nat.le_of_ble_eq_true h8) hh (ih _ _ _ _ _ h)
                · have g1 := Nat.eq_of_beq_eq_true g1
                  have g2 := Nat.eq_of_beq_eq_true g2
                  subst g1
                  subst g2
                  exact s_copy_21 X hd (wAt_mem hw) hAY.1 hAY.2.1 hAY.2.2 (Nat.le_of_ble_eq_true h8) hh (ih _ _ _ _ _ h)
              · cases h
          · cases h
        · cases he
      · split at he
        · simp only [Bool.and_eq_true, Bool.or_eq_true, decide_eq_true_eq, beq_iff_eq, Bool.not_eq_true'] at he
          obtain ⟨rfl, hw⟩ := he
          split at h
          · next t k a r =>
            cases hc0 : (Nat.beq t 13 && Nat.ble (wds r) 8) with
            | false => rw [hc0] at h; cases h
            | true =>
              rw [hc0] at h
              rw [Bool.and_eq_true] at hc0
              have g1 := Nat.eq_of_beq_eq_true hc0.1
              subst g1
              exact hSL _ _ _ _ _ _ _ _ hd (wAt_mem hw) hc0.2 hcur (ih _ _ _ _ _ h)
          · cases h
        · cases he
      · split at he
        · simp only [Bool.and_eq_true, Bool.or_eq_true, decide_eq_true_eq, beq_iff_eq, Bool.not_eq_true'] at he
          obtain ⟨rfl, hw⟩ := he
          split at h
          · next y x r =>
            cases hc0 : Nat.ble (wds r) 8 with
            | false => rw [hc0] at h; cases h
            | true =>
              rw [hc0] at h
              exact s_mmax X hd (wAt_mem hw) hMm.1 hMm.2.1 hMm.2.2.1 hc0 (Nat.le_trans hcur.1 hc) (Nat.le_trans hcur.2 hs) (ih _ _ _ _ _ h)
          · cases h
        · cases he
      · split at he
        · simp only [Bool.and_eq_true, Bool.or_eq_true, decide_eq_true_eq, beq_iff_eq, Bool.not_eq_true'] at he
          obtain ⟨rfl, hw⟩ := he
          split at h
          · next y x r =>
            cases hc0 : Nat.ble (wds r) 8 with
            | false => rw [hc0] at h; cases h
            | true =>
              rw [hc0] at h
              exact s_mmin X hd (wAt_mem hw) hMm.2.2.2.1 hMm.2.1 hMm.2.2.2.2 hc0 (Nat.le_trans hcur.1 hc) (Nat.le_trans hcur.2 hs) (ih _ _ _ _ _ h)
          · cases h
        · cases he
      · next z0 z1 z3 z4 =>
        split at he
        · exact absurd rfl z0
        · exact absurd rfl z1
        · exact absurd rfl z3
        · exact absurd rfl z4
        · split at he
          · simp only [Bool.and_eq_true, Bool.or_eq_true, decide_eq_true_eq, beq_iff_eq, Bool.not_eq_true'] at he
            obtain ⟨rfl, hw⟩ := he
            split at h
            · next i t k a r =>
              cases hc0 : (Nat.beq t 13 && Nat.ble (wds r) 8) with
              | false => rw [hc0] at h; cases h
              | true =>
                rw [hc0] at h
                rw [Bool.and_eq_true] at hc0
                have g1 := Nat.eq_of_beq_eq_true hc0.1
                subst g1
                dsimp only [cond_true] at h
                split at h
                · next hi => exact hSC _ _ _ _ _ _ _ _ _ hd (wAt_mem hw) hi hc0.2 hcur (ih _ _ _ _ _ h)
                · cases h
            · cases h
          · cases he
    case invokestatic so =>
      dsimp only at h
      unfold okEn at he
      dsimp only at he
      split at he
      · simp only [Bool.and_eq_true, Bool.or_eq_true, decide_eq_true_eq, beq_iff_eq, Bool.not_eq_true'] at he
        obtain ⟨⟨⟨⟨rfl, hcall⟩, hst⟩, hnp⟩, hso⟩ := he
        obtain ⟨hlink, hy⟩ := okCall_of hcall
        obtain ⟨r1, S1, M1, h8, hn, hcl, hcont⟩ := inv_spec h
        have hgk := hgr _ _ _ _ _ hcont
        have hc1 := Nat.le_trans hgk.1 hc
        have hs1 := Nat.le_trans hgk.2 hs
        obtain ⟨d1, hdd⟩ : ∃ d1, d = d1 + 1 := by
          cases d with
          | zero => cases hcl
          | succ d1 => exact ⟨d1, rfl⟩
        have hMt := fun g1 g2 g3 => hK d1 hdd _ _ _ _ _ _ _ hy hcl g1 g2 g3
        rcases hlink with hl | hl
        · exact s_static X hY hy hdd hMt (callD_grow _ _ _ _ _ _ _ _ hcl) hc1 hs1 h8 hn hd hl hst hnp (ih _ _ _ _ _ hcont)
        · exact s_staticN X hY hy hdd hMt (callD_grow _ _ _ _ _ _ _ _ hcl) hc1 hs1 h8 hn hd hl hst hnp (ih _ _ _ _ _ hcont)
      · cases he
    case invokevirtual so =>
      dsimp only at h
      unfold okEn at he
      dsimp only at he
      split at he
      · simp only [Bool.and_eq_true, Bool.or_eq_true, decide_eq_true_eq, beq_iff_eq, Bool.not_eq_true'] at he
        obtain ⟨⟨⟨⟨⟨⟨⟨rfl, hcall⟩, hst⟩, hnp⟩, hso⟩, htg⟩, h13⟩, hni⟩ := he
        obtain ⟨hlink, hy⟩ := okCall_of hcall
        split at h
        · next t1 n1 b1 a1 hta =>
          cases hc0 : Nat.beq t1 ax.2.1.1 with
          | false => rw [hc0] at h; cases h
          | true =>
            rw [hc0] at h
            have ht1 := Nat.eq_of_beq_eq_true hc0
            obtain ⟨r1, S1, M1, h8, hn, hcl, hcont⟩ := inv_spec h
            have hgk := hgr _ _ _ _ _ hcont
            have hc1 := Nat.le_trans hgk.1 hc
            have hs1 := Nat.le_trans hgk.2 hs
            obtain ⟨d1, hdd⟩ : ∃ d1, d = d1 + 1 := by
              cases d with
              | zero => cases hcl
              | succ d1 => exact ⟨d1, rfl⟩
            have hMt := fun g1 g2 g3 => hK d1 hdd _ _ _ _ _ _ _ hy hcl g1 g2 g3
            rcases hlink with hl | hl
            · exact s_virtual X hY hy hdd hMt (callD_grow _ _ _ _ _ _ _ _ hcl) hc1 hs1 h8 hn hta hd hl hst hnp (htg.trans ht1.symm) (by rw [ht1]; exact h13) hni (ih _ _ _ _ _ hcont)
            · exact s_virtualN X hY hy hdd hMt (callD_grow _ _ _ _ _ _ _ _ hcl) hc1 hs1 h8 hn hta hd hl hst hnp (htg.trans ht1.symm) (by rw [ht1]; exact h13) hni (ih _ _ _ _ _ hcont)
        · cases h
      · cases he
    case invokespecial so =>
      dsimp only at h
      unfold okEn at he
      dsimp only at he
      split at he
      · simp only [Bool.and_eq_true, Bool.or_eq_true, decide_eq_true_eq, beq_iff_eq, Bool.not_eq_true'] at he
        obtain ⟨⟨⟨⟨⟨⟨rfl, hcall⟩, hst⟩, hnp⟩, rfl⟩, hso⟩, hni⟩ := he
        obtain ⟨hlink, hy⟩ := okCall_of hcall
        split at h
        · next t1 n1 b1 a1 hta =>
          cases hc0 : Nat.beq t1 ax.2.1.1 with
          | false => rw [hc0] at h; cases h
          | true =>
            rw [hc0] at h
            obtain ⟨S1, M1, h8, hn, hcl, hcont⟩ := inv_spec0 h
            have hgk := hgr _ _ _ _ _ hcont
            have hc1 := Nat.le_trans hgk.1 hc
            have hs1 := Nat.le_trans hgk.2 hs
            obtain ⟨d1, hdd⟩ : ∃ d1, d = d1 + 1 := by
              cases d with
              | zero => cases hcl
              | succ d1 => exact ⟨d1, rfl⟩
            have hMt := fun g1 g2 g3 => hK d1 hdd _ _ _ _ _ _ _ hy hcl g1 g2 g3
            rcases hlink with hl | hl
            · exact s_special X hY hy hdd hMt (callD_grow _ _ _ _ _ _ _ _ hcl) hc1 hs1 h8 hn hta hd hl hst hnp hni (sort0 hso) (ih _ _ _ _ _ hcont)
            · exact s_specialN X hY hy hdd hMt (callD_grow _ _ _ _ _ _ _ _ hcl) hc1 hs1 h8 hn hta hd hl hst hnp hni (sort0 hso) (ih _ _ _ _ _ hcont)
        · cases h
      · cases he
    case ireturn =>
      refine hEnd pc ls st S M _ hlk (by simp) ?_
      unfold FF
      rw [hlk]
      exact h
    case lreturn =>
      refine hEnd pc ls st S M _ hlk (by simp) ?_
      unfold FF
      rw [hlk]
      exact h
    case return_ =>
      refine hEnd pc ls st S M _ hlk (by simp) ?_
      unfold FF
      rw [hlk]
      exact h
    all_goals (dsimp only at h; cases h)
end SND

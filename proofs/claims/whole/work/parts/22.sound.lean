/-! THE MACHINE IS SOUND: every method -/
def MulOK (dC : Nat → ClassId) (dI : Nat → Nat → Nat) (dA : Nat → ClassId) (cv adV : Nat → Nat) (base L : Nat) (xs : Nat → Int) : Prop := ∀ (p : Program) (l : Launch) (e : Env) (R : Room) (s : State) (m : MethodId) (args : Array Value) (below : List Frame) (meth : Method) (c : Code) (Q : State → Prop) (cc : ByteArray) (own : String) (nL d n0 m0 : Nat) (Ls : List Nat) (S' : Sp), CX p R s m args c cc own nL d L base dC dI dA cv adV xs → YY s → S'.length ≤ R.cells + n0 → slO S' ≤ R.slots + m0 → ∀ (pc : Nat) (ls r : List AV) (S : Sp) (M : Mm) (t idx : Nat) (k n : Int) (kk : Nat), decode cc pc = .ok (.multianewarray idx 2, 4) → 25 ≤ t ∧ t ≤ 28 → Jvm.Cond.classLink own idx (mlN t) ∈ lw_tbl → k = (kk : Int) → kk = (elT t).2 → 0 ≤ n ∧ n ≤ 100 → LE (S ++ ((t, n.toNat, (List.range n.toNat).map fun j => some (S.length + 1 + j)) :: List.replicate n.toNat ((elT t).1, kk, []))) S' → WW p l e R s m args below meth c Q nL n0 m0 L base Ls dC dI dA cv xs (pc + 4) ls (vR t n S.length :: r) (S ++ ((t, n.toNat, (List.range n.toNat).map fun j => some (S.length + 1 + j)) :: List.replicate n.toNat ((elT t).1, kk, []))) M → WW p l e R s m args below meth c Q nL n0 m0 L base Ls dC dI dA cv xs pc ls (vI k :: vI n :: r) S M
def StrLOK (dC : Nat → ClassId) (dI : Nat → Nat → Nat) (dA : Nat → ClassId) (cv adV : Nat → Nat) (base L : Nat) (xs : Nat → Int) : Prop := ∀ (p : Program) (l : Launch) (e : Env) (R : Room) (s : State) (m : MethodId) (args : Array Value) (below : List Frame) (meth : Method) (c : Code) (Q : State → Prop) (cc : ByteArray) (own : String) (nL d n0 m0 : Nat) (Ls : List Nat) (S' : Sp), CX p R s m args c cc own nL d L base dC dI dA cv adV xs → YY s → S'.length ≤ R.cells + n0 → slO S' ≤ R.slots + m0 → ∀ (pc : Nat) (ls r : List AV) (S : Sp) (M : Mm) (idx : Nat) (k : Int) (a : Nat), decode cc pc = .ok (.invokevirtual idx, 3) → Jvm.Cond.methodLink own idx y_len ∈ lw_tbl → Nat.ble (wds r) 8 = true → LE S S' → WW p l e R s m args below meth c Q nL n0 m0 L base Ls dC dI dA cv xs (pc + 3) ls (vI (strL k) :: r) S M → WW p l e R s m args below meth c Q nL n0 m0 L base Ls dC dI dA cv xs pc ls (vR 13 k a :: r) S M
def StrCOK (dC : Nat → ClassId) (dI : Nat → Nat → Nat) (dA : Nat → ClassId) (cv adV : Nat → Nat) (base L : Nat) (xs : Nat → Int) : Prop := ∀ (p : Program) (l : Launch) (e : Env) (R : Room) (s : State) (m : MethodId) (args : Array Value) (below : List Frame) (meth : Method) (c : Code) (Q : State → Prop) (cc : ByteArray) (own : String) (nL d n0 m0 : Nat) (Ls : List Nat) (S' : Sp), CX p R s m args c cc own nL d L base dC dI dA cv adV xs → YY s → S'.length ≤ R.cells + n0 → slO S' ≤ R.slots + m0 → ∀ (pc : Nat) (ls r : List AV) (S : Sp) (M : Mm) (idx : Nat) (k i : Int) (a : Nat), decode cc pc = .ok (.invokevirtual idx, 3) → Jvm.Cond.methodLink own idx y_chr ∈ lw_tbl → 0 ≤ i ∧ i < strL k → Nat.ble (wds r) 8 = true → LE S S' → WW p l e R s m args below meth c Q nL n0 m0 L base Ls dC dI dA cv xs (pc + 3) ls (vI (strC k i.toNat) :: r) S M → WW p l e R s m args below meth c Q nL n0 m0 L base Ls dC dI dA cv xs pc ls (vI i :: vR 13 k a :: r) S M
theorem chk_of {y : Nat} (hy : y < 404) : (∀ ch ∈ nthT tbs y, ∀ q ∈ ch, okEn (yN.getD y y0).cls ((yN.getD y y0).name == "<init>") (yL.getD y []) (nthN mxs y) (yR.getD y none) q = true) ∧ ∀ ch ∈ nthT tbs y, ∀ q ∈ ch, decode (yB.getD y default) q.1 = .ok q.2.1 := by
  have h1 := okY_all y hy
  have h2 := okZ_all y hy
  refine ⟨fun ch hch q hq => List.all_eq_true.mp (List.all_eq_true.mp h1 ch hch) q hq, fun ch hch q hq => of_decide_eq_true (List.all_eq_true.mp (List.all_eq_true.mp h2 ch hch) q hq)⟩
theorem entry_RL {cv : Nat → Nat} {a : List AV} {n : Nat} (h : (lay a).length ≤ n) : RL cv (padA n (lay a)) ((lg_sl (a.map (cV cv)) ++ List.replicate (n - (lg_sl (a.map (cV cv))).length) Slot.unset).toArray) := by
  have hl := lv_entry (a.map (cV cv)) (n := n) (by rw [lay_len]; exact h)
  refine ⟨by rw [padA_len n _ h]; exact hl.1, hl.2.1, fun k v hk hv => ?_⟩
  rw [padA_at n _ h] at hk
  split at hk
  · have := lay_args (cv := cv) a 0 k v hk hv
    rw [Nat.zero_add] at this
    exact hl.2.2 _ this
  · split at hk
    · cases hk; exact absurd rfl hv
    · cases hk
theorem entry_OKa {S : Sp} {a : List AV} {n : Nat} {Ls : List Nat} (h : (lay a).length ≤ n) (ho : OKs S a) (hl : okLg Ls 0 (lay a) = true) : OKa S Ls n (padA n (lay a)) := by
  refine ⟨fun v hv => ?_, padA_len n _ h, fun k x hk => ?_⟩
  · obtain ⟨k, hk⟩ := List.getElem?_of_mem hv
    rw [padA_at n _ h] at hk
    split at hk
    · exact lay_ok a ho v (List.mem_of_getElem? hk)
    · split at hk
      · cases hk; trivial
      · cases hk
  · rw [padA_at n _ h] at hk
    split at hk
    · have := okLg_at Ls (lay a) 0 k x hl hk
      rw [Nat.zero_add] at this
      exact this
    · split at hk <;> cases hk
set_option maxHeartbeats 4000000 in
theorem meth_step (dC : Nat → ClassId) (dI : Nat → Nat → Nat) (dA : Nat → ClassId) (cv adV : Nat → Nat) (base L : Nat) (xs : Nat → Int) (hcv : ∀ a, 3 ≤ a → cv a = base + (a - 3)) (hMul : MulOK dC dI dA cv adV base L xs) (hSL : StrLOK dC dI dA cv adV base L xs) (hSC : StrCOK dC dI dA cv adV base L xs) (l : Launch) (d : Nat) (hK : ∀ d1, d = d1 + 1 → ∀ (y : Nat) (a : List AV) (S : Sp) (M : Mm) (r : Option AV) (S' : Sp) (M' : Mm), y < 404 → callD d y a S M = some (r, S', M') → okS L S → okM xs S M → OKs S a → Mt dC dI dA cv adV base L xs l d1 y a S M r S' M') (y : Nat) (a : List AV) (S : Sp) (M : Mm) (r : Option AV) (S' : Sp) (M' : Mm) (hy : y < 404) (h : callD (d + 1) y a S M = some (r, S', M')) (o1 : okS L S) (o2 : okM xs S M) (o3 : OKs S a) : Mt dC dI dA cv adV base L xs l d y a S M r S' M' := by
  have h : cond (Nat.ble (lenA (lay a)) (nthN mxs y) && okLg (nthL yL y) 0 (lay a)) (Run (callD d) (nthT tbs y) 0 (padA (nthN mxs y) (lay a)) [] S M) none = some (r, S', M') := h
  cases hc : (Nat.ble (lenA (lay a)) (nthN mxs y) && okLg (nthL yL y) 0 (lay a)) with
  | false => rw [hc] at h; cases h
  | true =>
  rw [hc] at h
  rw [Bool.and_eq_true] at hc
  have hlen : (lay a).length ≤ nthN mxs y := by rw [← lenA_eq]; exact Nat.le_of_ble_eq_true hc.1
  have hlg := hc.2
  rw [nthL_getD] at hlg
  obtain ⟨n, hn⟩ := (Run_iff _ _ _ _ _ _ _ _).mp h
  have hext : Ext S S' := runN_ext (callD d) (callD_ext d) _ n _ _ _ _ _ _ _ _ hn
  have h1 := hext.2.1
  have h2 := hext.2.2
  obtain ⟨k1, k2, k3, k4, k5, k6, k7, k8, k9⟩ := okI_of hy
  unfold Mt
  refine Met.ofW (cc := yB.getD y default) (maxL := nthN mxs y) (ret := yR.getD y none) k4 rfl ?_
  intro p e s m args below meth c s₁ B hml hv
  obtain ⟨rfl, hK0, hA, hXX, hY, hbs⟩ := hv
  have hts := atoms_spec (ws := Jvm.Cond.code (yN.getD y y0) (yB.getD y default) (nthN mxs y) (yR.getD y none) :: lwG) B.pre
  have hown : s.vm.findClass (yN.getD y y0).cls = some m.cls := findClass_of_methodNamed B.named
  have hin : meth.name = (yN.getD y y0).name := (name_of_methodNamed B.named B.method).1
  have hr := B.returns
  have hlocks := B.notSynchronized
  have X : CX p (rmD d (S'.length - S.length) (slO S' - slO S)) s m (a.map (cV cv)).toArray c (yB.getD y default) (yN.getD y y0).cls (nthN mxs y) d L base dC dI dA cv adV xs := ⟨⟨B.exec, B.bytes, hml, hown, fun w hw hg => hts w (List.mem_cons_of_mem _ (lwG_in hw hg))⟩, hK0, hXX, hcv, hbs, Nat.le_refl _, Nat.le_refl _⟩
  have hcc : S'.length ≤ (rmD d (S'.length - S.length) (slO S' - slO S)).cells + S.length := by show S'.length ≤ S'.length - S.length + S.length; omega
  have hss : slO S' ≤ (rmD d (S'.length - S.length) (slO S' - slO S)).slots + slO S := by show slO S' ≤ slO S' - slO S + slO S; omega
  have hend : ∀ (x : Option AV) (H : Heap) (locs : List Loc), HP dC dI dA cv base S' M' H → va_S (fun q => base ≤ q) s.heap H locs → okS L S' → okM xs S' M' → (∀ v, r = some v → okV S' v ∧ v ≠ vU) → ∀ t : State, t.heap = H → s.WarmedH t.vm → QcD dC dI dA cv adV base L xs r S S' M' (a.map (cV cv)).toArray s (.returned (r.map (cV cv))) t := fun x H locs hA1 hS1 g1 g2 g3 t ht hW => by
    refine ⟨rfl, X.gg hY hA1 hS1 ht hW, g1, g2, hext, g3, by rw [ht]; exact hS1.1, fun q hq => ?_⟩
    rw [ht]
    exact hS1.2.1 q (by omega) (Nat.not_le.mpr hq)
  have hB := body (l := l) (e := e) (below := below) (meth := meth) (Q := MQ below (QcD dC dI dA cv adV base L xs r S S' M') (a.map (cV cv)).toArray s (S'.length - S.length) (slO S' - slO S) (fun q => base ≤ q)) (n0 := S.length) (m0 := slO S) (Ls := yL.getD y []) X (C := nthT tbs y) (ini := (yN.getD y y0).name == "<init>") (rt := yR.getD y none) (r' := r) (S' := S') (M' := M') hY (chk_of hy).1 (chk_of hy).2 (fun ch hch q hq => List.all_eq_true.mp (List.all_eq_true.mp (List.all_eq_true.mp okU_all y (List.mem_range.mpr (by omega))) ch hch) q hq) (fun h => by rw [hin]; exact beq_iff_eq.mp h) (hMul _ _ _ _ _ _ _ _ _ _ _ _ _ _ _ _ _ _ _ X hY hcc hss) (hSL _ _ _ _ _ _ _ _ _ _ _ _ _ _ _ _ _ _ _ X hY hcc hss) (hSC _ _ _ _ _ _ _ _ _ _ _ _ _ _ _ _ _ _ _ X hY hcc hss) hK hcc hss ?_ n 0 _ _ _ _ hn
  · rw [lg_entry_eq]
    have hfin := hB s.heap [] _ o1 o2 (entry_OKa hlen o3 hlg) OKs.nil (Nat.le_refl _) (Nat.le_refl _) hA va_S.rf (entry_RL hlen)
    rw [Nat.sub_self, Nat.sub_self] at hfin
    exact hfin
  · intro pc ls st S1 M1 q hlk hq hF H locs lsC g1 g2 g3 g4 g5 g6 hA1 hS1 hR1
    obtain ⟨ch, hch, hmem⟩ := lk_mem hlk
    obtain ⟨⟨raw, len⟩, ins, ax⟩ := q
    have he := (chk_of hy).1 ch hch (pc, (raw, len), ins, ax) hmem
    have hd : decode (yB.getD y default) pc = .ok (raw, len) := (chk_of hy).2 ch hch (pc, (raw, len), ins, ax) hmem
    unfold FF at hF
    rw [hlk] at hF
    rcases hq with rfl | rfl | rfl
    · dsimp only at hF
      split at hF
      · next x =>
        cases hF
        unfold okEn at he
        dsimp only at he
        simp only [Bool.and_eq_true, Bool.or_eq_true, decide_eq_true_eq, beq_iff_eq] at he
        obtain ⟨⟨rfl, rfl⟩, he⟩ := he
        obtain ⟨⟨q1, -⟩, -⟩ := OKs.cons.mp g4
        rcases he with ⟨e1, e2⟩ | ⟨e1, e2⟩
        · have hq := hend none H locs hA1 hS1 g1 g2 (fun v hv => by cases hv; exact ⟨by rw [e1]; exact q1, nofun⟩)
          rw [e1] at hq ⊢
          exact W.iret (v := Int32.ofInt x) X.1.1 X.1.2.1 (hr.trans e2) hq hS1.2.2 hd hlocks
        · have hq := hend none H locs hA1 hS1 g1 g2 (fun v hv => by cases hv; refine ⟨?_, nofun⟩; rw [e1]; show i32 (x % 2); unfold i32; omega)
          rw [e1] at hq ⊢
          have e3 : Option.map (cV cv) (some (vI (nar 1 x))) = some (.int (Int32.ofInt x &&& 1)) := by rw [and1]; rfl
          rw [e3] at hq
          exact W_bret (v := Int32.ofInt x) X.1.1 X.1.2.1 (hr.trans e2) hq hS1.2.2 hd hlocks
      · cases hF
    · dsimp only at hF
      split at hF
      · next x =>
        cases hF
        unfold okEn at he
        dsimp only at he
        simp only [Bool.and_eq_true, decide_eq_true_eq, beq_iff_eq] at he
        obtain ⟨⟨rfl, rfl⟩, e2⟩ := he
        obtain ⟨⟨q1, -⟩, -⟩ := OKs.cons.mp g4
        exact W.lret (v := Int64.ofInt x) X.1.1 X.1.2.1 (hr.trans e2) (hend none H locs hA1 hS1 g1 g2 (fun v hv => by cases hv; exact ⟨q1, nofun⟩)) hS1.2.2 hd hlocks
      · cases hF
    · dsimp only at hF
      split at hF
      · cases hF
        unfold okEn at he
        dsimp only at he
        simp only [Bool.and_eq_true, decide_eq_true_eq, beq_iff_eq] at he
        obtain ⟨⟨rfl, rfl⟩, e2⟩ := he
        exact W.vret X.1.1 X.1.2.1 (hr.trans e2) (hend none H locs hA1 hS1 g1 g2 (fun v hv => by cases hv)) hS1.2.2 hd hlocks
      · cases hF
set_option maxHeartbeats 4000000 in
theorem meth_sound (dC : Nat → ClassId) (dI : Nat → Nat → Nat) (dA : Nat → ClassId) (cv adV : Nat → Nat) (base L : Nat) (xs : Nat → Int) (hcv : ∀ a, 3 ≤ a → cv a = base + (a - 3)) (hMul : MulOK dC dI dA cv adV base L xs) (hSL : StrLOK dC dI dA cv adV base L xs) (hSC : StrCOK dC dI dA cv adV base L xs) (l : Launch) : ∀ (d y : Nat) (a : List AV) (S : Sp) (M : Mm) (r : Option AV) (S' : Sp) (M' : Mm), y < 404 → callD (d + 1) y a S M = some (r, S', M') → okS L S → okM xs S M → OKs S a → Mt dC dI dA cv adV base L xs l d y a S M r S' M' := by
  intro d
  induction d with
  | zero => exact meth_step dC dI dA cv adV base L xs hcv hMul hSL hSC l 0 (fun d1 h => absurd h (by omega))
  | succ d ih => exact meth_step dC dI dA cv adV base L xs hcv hMul hSL hSC l (d + 1) (fun d1 h => by cases h; exact ih)

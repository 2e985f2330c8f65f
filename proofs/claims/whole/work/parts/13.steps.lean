/-! THE MACHINE IS SOUND, instruction by instruction -/
def CX (p : Program) (R : Room) (s : State) (m : MethodId) (args : Array Value) (c : Code) (cc : ByteArray) (own : String) (nL d L base : Nat) (dC : Nat → ClassId) (dI : Nat → Nat → Nat) (dA : Nat → ClassId) (cv adV : Nat → Nat) (xs : Nat → Int) : Prop :=
  (p.tables.exec = Jvm.exec ∧ c.code = cc ∧ c.maxLocals = nL ∧ s.vm.findClass own = some m.cls ∧ ∀ w ∈ lw_tbl, goodWord w = true → w.before args s = true) ∧ va_K (dC, dI) clT (tysT dA) s ∧ XX cv adV base L xs s s.heap ∧ (∀ a, 3 ≤ a → cv a = base + (a - 3)) ∧ base ≤ s.heap.size ∧ 6 + d ≤ R.frames ∧ 200 + 40 * d ≤ R.locals
def WW (p : Program) (l : Launch) (e : Env) (R : Room) (s : State) (m : MethodId) (args : Array Value) (below : List Frame) (meth : Method) (c : Code) (Q : State → Prop) (nL n0 m0 L base : Nat) (Ls : List Nat) (dC : Nat → ClassId) (dI : Nat → Nat → Nat) (dA : Nat → ClassId) (cv : Nat → Nat) (xs : Nat → Int) (pc : Nat) (ls st : List AV) (S : Sp) (M : Mm) : Prop :=
  ∀ (H : Heap) (locs : List Loc) (lsC : Array Slot), okS L S → okM xs S M → OKa S Ls nL ls → OKs S st → n0 ≤ S.length → m0 ≤ slO S → HP dC dI dA cv base S M H → va_S (fun q => base ≤ q) s.heap H locs → RL cv ls lsC →
    W p l e R s m args below meth c H locs (S.length - n0) (slO S - m0) Q (F0 m pc lsC (st.map (cV cv)))
section SND
variable {p : Program} {l : Launch} {e : Env} {R : Room} {s : State} {m : MethodId} {args : Array Value} {below : List Frame} {meth : Method} {c : Code} {Q : State → Prop}
variable {cc : ByteArray} {own : String} {nL d n0 m0 L base : Nat} {Ls : List Nat} {dC : Nat → ClassId} {dI : Nat → Nat → Nat} {dA : Nat → ClassId} {cv adV : Nat → Nat} {xs : Nat → Int}
variable {pc : Nat} {ls r : List AV} {S : Sp} {M : Mm}

theorem s_iconst (X : CX p R s m args c cc own nL d L base dC dI dA cv adV xs) {n : Int} (hd : decode cc pc = .ok (.iconst n, 1)) (hn : -1 ≤ n ∧ n ≤ 5) (hk : WW p l e R s m args below meth c Q nL n0 m0 L base Ls dC dI dA cv xs (pc + 1) ls (vI n :: r) S M) : WW p l e R s m args below meth c Q nL n0 m0 L base Ls dC dI dA cv xs pc ls r S M := by
  intro H locs lsC o1 o2 o3 o4 o5 o6 hA hS hR
  exact lv_iconst X.1.1 X.1.2.1 hd rfl (hk H locs lsC o1 o2 o3 (OKs.cons.mpr ⟨⟨by show i32 n; unfold i32; omega, nofun⟩, o4⟩) o5 o6 hA hS hR)
theorem s_bipush (X : CX p R s m args c cc own nL d L base dC dI dA cv adV xs) {n : Int} (hd : decode cc pc = .ok (.bipush n, 2)) (hn : -128 ≤ n ∧ n < 128) (hk : WW p l e R s m args below meth c Q nL n0 m0 L base Ls dC dI dA cv xs (pc + 2) ls (vI n :: r) S M) : WW p l e R s m args below meth c Q nL n0 m0 L base Ls dC dI dA cv xs pc ls r S M := by
  intro H locs lsC o1 o2 o3 o4 o5 o6 hA hS hR
  refine lv_bipush X.1.1 X.1.2.1 hd (v := Int32.ofInt n) ?_ (hk H locs lsC o1 o2 o3 (OKs.cons.mpr ⟨⟨by show i32 n; unfold i32; omega, nofun⟩, o4⟩) o5 o6 hA hS hR)
  apply Int32.toInt_inj.mp
  rw [Int8.toInt_toInt32, Int8.toInt_ofInt_of_le (by omega) (by omega), toInt_i (by unfold i32; omega)]
theorem s_sipush (X : CX p R s m args c cc own nL d L base dC dI dA cv adV xs) {n : Int} (hd : decode cc pc = .ok (.sipush n, 3)) (hn : -32768 ≤ n ∧ n < 32768) (hk : WW p l e R s m args below meth c Q nL n0 m0 L base Ls dC dI dA cv xs (pc + 3) ls (vI n :: r) S M) : WW p l e R s m args below meth c Q nL n0 m0 L base Ls dC dI dA cv xs pc ls r S M := by
  intro H locs lsC o1 o2 o3 o4 o5 o6 hA hS hR
  refine lv_sipush X.1.1 X.1.2.1 hd (v := Int32.ofInt n) ?_ (hk H locs lsC o1 o2 o3 (OKs.cons.mpr ⟨⟨by show i32 n; unfold i32; omega, nofun⟩, o4⟩) o5 o6 hA hS hR)
  apply Int32.toInt_inj.mp
  rw [Int16.toInt_toInt32, Int16.toInt_ofInt_of_le (by omega) (by omega), toInt_i (by unfold i32; omega)]
theorem s_ldc (X : CX p R s m args c cc own nL d L base dC dI dA cv adV xs) {i : Nat} {n : Int} (hd : decode cc pc = .ok (.ldc i, 2)) (hw : Jvm.Cond.constant own i (Int32.ofInt n) ∈ lw_tbl) (hn : i32 n) (hk : WW p l e R s m args below meth c Q nL n0 m0 L base Ls dC dI dA cv xs (pc + 2) ls (vI n :: r) S M) : WW p l e R s m args below meth c Q nL n0 m0 L base Ls dC dI dA cv xs pc ls r S M := by
  intro H locs lsC o1 o2 o3 o4 o5 o6 hA hS hR
  exact lv_ldc X.1.1 X.1.2.1 X.1.2.2.2.1 (X.1.2.2.2.2 _ hw rfl) hd (hk H locs lsC o1 o2 o3 (OKs.cons.mpr ⟨⟨hn, nofun⟩, o4⟩) o5 o6 hA hS hR)
theorem s_ldcw (X : CX p R s m args c cc own nL d L base dC dI dA cv adV xs) {i : Nat} {n : Int} (hd : decode cc pc = .ok (.ldc_w i, 3)) (hw : Jvm.Cond.constant own i (Int32.ofInt n) ∈ lw_tbl) (hn : i32 n) (hk : WW p l e R s m args below meth c Q nL n0 m0 L base Ls dC dI dA cv xs (pc + 3) ls (vI n :: r) S M) : WW p l e R s m args below meth c Q nL n0 m0 L base Ls dC dI dA cv xs pc ls r S M := by
  intro H locs lsC o1 o2 o3 o4 o5 o6 hA hS hR
  exact lv_ldcw X.1.1 X.1.2.1 X.1.2.2.2.1 (X.1.2.2.2.2 _ hw rfl) hd (hk H locs lsC o1 o2 o3 (OKs.cons.mpr ⟨⟨hn, nofun⟩, o4⟩) o5 o6 hA hS hR)
theorem s_lconst (X : CX p R s m args c cc own nL d L base dC dI dA cv adV xs) {n : Fin 2} {v : Int} (hd : decode cc pc = .ok (.lconst n, 1)) (hn : v = (n : Nat)) (hk : WW p l e R s m args below meth c Q nL n0 m0 L base Ls dC dI dA cv xs (pc + 1) ls (vL v :: r) S M) : WW p l e R s m args below meth c Q nL n0 m0 L base Ls dC dI dA cv xs pc ls r S M := by
  intro H locs lsC o1 o2 o3 o4 o5 o6 hA hS hR
  subst hn
  have h2 : (n : Nat) < 2 := n.isLt
  exact lv_lconst X.1.1 X.1.2.1 hd rfl (hk H locs lsC o1 o2 o3 (OKs.cons.mpr ⟨⟨by show i64 _; unfold i64; omega, nofun⟩, o4⟩) o5 o6 hA hS hR)
theorem s_ldc2 (X : CX p R s m args c cc own nL d L base dC dI dA cv adV xs) {i : Nat} {n : Int} (hd : decode cc pc = .ok (.ldc2_w i, 3)) (hw : Jvm.Cond.constantLong own i (Int64.ofInt n) ∈ lw_tbl) (hn : i64 n) (hk : WW p l e R s m args below meth c Q nL n0 m0 L base Ls dC dI dA cv xs (pc + 3) ls (vL n :: r) S M) : WW p l e R s m args below meth c Q nL n0 m0 L base Ls dC dI dA cv xs pc ls r S M := by
  intro H locs lsC o1 o2 o3 o4 o5 o6 hA hS hR
  exact lv_ldc2 X.1.1 X.1.2.1 X.1.2.2.2.1 (X.1.2.2.2.2 _ hw rfl) hd (hk H locs lsC o1 o2 o3 (OKs.cons.mpr ⟨⟨hn, nofun⟩, o4⟩) o5 o6 hA hS hR)
theorem s_ldcS (X : CX p R s m args c cc own nL d L base dC dI dA cv adV xs) {i : Nat} {k a : Nat} (hd : decode cc pc = .ok (.ldc i, 2)) (hw : (own = "CargoFlag$Tape" ∧ i = 54 ∧ k = 0 ∧ a = 1) ∨ (own = "CargoFlagModel" ∧ i = 171 ∧ k = 1 ∧ a = 2)) (hk : WW p l e R s m args below meth c Q nL n0 m0 L base Ls dC dI dA cv xs (pc + 2) ls (vR 13 k a :: r) S M) : WW p l e R s m args below meth c Q nL n0 m0 L base Ls dC dI dA cv xs pc ls r S M := by
  intro H locs lsC o1 o2 o3 o4 o5 o6 hA hS hR
  rcases hw with ⟨rfl, rfl, rfl, rfl⟩ | ⟨rfl, rfl, rfl, rfl⟩
  · exact va_ldcS X.1.1 X.1.2.1 X.1.2.2.2.1 X.2.2.1.2.2.1 hd (hk H locs lsC o1 o2 o3 (OKs.cons.mpr ⟨⟨⟨0, [], o1.2.1, rfl⟩, nofun⟩, o4⟩) o5 o6 hA hS hR)
  · exact va_ldcS X.1.1 X.1.2.1 X.1.2.2.2.1 X.2.2.1.2.2.2.1 hd (hk H locs lsC o1 o2 o3 (OKs.cons.mpr ⟨⟨⟨1, [], o1.2.2.1, rfl⟩, nofun⟩, o4⟩) o5 o6 hA hS hR)
theorem s_iload (X : CX p R s m args c cc own nL d L base dC dI dA cv adV xs) {k : Nat} {x : Int} (hd : decode cc pc = .ok (.iload k, 2)) (hv : nthA ls k = vI x) (hk : WW p l e R s m args below meth c Q nL n0 m0 L base Ls dC dI dA cv xs (pc + 2) ls (vI x :: r) S M) : WW p l e R s m args below meth c Q nL n0 m0 L base Ls dC dI dA cv xs pc ls r S M := by
  intro H locs lsC o1 o2 o3 o4 o5 o6 hA hS hR
  have hv := nthA_some hv nofun
  exact lv_iload X.1.1 X.1.2.1 hd (hR.2.2 _ _ hv nofun) (hk H locs lsC o1 o2 o3 (OKs.cons.mpr ⟨⟨o3.1 _ (List.mem_of_getElem? hv), nofun⟩, o4⟩) o5 o6 hA hS hR)
theorem s_iload_n (X : CX p R s m args c cc own nL d L base dC dI dA cv adV xs) {k : Nat} {j : Fin 4} {x : Int} (hd : decode cc pc = .ok (.iload_n j, 1)) (hj : (j : Nat) = k) (hv : nthA ls k = vI x) (hk : WW p l e R s m args below meth c Q nL n0 m0 L base Ls dC dI dA cv xs (pc + 1) ls (vI x :: r) S M) : WW p l e R s m args below meth c Q nL n0 m0 L base Ls dC dI dA cv xs pc ls r S M := by
  intro H locs lsC o1 o2 o3 o4 o5 o6 hA hS hR
  have hv := nthA_some hv nofun
  exact lv_iload_n X.1.1 X.1.2.1 hd hj (hR.2.2 _ _ hv nofun) (hk H locs lsC o1 o2 o3 (OKs.cons.mpr ⟨⟨o3.1 _ (List.mem_of_getElem? hv), nofun⟩, o4⟩) o5 o6 hA hS hR)
theorem s_lload (X : CX p R s m args c cc own nL d L base dC dI dA cv adV xs) {k : Nat} {x : Int} (hd : decode cc pc = .ok (.lload k, 2)) (hv : nthA ls k = vL x) (hk : WW p l e R s m args below meth c Q nL n0 m0 L base Ls dC dI dA cv xs (pc + 2) ls (vL x :: r) S M) : WW p l e R s m args below meth c Q nL n0 m0 L base Ls dC dI dA cv xs pc ls r S M := by
  intro H locs lsC o1 o2 o3 o4 o5 o6 hA hS hR
  have hv := nthA_some hv nofun
  exact lv_lload X.1.1 X.1.2.1 hd (hR.2.2 _ _ hv nofun) (hk H locs lsC o1 o2 o3 (OKs.cons.mpr ⟨⟨o3.1 _ (List.mem_of_getElem? hv), nofun⟩, o4⟩) o5 o6 hA hS hR)
theorem s_lload_n (X : CX p R s m args c cc own nL d L base dC dI dA cv adV xs) {k : Nat} {j : Fin 4} {x : Int} (hd : decode cc pc = .ok (.lload_n j, 1)) (hj : (j : Nat) = k) (hv : nthA ls k = vL x) (hk : WW p l e R s m args below meth c Q nL n0 m0 L base Ls dC dI dA cv xs (pc + 1) ls (vL x :: r) S M) : WW p l e R s m args below meth c Q nL n0 m0 L base Ls dC dI dA cv xs pc ls r S M := by
  intro H locs lsC o1 o2 o3 o4 o5 o6 hA hS hR
  have hv := nthA_some hv nofun
  exact lv_lload_n X.1.1 X.1.2.1 hd hj (hR.2.2 _ _ hv nofun) (hk H locs lsC o1 o2 o3 (OKs.cons.mpr ⟨⟨o3.1 _ (List.mem_of_getElem? hv), nofun⟩, o4⟩) o5 o6 hA hS hR)
theorem s_aload (X : CX p R s m args c cc own nL d L base dC dI dA cv adV xs) {k : Nat} {q : Nat × Int × Nat} (hd : decode cc pc = .ok (.aload k, 2)) (hv : nthA ls k = (.inr (.inr (.inl q)) : AV)) (hk : WW p l e R s m args below meth c Q nL n0 m0 L base Ls dC dI dA cv xs (pc + 2) ls ((.inr (.inr (.inl q)) : AV) :: r) S M) : WW p l e R s m args below meth c Q nL n0 m0 L base Ls dC dI dA cv xs pc ls r S M := by
  intro H locs lsC o1 o2 o3 o4 o5 o6 hA hS hR
  have hv := nthA_some hv nofun
  exact lv_aload X.1.1 X.1.2.1 hd (hR.2.2 _ _ hv nofun) (hk H locs lsC o1 o2 o3 (OKs.cons.mpr ⟨⟨o3.1 _ (List.mem_of_getElem? hv), nofun⟩, o4⟩) o5 o6 hA hS hR)
theorem s_aload_n (X : CX p R s m args c cc own nL d L base dC dI dA cv adV xs) {k : Nat} {j : Fin 4} {q : Nat × Int × Nat} (hd : decode cc pc = .ok (.aload_n j, 1)) (hj : (j : Nat) = k) (hv : nthA ls k = (.inr (.inr (.inl q)) : AV)) (hk : WW p l e R s m args below meth c Q nL n0 m0 L base Ls dC dI dA cv xs (pc + 1) ls ((.inr (.inr (.inl q)) : AV) :: r) S M) : WW p l e R s m args below meth c Q nL n0 m0 L base Ls dC dI dA cv xs pc ls r S M := by
  intro H locs lsC o1 o2 o3 o4 o5 o6 hA hS hR
  have hv := nthA_some hv nofun
  exact lv_aload_n X.1.1 X.1.2.1 hd hj (hR.2.2 _ _ hv nofun) (hk H locs lsC o1 o2 o3 (OKs.cons.mpr ⟨⟨o3.1 _ (List.mem_of_getElem? hv), nofun⟩, o4⟩) o5 o6 hA hS hR)
def lvL (cv : Nat → Nat) (als : List AV) : List (Nat × Value) := (List.range als.length).filterMap fun (k : Nat) => match (als[k]? : Option AV) with
  | some (.inl x) => some (k, cV cv (.inl x))
  | some (.inr (.inl x)) => some (k, cV cv (.inr (.inl x)))
  | some (.inr (.inr (.inl x))) => some (k, cV cv (.inr (.inr (.inl x))))
  | _ => none
theorem lvL_mem {cv : Nat → Nat} {als : List AV} {k : Nat} {v : AV} (h : als[k]? = some v) (hv : v ≠ vU) : (k, cV cv v) ∈ lvL cv als := by
  unfold lvL
  rw [List.mem_filterMap]
  refine ⟨k, List.mem_range.mpr (List.getElem?_eq_some_iff.mp h).1, ?_⟩
  rw [h]
  rcases v with x | x | x | ⟨⟩
  · rfl
  · rfl
  · rfl
  · exact absurd rfl hv
theorem lvL_of {cv : Nat → Nat} {als : List AV} {q : Nat × Value} (h : q ∈ lvL cv als) : ∃ v, als[q.1]? = some v ∧ v ≠ vU ∧ q.2 = cV cv v := by
  unfold lvL at h
  rw [List.mem_filterMap] at h
  obtain ⟨k, -, hk⟩ := h
  rcases hv : als[k]? with _ | x | x | x | ⟨⟩ <;> rw [hv] at hk <;> cases hk
  · exact ⟨_, hv, nofun, rfl⟩
  · exact ⟨_, hv, nofun, rfl⟩
  · exact ⟨_, hv, nofun, rfl⟩
theorem RL.has {cv : Nat → Nat} {als : List AV} {lsC : Array Slot} (h : RL cv als lsC) : lv_has lsC als.length (lvL cv als) := by
  refine ⟨h.1, h.2.1, fun q hq => ?_⟩
  obtain ⟨v, h1, h2, h3⟩ := lvL_of hq
  rw [h3]
  exact h.2.2 _ _ h1 h2
theorem noL_pred {Ls : List Nat} {k j : Nat} (h : noL Ls k = true) (hj : j + 1 = k) : elemN Ls j = false := by
  subst hj
  simpa [noL] using h
theorem RL.put1 {cv : Nat → Nat} {als : List AV} {S : Sp} {nL k : Nat} {v : AV} {ls' : Array Slot} (ha : OKa S Ls nL als) (hn : noL Ls k = true) (hk : k < als.length) (hc : (cV cv v).category = 1) (h : lv_has ls' als.length ((k, cV cv v) :: (lvL cv als).filter (fun q => !(q.1 == k) && !(q.1 + 1 == k && q.2.category == 2)))) : RL cv (setA als k v) ls' := by
  refine ⟨by rw [setA_len]; exact h.1, h.2.1, fun j w hj hw => ?_⟩
  rw [setA_at] at hj
  by_cases e : j = k
  · subst e
    rw [if_pos ⟨rfl, hk⟩] at hj
    cases hj
    exact h.2.2 _ List.mem_cons_self
  · rw [if_neg (fun q => e q.1)] at hj
    refine h.2.2 (j, cV cv w) (List.mem_cons_of_mem _ (List.mem_filter.mpr ⟨lvL_mem hj hw, ?_⟩))
    simp only [Bool.and_eq_true, Bool.not_eq_true', beq_eq_false_iff_ne, ne_eq, Bool.and_eq_false_iff]
    refine ⟨e, ?_⟩
    by_cases e2 : j + 1 = k
    · right
      rcases w with x | x | x | ⟨⟩
      · simp [cV, Value.category]
      · have h1 := ha.2.2 j x hj
        rw [noL_pred hn e2] at h1
        cases h1
      · simp [cV, Value.category]
      · exact absurd rfl hw
    · exact Or.inl e2
theorem OKa.put1 {als : List AV} {S : Sp} {nL k : Nat} {v : AV} (ha : OKa S Ls nL als) (hv : okV S v) (hl : ∀ x, v = vL x → elemN Ls k = true) : OKa S Ls nL (setA als k v) := by
  refine ⟨fun w hw => ?_, by rw [setA_len]; exact ha.2.1, fun j x hj => ?_⟩
  · obtain ⟨j, hj⟩ := List.getElem?_of_mem hw
    rw [setA_at] at hj
    split at hj
    · cases hj; exact hv
    · exact ha.1 _ (List.mem_of_getElem? hj)
  · rw [setA_at] at hj
    split at hj
    · next e => cases hj; rw [e.1]; exact hl x rfl
    · exact ha.2.2 j x hj
theorem RL.put2 {cv : Nat → Nat} {als : List AV} {S : Sp} {nL k : Nat} {v : AV} {ls' : Array Slot} (ha : OKa S Ls nL als) (hn : noL Ls k = true) (hk : k + 1 < als.length) (h : lv_has ls' als.length ((k, cV cv v) :: (lvL cv als).filter (fun q => !(q.1 == k) && (!(q.1 == k + 1) && !(q.1 + 1 == k && q.2.category == 2))))) : RL cv (setA (setA als k v) (k + 1) vU) ls' := by
  refine ⟨by rw [setA_len, setA_len]; exact h.1, h.2.1, fun j w hj hw => ?_⟩
  rw [setA_at] at hj
  by_cases e0 : j = k + 1
  · rw [if_pos ⟨e0, by rw [setA_len]; exact hk⟩] at hj
    cases hj
    exact absurd rfl hw
  rw [if_neg (fun q => e0 q.1), setA_at] at hj
  by_cases e : j = k
  · subst e
    rw [if_pos ⟨rfl, by omega⟩] at hj
    cases hj
    exact h.2.2 _ List.mem_cons_self
  · rw [if_neg (fun q => e q.1)] at hj
    refine h.2.2 (j, cV cv w) (List.mem_cons_of_mem _ (List.mem_filter.mpr ⟨lvL_mem hj hw, ?_⟩))
    simp only [Bool.and_eq_true, Bool.not_eq_true', beq_eq_false_iff_ne, ne_eq, Bool.and_eq_false_iff]
    refine ⟨e, e0, ?_⟩
    by_cases e2 : j + 1 = k
    · right
      rcases w with x | x | x | ⟨⟩
      · simp [cV, Value.category]
      · have h1 := ha.2.2 j x hj
        rw [noL_pred hn e2] at h1
        cases h1
      · simp [cV, Value.category]
      · exact absurd rfl hw
    · exact Or.inl e2
theorem s_istore (X : CX p R s m args c cc own nL d L base dC dI dA cv adV xs) {k : Nat} {x : Int} (hd : decode cc pc = .ok (.istore k, 2)) (hn : noL Ls k = true) (hkn : k < nL) (hk : WW p l e R s m args below meth c Q nL n0 m0 L base Ls dC dI dA cv xs (pc + 2) (setA ls k (vI x)) r S M) : WW p l e R s m args below meth c Q nL n0 m0 L base Ls dC dI dA cv xs pc ls (vI x :: r) S M := by
  intro H locs lsC o1 o2 o3 o4 o5 o6 hA hS hR
  obtain ⟨⟨q1, -⟩, q2⟩ := OKs.cons.mp o4
  have hl : ls.length = nL := o3.2.1
  refine lv_istore X.1.1 X.1.2.1 hd hR.has (by rw [hl]; exact hkn) rfl fun ls' h => ?_
  exact hk H locs ls' o1 o2 (o3.put1 q1 nofun) q2 o5 o6 hA hS (RL.put1 o3 hn (by rw [hl]; exact hkn) rfl h)
theorem s_istore_n (X : CX p R s m args c cc own nL d L base dC dI dA cv adV xs) {k : Nat} {j : Fin 4} {x : Int} (hd : decode cc pc = .ok (.istore_n j, 1)) (hj : (j : Nat) = k) (hn : noL Ls k = true) (hkn : k < nL) (hk : WW p l e R s m args below meth c Q nL n0 m0 L base Ls dC dI dA cv xs (pc + 1) (setA ls k (vI x)) r S M) : WW p l e R s m args below meth c Q nL n0 m0 L base Ls dC dI dA cv xs pc ls (vI x :: r) S M := by
  intro H locs lsC o1 o2 o3 o4 o5 o6 hA hS hR
  obtain ⟨⟨q1, -⟩, q2⟩ := OKs.cons.mp o4
  have hl : ls.length = nL := o3.2.1
  refine lv_istore_n X.1.1 X.1.2.1 hd hj hR.has (by rw [hl]; exact hkn) rfl fun ls' h => ?_
  exact hk H locs ls' o1 o2 (o3.put1 q1 nofun) q2 o5 o6 hA hS (RL.put1 o3 hn (by rw [hl]; exact hkn) rfl h)
theorem s_astore (X : CX p R s m args c cc own nL d L base dC dI dA cv adV xs) {k : Nat} {q : Nat × Int × Nat} (hd : decode cc pc = .ok (.astore k, 2)) (hn : noL Ls k = true) (hkn : k < nL) (hk : WW p l e R s m args below meth c Q nL n0 m0 L base Ls dC dI dA cv xs (pc + 2) (setA ls k (.inr (.inr (.inl q)) : AV)) r S M) : WW p l e R s m args below meth c Q nL n0 m0 L base Ls dC dI dA cv xs pc ls ((.inr (.inr (.inl q)) : AV) :: r) S M := by
  intro H locs lsC o1 o2 o3 o4 o5 o6 hA hS hR
  obtain ⟨⟨q1, -⟩, q2⟩ := OKs.cons.mp o4
  have hl : ls.length = nL := o3.2.1
  refine lv_astore X.1.1 X.1.2.1 hd hR.has (by rw [hl]; exact hkn) rfl fun ls' h => ?_
  exact hk H locs ls' o1 o2 (o3.put1 q1 nofun) q2 o5 o6 hA hS (RL.put1 o3 hn (by rw [hl]; exact hkn) rfl h)
theorem s_astore_n (X : CX p R s m args c cc own nL d L base dC dI dA cv adV xs) {k : Nat} {j : Fin 4} {q : Nat × Int × Nat} (hd : decode cc pc = .ok (.astore_n j, 1)) (hj : (j : Nat) = k) (hn : noL Ls k = true) (hkn : k < nL) (hk : WW p l e R s m args below meth c Q nL n0 m0 L base Ls dC dI dA cv xs (pc + 1) (setA ls k (.inr (.inr (.inl q)) : AV)) r S M) : WW p l e R s m args below meth c Q nL n0 m0 L base Ls dC dI dA cv xs pc ls ((.inr (.inr (.inl q)) : AV) :: r) S M := by
  intro H locs lsC o1 o2 o3 o4 o5 o6 hA hS hR
  obtain ⟨⟨q1, -⟩, q2⟩ := OKs.cons.mp o4
  have hl : ls.length = nL := o3.2.1
  refine lv_astore_n X.1.1 X.1.2.1 hd hj hR.has (by rw [hl]; exact hkn) rfl fun ls' h => ?_
  exact hk H locs ls' o1 o2 (o3.put1 q1 nofun) q2 o5 o6 hA hS (RL.put1 o3 hn (by rw [hl]; exact hkn) rfl h)
theorem s_lstore (X : CX p R s m args c cc own nL d L base dC dI dA cv adV xs) {k : Nat} {x : Int} (hd : decode cc pc = .ok (.lstore k, 2)) (hn : noL Ls k = true) (hkL : elemN Ls k = true) (hkn : k + 1 < nL) (hk : WW p l e R s m args below meth c Q nL n0 m0 L base Ls dC dI dA cv xs (pc + 2) (setA (setA ls k (vL x)) (k + 1) vU) r S M) : WW p l e R s m args below meth c Q nL n0 m0 L base Ls dC dI dA cv xs pc ls (vL x :: r) S M := by
  intro H locs lsC o1 o2 o3 o4 o5 o6 hA hS hR
  obtain ⟨⟨q1, -⟩, q2⟩ := OKs.cons.mp o4
  have hl : ls.length = nL := o3.2.1
  refine lv_lstore X.1.1 X.1.2.1 hd hR.has (by rw [hl]; exact hkn) rfl fun ls' h => ?_
  exact hk H locs ls' o1 o2 ((o3.put1 q1 (fun _ _ => hkL)).put1 (v := vU) trivial nofun) q2 o5 o6 hA hS (RL.put2 o3 hn (by rw [hl]; exact hkn) h)
theorem s_lstore_n (X : CX p R s m args c cc own nL d L base dC dI dA cv adV xs) {k : Nat} {j : Fin 4} {x : Int} (hd : decode cc pc = .ok (.lstore_n j, 1)) (hj : (j : Nat) = k) (hn : noL Ls k = true) (hkL : elemN Ls k = true) (hkn : k + 1 < nL) (hk : WW p l e R s m args below meth c Q nL n0 m0 L base Ls dC dI dA cv xs (pc + 1) (setA (setA ls k (vL x)) (k + 1) vU) r S M) : WW p l e R s m args below meth c Q nL n0 m0 L base Ls dC dI dA cv xs pc ls (vL x :: r) S M := by
  intro H locs lsC o1 o2 o3 o4 o5 o6 hA hS hR
  obtain ⟨⟨q1, -⟩, q2⟩ := OKs.cons.mp o4
  have hl : ls.length = nL := o3.2.1
  refine lv_lstore_n X.1.1 X.1.2.1 hd hj hR.has (by rw [hl]; exact hkn) rfl fun ls' h => ?_
  exact hk H locs ls' o1 o2 ((o3.put1 q1 (fun _ _ => hkL)).put1 (v := vU) trivial nofun) q2 o5 o6 hA hS (RL.put2 o3 hn (by rw [hl]; exact hkn) h)
theorem s_iinc (X : CX p R s m args c cc own nL d L base dC dI dA cv adV xs) {k : Nat} {x n : Int} (hd : decode cc pc = .ok (.iinc k n, 3)) (hn : noL Ls k = true) (hv : nthA ls k = vI x) (hk : WW p l e R s m args below meth c Q nL n0 m0 L base Ls dC dI dA cv xs (pc + 3) (setA ls k (vI (w32 (x + n)))) r S M) : WW p l e R s m args below meth c Q nL n0 m0 L base Ls dC dI dA cv xs pc ls r S M := by
  intro H locs lsC o1 o2 o3 o4 o5 o6 hA hS hR
  have hv := nthA_some hv nofun
  have hlt : k < ls.length := (List.getElem?_eq_some_iff.mp hv).1
  obtain ⟨j, hj⟩ := List.getElem?_of_mem (lvL_mem (cv := cv) hv nofun)
  refine lv_iinc X.1.1 X.1.2.1 hd hR.has hj (o_add x n) hlt rfl fun ls' h => ?_
  exact hk H locs ls' o1 o2 (o3.put1 (v := vI (w32 (x + n))) (w32_i _) nofun) o4 o5 o6 hA hS (RL.put1 (v := vI (w32 (x + n))) o3 hn hlt rfl h)
theorem s_iadd (X : CX p R s m args c cc own nL d L base dC dI dA cv adV xs) {x y : Int} (hd : decode cc pc = .ok (.iadd, 1)) (hk : WW p l e R s m args below meth c Q nL n0 m0 L base Ls dC dI dA cv xs (pc + 1) ls (vI (w32 (x + y)) :: r) S M) : WW p l e R s m args below meth c Q nL n0 m0 L base Ls dC dI dA cv xs pc ls (vI y :: vI x :: r) S M := by
  intro H locs lsC o1 o2 o3 o4 o5 o6 hA hS hR
  obtain ⟨⟨q1, -⟩, q2⟩ := OKs.cons.mp o4
  obtain ⟨⟨q3, -⟩, q4⟩ := OKs.cons.mp q2
  refine lv_iadd X.1.1 X.1.2.1 hd ?_
  rw [show Int32.ofInt x + Int32.ofInt y = Int32.ofInt (w32 (x + y)) from o_add x y]
  exact hk H locs lsC o1 o2 o3 (OKs.cons.mpr ⟨⟨w32_i _, nofun⟩, q4⟩) o5 o6 hA hS hR
theorem s_isub (X : CX p R s m args c cc own nL d L base dC dI dA cv adV xs) {x y : Int} (hd : decode cc pc = .ok (.isub, 1)) (hk : WW p l e R s m args below meth c Q nL n0 m0 L base Ls dC dI dA cv xs (pc + 1) ls (vI (w32 (x - y)) :: r) S M) : WW p l e R s m args below meth c Q nL n0 m0 L base Ls dC dI dA cv xs pc ls (vI y :: vI x :: r) S M := by
  intro H locs lsC o1 o2 o3 o4 o5 o6 hA hS hR
  obtain ⟨⟨q1, -⟩, q2⟩ := OKs.cons.mp o4
  obtain ⟨⟨q3, -⟩, q4⟩ := OKs.cons.mp q2
  refine lv_isub X.1.1 X.1.2.1 hd ?_
  rw [show Int32.ofInt x - Int32.ofInt y = Int32.ofInt (w32 (x - y)) from o_sub x y]
  exact hk H locs lsC o1 o2 o3 (OKs.cons.mpr ⟨⟨w32_i _, nofun⟩, q4⟩) o5 o6 hA hS hR
theorem s_imul (X : CX p R s m args c cc own nL d L base dC dI dA cv adV xs) {x y : Int} (hd : decode cc pc = .ok (.imul, 1)) (hk : WW p l e R s m args below meth c Q nL n0 m0 L base Ls dC dI dA cv xs (pc + 1) ls (vI (w32 (x * y)) :: r) S M) : WW p l e R s m args below meth c Q nL n0 m0 L base Ls dC dI dA cv xs pc ls (vI y :: vI x :: r) S M := by
  intro H locs lsC o1 o2 o3 o4 o5 o6 hA hS hR
  obtain ⟨⟨q1, -⟩, q2⟩ := OKs.cons.mp o4
  obtain ⟨⟨q3, -⟩, q4⟩ := OKs.cons.mp q2
  refine lv_imul X.1.1 X.1.2.1 hd ?_
  rw [show Int32.ofInt x * Int32.ofInt y = Int32.ofInt (w32 (x * y)) from o_mul x y]
  exact hk H locs lsC o1 o2 o3 (OKs.cons.mpr ⟨⟨w32_i _, nofun⟩, q4⟩) o5 o6 hA hS hR
theorem s_ladd (X : CX p R s m args c cc own nL d L base dC dI dA cv adV xs) {x y : Int} (hd : decode cc pc = .ok (.ladd, 1)) (hk : WW p l e R s m args below meth c Q nL n0 m0 L base Ls dC dI dA cv xs (pc + 1) ls (vL (w64 (x + y)) :: r) S M) : WW p l e R s m args below meth c Q nL n0 m0 L base Ls dC dI dA cv xs pc ls (vL y :: vL x :: r) S M := by
  intro H locs lsC o1 o2 o3 o4 o5 o6 hA hS hR
  obtain ⟨⟨q1, -⟩, q2⟩ := OKs.cons.mp o4
  obtain ⟨⟨q3, -⟩, q4⟩ := OKs.cons.mp q2
  refine lv_ladd X.1.1 X.1.2.1 hd ?_
  rw [show Int64.ofInt x + Int64.ofInt y = Int64.ofInt (w64 (x + y)) from ol_add x y]
  exact hk H locs lsC o1 o2 o3 (OKs.cons.mpr ⟨⟨w64_i _, nofun⟩, q4⟩) o5 o6 hA hS hR
theorem s_lsub (X : CX p R s m args c cc own nL d L base dC dI dA cv adV xs) {x y : Int} (hd : decode cc pc = .ok (.lsub, 1)) (hk : WW p l e R s m args below meth c Q nL n0 m0 L base Ls dC dI dA cv xs (pc + 1) ls (vL (w64 (x - y)) :: r) S M) : WW p l e R s m args below meth c Q nL n0 m0 L base Ls dC dI dA cv xs pc ls (vL y :: vL x :: r) S M := by
  intro H locs lsC o1 o2 o3 o4 o5 o6 hA hS hR
  obtain ⟨⟨q1, -⟩, q2⟩ := OKs.cons.mp o4
  obtain ⟨⟨q3, -⟩, q4⟩ := OKs.cons.mp q2
  refine lv_lsub X.1.1 X.1.2.1 hd ?_
  rw [show Int64.ofInt x - Int64.ofInt y = Int64.ofInt (w64 (x - y)) from ol_sub x y]
  exact hk H locs lsC o1 o2 o3 (OKs.cons.mpr ⟨⟨w64_i _, nofun⟩, q4⟩) o5 o6 hA hS hR
theorem s_lmul (X : CX p R s m args c cc own nL d L base dC dI dA cv adV xs) {x y : Int} (hd : decode cc pc = .ok (.lmul, 1)) (hk : WW p l e R s m args below meth c Q nL n0 m0 L base Ls dC dI dA cv xs (pc + 1) ls (vL (w64 (x * y)) :: r) S M) : WW p l e R s m args below meth c Q nL n0 m0 L base Ls dC dI dA cv xs pc ls (vL y :: vL x :: r) S M := by
  intro H locs lsC o1 o2 o3 o4 o5 o6 hA hS hR
  obtain ⟨⟨q1, -⟩, q2⟩ := OKs.cons.mp o4
  obtain ⟨⟨q3, -⟩, q4⟩ := OKs.cons.mp q2
  refine lv_lmul X.1.1 X.1.2.1 hd ?_
  rw [show Int64.ofInt x * Int64.ofInt y = Int64.ofInt (w64 (x * y)) from ol_mul x y]
  exact hk H locs lsC o1 o2 o3 (OKs.cons.mpr ⟨⟨w64_i _, nofun⟩, q4⟩) o5 o6 hA hS hR
theorem s_idiv (X : CX p R s m args c cc own nL d L base dC dI dA cv adV xs) {x y : Int} (hd : decode cc pc = .ok (.idiv, 1)) (hy : ¬ y = 0) (hk : WW p l e R s m args below meth c Q nL n0 m0 L base Ls dC dI dA cv xs (pc + 1) ls (vI (w32 (Int.tdiv x y)) :: r) S M) : WW p l e R s m args below meth c Q nL n0 m0 L base Ls dC dI dA cv xs pc ls (vI y :: vI x :: r) S M := by
  intro H locs lsC o1 o2 o3 o4 o5 o6 hA hS hR
  obtain ⟨⟨q1, -⟩, q2⟩ := OKs.cons.mp o4
  obtain ⟨⟨q3, -⟩, q4⟩ := OKs.cons.mp q2
  refine lv_idiv X.1.1 X.1.2.1 hd (fun z => hy ((o_eq0 q1).mp z)) ?_
  rw [show Int32.ofInt x / Int32.ofInt y = Int32.ofInt (w32 (Int.tdiv x y)) from o_div q3 q1]
  exact hk H locs lsC o1 o2 o3 (OKs.cons.mpr ⟨⟨w32_i _, nofun⟩, q4⟩) o5 o6 hA hS hR
theorem s_irem (X : CX p R s m args c cc own nL d L base dC dI dA cv adV xs) {x y : Int} (hd : decode cc pc = .ok (.irem, 1)) (hy : ¬ y = 0) (hk : WW p l e R s m args below meth c Q nL n0 m0 L base Ls dC dI dA cv xs (pc + 1) ls (vI (Int.tmod x y) :: r) S M) : WW p l e R s m args below meth c Q nL n0 m0 L base Ls dC dI dA cv xs pc ls (vI y :: vI x :: r) S M := by
  intro H locs lsC o1 o2 o3 o4 o5 o6 hA hS hR
  obtain ⟨⟨q1, -⟩, q2⟩ := OKs.cons.mp o4
  obtain ⟨⟨q3, -⟩, q4⟩ := OKs.cons.mp q2
  refine lv_irem X.1.1 X.1.2.1 hd (fun z => hy ((o_eq0 q1).mp z)) ?_
  rw [show Int32.ofInt x - Int32.ofInt x / Int32.ofInt y * Int32.ofInt y = Int32.ofInt (Int.tmod x y) from o_rem q3 q1]
  exact hk H locs lsC o1 o2 o3 (OKs.cons.mpr ⟨⟨tmod_i q3, nofun⟩, q4⟩) o5 o6 hA hS hR
theorem s_ldiv (X : CX p R s m args c cc own nL d L base dC dI dA cv adV xs) {x y : Int} (hd : decode cc pc = .ok (.ldiv, 1)) (hy : ¬ y = 0) (hk : WW p l e R s m args below meth c Q nL n0 m0 L base Ls dC dI dA cv xs (pc + 1) ls (vL (w64 (Int.tdiv x y)) :: r) S M) : WW p l e R s m args below meth c Q nL n0 m0 L base Ls dC dI dA cv xs pc ls (vL y :: vL x :: r) S M := by
  intro H locs lsC o1 o2 o3 o4 o5 o6 hA hS hR
  obtain ⟨⟨q1, -⟩, q2⟩ := OKs.cons.mp o4
  obtain ⟨⟨q3, -⟩, q4⟩ := OKs.cons.mp q2
  refine lv_ldiv X.1.1 X.1.2.1 hd (fun z => hy ((ol_eq0 q1).mp z)) ?_
  rw [show Int64.ofInt x / Int64.ofInt y = Int64.ofInt (w64 (Int.tdiv x y)) from ol_div q3 q1]
  exact hk H locs lsC o1 o2 o3 (OKs.cons.mpr ⟨⟨w64_i _, nofun⟩, q4⟩) o5 o6 hA hS hR
theorem s_lrem (X : CX p R s m args c cc own nL d L base dC dI dA cv adV xs) {x y : Int} (hd : decode cc pc = .ok (.lrem, 1)) (hy : ¬ y = 0) (hk : WW p l e R s m args below meth c Q nL n0 m0 L base Ls dC dI dA cv xs (pc + 1) ls (vL (Int.tmod x y) :: r) S M) : WW p l e R s m args below meth c Q nL n0 m0 L base Ls dC dI dA cv xs pc ls (vL y :: vL x :: r) S M := by
  intro H locs lsC o1 o2 o3 o4 o5 o6 hA hS hR
  obtain ⟨⟨q1, -⟩, q2⟩ := OKs.cons.mp o4
  obtain ⟨⟨q3, -⟩, q4⟩ := OKs.cons.mp q2
  refine lv_lrem X.1.1 X.1.2.1 hd (fun z => hy ((ol_eq0 q1).mp z)) ?_
  rw [show Int64.ofInt x - Int64.ofInt x / Int64.ofInt y * Int64.ofInt y = Int64.ofInt (Int.tmod x y) from ol_rem q3 q1]
  exact hk H locs lsC o1 o2 o3 (OKs.cons.mpr ⟨⟨tmod_l q3, nofun⟩, q4⟩) o5 o6 hA hS hR
theorem s_iand (X : CX p R s m args c cc own nL d L base dC dI dA cv adV xs) {x y : Int} (hd : decode cc pc = .ok (.iand, 1)) (hk : WW p l e R s m args below meth c Q nL n0 m0 L base Ls dC dI dA cv xs (pc + 1) ls (vI (and32 x y) :: r) S M) : WW p l e R s m args below meth c Q nL n0 m0 L base Ls dC dI dA cv xs pc ls (vI y :: vI x :: r) S M := by
  intro H locs lsC o1 o2 o3 o4 o5 o6 hA hS hR
  obtain ⟨⟨q1, -⟩, q2⟩ := OKs.cons.mp o4
  obtain ⟨⟨q3, -⟩, q4⟩ := OKs.cons.mp q2
  refine lv_iand X.1.1 X.1.2.1 hd ?_
  rw [show Int32.ofInt x &&& Int32.ofInt y = Int32.ofInt (and32 x y) from (Int32.ofInt_toInt _).symm]
  exact hk H locs lsC o1 o2 o3 (OKs.cons.mpr ⟨⟨i32_to _, nofun⟩, q4⟩) o5 o6 hA hS hR
theorem s_ior (X : CX p R s m args c cc own nL d L base dC dI dA cv adV xs) {x y : Int} (hd : decode cc pc = .ok (.ior, 1)) (hk : WW p l e R s m args below meth c Q nL n0 m0 L base Ls dC dI dA cv xs (pc + 1) ls (vI (or32 x y) :: r) S M) : WW p l e R s m args below meth c Q nL n0 m0 L base Ls dC dI dA cv xs pc ls (vI y :: vI x :: r) S M := by
  intro H locs lsC o1 o2 o3 o4 o5 o6 hA hS hR
  obtain ⟨⟨q1, -⟩, q2⟩ := OKs.cons.mp o4
  obtain ⟨⟨q3, -⟩, q4⟩ := OKs.cons.mp q2
  refine lv_ior X.1.1 X.1.2.1 hd ?_
  rw [show Int32.ofInt x ||| Int32.ofInt y = Int32.ofInt (or32 x y) from (Int32.ofInt_toInt _).symm]
  exact hk H locs lsC o1 o2 o3 (OKs.cons.mpr ⟨⟨i32_to _, nofun⟩, q4⟩) o5 o6 hA hS hR
theorem s_ixor (X : CX p R s m args c cc own nL d L base dC dI dA cv adV xs) {x y : Int} (hd : decode cc pc = .ok (.ixor, 1)) (hk : WW p l e R s m args below meth c Q nL n0 m0 L base Ls dC dI dA cv xs (pc + 1) ls (vI (xor32 x y) :: r) S M) : WW p l e R s m args below meth c Q nL n0 m0 L base Ls dC dI dA cv xs pc ls (vI y :: vI x :: r) S M := by
  intro H locs lsC o1 o2 o3 o4 o5 o6 hA hS hR
  obtain ⟨⟨q1, -⟩, q2⟩ := OKs.cons.mp o4
  obtain ⟨⟨q3, -⟩, q4⟩ := OKs.cons.mp q2
  refine lv_ixor X.1.1 X.1.2.1 hd ?_
  rw [show Int32.ofInt x ^^^ Int32.ofInt y = Int32.ofInt (xor32 x y) from (Int32.ofInt_toInt _).symm]
  exact hk H locs lsC o1 o2 o3 (OKs.cons.mpr ⟨⟨i32_to _, nofun⟩, q4⟩) o5 o6 hA hS hR
theorem s_ishl (X : CX p R s m args c cc own nL d L base dC dI dA cv adV xs) {x y : Int} (hd : decode cc pc = .ok (.ishl, 1)) (hk : WW p l e R s m args below meth c Q nL n0 m0 L base Ls dC dI dA cv xs (pc + 1) ls (vI (shl32 x y) :: r) S M) : WW p l e R s m args below meth c Q nL n0 m0 L base Ls dC dI dA cv xs pc ls (vI y :: vI x :: r) S M := by
  intro H locs lsC o1 o2 o3 o4 o5 o6 hA hS hR
  obtain ⟨⟨q1, -⟩, q2⟩ := OKs.cons.mp o4
  obtain ⟨⟨q3, -⟩, q4⟩ := OKs.cons.mp q2
  refine lv_ishl X.1.1 X.1.2.1 hd ?_
  rw [show Int32.ofInt x <<< (Int32.ofInt y &&& 31) = Int32.ofInt (shl32 x y) from (Int32.ofInt_toInt _).symm]
  exact hk H locs lsC o1 o2 o3 (OKs.cons.mpr ⟨⟨i32_to _, nofun⟩, q4⟩) o5 o6 hA hS hR
theorem s_ishr (X : CX p R s m args c cc own nL d L base dC dI dA cv adV xs) {x y : Int} (hd : decode cc pc = .ok (.ishr, 1)) (hk : WW p l e R s m args below meth c Q nL n0 m0 L base Ls dC dI dA cv xs (pc + 1) ls (vI (shr32 x y) :: r) S M) : WW p l e R s m args below meth c Q nL n0 m0 L base Ls dC dI dA cv xs pc ls (vI y :: vI x :: r) S M := by
  intro H locs lsC o1 o2 o3 o4 o5 o6 hA hS hR
  obtain ⟨⟨q1, -⟩, q2⟩ := OKs.cons.mp o4
  obtain ⟨⟨q3, -⟩, q4⟩ := OKs.cons.mp q2
  refine lv_ishr X.1.1 X.1.2.1 hd ?_
  rw [show Int32.ofInt x >>> (Int32.ofInt y &&& 31) = Int32.ofInt (shr32 x y) from (Int32.ofInt_toInt _).symm]
  exact hk H locs lsC o1 o2 o3 (OKs.cons.mpr ⟨⟨i32_to _, nofun⟩, q4⟩) o5 o6 hA hS hR
theorem s_land (X : CX p R s m args c cc own nL d L base dC dI dA cv adV xs) {x y : Int} (hd : decode cc pc = .ok (.land, 1)) (hk : WW p l e R s m args below meth c Q nL n0 m0 L base Ls dC dI dA cv xs (pc + 1) ls (vL (and64 x y) :: r) S M) : WW p l e R s m args below meth c Q nL n0 m0 L base Ls dC dI dA cv xs pc ls (vL y :: vL x :: r) S M := by
  intro H locs lsC o1 o2 o3 o4 o5 o6 hA hS hR
  obtain ⟨⟨q1, -⟩, q2⟩ := OKs.cons.mp o4
  obtain ⟨⟨q3, -⟩, q4⟩ := OKs.cons.mp q2
  refine lv_land X.1.1 X.1.2.1 hd ?_
  rw [show Int64.ofInt x &&& Int64.ofInt y = Int64.ofInt (and64 x y) from (Int64.ofInt_toInt _).symm]
  exact hk H locs lsC o1 o2 o3 (OKs.cons.mpr ⟨⟨i64_to _, nofun⟩, q4⟩) o5 o6 hA hS hR
theorem s_lor (X : CX p R s m args c cc own nL d L base dC dI dA cv adV xs) {x y : Int} (hd : decode cc pc = .ok (.lor, 1)) (hk : WW p l e R s m args below meth c Q nL n0 m0 L base Ls dC dI dA cv xs (pc + 1) ls (vL (or64 x y) :: r) S M) : WW p l e R s m args below meth c Q nL n0 m0 L base Ls dC dI dA cv xs pc ls (vL y :: vL x :: r) S M := by
  intro H locs lsC o1 o2 o3 o4 o5 o6 hA hS hR
  obtain ⟨⟨q1, -⟩, q2⟩ := OKs.cons.mp o4
  obtain ⟨⟨q3, -⟩, q4⟩ := OKs.cons.mp q2
  refine lv_lor X.1.1 X.1.2.1 hd ?_
  rw [show Int64.ofInt x ||| Int64.ofInt y = Int64.ofInt (or64 x y) from (Int64.ofInt_toInt _).symm]
  exact hk H locs lsC o1 o2 o3 (OKs.cons.mpr ⟨⟨i64_to _, nofun⟩, q4⟩) o5 o6 hA hS hR
theorem s_iushr (X : CX p R s m args c cc own nL d L base dC dI dA cv adV xs) {x y : Int} (hd : decode cc pc = .ok (.iushr, 1)) (hk : WW p l e R s m args below meth c Q nL n0 m0 L base Ls dC dI dA cv xs (pc + 1) ls (vI (ushr32 x y) :: r) S M) : WW p l e R s m args below meth c Q nL n0 m0 L base Ls dC dI dA cv xs pc ls (vI y :: vI x :: r) S M := by
  intro H locs lsC o1 o2 o3 o4 o5 o6 hA hS hR
  obtain ⟨⟨q1, -⟩, q2⟩ := OKs.cons.mp o4
  obtain ⟨⟨q3, -⟩, q4⟩ := OKs.cons.mp q2
  exact lv_iushr X.1.1 X.1.2.1 hd (Int32.ofInt_toInt _).symm (hk H locs lsC o1 o2 o3 (OKs.cons.mpr ⟨⟨i32_to _, nofun⟩, q4⟩) o5 o6 hA hS hR)
theorem s_lshl (X : CX p R s m args c cc own nL d L base dC dI dA cv adV xs) {x y : Int} (hd : decode cc pc = .ok (.lshl, 1)) (hk : WW p l e R s m args below meth c Q nL n0 m0 L base Ls dC dI dA cv xs (pc + 1) ls (vL (shl64 x y) :: r) S M) : WW p l e R s m args below meth c Q nL n0 m0 L base Ls dC dI dA cv xs pc ls (vI y :: vL x :: r) S M := by
  intro H locs lsC o1 o2 o3 o4 o5 o6 hA hS hR
  obtain ⟨⟨q1, -⟩, q2⟩ := OKs.cons.mp o4
  obtain ⟨⟨q3, -⟩, q4⟩ := OKs.cons.mp q2
  exact lv_lshl X.1.1 X.1.2.1 hd (Int64.ofInt_toInt _).symm (hk H locs lsC o1 o2 o3 (OKs.cons.mpr ⟨⟨i64_to _, nofun⟩, q4⟩) o5 o6 hA hS hR)
theorem s_ineg (X : CX p R s m args c cc own nL d L base dC dI dA cv adV xs) {x : Int} (hd : decode cc pc = .ok (.ineg, 1)) (hk : WW p l e R s m args below meth c Q nL n0 m0 L base Ls dC dI dA cv xs (pc + 1) ls (vI (w32 (-x)) :: r) S M) : WW p l e R s m args below meth c Q nL n0 m0 L base Ls dC dI dA cv xs pc ls (vI x :: r) S M := by
  intro H locs lsC o1 o2 o3 o4 o5 o6 hA hS hR
  obtain ⟨⟨q1, -⟩, q2⟩ := OKs.cons.mp o4
  refine lv_ineg X.1.1 X.1.2.1 hd ?_
  rw [show -Int32.ofInt x = Int32.ofInt (w32 (-x)) from o_neg x]
  exact hk H locs lsC o1 o2 o3 (OKs.cons.mpr ⟨⟨w32_i _, nofun⟩, q2⟩) o5 o6 hA hS hR
theorem o_cmpL {x y : Int} (hx : i64 x) (hy : i64 y) : Int32.ofInt (cmp3 x y) = lg_cmp (Int64.ofInt x) (Int64.ofInt y) := by
  unfold cmp3 lg_cmp
  simp only [gt_iff_lt, ol_lt hy hx, ol_eq hx hy]
  rcases Int.lt_trichotomy x y with h | h | h
  · rw [if_pos h, if_neg (by omega), if_neg (by omega)]; rfl
  · rw [if_neg (by omega), if_pos h, if_neg (by omega), if_pos h]; rfl
  · rw [if_neg (by omega), if_neg (by omega), if_pos h]; rfl
theorem s_lcmp (X : CX p R s m args c cc own nL d L base dC dI dA cv adV xs) {x y : Int} (hd : decode cc pc = .ok (.lcmp, 1)) (hk : WW p l e R s m args below meth c Q nL n0 m0 L base Ls dC dI dA cv xs (pc + 1) ls (vI (cmp3 x y) :: r) S M) : WW p l e R s m args below meth c Q nL n0 m0 L base Ls dC dI dA cv xs pc ls (vL y :: vL x :: r) S M := by
  intro H locs lsC o1 o2 o3 o4 o5 o6 hA hS hR
  obtain ⟨⟨q1, -⟩, q2⟩ := OKs.cons.mp o4
  obtain ⟨⟨q3, -⟩, q4⟩ := OKs.cons.mp q2
  have k := hk H locs lsC o1 o2 o3 (OKs.cons.mpr ⟨⟨cmp3_i x y, nofun⟩, q4⟩) o5 o6 hA hS hR
  rw [List.map_cons, show cV cv (vI (cmp3 x y)) = .int (Int32.ofInt (cmp3 x y)) from rfl, o_cmpL q3 q1] at k
  exact W.lcmp X.1.1 X.1.2.1 hd k
theorem s_i2l (X : CX p R s m args c cc own nL d L base dC dI dA cv adV xs) {x : Int} (hd : decode cc pc = .ok (.i2l, 1)) (hk : WW p l e R s m args below meth c Q nL n0 m0 L base Ls dC dI dA cv xs (pc + 1) ls (vL x :: r) S M) : WW p l e R s m args below meth c Q nL n0 m0 L base Ls dC dI dA cv xs pc ls (vI x :: r) S M := by
  intro H locs lsC o1 o2 o3 o4 o5 o6 hA hS hR
  obtain ⟨⟨q1, -⟩, q2⟩ := OKs.cons.mp o4
  exact lv_i2l X.1.1 X.1.2.1 hd (o_i2l q1) (hk H locs lsC o1 o2 o3 (OKs.cons.mpr ⟨⟨i64_of_32 q1, nofun⟩, q2⟩) o5 o6 hA hS hR)
theorem s_l2i (X : CX p R s m args c cc own nL d L base dC dI dA cv adV xs) {x : Int} (hd : decode cc pc = .ok (.l2i, 1)) (hk : WW p l e R s m args below meth c Q nL n0 m0 L base Ls dC dI dA cv xs (pc + 1) ls (vI (w32 x) :: r) S M) : WW p l e R s m args below meth c Q nL n0 m0 L base Ls dC dI dA cv xs pc ls (vL x :: r) S M := by
  intro H locs lsC o1 o2 o3 o4 o5 o6 hA hS hR
  obtain ⟨⟨q1, -⟩, q2⟩ := OKs.cons.mp o4
  exact lv_l2i X.1.1 X.1.2.1 hd (o_l2i q1) (hk H locs lsC o1 o2 o3 (OKs.cons.mpr ⟨⟨w32_i _, nofun⟩, q2⟩) o5 o6 hA hS hR)
theorem s_i2b (X : CX p R s m args c cc own nL d L base dC dI dA cv adV xs) {x : Int} (hd : decode cc pc = .ok (.i2b, 1)) (hk : WW p l e R s m args below meth c Q nL n0 m0 L base Ls dC dI dA cv xs (pc + 1) ls (vI (w8 x) :: r) S M) : WW p l e R s m args below meth c Q nL n0 m0 L base Ls dC dI dA cv xs pc ls (vI x :: r) S M := by
  intro H locs lsC o1 o2 o3 o4 o5 o6 hA hS hR
  obtain ⟨⟨q1, -⟩, q2⟩ := OKs.cons.mp o4
  exact lv_i2b X.1.1 X.1.2.1 hd (o_i2b q1) (hk H locs lsC o1 o2 o3 (OKs.cons.mpr ⟨⟨w8_i _, nofun⟩, q2⟩) o5 o6 hA hS hR)
theorem s_i2s (X : CX p R s m args c cc own nL d L base dC dI dA cv adV xs) {x : Int} (hd : decode cc pc = .ok (.i2s, 1)) (hk : WW p l e R s m args below meth c Q nL n0 m0 L base Ls dC dI dA cv xs (pc + 1) ls (vI (w16 x) :: r) S M) : WW p l e R s m args below meth c Q nL n0 m0 L base Ls dC dI dA cv xs pc ls (vI x :: r) S M := by
  intro H locs lsC o1 o2 o3 o4 o5 o6 hA hS hR
  obtain ⟨⟨q1, -⟩, q2⟩ := OKs.cons.mp o4
  exact lv_i2s X.1.1 X.1.2.1 hd (o_i2s q1) (hk H locs lsC o1 o2 o3 (OKs.cons.mpr ⟨⟨w16_i _, nofun⟩, q2⟩) o5 o6 hA hS hR)
theorem wds1 {cv : Nat → Nat} {v : AV} (h : Nat.beq (wds [v]) 1 = true) (hv : v ≠ vU) : (cV cv v).category = 1 := by
  rcases v with x | x | x | ⟨⟩
  · rfl
  · cases h
  · rfl
  · exact absurd rfl hv
theorem wds2 {v w : AV} (h : Nat.beq (wds [v, w]) 2 = true) : Nat.beq (wds [v]) 1 = true ∧ Nat.beq (wds [w]) 1 = true := by
  rcases v with x | x | x | ⟨⟩ <;> rcases w with y | y | y | ⟨⟩ <;> first | exact ⟨rfl, rfl⟩ | cases h
theorem wds_le {cv : Nat → Nat} {S : Sp} : ∀ {r : List AV}, OKs S r → ((r.map (cV cv)).map fun v => v.category).sum = wds r
  | [], _ => rfl
  | v :: t, h => by
    obtain ⟨⟨-, h2⟩, h3⟩ := OKs.cons.mp h
    have ih := wds_le (cv := cv) h3
    rcases v with x | x | x | ⟨⟩
    · simp only [List.map_cons, List.sum_cons, ih, wds]; rfl
    · simp only [List.map_cons, List.sum_cons, ih, wds]; rfl
    · simp only [List.map_cons, List.sum_cons, ih, wds]; rfl
    · exact absurd rfl h2
theorem s_dup (X : CX p R s m args c cc own nL d L base dC dI dA cv adV xs) {v : AV} (hd : decode cc pc = .ok (.dup, 1)) (hc : Nat.beq (wds [v]) 1 = true) (hk : WW p l e R s m args below meth c Q nL n0 m0 L base Ls dC dI dA cv xs (pc + 1) ls (v :: v :: r) S M) : WW p l e R s m args below meth c Q nL n0 m0 L base Ls dC dI dA cv xs pc ls (v :: r) S M := by
  intro H locs lsC o1 o2 o3 o4 o5 o6 hA hS hR
  obtain ⟨q1, q2⟩ := OKs.cons.mp o4
  exact lv_dup X.1.1 X.1.2.1 hd (wds1 hc q1.2) (hk H locs lsC o1 o2 o3 (OKs.cons.mpr ⟨q1, o4⟩) o5 o6 hA hS hR)
theorem s_pop (X : CX p R s m args c cc own nL d L base dC dI dA cv adV xs) {v : AV} (hd : decode cc pc = .ok (.pop, 1)) (hc : Nat.beq (wds [v]) 1 = true) (hk : WW p l e R s m args below meth c Q nL n0 m0 L base Ls dC dI dA cv xs (pc + 1) ls r S M) : WW p l e R s m args below meth c Q nL n0 m0 L base Ls dC dI dA cv xs pc ls (v :: r) S M := by
  intro H locs lsC o1 o2 o3 o4 o5 o6 hA hS hR
  obtain ⟨q1, q2⟩ := OKs.cons.mp o4
  exact lv_pop X.1.1 X.1.2.1 hd (wds1 hc q1.2) (hk H locs lsC o1 o2 o3 q2 o5 o6 hA hS hR)
theorem s_dup2 (X : CX p R s m args c cc own nL d L base dC dI dA cv adV xs) {v w : AV} (hd : decode cc pc = .ok (.dup2, 1)) (hc : Nat.beq (wds [v, w]) 2 = true) (hk : WW p l e R s m args below meth c Q nL n0 m0 L base Ls dC dI dA cv xs (pc + 1) ls (v :: w :: v :: w :: r) S M) : WW p l e R s m args below meth c Q nL n0 m0 L base Ls dC dI dA cv xs pc ls (v :: w :: r) S M := by
  intro H locs lsC o1 o2 o3 o4 o5 o6 hA hS hR
  obtain ⟨q1, q2⟩ := OKs.cons.mp o4
  obtain ⟨q3, q4⟩ := OKs.cons.mp q2
  exact lv_dup2_11 X.1.1 X.1.2.1 hd (wds1 (wds2 hc).1 q1.2) (wds1 (wds2 hc).2 q3.2) (hk H locs lsC o1 o2 o3 (OKs.cons.mpr ⟨q1, OKs.cons.mpr ⟨q3, o4⟩⟩) o5 o6 hA hS hR)
theorem s_dup2l (X : CX p R s m args c cc own nL d L base dC dI dA cv adV xs) {x : Int} (hd : decode cc pc = .ok (.dup2, 1)) (hk : WW p l e R s m args below meth c Q nL n0 m0 L base Ls dC dI dA cv xs (pc + 1) ls (vL x :: vL x :: r) S M) : WW p l e R s m args below meth c Q nL n0 m0 L base Ls dC dI dA cv xs pc ls (vL x :: r) S M := by
  intro H locs lsC o1 o2 o3 o4 o5 o6 hA hS hR
  obtain ⟨q1, q2⟩ := OKs.cons.mp o4
  exact lv_dup2_2 X.1.1 X.1.2.1 hd rfl (hk H locs lsC o1 o2 o3 (OKs.cons.mpr ⟨q1, o4⟩) o5 o6 hA hS hR)
theorem s_goto (X : CX p R s m args c cc own nL d L base dC dI dA cv adV xs) {off : Int} {t : Nat} (hd : decode cc pc = .ok (.goto off, 3)) (ht : (pc : Int) + off = (t : Int)) (hk : WW p l e R s m args below meth c Q nL n0 m0 L base Ls dC dI dA cv xs t ls r S M) : WW p l e R s m args below meth c Q nL n0 m0 L base Ls dC dI dA cv xs pc ls r S M := by
  intro H locs lsC o1 o2 o3 o4 o5 o6 hA hS hR
  exact lv_goto X.1.1 X.1.2.1 hd ht (hk H locs lsC o1 o2 o3 o4 o5 o6 hA hS hR)
theorem s_if_eq (X : CX p R s m args c cc own nL d L base dC dI dA cv adV xs) {x off : Int} {t : Nat} (hd : decode cc pc = .ok (.ifCond .eq off, 3)) (ht : (pc : Int) + off = (t : Int)) (kt : x = 0 → WW p l e R s m args below meth c Q nL n0 m0 L base Ls dC dI dA cv xs t ls r S M) (kf : ¬ x = 0 → WW p l e R s m args below meth c Q nL n0 m0 L base Ls dC dI dA cv xs (pc + 3) ls r S M) : WW p l e R s m args below meth c Q nL n0 m0 L base Ls dC dI dA cv xs pc ls (vI x :: r) S M := by
  intro H locs lsC o1 o2 o3 o4 o5 o6 hA hS hR
  obtain ⟨⟨q1, -⟩, q2⟩ := OKs.cons.mp o4
  exact lv_if_eq X.1.1 X.1.2.1 hd ht (fun z => kt ((o_eq0 q1).mp z) H locs lsC o1 o2 o3 q2 o5 o6 hA hS hR) (fun z => kf (fun w => z ((o_eq0 q1).mpr w)) H locs lsC o1 o2 o3 q2 o5 o6 hA hS hR)
theorem s_if_ne (X : CX p R s m args c cc own nL d L base dC dI dA cv adV xs) {x off : Int} {t : Nat} (hd : decode cc pc = .ok (.ifCond .ne off, 3)) (ht : (pc : Int) + off = (t : Int)) (kt : x = 0 → WW p l e R s m args below meth c Q nL n0 m0 L base Ls dC dI dA cv xs (pc + 3) ls r S M) (kf : ¬ x = 0 → WW p l e R s m args below meth c Q nL n0 m0 L base Ls dC dI dA cv xs t ls r S M) : WW p l e R s m args below meth c Q nL n0 m0 L base Ls dC dI dA cv xs pc ls (vI x :: r) S M := by
  intro H locs lsC o1 o2 o3 o4 o5 o6 hA hS hR
  obtain ⟨⟨q1, -⟩, q2⟩ := OKs.cons.mp o4
  exact lv_if_ne X.1.1 X.1.2.1 hd ht (fun z => kf (fun w => z ((o_eq0 q1).mpr w)) H locs lsC o1 o2 o3 q2 o5 o6 hA hS hR) (fun z => kt ((o_eq0 q1).mp z) H locs lsC o1 o2 o3 q2 o5 o6 hA hS hR)
theorem s_if_lt (X : CX p R s m args c cc own nL d L base dC dI dA cv adV xs) {x off : Int} {t : Nat} (hd : decode cc pc = .ok (.ifCond .lt off, 3)) (ht : (pc : Int) + off = (t : Int)) (kt : x < 0 → WW p l e R s m args below meth c Q nL n0 m0 L base Ls dC dI dA cv xs t ls r S M) (kf : ¬ x < 0 → WW p l e R s m args below meth c Q nL n0 m0 L base Ls dC dI dA cv xs (pc + 3) ls r S M) : WW p l e R s m args below meth c Q nL n0 m0 L base Ls dC dI dA cv xs pc ls (vI x :: r) S M := by
  intro H locs lsC o1 o2 o3 o4 o5 o6 hA hS hR
  obtain ⟨⟨q1, -⟩, q2⟩ := OKs.cons.mp o4
  exact lv_if_lt X.1.1 X.1.2.1 hd ht (fun z => kt ((o_lt0 q1).mp z) H locs lsC o1 o2 o3 q2 o5 o6 hA hS hR) (fun z => kf (fun w => z ((o_lt0 q1).mpr w)) H locs lsC o1 o2 o3 q2 o5 o6 hA hS hR)
theorem s_if_ge (X : CX p R s m args c cc own nL d L base dC dI dA cv adV xs) {x off : Int} {t : Nat} (hd : decode cc pc = .ok (.ifCond .ge off, 3)) (ht : (pc : Int) + off = (t : Int)) (kt : x < 0 → WW p l e R s m args below meth c Q nL n0 m0 L base Ls dC dI dA cv xs (pc + 3) ls r S M) (kf : ¬ x < 0 → WW p l e R s m args below meth c Q nL n0 m0 L base Ls dC dI dA cv xs t ls r S M) : WW p l e R s m args below meth c Q nL n0 m0 L base Ls dC dI dA cv xs pc ls (vI x :: r) S M := by
  intro H locs lsC o1 o2 o3 o4 o5 o6 hA hS hR
  obtain ⟨⟨q1, -⟩, q2⟩ := OKs.cons.mp o4
  exact lv_if_ge X.1.1 X.1.2.1 hd ht (fun z => kf (Int.not_lt.mpr ((o_ge0 q1).mp z)) H locs lsC o1 o2 o3 q2 o5 o6 hA hS hR) (fun z => kt (Int.not_le.mp fun w => z ((o_ge0 q1).mpr w)) H locs lsC o1 o2 o3 q2 o5 o6 hA hS hR)
theorem s_if_gt (X : CX p R s m args c cc own nL d L base dC dI dA cv adV xs) {x off : Int} {t : Nat} (hd : decode cc pc = .ok (.ifCond .gt off, 3)) (ht : (pc : Int) + off = (t : Int)) (kt : 0 < x → WW p l e R s m args below meth c Q nL n0 m0 L base Ls dC dI dA cv xs t ls r S M) (kf : ¬ 0 < x → WW p l e R s m args below meth c Q nL n0 m0 L base Ls dC dI dA cv xs (pc + 3) ls r S M) : WW p l e R s m args below meth c Q nL n0 m0 L base Ls dC dI dA cv xs pc ls (vI x :: r) S M := by
  intro H locs lsC o1 o2 o3 o4 o5 o6 hA hS hR
  obtain ⟨⟨q1, -⟩, q2⟩ := OKs.cons.mp o4
  exact lv_if_gt X.1.1 X.1.2.1 hd ht (fun z => kt ((o_gt0 q1).mp z) H locs lsC o1 o2 o3 q2 o5 o6 hA hS hR) (fun z => kf (fun w => z ((o_gt0 q1).mpr w)) H locs lsC o1 o2 o3 q2 o5 o6 hA hS hR)
theorem s_if_le (X : CX p R s m args c cc own nL d L base dC dI dA cv adV xs) {x off : Int} {t : Nat} (hd : decode cc pc = .ok (.ifCond .le off, 3)) (ht : (pc : Int) + off = (t : Int)) (kt : 0 < x → WW p l e R s m args below meth c Q nL n0 m0 L base Ls dC dI dA cv xs (pc + 3) ls r S M) (kf : ¬ 0 < x → WW p l e R s m args below meth c Q nL n0 m0 L base Ls dC dI dA cv xs t ls r S M) : WW p l e R s m args below meth c Q nL n0 m0 L base Ls dC dI dA cv xs pc ls (vI x :: r) S M := by
  intro H locs lsC o1 o2 o3 o4 o5 o6 hA hS hR
  obtain ⟨⟨q1, -⟩, q2⟩ := OKs.cons.mp o4
  exact lv_if_le X.1.1 X.1.2.1 hd ht (fun z => kf (Int.not_lt.mpr ((o_le0 q1).mp z)) H locs lsC o1 o2 o3 q2 o5 o6 hA hS hR) (fun z => kt (Int.not_le.mp fun w => z ((o_le0 q1).mpr w)) H locs lsC o1 o2 o3 q2 o5 o6 hA hS hR)
theorem s_icmp_eq (X : CX p R s m args c cc own nL d L base dC dI dA cv adV xs) {x y off : Int} {t : Nat} (hd : decode cc pc = .ok (.if_icmp .eq off, 3)) (ht : (pc : Int) + off = (t : Int)) (kt : x = y → WW p l e R s m args below meth c Q nL n0 m0 L base Ls dC dI dA cv xs t ls r S M) (kf : ¬ x = y → WW p l e R s m args below meth c Q nL n0 m0 L base Ls dC dI dA cv xs (pc + 3) ls r S M) : WW p l e R s m args below meth c Q nL n0 m0 L base Ls dC dI dA cv xs pc ls (vI y :: vI x :: r) S M := by
  intro H locs lsC o1 o2 o3 o4 o5 o6 hA hS hR
  obtain ⟨⟨q1, -⟩, q2⟩ := OKs.cons.mp o4
  obtain ⟨⟨q3, -⟩, q4⟩ := OKs.cons.mp q2
  exact lv_icmp_eq X.1.1 X.1.2.1 hd ht (fun z => kt ((o_eq q3 q1).mp z) H locs lsC o1 o2 o3 q4 o5 o6 hA hS hR) (fun z => kf (fun w => z ((o_eq q3 q1).mpr w)) H locs lsC o1 o2 o3 q4 o5 o6 hA hS hR)
theorem s_icmp_ne (X : CX p R s m args c cc own nL d L base dC dI dA cv adV xs) {x y off : Int} {t : Nat} (hd : decode cc pc = .ok (.if_icmp .ne off, 3)) (ht : (pc : Int) + off = (t : Int)) (kt : x = y → WW p l e R s m args below meth c Q nL n0 m0 L base Ls dC dI dA cv xs (pc + 3) ls r S M) (kf : ¬ x = y → WW p l e R s m args below meth c Q nL n0 m0 L base Ls dC dI dA cv xs t ls r S M) : WW p l e R s m args below meth c Q nL n0 m0 L base Ls dC dI dA cv xs pc ls (vI y :: vI x :: r) S M := by
  intro H locs lsC o1 o2 o3 o4 o5 o6 hA hS hR
  obtain ⟨⟨q1, -⟩, q2⟩ := OKs.cons.mp o4
  obtain ⟨⟨q3, -⟩, q4⟩ := OKs.cons.mp q2
  exact lv_icmp_ne X.1.1 X.1.2.1 hd ht (fun z => kf (fun w => z ((o_eq q3 q1).mpr w)) H locs lsC o1 o2 o3 q4 o5 o6 hA hS hR) (fun z => kt ((o_eq q3 q1).mp z) H locs lsC o1 o2 o3 q4 o5 o6 hA hS hR)
theorem s_icmp_lt (X : CX p R s m args c cc own nL d L base dC dI dA cv adV xs) {x y off : Int} {t : Nat} (hd : decode cc pc = .ok (.if_icmp .lt off, 3)) (ht : (pc : Int) + off = (t : Int)) (kt : x < y → WW p l e R s m args below meth c Q nL n0 m0 L base Ls dC dI dA cv xs t ls r S M) (kf : ¬ x < y → WW p l e R s m args below meth c Q nL n0 m0 L base Ls dC dI dA cv xs (pc + 3) ls r S M) : WW p l e R s m args below meth c Q nL n0 m0 L base Ls dC dI dA cv xs pc ls (vI y :: vI x :: r) S M := by
  intro H locs lsC o1 o2 o3 o4 o5 o6 hA hS hR
  obtain ⟨⟨q1, -⟩, q2⟩ := OKs.cons.mp o4
  obtain ⟨⟨q3, -⟩, q4⟩ := OKs.cons.mp q2
  exact lv_icmp_lt X.1.1 X.1.2.1 hd ht (fun z => kt ((o_lt q3 q1).mp z) H locs lsC o1 o2 o3 q4 o5 o6 hA hS hR) (fun z => kf (fun w => z ((o_lt q3 q1).mpr w)) H locs lsC o1 o2 o3 q4 o5 o6 hA hS hR)
theorem s_icmp_ge (X : CX p R s m args c cc own nL d L base dC dI dA cv adV xs) {x y off : Int} {t : Nat} (hd : decode cc pc = .ok (.if_icmp .ge off, 3)) (ht : (pc : Int) + off = (t : Int)) (kt : x < y → WW p l e R s m args below meth c Q nL n0 m0 L base Ls dC dI dA cv xs (pc + 3) ls r S M) (kf : ¬ x < y → WW p l e R s m args below meth c Q nL n0 m0 L base Ls dC dI dA cv xs t ls r S M) : WW p l e R s m args below meth c Q nL n0 m0 L base Ls dC dI dA cv xs pc ls (vI y :: vI x :: r) S M := by
  intro H locs lsC o1 o2 o3 o4 o5 o6 hA hS hR
  obtain ⟨⟨q1, -⟩, q2⟩ := OKs.cons.mp o4
  obtain ⟨⟨q3, -⟩, q4⟩ := OKs.cons.mp q2
  exact lv_icmp_ge X.1.1 X.1.2.1 hd ht (fun z => kf (Int.not_lt.mpr ((o_le q1 q3).mp z)) H locs lsC o1 o2 o3 q4 o5 o6 hA hS hR) (fun z => kt (Int.not_le.mp fun w => z ((o_le q1 q3).mpr w)) H locs lsC o1 o2 o3 q4 o5 o6 hA hS hR)
theorem s_icmp_gt (X : CX p R s m args c cc own nL d L base dC dI dA cv adV xs) {x y off : Int} {t : Nat} (hd : decode cc pc = .ok (.if_icmp .gt off, 3)) (ht : (pc : Int) + off = (t : Int)) (kt : y < x → WW p l e R s m args below meth c Q nL n0 m0 L base Ls dC dI dA cv xs t ls r S M) (kf : ¬ y < x → WW p l e R s m args below meth c Q nL n0 m0 L base Ls dC dI dA cv xs (pc + 3) ls r S M) : WW p l e R s m args below meth c Q nL n0 m0 L base Ls dC dI dA cv xs pc ls (vI y :: vI x :: r) S M := by
  intro H locs lsC o1 o2 o3 o4 o5 o6 hA hS hR
  obtain ⟨⟨q1, -⟩, q2⟩ := OKs.cons.mp o4
  obtain ⟨⟨q3, -⟩, q4⟩ := OKs.cons.mp q2
  exact lv_icmp_gt X.1.1 X.1.2.1 hd ht (fun z => kt ((o_lt q1 q3).mp z) H locs lsC o1 o2 o3 q4 o5 o6 hA hS hR) (fun z => kf (fun w => z ((o_lt q1 q3).mpr w)) H locs lsC o1 o2 o3 q4 o5 o6 hA hS hR)
theorem s_icmp_le (X : CX p R s m args c cc own nL d L base dC dI dA cv adV xs) {x y off : Int} {t : Nat} (hd : decode cc pc = .ok (.if_icmp .le off, 3)) (ht : (pc : Int) + off = (t : Int)) (kt : y < x → WW p l e R s m args below meth c Q nL n0 m0 L base Ls dC dI dA cv xs (pc + 3) ls r S M) (kf : ¬ y < x → WW p l e R s m args below meth c Q nL n0 m0 L base Ls dC dI dA cv xs t ls r S M) : WW p l e R s m args below meth c Q nL n0 m0 L base Ls dC dI dA cv xs pc ls (vI y :: vI x :: r) S M := by
  intro H locs lsC o1 o2 o3 o4 o5 o6 hA hS hR
  obtain ⟨⟨q1, -⟩, q2⟩ := OKs.cons.mp o4
  obtain ⟨⟨q3, -⟩, q4⟩ := OKs.cons.mp q2
  exact lv_icmp_le X.1.1 X.1.2.1 hd ht (fun z => kf (Int.not_lt.mpr ((o_le q3 q1).mp z)) H locs lsC o1 o2 o3 q4 o5 o6 hA hS hR) (fun z => kt (Int.not_le.mp fun w => z ((o_le q3 q1).mpr w)) H locs lsC o1 o2 o3 q4 o5 o6 hA hS hR)
end SND

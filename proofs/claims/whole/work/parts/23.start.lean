/-! THE LAW'S START -/
theorem aoA_spec {args : Array Value} {s : State} {ty : FieldType} (h : (Jvm.Cond.arrayOver (.array ty)).before args s = true) : ∃ (c cp : ClassId) (k : Class), s.vm.classes[c]? = some k ∧ k.kind = .array cp (.array ty) ∧ s.vm.findClass ("[" ++ (FieldType.array ty).toString) = some c := by
  unfold Cond.before at h
  simp only [Cond.holds, Cond.value, beq_iff_eq] at h
  obtain ⟨comp, hc, h⟩ := Option.bind_eq_some_iff.mp h
  obtain ⟨c, hi, h⟩ := Option.bind_eq_some_iff.mp h
  obtain ⟨k, hk, h⟩ := Option.map_eq_some_iff.mp h
  cases hkind : k.kind with
  | array cp t2 =>
    simp [hkind] at h
    exact ⟨c, cp, k, hk, by rw [hkind, h.1], h.2⟩
  | _ => simp [hkind] at h
theorem arrOf {s : State} {cA cp : ClassId} {k : Class} {ty : FieldType} (hk : s.vm.classes[cA]? = some k) (hkind : k.kind = .array cp ty) : ArrOfT s cA ty := fun n z => ⟨fun k h => (by cases h), k, hk, cp, hkind⟩
theorem start_K {args : Array Value} {s : State} (hts : ∀ w ∈ lw_tbl, w.before args s = true) : ∃ (dC : Nat → ClassId) (dI : Nat → Nat → Nat) (dA : Nat → ClassId), va_K (dC, dI) clT (tysT dA) s := by
  have h0 : ∀ t : Nat, ∃ q : ClassId × (Nat → Nat), t < 13 → u_Kn s (clN.getD t "") (TT t) (nF t) q.1 q.2 := by
    intro t
    by_cases ht : t < 13
    · obtain ⟨cC, iS, hK⟩ := u_known (ws := u_ws (clN.getD t "") (TT t) (nF t)) (n := nF t) (fun w hw => hts w ((cl_words ht).1 w hw).1) (fun _ h => h) (hts _ (cl_words ht).2.1)
      exact ⟨(cC, iS), fun _ => hK⟩
    · exact ⟨(default, fun _ => 0), fun h => absurd h ht⟩
  obtain ⟨q, hq⟩ := Classical.axiomOfChoice h0
  obtain ⟨aI, kI, cpI, i1, i2, i3⟩ := Cond.arrayClass_spec (hts _ k_AC.1)
  obtain ⟨aJ, kJ, cpJ, j1, j2, j3⟩ := Cond.arrayClass_spec (hts _ k_AC.2.1)
  obtain ⟨aB, kB, cpB, b1, b2, b3⟩ := Cond.arrayClass_spec (hts _ k_AC.2.2.1)
  obtain ⟨cS, aS, kS, s1, -, s3, s4, s5⟩ := Cond.arrayOver_spec (hts (.arrayOver (.object "CargoFlag$State")) (tbW_in 2 _ (nthW_mem _ 166 _ rfl)))
  obtain ⟨cV0, aV, kV, v1, -, v3, v4, v5⟩ := Cond.arrayOver_spec (hts (.arrayOver (.object "CargoFlag$Vessel")) (tbW_in 2 _ (nthW_mem _ 50 _ rfl)))
  obtain ⟨aL, cpL, kL, l1, l2, l3⟩ := aoA_spec (ty := .long) (hts (.arrayOver (.array .long)) (tbW_in 1 _ (nthW_mem _ 37 _ rfl)))
  obtain ⟨aM, cpM, kM, m1, m2, m3⟩ := aoA_spec (ty := .int) (hts (.arrayOver (.array .int)) (tbW_in 1 _ (nthW_mem _ 196 _ rfl)))
  refine ⟨fun t => (q t).1, fun t => (q t).2, fun t => if t = 20 then aI else if t = 21 then aJ else if t = 22 then aB else if t = 23 then aS else if t = 24 then aV else if t = 25 then aL else aM, fun t r hr => ?_, fun k r hr => ?_⟩
  · have ht : t < 13 := (List.getElem?_eq_some_iff.mp hr).1
    have e := (cl_at ht).symm.trans hr
    cases e
    exact hq t ht
  · match k, hr with
    | 0, hr => cases hr; exact ⟨arrOf i2 i3, i1⟩
    | 1, hr => cases hr; exact ⟨arrOf j2 j3, j1⟩
    | 2, hr => cases hr; exact ⟨arrOf b2 b3, b1⟩
    | 3, hr => cases hr; exact ⟨arrOf s3 s4, kS, cS, s3, s4, s1, s5⟩
    | 4, hr => cases hr; exact ⟨arrOf v3 v4, kV, cV0, v3, v4, v1, v5⟩
    | 5, hr => cases hr; exact ⟨arrOf l1 l2, l3⟩
    | 6, hr => cases hr; exact ⟨arrOf m1 m2, m3⟩
    | k + 7, hr => simp [tysT] at hr
theorem start_Y {args : Array Value} {s : State} (hts : ∀ w ∈ lw_tbl, w.before args s = true) : YY s := ⟨fun o i y h hm => va_Nw.of rfl (hts _ hm), va_AO.of (hts _ (tbW_in 2 _ (nthW_mem _ 166 _ rfl))), va_AO.of (hts _ (tbW_in 2 _ (nthW_mem _ 50 _ rfl))), hts (.arrayOver (.array .long)) (tbW_in 1 _ (nthW_mem _ 37 _ rfl)), hts (.arrayOver (.array .int)) (tbW_in 1 _ (nthW_mem _ 196 _ rfl))⟩
noncomputable def flL : List Jvm.Cond := flatC (Jvm.Cond.and given_1 narrow_1)
def tm : Nat → Term
  | 0 => .string "CargoFlag$Tape" 54
  | _ => .string "CargoFlagModel" 171
noncomputable def okFl : Bool := decide (nthW flL 35 = some (.exactly (tm 0) "java/lang/String")) && decide (nthW flL 191 = some (.exactly (tm 1) "java/lang/String")) && decide (nthW flL 36 = some (.eq (.field (tm 0) "java/lang/String" "coder" "B") (.int 0))) && decide (nthW flL 192 = some (.eq (.field (tm 1) "java/lang/String" "coder" "B") (.int 0))) && decide (nthW flL 37 = some (.arrayOf (.field (tm 0) "java/lang/String" "value" "[B") .byte)) && decide (nthW flL 193 = some (.arrayOf (.field (tm 1) "java/lang/String" "value" "[B") .byte)) && decide (nthW flL 38 = some (.eq (.length (.field (tm 0) "java/lang/String" "value" "[B")) (.int 152))) && decide (nthW flL 194 = some (.eq (.length (.field (tm 1) "java/lang/String" "value" "[B")) (.int 154))) && decide (nthW flL 349 = some (.not (.eq (tm 0) (tm 1))))
theorem okFl_t : okFl = true := by decide +kernel
def dropW : Nat → List Jvm.Cond → List Jvm.Cond
  | 0, l => l
  | _ + 1, [] => []
  | n + 1, _ :: t => dropW n t
theorem dropW_mem {w : Jvm.Cond} : ∀ (n : Nat) (l : List Jvm.Cond), w ∈ dropW n l → w ∈ l
  | 0, _, h => h
  | _ + 1, [], h => h
  | n + 1, _ :: t, h => List.mem_cons_of_mem _ (dropW_mem n t h)
/-- the elements' conditions stand one behind the other -/
noncomputable def elC (i : Nat) (j : Nat) (x : Int) : Jvm.Cond := .eq (.elem (.field (tm i) "java/lang/String" "value" "[B") (.int (Int32.ofNat j))) (.int (Int32.ofInt x))
noncomputable def okEl (i : Nat) : Nat → List Int → List Jvm.Cond → Bool
  | _, [], _ => true
  | _, _ :: _, [] => false
  | j, x :: xs, c :: cs => decide (c = elC i j x) && okEl i (j + 1) xs cs
theorem okEl_0 : okEl 0 0 (strT.getD 0 []) (dropW 39 flL) = true := by decide +kernel
theorem okEl_1 : okEl 1 0 (strT.getD 1 []) (dropW 195 flL) = true := by decide +kernel
theorem okEl_at (i : Nat) : ∀ (xs : List Int) (cs : List Jvm.Cond) (j0 j : Nat) (x : Int), okEl i j0 xs cs = true → xs[j]? = some x → elC i (j0 + j) x ∈ cs
  | [], _, _, _, _, _, h => by simp at h
  | _ :: _, [], _, _, _, h, _ => by cases h
  | y :: ys, c :: cs, j0, j, x, h, hj => by
    have h : (decide (c = elC i j0 y) && okEl i (j0 + 1) ys cs) = true := h
    rw [Bool.and_eq_true, decide_eq_true_eq] at h
    cases j with
    | zero => cases hj; rw [h.1]; exact List.mem_cons_self
    | succ j =>
      rw [show j0 + (j + 1) = j0 + 1 + j by omega]
      exact List.mem_cons_of_mem _ (okEl_at i ys cs (j0 + 1) j x h.2 hj)

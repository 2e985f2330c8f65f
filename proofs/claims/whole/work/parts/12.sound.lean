/-! THE MACHINE IS SOUND, definitions: what the abstract state says of the heap -/
def cV (cv : Nat → Nat) : AV → Value
  | .inl x => .int (Int32.ofInt x)
  | .inr (.inl x) => .long (Int64.ofInt x)
  | .inr (.inr (.inl r)) => .ref (cv r.2.2)
  | .inr (.inr (.inr _)) => .null
def okR (S : Sp) (r : Nat × Int × Nat) : Prop := ∃ (m : Nat) (rf : List (Option Nat)), S[r.2.2]? = some (r.1, m, rf) ∧ r.2.1 = (m : Int)
def okV (S : Sp) : AV → Prop
  | .inl x => i32 x
  | .inr (.inl x) => i64 x
  | .inr (.inr (.inl r)) => okR S r
  | .inr (.inr (.inr _)) => True
def ck (t k : Nat) : Nat := if t < 13 then nthN (fK.getD t []) k else if t = 20 ∨ t = 29 then 0 else if t = 21 then 1 else if t = 22 then 4 else 2
def okX (c : Nat) (x : Int) : Prop := match c with
  | 0 => i32 x
  | 1 => i64 x
  | 3 => x = 0 ∨ x = 1
  | 4 => -128 ≤ x ∧ x < 128
  | _ => True
def rT (t k : Nat) : Nat × Nat := if t < 13 then (fR.getD t []).getD k (0, 0) else elT t
def okS (L : Nat) (S : Sp) : Prop := S[0]? = some (29, L, []) ∧ S[1]? = some (13, 0, []) ∧ S[2]? = some (13, 1, []) ∧ L < 2147483648 ∧ ∀ (a t m : Nat) (rf : List (Option Nat)), 3 ≤ a → S[a]? = some (t, m, rf) →
  ((t < 13 ∧ m = 0 ∧ rf.length = nF t) ∨ (20 ≤ t ∧ t ≤ 22 ∧ rf = []) ∨ (23 ≤ t ∧ t ≤ 28 ∧ rf.length = m)) ∧ m ≤ 10000 ∧ ∀ k b : Nat, rf[k]? = some (some b) → okR S ((rT t k).1, ((rT t k).2 : Int), b)
def okM (xs : Nat → Int) (S : Sp) (M : Mm) : Prop := (∀ (a t m : Nat) (rf : List (Option Nat)), S[a]? = some (t, m, rf) → ∀ k : Nat, okX (ck t k) (M a k)) ∧ (∀ a : Nat, S.length ≤ a → ∀ k : Nat, M a k = 0) ∧ ∀ j, M 0 j = xs j
def sv (cv : Nat → Nat) (t : Nat) (rf : List (Option Nat)) (f : Nat → Int) (k : Nat) : Value := match ck t k with
  | 1 => .long (Int64.ofInt (f k))
  | 2 => va_rf ((rf.getD k none).map cv)
  | _ => .int (Int32.ofInt (f k))
def aid (dA : Nat → ClassId) : Nat → ClassId
  | 26 => dA 25
  | 28 => dA 27
  | t => dA t
def payE (cv : Nat → Nat) (d : Ds) (f : Nat → Int) : (Nat → Int32) ⊕ (Nat → Int64) ⊕ (Nat → UInt32) ⊕ (Nat → UInt64) ⊕ (Nat → Option Nat) :=
  if d.1 = 21 then .inr (.inl fun j => Int64.ofInt (f j)) else if d.1 ≤ 22 then .inl fun j => Int32.ofInt (f j) else .inr (.inr (.inr (.inr fun j => (d.2.2.getD j none).map cv)))
def enE (cv : Nat → Nat) (dA : Nat → ClassId) (d : Ds) (f : Nat → Int) : va_E :=
  if d.1 < 13 then .inr (d.1, (List.range (nF d.1)).map (sv cv d.1 d.2.2 f)) else .inl (aid dA d.1, d.2.1, payE cv d f)
def wsO (cv : Nat → Nat) (dA : Nat → ClassId) (base : Nat) (S : Sp) (M : Mm) : va_W := (List.range (S.length - 3)).map fun j => (base + j, enE cv dA (S.getD (j + 3) (0, 0, [])) (M (j + 3)))
theorem wsO_len (cv : Nat → Nat) (dA : Nat → ClassId) (base : Nat) (S : Sp) (M : Mm) : (wsO cv dA base S M).length = S.length - 3 := by simp [wsO]
theorem wsO_at (cv : Nat → Nat) (dA : Nat → ClassId) (base : Nat) (S : Sp) (M : Mm) (j : Nat) : (wsO cv dA base S M)[j]? = if j < S.length - 3 then some (base + j, enE cv dA (S.getD (j + 3) (0, 0, [])) (M (j + 3))) else none := by
  unfold wsO
  rw [List.getElem?_map]
  by_cases h : j < S.length - 3
  · rw [List.getElem?_range h, if_pos h]; rfl
  · rw [List.getElem?_eq_none (by simpa using h), if_neg h]; rfl
theorem wsO_get {cv : Nat → Nat} {dA : Nat → ClassId} {base : Nat} {S : Sp} {M : Mm} {a : Nat} {d : Ds} (h3 : 3 ≤ a) (h : S[a]? = some d) : (wsO cv dA base S M)[a - 3]? = some (base + (a - 3), enE cv dA d (M a)) := by
  have hl := (List.getElem?_eq_some_iff.mp h).1
  rw [wsO_at, if_pos (by omega), show a - 3 + 3 = a by omega, List.getD_eq_getElem?_getD, h]
  rfl
theorem wsO_set {cv : Nat → Nat} {dA : Nat → ClassId} {base : Nat} {S S' : Sp} {M M' : Mm} {a : Nat} {d : Ds} (h3 : 3 ≤ a) (h : S'[a]? = some d) (hl : S'.length = S.length) (hs : ∀ b, b ≠ a → S'[b]? = S[b]?) (hm : ∀ b, b ≠ a → M' b = M b) :
    (wsO cv dA base S M).set (a - 3) (base + (a - 3), enE cv dA d (M' a)) = wsO cv dA base S' M' := by
  have hla := (List.getElem?_eq_some_iff.mp h).1
  apply List.ext_getElem?
  intro j
  rw [wsO_at]
  by_cases hj : j = a - 3
  · subst hj
    rw [List.getElem?_set_self (by rw [wsO_len]; omega), if_pos (by omega), show a - 3 + 3 = a by omega, List.getD_eq_getElem?_getD, h]
    rfl
  · rw [List.getElem?_set_ne (Ne.symm hj), wsO_at, hl, hm (j + 3) (by omega), List.getD_eq_getElem?_getD, List.getD_eq_getElem?_getD, hs (j + 3) (by omega)]
theorem wsO_push {cv : Nat → Nat} {dA : Nat → ClassId} {base : Nat} {S : Sp} {M : Mm} {d : Ds} (h3 : 3 ≤ S.length) : wsO cv dA base (S ++ [d]) M = wsO cv dA base S M ++ [(base + (S.length - 3), enE cv dA d (M S.length))] := by
  apply List.ext_getElem?
  intro j
  rw [wsO_at]
  simp only [List.length_append, List.length_singleton]
  rcases Nat.lt_trichotomy j (S.length - 3) with hj | hj | hj
  · rw [List.getElem?_append_left (by rw [wsO_len]; exact hj), wsO_at, if_pos hj, if_pos (by omega), List.getD_eq_getElem?_getD, List.getD_eq_getElem?_getD, List.getElem?_append_left (by omega)]
  · subst hj
    rw [List.getElem?_append_right (by rw [wsO_len]; exact Nat.le_refl _), wsO_len, Nat.sub_self, if_pos (by omega), show S.length - 3 + 3 = S.length by omega, List.getD_eq_getElem?_getD, List.getElem?_append_right (Nat.le_refl _), Nat.sub_self]
    rfl
  · rw [if_neg (by omega), List.getElem?_eq_none (by simp only [List.length_append, List.length_singleton, wsO_len]; omega)]
theorem wsO_D (cv : Nat → Nat) (dA : Nat → ClassId) (base : Nat) (S : Sp) (M : Mm) : va_D (fun q => base ≤ q) (wsO cv dA base S M) := by
  have key : ∀ (k : Nat) (q : Nat × va_E), (wsO cv dA base S M)[k]? = some q → q.1 = base + k := by
    intro k q h
    rw [wsO_at] at h
    split at h
    · cases h; rfl
    · cases h
  refine ⟨fun i j x y hi hj hxy => ?_, fun k q hk => ?_⟩
  · have h1 := key i x hi
    have h2 := key j y hj
    omega
  · have h1 := key k q hk
    show base ≤ q.1
    omega
def slO (S : Sp) : Nat := (S.map fun d => if d.1 < 13 then nF d.1 else d.2.1).sum
def tysT (dA : Nat → ClassId) : List (ClassId × FieldType) := [(dA 20, .int), (dA 21, .long), (dA 22, .byte), (dA 23, .object "CargoFlag$State"), (dA 24, .object "CargoFlag$Vessel"), (dA 25, .array .long), (dA 27, .array .int)]
def tx0 : String := "nation wage duty deeds war good of worth leaks port price way days ship at hold coins aboard rule day buy sell dump sail any when ruled in loop end stop"
def tx1 : String := " nation war good port price way ship aboard rule wage duty deeds of worth leaks days at hold coins day buy sell dump sail any when loop end stop ruled in "
/-- the script and the two texts, which lie in the heap from the start -/
def ZZ (base : Nat) (U : State) (H : Heap) : Prop := va_Z "java/lang/String" "COMPACT_STRINGS" "Z" (.int 1) (fun q => base ≤ q) U H ∧ va_Zq "jdk/internal/util/Preconditions" "SIOOBE_FORMATTER" "Ljava/util/function/BiFunction;" (fun q => base ≤ q) U H
def XX (cv adV : Nat → Nat) (base L : Nat) (xs : Nat → Int) (U : State) (H : Heap) : Prop := va_T .int (cv 0) L (fun j => .int (Int32.ofInt (xs j))) (fun q => base ≤ q) U H ∧ vk_S 2 (strT.map List.length) (strT.map fun l => l.map Int32.ofInt) (fun i => cv (1 + i)) adV (fun q => base ≤ q) U H ∧ vk_R "CargoFlag$Tape" 54 tx0 (cv 1) U ∧ vk_R "CargoFlagModel" 171 tx1 (cv 2) U ∧ ZZ base U H
def HP (dC : Nat → ClassId) (dI : Nat → Nat → Nat) (dA : Nat → ClassId) (cv : Nat → Nat) (base : Nat) (S : Sp) (M : Mm) (H : Heap) : Prop := va_P (dC, dI) clT (wsO cv dA base S M) H ∧ H.size = base + (S.length - 3)
def RL (cv : Nat → Nat) (als : List AV) (lsC : Array Slot) : Prop := lsC.size = als.length ∧ lv_wf lsC ∧ ∀ (k : Nat) (v : AV), als[k]? = some v → v ≠ vU → lsC[k]? = some (.val (cV cv v))
def OKs (S : Sp) (st : List AV) : Prop := ∀ v ∈ st, okV S v ∧ v ≠ vU
theorem OKs.nil {S : Sp} : OKs S [] := fun v h => by cases h
theorem OKs.cons {S : Sp} {v : AV} {st : List AV} : OKs S (v :: st) ↔ (okV S v ∧ v ≠ vU) ∧ OKs S st := List.forall_mem_cons
def OKa (S : Sp) (Ls : List Nat) (nL : Nat) (als : List AV) : Prop := (∀ v ∈ als, okV S v) ∧ als.length = nL ∧ ∀ (k : Nat) (x : Int), als[k]? = some (vL x) → elemN Ls k = true
theorem nthA_some : ∀ {als : List AV} {k : Nat} {v : AV}, nthA als k = v → v ≠ vU → als[k]? = some v
  | [], _, _, h, hv => absurd h.symm hv
  | _ :: _, 0, _, h, _ => by rw [← h]; rfl
  | _ :: t, k + 1, _, h, hv => nthA_some (als := t) (k := k) h hv
theorem setA_len : ∀ (als : List AV) (k : Nat) (v : AV), (setA als k v).length = als.length
  | [], _, _ => rfl
  | _ :: _, 0, _ => rfl
  | _ :: t, k + 1, v => congrArg (· + 1) (setA_len t k v)
theorem setA_at : ∀ (als : List AV) (k : Nat) (v : AV) (j : Nat), (setA als k v)[j]? = if j = k ∧ k < als.length then some v else als[j]?
  | [], k, v, j => by simp [setA]
  | w :: t, 0, v, j => by
    cases j with
    | zero => simp [setA]
    | succ j => simp [setA]
  | w :: t, k + 1, v, j => by
    cases j with
    | zero => simp [setA]
    | succ j => simp only [setA, List.getElem?_cons_succ, setA_at t k v j, Nat.add_right_cancel_iff, List.length_cons, Nat.add_lt_add_iff_right]
theorem okV_ext {S S' : Sp} (h : ∀ (a t m : Nat) (rf : List (Option Nat)), S[a]? = some (t, m, rf) → ∃ rf', S'[a]? = some (t, m, rf')) {v : AV} (hv : okV S v) : okV S' v := by
  rcases v with x | x | r | u
  · exact hv
  · exact hv
  · obtain ⟨m, rf, h1, h2⟩ := hv
    obtain ⟨rf', h3⟩ := h _ _ _ _ h1
    exact ⟨m, rf', h3, h2⟩
  · trivial
/-- the shape only grows -/
def Ext (S S' : Sp) : Prop := (∀ (a t m : Nat) (rf : List (Option Nat)), S[a]? = some (t, m, rf) → ∃ rf', S'[a]? = some (t, m, rf')) ∧ S.length ≤ S'.length ∧ slO S ≤ slO S'
theorem Ext.rf (S : Sp) : Ext S S := ⟨fun _ _ _ rf h => ⟨rf, h⟩, Nat.le_refl _, Nat.le_refl _⟩
theorem Ext.tr {S S' S'' : Sp} (h : Ext S S') (h' : Ext S' S'') : Ext S S'' := ⟨fun a t m rf q => by
  obtain ⟨rf', q'⟩ := h.1 a t m rf q
  exact h'.1 a t m rf' q', Nat.le_trans h.2.1 h'.2.1, Nat.le_trans h.2.2 h'.2.2⟩
theorem Ext.app (S T : Sp) : Ext S (S ++ T) := ⟨fun a t m rf h => ⟨rf, by rw [List.getElem?_append_left (List.getElem?_eq_some_iff.mp h).1]; exact h⟩, by simp, by simp [slO]⟩
theorem setRef_at (S : Sp) (a k b : Nat) {t m : Nat} {rf : List (Option Nat)} (h : S[a]? = some (t, m, rf)) (j : Nat) : (setRef S a k b)[j]? = if j = a then some (t, m, rf.set k (some b)) else S[j]? := by
  have hl := (List.getElem?_eq_some_iff.mp h).1
  unfold setRef
  rw [h]
  by_cases hj : j = a
  · subst hj
    rw [if_pos rfl]
    exact List.getElem?_set_self hl
  · rw [if_neg hj]
    exact List.getElem?_set_ne (Ne.symm hj)
theorem slO_set {S : Sp} {a t m : Nat} {rf rf' : List (Option Nat)} (h : S[a]? = some (t, m, rf)) : slO (S.set a (t, m, rf')) = slO S := by
  unfold slO
  rw [List.map_set]
  congr 1
  apply List.ext_getElem?
  intro j
  by_cases hj : j = a
  · subst hj
    have hl := (List.getElem?_eq_some_iff.mp h).1
    rw [List.getElem?_set_self (by rw [List.length_map]; exact hl), List.getElem?_map, h]
    rfl
  · rw [List.getElem?_set_ne (Ne.symm hj)]
theorem Ext.ref (S : Sp) (a k b : Nat) : Ext S (setRef S a k b) := by
  unfold setRef
  split
  · exact Ext.rf S
  · next d h =>
    obtain ⟨t, m, rf⟩ := d
    refine ⟨fun j t' m' rf' hj => ?_, by simp, Nat.le_of_eq (slO_set h).symm⟩
    by_cases e : j = a
    · subst e
      have := h.symm.trans hj
      simp only [Option.some.injEq, Prod.mk.injEq] at this
      obtain ⟨rfl, rfl, rfl⟩ := this
      exact ⟨_, List.getElem?_set_self (List.getElem?_eq_some_iff.mp h).1⟩
    · exact ⟨rf', by rw [List.getElem?_set_ne (Ne.symm e)]; exact hj⟩

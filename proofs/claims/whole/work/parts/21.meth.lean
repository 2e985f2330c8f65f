/-! THE MACHINE IS SOUND: a contract for every method -/
theorem lay_args {cv : Nat → Nat} : ∀ (a : List AV) (i k : Nat) (v : AV), (lay a)[k]? = some v → v ≠ vU → (i + k, cV cv v) ∈ lv_args i (a.map (cV cv))
  | [], i, k, v, h, hv => by simp [lay] at h
  | .inl x :: t, i, k, v, h, hv => by
    cases k with
    | zero => cases h; exact List.mem_cons_self
    | succ k =>
      have := lay_args (cv := cv) t (i + 1) k v h hv
      rw [show i + (k + 1) = i + 1 + k by omega]
      exact List.mem_cons_of_mem _ this
  | .inr (.inl x) :: t, i, k, v, h, hv => by
    rcases k with _ | _ | k
    · cases h; exact List.mem_cons_self
    · cases h; exact absurd rfl hv
    · have := lay_args (cv := cv) t (i + 2) k v h hv
      rw [show i + (k + 1 + 1) = i + 2 + k by omega]
      exact List.mem_cons_of_mem _ this
  | .inr (.inr x) :: t, i, k, v, h, hv => by
    have e : lay (.inr (.inr x) :: t) = .inr (.inr x) :: lay t := by simp [lay]
    rw [e] at h
    have hc : ¬ (cV cv (.inr (.inr x))).category = 2 := by rcases x with x | x <;> simp [cV, Value.category]
    cases k with
    | zero => cases h; exact List.mem_cons_self
    | succ k =>
      have := lay_args (cv := cv) t (i + 1) k v h hv
      rw [show i + (k + 1) = i + 1 + k by omega]
      rw [List.map_cons, lv_args, if_neg hc]
      exact List.mem_cons_of_mem _ this
theorem lay_len {cv : Nat → Nat} : ∀ (a : List AV), (lg_sl (a.map (cV cv))).length = (lay a).length
  | [] => rfl
  | .inl x :: t => by
    have := lay_len (cv := cv) t
    simp only [lg_sl, List.map_cons, List.flatMap_cons, List.length_append] at this ⊢
    rw [this]
    simp [lay, cV, Value.category]; omega
  | .inr (.inl x) :: t => by
    have := lay_len (cv := cv) t
    simp only [lg_sl, List.map_cons, List.flatMap_cons, List.length_append] at this ⊢
    rw [this]
    simp [lay, cV, Value.category]; omega
  | .inr (.inr x) :: t => by
    have := lay_len (cv := cv) t
    simp only [lg_sl, List.map_cons, List.flatMap_cons, List.length_append] at this ⊢
    rw [this]
    rcases x with x | x <;> simp [lay, cV, Value.category] <;> omega
theorem padA_at : ∀ (n : Nat) (l : List AV), l.length ≤ n → ∀ k, (padA n l)[k]? = if k < l.length then l[k]? else if k < n then some vU else none
  | 0, l, h, k => by
    have : l = [] := List.eq_nil_of_length_eq_zero (by omega)
    subst this
    simp [padA]
  | n + 1, [], h, k => by
    have ih := padA_at n [] (Nat.zero_le _)
    cases k with
    | zero => simp [padA]
    | succ k =>
      have := ih k
      simp only [List.length_nil, Nat.not_lt_zero, if_false] at this ⊢
      simp only [padA, List.getElem?_cons_succ, this, Nat.add_lt_add_iff_right]
  | n + 1, v :: t, h, k => by
    have ih := padA_at n t (by simpa using h)
    cases k with
    | zero => simp [padA]
    | succ k => simp only [padA, List.getElem?_cons_succ, ih k, List.length_cons, Nat.add_lt_add_iff_right]
theorem padA_len (n : Nat) (l : List AV) (h : l.length ≤ n) : (padA n l).length = n := by
  apply Nat.le_antisymm
  · rcases Nat.lt_or_ge n (padA n l).length with hn | hn
    · have h1 := padA_at n l h n
      rw [List.getElem?_eq_getElem hn, if_neg (by omega), if_neg (by omega)] at h1
      cases h1
    · exact hn
  · rcases Nat.lt_or_ge (padA n l).length n with hn | hn
    · have h1 := padA_at n l h (padA n l).length
      rw [List.getElem?_eq_none (Nat.le_refl _)] at h1
      by_cases hl : (padA n l).length < l.length
      · rw [if_pos hl, List.getElem?_eq_getElem hl] at h1; cases h1
      · rw [if_neg hl, if_pos hn] at h1; cases h1
    · exact hn
theorem okLg_at (Ls : List Nat) : ∀ (l : List AV) (i k : Nat) (x : Int), okLg Ls i l = true → l[k]? = some (vL x) → elemN Ls (i + k) = true
  | [], _, _, _, _, h => by simp at h
  | .inl y :: t, i, k, x, h, hk => by
    cases k with
    | zero => cases hk
    | succ k => rw [show i + (k + 1) = i + 1 + k by omega]; exact okLg_at Ls t (i + 1) k x h hk
  | .inr (.inl y) :: t, i, k, x, h, hk => by
    have h : (elemN Ls i && okLg Ls (i + 1) t) = true := h
    rw [Bool.and_eq_true] at h
    cases k with
    | zero => exact h.1
    | succ k => rw [show i + (k + 1) = i + 1 + k by omega]; exact okLg_at Ls t (i + 1) k x h.2 hk
  | .inr (.inr y) :: t, i, k, x, h, hk => by
    have h : okLg Ls (i + 1) t = true := by simpa [okLg] using h
    cases k with
    | zero => cases hk
    | succ k => rw [show i + (k + 1) = i + 1 + k by omega]; exact okLg_at Ls t (i + 1) k x h hk
theorem lay_ok {S : Sp} : ∀ (a : List AV), OKs S a → ∀ v ∈ lay a, okV S v
  | [], _, v, h => by cases h
  | .inl x :: t, ho, v, h => by
    obtain ⟨h1, h2⟩ := OKs.cons.mp ho
    rcases List.mem_cons.mp h with rfl | h
    · exact h1.1
    · exact lay_ok t h2 v h
  | .inr (.inl x) :: t, ho, v, h => by
    obtain ⟨h1, h2⟩ := OKs.cons.mp ho
    rcases List.mem_cons.mp h with rfl | h
    · exact h1.1
    · rcases List.mem_cons.mp h with rfl | h
      · trivial
      · exact lay_ok t h2 v h
  | .inr (.inr x) :: t, ho, v, h => by
    obtain ⟨h1, h2⟩ := OKs.cons.mp ho
    have e : lay (.inr (.inr x) :: t) = .inr (.inr x) :: lay t := by simp [lay]
    rw [e] at h
    rcases List.mem_cons.mp h with rfl | h
    · exact h1.1
    · exact lay_ok t h2 v h
theorem nthL_getD : ∀ (l : List (List Nat)) (k : Nat), nthL l k = l.getD k []
  | [], _ => rfl
  | _ :: _, 0 => rfl
  | _ :: t, k + 1 => nthL_getD t k
theorem and1 (x : Int) : Int32.ofInt x &&& 1 = Int32.ofInt (x % 2) := by
  rw [pk_and (Int32.ofInt x) (m := 1) 1 (by decide)]
  show Int32.ofNat _ = _
  have h1 : (Int32.ofInt x).toBitVec.toNat = (x % 4294967296).toNat := by
    show (BitVec.ofInt 32 x).toNat = _
    rw [BitVec.toNat_ofInt]
    rfl
  rw [h1, show Int32.ofNat ((x % 4294967296).toNat % 2 ^ 1) = Int32.ofInt (((x % 4294967296).toNat % 2 ^ 1 : Nat) : Int) from rfl]
  congr 1
  omega
section WB
variable {p : Program} {l : Launch} {e : Env} {R : Room} {s : State} {m : MethodId} {args : Array Value} {below : List Frame} {meth : Method} {c : Code} {H : Heap} {locs : List Loc} {cells slots : Nat}
theorem W_bret {cc : ByteArray} {Qc : Array Value → State → Outcome → State → Prop} {free : Addr → Prop} {v : Int32} (hexec : p.tables.exec = Jvm.exec) (hb : c.code = cc) (hr : meth.sig.returnType = some .boolean)
    (hq : ∀ t : State, t.heap = H → s.WarmedH t.vm → Qc args s (.returned (some (.int (v &&& 1)))) t) (hf : ∀ q ∈ locs, free q.base)
    {pc : Nat} {ls : Array Slot} (hdg : decode cc pc = .ok (.ireturn, 1)) (hlocks : meth.locks = false) : W p l e R s m args below meth c H locs cells slots (MQ below Qc args s cells slots free) (F0 m pc ls [.int v]) := by
  intro T hT X
  obtain ⟨fs, hret, hrun, hended, hW, hframe⟩ := X.leave (v := some (.int (v &&& 1))) (hlocks := hlocks) (fun h => by rw [hr] at h; cases h)
  have hmeth' : T.vm.method? m = some meth := X.method'
  refine ⟨T.setFrames fs, ?_, .returned (some (.int (v &&& 1))), hrun, hended, hq _ hT hW, locs, ⟨⟨_, rfl⟩, hW, hframe⟩, hf⟩
  jvm_step X.here [X.here.top, hexec, hb, hdg, hmeth', hr, narrow]
  (try refine ⟨rfl, ?_⟩); (try refine ⟨rfl, ?_⟩)
  first | (intro acts; rw [hret _ acts rfl rfl rfl]) | rw [hret _ _ rfl rfl rfl]
  exact Steps.refl _
end WB

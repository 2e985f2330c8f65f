/-! the shape only grows -/
def LE (S S' : Sp) : Prop := S.length ≤ S'.length ∧ slO S ≤ slO S'
def AskS (S : Sp) (G : Kon → Option Rs) : Prop := (∃ o, (∀ rc, G rc = o) ∧ ∀ r S' M', o = some (r, S', M') → Ext S S') ∨ ∃ pc ls st S1 M, Ext S S1 ∧ ∀ rc : Kon, G rc = rc pc ls st S1 M
theorem AskS.nil {S : Sp} : AskS S (fun _ => none) := Or.inl ⟨none, fun _ => rfl, nofun⟩
theorem AskS.ret {S : Sp} {r : Option AV} {M : Mm} : AskS S (fun _ => some (r, S, M)) := Or.inl ⟨_, fun _ => rfl, fun _ _ _ h => by cases h; exact Ext.rf S⟩
theorem AskS.one {S S1 : Sp} (h : Ext S S1) (pc : Nat) (ls st : List AV) (M : Mm) : AskS S (fun rc => rc pc ls st S1 M) := Or.inr ⟨pc, ls, st, S1, M, h, fun _ => rfl⟩
theorem AskS.ite {S : Sp} {c : Prop} {d : Decidable c} {G G' : Kon → Option Rs} (h : AskS S G) (h' : AskS S G') : AskS S (fun rc => @_root_.ite _ c d (G rc) (G' rc)) := by
  by_cases hc : c
  · simpa only [if_pos hc] using h
  · simpa only [if_neg hc] using h'
theorem AskS.cond {S : Sp} {c : Bool} {G G' : Kon → Option Rs} (h : AskS S G) (h' : AskS S G') : AskS S (fun rc => _root_.cond c (G rc) (G' rc)) := by
  cases c
  · exact h'
  · exact h
theorem AskS.bR {S : Sp} {o : Option Nat} {G : Nat → Kon → Option Rs} (h : ∀ b, AskS S (G b)) : AskS S (fun rc => bR o fun b => G b rc) := by
  cases o
  · exact AskS.nil
  · exact h _
theorem AskS.inv {K : Cal} (hK : ∀ y a S M r S' M', K y a S M = some (r, S', M') → Ext S S') {y n sort : Nat} {st : List AV} {S : Sp} {M : Mm} {p : Nat} {ls : List AV} : AskS S (fun rc => inv K y n sort st S M fun st S M => rc p ls st S M) := by
  unfold _root_.Jvm.Pilot.@@N@@.inv
  refine AskS.cond ?_ AskS.nil
  split
  · rcases hq : K y (takeR n st []) S M with _ | ⟨_ | v, S', M'⟩
    · exact AskS.nil
    · exact AskS.one (hK _ _ _ _ _ _ _ hq) _ _ _ _
    · exact AskS.nil
  · rcases hq : K y (takeR n st []) S M with _ | ⟨_ | (x | v), S', M'⟩
    · exact AskS.nil
    · exact AskS.nil
    · exact AskS.one (hK _ _ _ _ _ _ _ hq) _ _ _ _
    · exact AskS.nil
  · rcases hq : K y (takeR n st []) S M with _ | ⟨_ | (x | (x | v)), S', M'⟩
    · exact AskS.nil
    · exact AskS.nil
    · exact AskS.nil
    · exact AskS.one (hK _ _ _ _ _ _ _ hq) _ _ _ _
    · exact AskS.nil
theorem swt_asks (x : Int) (d : Nat) (ls r : List AV) (S : Sp) (M : Mm) (ts : List Nat) (lo : Int) : AskS S (fun rc => swt (fun t => rc t ls r S M) x d lo ts) := by
  obtain ⟨t, h⟩ := swt_form x d ls r S M ts lo
  exact Or.inr ⟨t, ls, r, S, M, Ext.rf S, h⟩
set_option maxHeartbeats 4000000 in
theorem FF_askS (K : Cal) (hK : ∀ y a S M r S' M', K y a S M = some (r, S', M') → Ext S S') (C : Cd) (pc : Nat) (ls st : List AV) (S : Sp) (M : Mm) : AskS S (fun rc => FF K C rc pc ls st S M) := by
  unfold FF
  repeat' split
  all_goals first | exact AskS.nil | exact AskS.ret | exact AskS.one (Ext.rf S) _ _ _ _ | exact AskS.one (Ext.app S _) _ _ _ _ | exact AskS.ite (AskS.one (Ext.rf S) _ _ _ _) (AskS.one (Ext.rf S) _ _ _ _) | exact AskS.ite AskS.nil (AskS.one (Ext.rf S) _ _ _ _) | exact AskS.ite (AskS.one (Ext.rf S) _ _ _ _) AskS.nil | exact AskS.ite (AskS.one (Ext.app S _) _ _ _ _) AskS.nil | exact AskS.cond (AskS.one (Ext.rf S) _ _ _ _) AskS.nil | exact AskS.cond (AskS.one (Ext.ref S _ _ _) _ _ _ _) AskS.nil | exact AskS.cond (AskS.ite (AskS.one (Ext.rf S) _ _ _ _) AskS.nil) AskS.nil | exact AskS.cond (AskS.ite (AskS.one (Ext.ref S _ _ _) _ _ _ _) AskS.nil) AskS.nil | exact AskS.cond (AskS.ite (AskS.bR fun _ => AskS.one (Ext.rf S) _ _ _ _) AskS.nil) AskS.nil | exact AskS.cond (AskS.bR fun _ => AskS.one (Ext.rf S) _ _ _ _) AskS.nil | exact AskS.inv hK | exact AskS.cond (AskS.inv hK) AskS.nil | exact AskS.cond AskS.nil AskS.nil | exact swt_asks _ _ _ _ _ _ _ _
theorem runN_ext (K : Cal) (hK : ∀ y a S M r S' M', K y a S M = some (r, S', M') → Ext S S') (C : Cd) : ∀ (n pc : Nat) (ls st : List AV) (S : Sp) (M : Mm) (r : Option AV) (S' : Sp) (M' : Mm), runN K C n pc ls st S M = some (r, S', M') → Ext S S'
  | 0, _, _, _, _, _, _, _, _, h => by cases h
  | n + 1, pc, ls, st, S, M, r, S', M', h => by
    have h1 : FF K C (runN K C n) pc ls st S M = some (r, S', M') := h
    rcases FF_askS K hK C pc ls st S M with ⟨o, ho, hS⟩ | ⟨pc', ls', st', S1, M1, hS, ho⟩
    · exact hS r S' M' ((ho _).symm.trans h1)
    · exact hS.tr (runN_ext K hK C n _ _ _ _ _ _ _ _ ((ho _).symm.trans h1))
theorem callD_ext : ∀ (d y : Nat) (a : List AV) (S : Sp) (M : Mm) (r : Option AV) (S' : Sp) (M' : Mm), callD d y a S M = some (r, S', M') → Ext S S'
  | 0, _, _, _, _, _, _, _, h => by cases h
  | d + 1, y, a, S, M, r, S', M', h => by
    have h : cond (Nat.ble (lenA (lay a)) (nthN mxs y) && okLg (nthL yL y) 0 (lay a)) (Run (callD d) (nthT tbs y) 0 (padA (nthN mxs y) (lay a)) [] S M) none = some (r, S', M') := h
    cases hc : (Nat.ble (lenA (lay a)) (nthN mxs y) && okLg (nthL yL y) 0 (lay a)) with
    | false => rw [hc] at h; cases h
    | true =>
    rw [hc] at h
    obtain ⟨n, hn⟩ := (Run_iff _ _ _ _ _ _ _ _).mp h
    exact runN_ext (callD d) (callD_ext d) _ n _ _ _ _ _ _ _ _ hn
theorem callD_grow (d y : Nat) (a : List AV) (S : Sp) (M : Mm) (r : Option AV) (S' : Sp) (M' : Mm) (h : callD d y a S M = some (r, S', M')) : LE S S' := (callD_ext d y a S M r S' M' h).2
theorem runN_grow (K : Cal) (hK : ∀ y a S M r S' M', K y a S M = some (r, S', M') → Ext S S') (C : Cd) (n pc : Nat) (ls st : List AV) (S : Sp) (M : Mm) (r : Option AV) (S' : Sp) (M' : Mm) (h : runN K C n pc ls st S M = some (r, S', M')) : LE S S' := (runN_ext K hK C n pc ls st S M r S' M' h).2
theorem lk_mem {C : Cd} {pc : Nat} {q : (Instr × Nat) × Instr × Ax} (h : lk C pc = some q) : ∃ ch ∈ C, (pc, q) ∈ ch := by
  have h1 : ∀ (C : Cd) (k : Nat), nthC C k = [] ∨ nthC C k ∈ C := by
    intro C
    induction C with
    | nil => intro k; exact Or.inl rfl
    | cons v t ih =>
      intro k
      cases k with
      | zero => exact Or.inr List.mem_cons_self
      | succ k => rcases ih k with h | h
                  · exact Or.inl h
                  · exact Or.inr (List.mem_cons_of_mem _ h)
  have h2 : ∀ (l : List En), lkc l pc = some q → (pc, q) ∈ l := by
    intro l
    induction l with
    | nil => intro h; cases h
    | cons e t ih =>
      intro h
      unfold lkc at h
      cases hb : Nat.beq e.1 pc with
      | false => rw [hb] at h; exact List.mem_cons_of_mem _ (ih h)
      | true =>
        rw [hb] at h
        have he : e.1 = pc := Nat.eq_of_beq_eq_true hb
        have h : some e.2 = some q := h
        obtain ⟨e1, e2⟩ := e
        cases h
        cases he
        exact List.mem_cons_self
  have hm := h2 _ h
  rcases h1 C (pc / 16) with h | h
  · rw [h] at hm; cases hm
  · exact ⟨_, h, hm⟩

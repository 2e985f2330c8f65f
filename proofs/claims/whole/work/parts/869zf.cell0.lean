/-! WHAT NO CALL CHANGES: the script; and what sort an answer has -/
def okv : AV → Prop
  | .inr (.inr (.inl (_, _, a))) => a ≠ 0
  | _ => True
def okl : List AV → Prop
  | [] => True
  | v :: t => okv v ∧ okl t
def wfS (S : Sp) : Prop := S.length ≠ 0 ∧ ∀ c ∈ S, ∀ r ∈ c.2.2, r ≠ some 0
theorem okl_nth : ∀ (l : List AV) (k : Nat), okl l → okv (nthA l k)
  | [], _, _ => trivial
  | _ :: _, 0, h => h.1
  | _ :: t, k + 1, h => okl_nth t k h.2
theorem okl_set : ∀ (l : List AV) (k : Nat) (v : AV), okl l → okv v → okl (setA l k v)
  | [], _, _, _, _ => trivial
  | _ :: _, 0, _, h, hv => ⟨hv, h.2⟩
  | _ :: t, k + 1, v, h, hv => ⟨h.1, okl_set t k v h.2 hv⟩
theorem okl_take : ∀ (n : Nat) (l acc : List AV), okl l → okl acc → okl (takeR n l acc)
  | 0, _, _, _, h => h
  | _ + 1, [], _, _, h => h
  | n + 1, v :: t, acc, h, h' => okl_take n t (v :: acc) h.2 ⟨h.1, h'⟩
theorem okl_drop : ∀ (n : Nat) (l : List AV), okl l → okl (dropA n l)
  | 0, _, h => h
  | _ + 1, [], _ => trivial
  | n + 1, _ :: t, h => okl_drop n t h.2
theorem okl_lay : ∀ l : List AV, okl l → okl (lay l)
  | [], _ => trivial
  | .inl _ :: t, h => ⟨trivial, okl_lay t h.2⟩
  | .inr (.inl _) :: t, h => ⟨trivial, trivial, okl_lay t h.2⟩
  | .inr (.inr (.inl _)) :: t, h => ⟨h.1, okl_lay t h.2⟩
  | .inr (.inr (.inr _)) :: t, h => ⟨trivial, okl_lay t h.2⟩
theorem okl_pad : ∀ (n : Nat) (l : List AV), okl l → okl (padA n l)
  | 0, _, h => h
  | n + 1, [], _ => ⟨trivial, okl_pad n [] trivial⟩
  | n + 1, _ :: t, h => ⟨h.1, okl_pad n t h.2⟩
theorem wf_ref {S : Sp} (h : wfS S) {a k b : Nat} (hb : refOf S a k = some b) : b ≠ 0 := by
  unfold refOf at hb
  split at hb
  · cases hb
  next d hd =>
    split at hb
    next c hc =>
      cases hb
      intro e
      exact h.2 d (List.mem_of_getElem? hd) _ (List.mem_of_getElem? hc) (by rw [e])
    · cases hb
theorem wf_set {S : Sp} (h : wfS S) {a k b : Nat} (hb : b ≠ 0) : wfS (setRef S a k b) := by
  unfold setRef
  split
  · exact h
  next d hd =>
    refine ⟨by rw [List.length_set]; exact h.1, fun c hc r hr => ?_⟩
    rcases List.mem_or_eq_of_mem_set hc with hc | rfl
    · exact h.2 c hc r hr
    · rcases List.mem_or_eq_of_mem_set hr with hr | rfl
      · exact h.2 d (List.mem_of_getElem? hd) r hr
      · intro e
        exact hb (Option.some.inj e)
theorem wf_app {S T : Sp} (h : wfS S) (hT : ∀ c ∈ T, ∀ r ∈ c.2.2, r ≠ some 0) : wfS (S ++ T) := by
  refine ⟨by rw [List.length_append]; have := h.1; omega, fun c hc r hr => ?_⟩
  rcases List.mem_append.mp hc with hc | hc
  · exact h.2 c hc r hr
  · exact hT c hc r hr
theorem wf_none {S : Sp} (h : wfS S) (t m n : Nat) : wfS (S ++ [(t, m, List.replicate n none)]) := wf_app h fun c hc r hr => by
  rw [List.mem_singleton] at hc
  subst hc
  rw [List.eq_of_mem_replicate hr]
  nofun
theorem wf_nil {S : Sp} (h : wfS S) (t m : Nat) : wfS (S ++ [(t, m, [])]) := wf_app h fun c hc r hr => by
  rw [List.mem_singleton] at hc
  subst hc
  cases hr
theorem wf_mul {S : Sp} (h : wfS S) (t m n u v : Nat) : wfS (S ++ ((t, m, (List.range n).map fun j => some (S.length + 1 + j)) :: List.replicate n (u, v, []))) := wf_app h fun c hc r hr => by
  rcases List.mem_cons.mp hc with rfl | hc
  · obtain ⟨j, -, e⟩ := List.mem_map.mp hr
    intro q
    rw [q] at e
    have := Option.some.inj e
    omega
  · rw [List.eq_of_mem_replicate hc] at hr
    cases hr
theorem up0 {M : Mm} {a k : Nat} {v : Int} (h : a ≠ 0) (j : Nat) : up M a k v 0 j = M 0 j := upN (by omega)
theorem cpy0 {M : Mm} {a sp b dp n : Nat} (h : b ≠ 0) (j : Nat) : cpy M a sp b dp n 0 j = M 0 j := by
  unfold cpy
  rw [if_neg (by omega)]
def AskW (P : Option AV → Prop) (M : Mm) (G : Kon → Option Rs) : Prop := (∃ o, (∀ rc, G rc = o) ∧ ∀ r S' M', o = some (r, S', M') → P r ∧ wfS S' ∧ ∀ j, M' 0 j = M 0 j) ∨ ∃ pc ls st S1 M1, (okl ls ∧ okl st ∧ wfS S1 ∧ ∀ j, M1 0 j = M 0 j) ∧ ∀ rc : Kon, G rc = rc pc ls st S1 M1
section
variable {P : Option AV → Prop} {M : Mm}
theorem AskW.nil : AskW P M (fun _ => none) := Or.inl ⟨none, fun _ => rfl, nofun⟩
theorem AskW.ret {S : Sp} {r : Option AV} (hP : P r) (h : wfS S) : AskW P M (fun _ => some (r, S, M)) := Or.inl ⟨_, fun _ => rfl, fun _ _ _ q => by cases q; exact ⟨hP, h, fun _ => rfl⟩⟩
theorem AskW.one {pc : Nat} {ls st : List AV} {S1 : Sp} {M1 : Mm} (h1 : okl ls) (h2 : okl st) (h3 : wfS S1) (h4 : ∀ j, M1 0 j = M 0 j) : AskW P M (fun rc => rc pc ls st S1 M1) := Or.inr ⟨pc, ls, st, S1, M1, ⟨h1, h2, h3, h4⟩, fun _ => rfl⟩
theorem AskW.ite {c : Prop} {d : Decidable c} {G G' : Kon → Option Rs} (h : AskW P M G) (h' : AskW P M G') : AskW P M (fun rc => @_root_.ite _ c d (G rc) (G' rc)) := by
  by_cases hc : c
  · simpa only [if_pos hc] using h
  · simpa only [if_neg hc] using h'
theorem AskW.cond {c : Bool} {G G' : Kon → Option Rs} (h : AskW P M G) (h' : AskW P M G') : AskW P M (fun rc => _root_.cond c (G rc) (G' rc)) := by
  cases c
  · exact h'
  · exact h
theorem AskW.bR {o : Option Nat} {G : Nat → Kon → Option Rs} (h : ∀ b, o = some b → AskW P M (G b)) : AskW P M (fun rc => bR o fun b => G b rc) := by
  cases o
  · exact AskW.nil
  · exact h _ rfl
theorem AskW.inv {K : Cal} (hK : ∀ y a S M r S' M', okl a → wfS S → K y a S M = some (r, S', M') → wfS S' ∧ ∀ j, M' 0 j = M 0 j) {y n sort : Nat} {st : List AV} {S : Sp} {p : Nat} {ls : List AV} (h1 : okl ls) (h2 : okl st) (h3 : wfS S) : AskW P M (fun rc => inv K y n sort st S M fun st S M => rc p ls st S M) := by
  have ht := okl_take n st [] h2 trivial
  have hd := okl_drop n st h2
  unfold _root_.Jvm.Pilot.@@N@@.inv
  refine AskW.cond ?_ AskW.nil
  split
  · rcases hq : K y (takeR n st []) S M with _ | ⟨_ | v, S', M'⟩
    · exact AskW.nil
    · have q := hK _ _ _ _ _ _ _ ht h3 hq
      exact AskW.one h1 hd q.1 q.2
    · exact AskW.nil
  · rcases hq : K y (takeR n st []) S M with _ | ⟨_ | (x | v), S', M'⟩
    · exact AskW.nil
    · exact AskW.nil
    · have q := hK _ _ _ _ _ _ _ ht h3 hq
      exact AskW.one h1 ⟨trivial, hd⟩ q.1 q.2
    · exact AskW.nil
  · rcases hq : K y (takeR n st []) S M with _ | ⟨_ | (x | (x | v)), S', M'⟩
    · exact AskW.nil
    · exact AskW.nil
    · exact AskW.nil
    · have q := hK _ _ _ _ _ _ _ ht h3 hq
      exact AskW.one h1 ⟨trivial, hd⟩ q.1 q.2
    · exact AskW.nil
theorem AskW.swt {x : Int} {d : Nat} {ls r : List AV} {S : Sp} {ts : List Nat} {lo : Int} (h1 : okl ls) (h2 : okl r) (h3 : wfS S) : AskW P M (fun rc => swt (fun t => rc t ls r S M) x d lo ts) := by
  obtain ⟨t, h⟩ := swt_form x d ls r S M ts lo
  exact Or.inr ⟨t, ls, r, S, M, ⟨h1, h2, h3, fun _ => rfl⟩, h⟩
end
theorem nth_R {l : List AV} {k : Nat} {r : Nat × Int × Nat} (h : okl l) (e : nthA l k = .inr (.inr (.inl r))) : okv (.inr (.inr (.inl r))) := by
  rw [← e]
  exact okl_nth l k h
set_option maxHeartbeats 8000000 in
theorem FF_askW {P : Option AV → Prop} (K : Cal) (hK : ∀ y a S M r S' M', okl a → wfS S → K y a S M = some (r, S', M') → wfS S' ∧ ∀ j, M' 0 j = M 0 j) (C : Cd) (hc : ∀ pc q z ax, lk C pc = some (q, .ldc z, ax) → ax.1.2.1 ≠ 0) (hi : ∀ pc q ax x, lk C pc = some (q, .ireturn, ax) → P (some (vI x))) (hl : ∀ pc q ax x, lk C pc = some (q, .lreturn, ax) → P (some (vL x))) (hr : ∀ pc q ax, lk C pc = some (q, .return_, ax) → P none) (pc : Nat) (ls st : List AV) (S : Sp) (M : Mm) (h1 : okl ls) (h2 : okl st) (h3 : wfS S) : AskW P M (fun rc => FF K C rc pc ls st S M) := by
  unfold FF
  repeat' split
  all_goals repeat' first
    | exact AskW.nil
    | exact AskW.ret (hi _ _ _ _ (by assumption)) h3
    | exact AskW.ret (hl _ _ _ _ (by assumption)) h3
    | exact AskW.ret (hr _ _ _ (by assumption)) h3
    | exact AskW.inv hK h1 h2 h3
    | exact AskW.swt h1 h2.2 h3
    | with_reducible apply AskW.ite
    | with_reducible apply AskW.cond
    | exact AskW.bR fun b hb => AskW.one h1 ⟨wf_ref h3 hb, h2.2⟩ h3 fun _ => rfl
    | exact AskW.bR fun b hb => AskW.one h1 ⟨wf_ref h3 hb, h2.2.2⟩ h3 fun _ => rfl
    | exact AskW.one (by first | exact h1 | exact okl_set _ _ _ h1 trivial | exact okl_set _ _ _ (okl_set _ _ _ h1 trivial) trivial | exact okl_set _ _ _ h1 h2.1) (by first | exact h2 | exact h2.2 | exact h2.2.2 | exact h2.2.2.2 | exact h2.2.2.2.2.2 | exact ⟨trivial, h2⟩ | exact ⟨trivial, h2.2⟩ | exact ⟨trivial, h2.2.2⟩ | exact ⟨hc _ _ _ _ (by assumption), h2⟩ | exact ⟨nth_R h1 (by assumption), h2⟩ | exact ⟨h2.1, h2.1, h2.2⟩ | exact ⟨h2.1, h2.2.1, h2.1, h2.2.1, h2.2.2⟩ | exact ⟨trivial, trivial, h2.2⟩ | exact ⟨h3.1, h2⟩ | exact ⟨h3.1, h2.2⟩ | exact ⟨h3.1, h2.2.2⟩) (by first | exact h3 | exact wf_set h3 h2.1 | exact wf_none h3 _ _ _ | exact wf_nil h3 _ _ | exact wf_mul h3 _ _ _ _ _) (by first | exact fun _ => rfl | exact up0 h2.2.2.1 | exact up0 h2.2.1 | exact cpy0 h2.2.2.1)
theorem runW {P : Option AV → Prop} (K : Cal) (hK : ∀ y a S M r S' M', okl a → wfS S → K y a S M = some (r, S', M') → wfS S' ∧ ∀ j, M' 0 j = M 0 j) (C : Cd) (hc : ∀ pc q z ax, lk C pc = some (q, .ldc z, ax) → ax.1.2.1 ≠ 0) (hi : ∀ pc q ax x, lk C pc = some (q, .ireturn, ax) → P (some (vI x))) (hl : ∀ pc q ax x, lk C pc = some (q, .lreturn, ax) → P (some (vL x))) (hr : ∀ pc q ax, lk C pc = some (q, .return_, ax) → P none) : ∀ (n pc : Nat) (ls st : List AV) (S : Sp) (M : Mm) (r : Option AV) (S' : Sp) (M' : Mm), okl ls → okl st → wfS S → runN K C n pc ls st S M = some (r, S', M') → P r ∧ wfS S' ∧ ∀ j, M' 0 j = M 0 j
  | 0, _, _, _, _, _, _, _, _, _, _, _, h => by cases h
  | n + 1, pc, ls, st, S, M, r, S', M', h1, h2, h3, h => by
    have h : FF K C (runN K C n) pc ls st S M = some (r, S', M') := h
    rcases FF_askW K hK C hc hi hl hr pc ls st S M h1 h2 h3 with ⟨o, ho, hS⟩ | ⟨pc', ls', st', S1, M1, ⟨w1, w2, w3, w4⟩, ho⟩
    · exact hS r S' M' ((ho _).symm.trans h)
    · obtain ⟨q1, q2, q3⟩ := runW K hK C hc hi hl hr n _ _ _ _ _ _ _ _ w1 w2 w3 ((ho _).symm.trans h)
      exact ⟨q1, q2, fun j => (q3 j).trans (w4 j)⟩
/-! checks of the tables -/
noncomputable def rowB (f : Instr → Ax → Bool) (C : Cd) : Bool := C.all fun ch => ch.all fun e => f e.2.2.1 e.2.2.2
theorem rowB_lk {f : Instr → Ax → Bool} {C : Cd} (h : rowB f C = true) {pc : Nat} {q : Instr × Nat} {ins : Instr} {ax : Ax} (hk : lk C pc = some (q, ins, ax)) : f ins ax = true := by
  obtain ⟨ch, h1, h2⟩ := lk_mem hk
  unfold rowB at h
  exact List.all_eq_true.mp (List.all_eq_true.mp h ch h1) _ h2
def fLd (ins : Instr) (ax : Ax) : Bool := match ins with
  | .ldc _ => !(Nat.beq ax.1.2.1 0)
  | _ => true
def fI (ins : Instr) (_ : Ax) : Bool := match ins with
  | .lreturn => false
  | .return_ => false
  | _ => true
def fL (ins : Instr) (_ : Ax) : Bool := match ins with
  | .ireturn => false
  | .return_ => false
  | _ => true
noncomputable def okLd : Bool := tbs.all (rowB fLd)
theorem okLd_t : okLd = true := by decide +kernel
theorem nthT_in : ∀ (l : List Cd) (y : Nat), nthT l y = [] ∨ nthT l y ∈ l
  | [], _ => Or.inl rfl
  | _ :: _, 0 => Or.inr (List.mem_cons_self ..)
  | _ :: t, k + 1 => (nthT_in t k).imp id fun h => List.mem_cons_of_mem _ h
theorem ld_ok (y : Nat) : rowB fLd (nthT tbs y) = true := by
  rcases nthT_in tbs y with h | h
  · rw [h]; rfl
  · have := okLd_t
    unfold okLd at this
    exact List.all_eq_true.mp this _ h
theorem ld_hc (y : Nat) : ∀ pc q z ax, lk (nthT tbs y) pc = some (q, .ldc z, ax) → ax.1.2.1 ≠ 0 := fun pc q z ax h => by
  have := rowB_lk (ld_ok y) h
  intro e
  unfold fLd at this
  dsimp only at this
  rw [e] at this
  cases this
theorem callW : ∀ (d y : Nat) (a : List AV) (S : Sp) (M : Mm) (r : Option AV) (S' : Sp) (M' : Mm), okl a → wfS S → callD d y a S M = some (r, S', M') → wfS S' ∧ ∀ j, M' 0 j = M 0 j
  | 0, _, _, _, _, _, _, _, _, _, h => by cases h
  | d + 1, y, a, S, M, r, S', M', h1, h2, h => by
    have h : cond (Nat.ble (lenA (lay a)) (nthN mxs y) && okLg (nthL yL y) 0 (lay a)) (Run (callD d) (nthT tbs y) 0 (padA (nthN mxs y) (lay a)) [] S M) none = some (r, S', M') := h
    cases hc : (Nat.ble (lenA (lay a)) (nthN mxs y) && okLg (nthL yL y) 0 (lay a)) with
    | false => rw [hc] at h; cases h
    | true =>
    rw [hc] at h
    obtain ⟨n, hn⟩ := (Run_iff _ _ _ _ _ _ _ _).mp h
    exact (runW (P := fun _ => True) (callD d) (callW d) _ (ld_hc y) (fun _ _ _ _ _ => trivial) (fun _ _ _ _ _ => trivial) (fun _ _ _ _ => trivial) n _ _ _ _ _ _ _ _ (okl_pad _ _ (okl_lay _ h1)) (show okl [] from trivial) h2 hn).2
theorem callP {P : Option AV → Prop} {d y : Nat} {a : List AV} {S : Sp} {M : Mm} {r : Option AV} {S' : Sp} {M' : Mm} (hi : ∀ pc q ax x, lk (nthT tbs y) pc = some (q, .ireturn, ax) → P (some (vI x))) (hl : ∀ pc q ax x, lk (nthT tbs y) pc = some (q, .lreturn, ax) → P (some (vL x))) (hr : ∀ pc q ax, lk (nthT tbs y) pc = some (q, .return_, ax) → P none) (h1 : okl a) (h2 : wfS S) (h : callD d y a S M = some (r, S', M')) : P r := by
  cases d with
  | zero => cases h
  | succ d =>
    have h : cond (Nat.ble (lenA (lay a)) (nthN mxs y) && okLg (nthL yL y) 0 (lay a)) (Run (callD d) (nthT tbs y) 0 (padA (nthN mxs y) (lay a)) [] S M) none = some (r, S', M') := h
    cases hc : (Nat.ble (lenA (lay a)) (nthN mxs y) && okLg (nthL yL y) 0 (lay a)) with
    | false => rw [hc] at h; cases h
    | true =>
    rw [hc] at h
    obtain ⟨n, hn⟩ := (Run_iff _ _ _ _ _ _ _ _).mp h
    exact (runW (P := P) (callD d) (callW d) _ (ld_hc y) hi hl hr n _ _ _ _ _ _ _ _ (okl_pad _ _ (okl_lay _ h1)) (show okl [] from trivial) h2 hn).1
theorem callTI {d y : Nat} {a : List AV} {S : Sp} {M : Mm} {r : Option AV} {S' : Sp} {M' : Mm} (hy : rowB fI (nthT tbs y) = true) (h1 : okl a) (h2 : wfS S) (h : callD d y a S M = some (r, S', M')) : ∃ x, r = some (vI x) := callP (P := fun r => ∃ x, r = some (vI x)) (fun _ _ _ x _ => ⟨x, rfl⟩) (fun _ _ _ _ e => nomatch (show false = true from rowB_lk hy e)) (fun _ _ _ e => nomatch (show false = true from rowB_lk hy e)) h1 h2 h
theorem callTL {d y : Nat} {a : List AV} {S : Sp} {M : Mm} {r : Option AV} {S' : Sp} {M' : Mm} (hy : rowB fL (nthT tbs y) = true) (h1 : okl a) (h2 : wfS S) (h : callD d y a S M = some (r, S', M')) : ∃ x, r = some (vL x) := callP (P := fun r => ∃ x, r = some (vL x)) (fun _ _ _ _ e => nomatch (show false = true from rowB_lk hy e)) (fun _ _ _ x _ => ⟨x, rfl⟩) (fun _ _ _ e => nomatch (show false = true from rowB_lk hy e)) h1 h2 h

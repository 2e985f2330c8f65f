/-! CALLS THAT ONLY ASK, the fourth: class and model apart -/
section
variable {xs : Nat → Int} {L : Nat} {M M' : Mm} {A N : Nat → Int} {B P : Nat → Nat → Int} {r r' : AV} {st : Int}
def QC (xs : Nat → Int) (L : Nat) (A N : Nat → Int) (B P : Nat → Nat → Int) (r : AV) (st : Int) : Option AV → Sp → Mm → Prop := fun r' S M' => r' = some r ∧ S = SH L ∧ RelS xs M' A N B P ∧ M' 3 15 = st
def QM (xs : Nat → Int) (L : Nat) (M : Mm) (A N : Nat → Int) (B P : Nat → Nat → Int) (r : AV) (st : Int) : Option AV → Sp → Mm → Prop := fun r' S M' => r' = some r ∧ S = SH L ∧ RelS xs M' A N B P ∧ M' 3 15 = M 3 15 ∧ M' 271 2 = st
theorem wp_c (hr : r' = r) (h : RelS xs M A N B P) (hs : M 3 15 = st) : Wp (some (some r', SH L, M)) (QC xs L A N B P r st) := by
  rw [hr]
  exact ⟨_, _, _, rfl, rfl, rfl, h, hs⟩
theorem wp_m (hr : r' = r) (h : RelS xs M' A N B P) (h1 : M' 3 15 = M 3 15) (h2 : M' 271 2 = st) : Wp (some (some r', SH L, M')) (QM xs L M A N B P r st) := by
  rw [hr]
  exact ⟨_, _, _, rfl, rfl, rfl, h, h1, h2⟩
end
theorem Case.mk {y1 y2 : Nat} {args : List AV} (H : ∀ (L : Nat) (xs : Nat → Int) (M : Mm) (A N : Nat → Int) (B P : Nat → Nat → Int), Rel xs M A N B P → ∃ r st, Wp (callD 100 y1 (vR 11 0 3 :: args) (SH L) M) (QC xs L A N B P r st) ∧ ∀ M', RelS xs M' A N B P → Wp (callD 100 y2 (vR 12 0 271 :: args) (SH L) M') (QM xs L M' A N B P r st)) : Case y1 y2 args := by
  intro L xs M A N B P h
  obtain ⟨r, st, ⟨_, _, M1, e1, rfl, rfl, h1, s1⟩, H2⟩ := H L xs M A N B P h
  obtain ⟨_, _, M2, e2, rfl, rfl, h2, s2, s3⟩ := H2 M1 h1
  exact ⟨_, _, _, e1, rfl, _, _, _, e2, rfl, rfl, _, _, _, _, by rw [s2, s3, s1], h2⟩
section
variable {xs : Nat → Int} {M : Mm} {A N : Nat → Int} {B P : Nat → Nat → Int} {L d : Nat}
theorem n_tonsBy (hd : 4 ≤ d) (h : RelS xs M A N B P) {s n : Int} (h0 : 0 ≤ s) (h1 : s < A 3) : callD d m_Mo_tonsBy [vR 12 0 271, vI s, vI n] (SH L) M = some (some (vI (wts A (ldF A s.toNat) 0 n)), SH L, fillP M 280 (ldF A s.toNat) 8) := by
  have hC := h.cn
  unfold Cn at hC
  repeat' first
    | (with_reducible apply bR_go; (simp (disch := omega) only [rM L, rK L, rN L, rNf, rNv, rNp, rNd, rRow, rLeg, rMark, nat_cast, Int.reduceToNat]; with_reducible exact rfl))
    | with_reducible apply bI_go
    | with_reducible apply bV_go
    | with_reducible apply bL_go
    | (with_reducible apply it_1; (first | omega | (simp (disch := omega) only [not_false_eq_true, not_true_eq_false, w32_id, tLt, fLt, tLe, fEq, itE, and_true, true_and, and_self, and_false, false_and, ↓reduceIte, nat_add, nat_mul3, nat_mul4, nat_mul6, nat_mul15, nat_mul60, nat_cast, nc1, Int.reduceToNat, upE, upN, fill_ne, fill_in, i0] <;> omega)))
    | (with_reducible apply it_2; (first | omega | (simp (disch := omega) only [not_false_eq_true, not_true_eq_false, w32_id, tLt, fLt, tLe, fEq, itE, and_true, true_and, and_self, and_false, false_and, ↓reduceIte, nat_add, nat_mul3, nat_mul4, nat_mul6, nat_mul15, nat_mul60, nat_cast, nc1, Int.reduceToNat, upE, upN, fill_ne, fill_in, i0] <;> omega)))
    | (with_reducible refine cl_go ?_; simp (disch := omega) only [not_false_eq_true, not_true_eq_false, w32_id, tLt, fLt, tLe, fEq, itE, and_true, true_and, and_self, and_false, false_and, ↓reduceIte, nat_add, nat_mul3, nat_mul4, nat_mul6, nat_mul15, nat_mul60, nat_cast, nc1, Int.reduceToNat, upE, upN, fill_ne, fill_in, i0])
    | rw [c_Mo_tonsBy (by omega), b_Mo_tonsBy_0]
    | with_reducible exact n_loads (by omega) h (by omega) (by omega)
    | with_reducible exact n_weightOf (by omega) (by repeat' first | assumption | apply RelS.up | apply RelS.fill | (intros; unfold core k1 kTr kTp kLv kLp kMk kNw; omega)) (ld := ldF A s.toNat) (by intro g hg; simp (disch := omega) only [upN, fill_in, fill_ne]) (h.ld (by omega))
    | (with_reducible refine rn_go ?_; simp (disch := omega) only [not_false_eq_true, not_true_eq_false, w32_id, tLt, fLt, tLe, fEq, itE, and_true, true_and, and_self, and_false, false_and, ↓reduceIte, nat_add, nat_mul3, nat_mul4, nat_mul6, nat_mul15, nat_mul60, nat_cast, nc1, Int.reduceToNat, upE, upN, fill_ne, fill_in, i0])
    | (with_reducible refine lf_go ?_; simp (disch := omega) only [not_false_eq_true, not_true_eq_false, w32_id, tLt, fLt, tLe, fEq, itE, and_true, true_and, and_self, and_false, false_and, ↓reduceIte, nat_add, nat_mul3, nat_mul4, nat_mul6, nat_mul15, nat_mul60, nat_cast, nc1, Int.reduceToNat, upE, upN, fill_ne, fill_in, i0])
    | with_reducible exact rfl
end
theorem case_greatest (x1 : Int) : Case m_Ca_greatest m_Mo_greatest [vI x1] := by
  refine Case.mk fun L xs M A N B P ⟨hs0, h⟩ => ?_
  have hC := h.cn
  unfold Cn at hC
  have hA := h.hA
  have hct := h.cnt
  have hlw := h.law
  by_cases hv : 0 ≤ x1 ∧ x1 < A 0
  · refine ⟨vI (gst (fun i => wts A (ldF A i) 0 x1) (A 3).toNat), if gst (fun i => wts A (ldF A i) 0 x1) (A 3).toNat = -1 then 6 else 0, ?_, ?_⟩
    · repeat' first
        | (with_reducible apply wp_bR; (simp (disch := omega) only [rM L, rK L, rN L, rNf, rNv, rNp, rNd, rRow, rLeg, rMark, nat_cast, Int.reduceToNat, hct]; with_reducible exact rfl))
        | with_reducible apply wp_bI
        | with_reducible apply wp_bV
        | with_reducible apply wp_bL
        | with_reducible apply wp_rI
        | with_reducible apply wp_rV
        | with_reducible apply wp_rL
        | (with_reducible apply wp_1; (first | omega | (simp (disch := omega) only [not_false_eq_true, not_true_eq_false, w32_id, tLt, fLt, tLe, fEq, itE, and_true, true_and, and_self, and_false, false_and, ↓reduceIte, nat_add, nat_mul3, nat_mul4, nat_mul6, nat_mul15, nat_mul60, nat_cast, nc1, Int.reduceToNat, upE, upN, fill_ne, fill_in, i0, hct] <;> omega)))
        | (with_reducible apply wp_2; (first | omega | (simp (disch := omega) only [not_false_eq_true, not_true_eq_false, w32_id, tLt, fLt, tLe, fEq, itE, and_true, true_and, and_self, and_false, false_and, ↓reduceIte, nat_add, nat_mul3, nat_mul4, nat_mul6, nat_mul15, nat_mul60, nat_cast, nc1, Int.reduceToNat, upE, upN, fill_ne, fill_in, i0, hct] <;> omega)))
        | (with_reducible apply wp_s; (first | (simp (disch := omega) only [not_false_eq_true, not_true_eq_false, w32_id, tLt, fLt, tLe, fEq, itE, and_true, true_and, and_self, and_false, false_and, ↓reduceIte, nat_add, nat_mul3, nat_mul4, nat_mul6, nat_mul15, nat_mul60, nat_cast, nc1, Int.reduceToNat, upE, upN, fill_ne, fill_in, i0, hct]; with_reducible exact Iff.rfl) | with_reducible exact Iff.rfl); intro hc__; (try subst hc__); rotate_left; intro hc__; rotate_left)
        | (with_reducible apply wp_eq; (with_reducible apply cl_go; simp (disch := omega) only [not_false_eq_true, not_true_eq_false, w32_id, tLt, fLt, tLe, fEq, itE, and_true, true_and, and_self, and_false, false_and, ↓reduceIte, nat_add, nat_mul3, nat_mul4, nat_mul6, nat_mul15, nat_mul60, nat_cast, nc1, Int.reduceToNat, upE, upN, fill_ne, fill_in, i0, hct]; with_reducible exact rfl))
        | (with_reducible refine wp_eq (c_Ca_greatest (by omega) _ _ _ _) ?_; with_reducible refine wp_eq (b_Ca_greatest_0 _ _ _ _ _) ?_)
        | (with_reducible refine wp_eq (c_Ca_within (by omega) _ _ _ _ _) ?_; with_reducible refine wp_eq (b_Ca_within_0 _ _ _ _ _ _) ?_)
        | (with_reducible refine wp_eq (c_Ca_isShip (by omega) _ _ _ _) ?_; with_reducible refine wp_eq (b_Ca_isShip_0 _ _ _ _ _) ?_)
        | (with_reducible refine wp_eq (c_Ca_isNation (by omega) _ _ _ _) ?_; with_reducible refine wp_eq (b_Ca_isNation_0 _ _ _ _ _) ?_)
        | (with_reducible refine wp_eq (c_Ca_isGood (by omega) _ _ _ _) ?_; with_reducible refine wp_eq (b_Ca_isGood_0 _ _ _ _ _) ?_)
        | (with_reducible refine wp_eq (c_Ca_isPort (by omega) _ _ _ _) ?_; with_reducible refine wp_eq (b_Ca_isPort_0 _ _ _ _ _) ?_)
        | (with_reducible refine wp_eq (c_Ca_areTwo (by omega) _ _ _ _ _ _) ?_; with_reducible refine wp_eq (b_Ca_areTwo_0 _ _ _ _ _ _ _) ?_)
        | (with_reducible refine wp_eq (c_Ca_answer (by omega) _ _ _ _) ?_; with_reducible refine wp_eq (b_Ca_answer_0 _ _ _ _ _) ?_)
        | (with_reducible refine wp_eq (c_Ca_refuse (by omega) _ _ _ _) ?_; with_reducible refine wp_eq (b_Ca_refuse_0 _ _ _ _ _) ?_)
        | (with_reducible refine wp_eq (c_Ca_answerOr (by omega) _ _ _ _ _) ?_; with_reducible refine wp_eq (b_Ca_answerOr_0 _ _ _ _ _ _) ?_)
        | (with_reducible refine wp_eq (c_Ca_agree (by omega) _ _ _) ?_; with_reducible refine wp_eq (b_Ca_agree_0 _ _ _ _) ?_)
        | (with_reducible refine wp_eq (c_Ca_deny (by omega) _ _ _ _) ?_; with_reducible refine wp_eq (b_Ca_deny_0 _ _ _ _ _) ?_)
        | (with_reducible apply wp_eq; (with_reducible apply lf_go; simp (disch := omega) only [not_false_eq_true, not_true_eq_false, w32_id, tLt, fLt, tLe, fEq, itE, and_true, true_and, and_self, and_false, false_and, ↓reduceIte, nat_add, nat_mul3, nat_mul4, nat_mul6, nat_mul15, nat_mul60, nat_cast, nc1, Int.reduceToNat, upE, upN, fill_ne, fill_in, i0, hct]; with_reducible exact rfl))
        | with_reducible apply wp_q1
      refine wp_loop (α := Mm × AV) (G := fun k a => Run (callD (100 - 1)) tb_Ca_greatest 21 [vR 11 0 3, vI x1, vI (gstM (fun i => wts A (ldF A i) 0 x1) k), vI (gst (fun i => wts A (ldF A i) 0 x1) k), vI (k : Int), a.2] [] (SH L) a.1) (I := fun _ a => RelS xs a.1 A N B P) (A 3).toNat ?_ ?_ 0 (M, vU) (by omega) h
      · intro k ⟨M1, z⟩ hk h1 ih
        have h1 : RelS xs M1 A N B P := h1
        have hct := h1.cnt
        refine wp_eq (b_Ca_greatest_21 _ _ _ _ _ _ _ _ _) ?_
        repeat' first
          | (with_reducible apply wp_bR; (simp (disch := omega) only [rM L, rK L, rN L, rNf, rNv, rNp, rNd, rRow, rLeg, rMark, nat_cast, Int.reduceToNat, hct]; with_reducible exact rfl))
          | with_reducible apply wp_bI
          | with_reducible apply wp_bV
          | with_reducible apply wp_bL
          | with_reducible apply wp_rI
          | with_reducible apply wp_rV
          | with_reducible apply wp_rL
          | (with_reducible apply wp_1; (first | omega | (simp (disch := omega) only [not_false_eq_true, not_true_eq_false, w32_id, tLt, fLt, tLe, fEq, itE, and_true, true_and, and_self, and_false, false_and, ↓reduceIte, nat_add, nat_mul3, nat_mul4, nat_mul6, nat_mul15, nat_mul60, nat_cast, nc1, Int.reduceToNat, upE, upN, fill_ne, fill_in, i0, hct] <;> omega)))
          | (with_reducible apply wp_2; (first | omega | (simp (disch := omega) only [not_false_eq_true, not_true_eq_false, w32_id, tLt, fLt, tLe, fEq, itE, and_true, true_and, and_self, and_false, false_and, ↓reduceIte, nat_add, nat_mul3, nat_mul4, nat_mul6, nat_mul15, nat_mul60, nat_cast, nc1, Int.reduceToNat, upE, upN, fill_ne, fill_in, i0, hct] <;> omega)))
          | (with_reducible apply wp_s; (first | (simp (disch := omega) only [not_false_eq_true, not_true_eq_false, w32_id, tLt, fLt, tLe, fEq, itE, and_true, true_and, and_self, and_false, false_and, ↓reduceIte, nat_add, nat_mul3, nat_mul4, nat_mul6, nat_mul15, nat_mul60, nat_cast, nc1, Int.reduceToNat, upE, upN, fill_ne, fill_in, i0, hct]; with_reducible exact Iff.rfl) | with_reducible exact Iff.rfl); intro hc__; (try subst hc__); rotate_left; intro hc__; rotate_left)
          | (with_reducible apply wp_eq; (with_reducible apply cl_go; simp (disch := omega) only [not_false_eq_true, not_true_eq_false, w32_id, tLt, fLt, tLe, fEq, itE, and_true, true_and, and_self, and_false, false_and, ↓reduceIte, nat_add, nat_mul3, nat_mul4, nat_mul6, nat_mul15, nat_mul60, nat_cast, nc1, Int.reduceToNat, upE, upN, fill_ne, fill_in, i0, hct]; with_reducible exact rfl))
          | with_reducible refine wp_eq (n_heft (by omega) (by repeat' first | assumption | apply RelS.up | apply RelS.fill | (intros; unfold core k1 kTr kTp kLv kLp kMk kNw; omega)) (by omega) (by omega) (by omega)) ?_
          | (with_reducible apply wp_eq; (with_reducible apply lf_go; simp (disch := omega) only [not_false_eq_true, not_true_eq_false, w32_id, tLt, fLt, tLe, fEq, itE, and_true, true_and, and_self, and_false, false_and, ↓reduceIte, nat_add, nat_mul3, nat_mul4, nat_mul6, nat_mul15, nat_mul60, nat_cast, nc1, Int.reduceToNat, upE, upN, fill_ne, fill_in, i0, hct]; with_reducible exact rfl))
          | with_reducible apply wp_q1
        all_goals (apply wp_nx2 ih; (simp (disch := omega) only [not_false_eq_true, not_true_eq_false, w32_id, tLt, fLt, tLe, fEq, itE, and_true, true_and, and_self, and_false, false_and, ↓reduceIte, nat_add, nat_mul3, nat_mul4, nat_mul6, nat_mul15, nat_mul60, nat_cast, nc1, Int.reduceToNat, upE, upN, fill_ne, fill_in, i0, gst_s, gstM_s]; (try with_reducible rfl)); exact (by repeat' first | assumption | apply RelS.up | apply RelS.fill | (intros; unfold core k1 kTr kTp kLv kLp kMk kNw; omega)))
      · intro ⟨M1, z⟩ h1
        have h1 : RelS xs M1 A N B P := h1
        have hct := h1.cnt
        refine wp_eq (b_Ca_greatest_21 _ _ _ _ _ _ _ _ _) ?_
        repeat' first
          | (with_reducible apply wp_bR; (simp (disch := omega) only [rM L, rK L, rN L, rNf, rNv, rNp, rNd, rRow, rLeg, rMark, nat_cast, Int.reduceToNat, hct]; with_reducible exact rfl))
          | with_reducible apply wp_bI
          | with_reducible apply wp_bV
          | with_reducible apply wp_bL
          | with_reducible apply wp_rI
          | with_reducible apply wp_rV
          | with_reducible apply wp_rL
          | (with_reducible apply wp_1; (first | omega | (simp (disch := omega) only [not_false_eq_true, not_true_eq_false, w32_id, tLt, fLt, tLe, fEq, itE, and_true, true_and, and_self, and_false, false_and, ↓reduceIte, nat_add, nat_mul3, nat_mul4, nat_mul6, nat_mul15, nat_mul60, nat_cast, nc1, Int.reduceToNat, upE, upN, fill_ne, fill_in, i0, hct] <;> omega)))
          | (with_reducible apply wp_2; (first | omega | (simp (disch := omega) only [not_false_eq_true, not_true_eq_false, w32_id, tLt, fLt, tLe, fEq, itE, and_true, true_and, and_self, and_false, false_and, ↓reduceIte, nat_add, nat_mul3, nat_mul4, nat_mul6, nat_mul15, nat_mul60, nat_cast, nc1, Int.reduceToNat, upE, upN, fill_ne, fill_in, i0, hct] <;> omega)))
          | (with_reducible apply wp_s; (first | (simp (disch := omega) only [not_false_eq_true, not_true_eq_false, w32_id, tLt, fLt, tLe, fEq, itE, and_true, true_and, and_self, and_false, false_and, ↓reduceIte, nat_add, nat_mul3, nat_mul4, nat_mul6, nat_mul15, nat_mul60, nat_cast, nc1, Int.reduceToNat, upE, upN, fill_ne, fill_in, i0, hct]; with_reducible exact Iff.rfl) | with_reducible exact Iff.rfl); intro hc__; (try subst hc__); rotate_left; intro hc__; rotate_left)
          | (with_reducible apply wp_eq; (with_reducible apply cl_go; simp (disch := omega) only [not_false_eq_true, not_true_eq_false, w32_id, tLt, fLt, tLe, fEq, itE, and_true, true_and, and_self, and_false, false_and, ↓reduceIte, nat_add, nat_mul3, nat_mul4, nat_mul6, nat_mul15, nat_mul60, nat_cast, nc1, Int.reduceToNat, upE, upN, fill_ne, fill_in, i0, hct]; with_reducible exact rfl))
          | (with_reducible refine wp_eq (c_Ca_within (by omega) _ _ _ _ _) ?_; with_reducible refine wp_eq (b_Ca_within_0 _ _ _ _ _ _) ?_)
          | (with_reducible refine wp_eq (c_Ca_isShip (by omega) _ _ _ _) ?_; with_reducible refine wp_eq (b_Ca_isShip_0 _ _ _ _ _) ?_)
          | (with_reducible refine wp_eq (c_Ca_isNation (by omega) _ _ _ _) ?_; with_reducible refine wp_eq (b_Ca_isNation_0 _ _ _ _ _) ?_)
          | (with_reducible refine wp_eq (c_Ca_isGood (by omega) _ _ _ _) ?_; with_reducible refine wp_eq (b_Ca_isGood_0 _ _ _ _ _) ?_)
          | (with_reducible refine wp_eq (c_Ca_isPort (by omega) _ _ _ _) ?_; with_reducible refine wp_eq (b_Ca_isPort_0 _ _ _ _ _) ?_)
          | (with_reducible refine wp_eq (c_Ca_areTwo (by omega) _ _ _ _ _ _) ?_; with_reducible refine wp_eq (b_Ca_areTwo_0 _ _ _ _ _ _ _) ?_)
          | (with_reducible refine wp_eq (c_Ca_answer (by omega) _ _ _ _) ?_; with_reducible refine wp_eq (b_Ca_answer_0 _ _ _ _ _) ?_)
          | (with_reducible refine wp_eq (c_Ca_refuse (by omega) _ _ _ _) ?_; with_reducible refine wp_eq (b_Ca_refuse_0 _ _ _ _ _) ?_)
          | (with_reducible refine wp_eq (c_Ca_answerOr (by omega) _ _ _ _ _) ?_; with_reducible refine wp_eq (b_Ca_answerOr_0 _ _ _ _ _ _) ?_)
          | (with_reducible refine wp_eq (c_Ca_agree (by omega) _ _ _) ?_; with_reducible refine wp_eq (b_Ca_agree_0 _ _ _ _) ?_)
          | (with_reducible refine wp_eq (c_Ca_deny (by omega) _ _ _ _) ?_; with_reducible refine wp_eq (b_Ca_deny_0 _ _ _ _ _) ?_)
          | (with_reducible apply wp_eq; (with_reducible apply lf_go; simp (disch := omega) only [not_false_eq_true, not_true_eq_false, w32_id, tLt, fLt, tLe, fEq, itE, and_true, true_and, and_self, and_false, false_and, ↓reduceIte, nat_add, nat_mul3, nat_mul4, nat_mul6, nat_mul15, nat_mul60, nat_cast, nc1, Int.reduceToNat, upE, upN, fill_ne, fill_in, i0, hct]; with_reducible exact rfl))
          | with_reducible apply wp_q1
        all_goals exact wp_c (by first | rfl | exact congrArg vI (by omega) | simp (disch := omega) only [not_false_eq_true, not_true_eq_false, w32_id, tLt, fLt, tLe, fEq, itE, and_true, true_and, and_self, and_false, false_and, ↓reduceIte, nat_add, nat_mul3, nat_mul4, nat_mul6, nat_mul15, nat_mul60, nat_cast, nc1, Int.reduceToNat, upE, upN, fill_ne, fill_in, i0]) (by repeat' first | assumption | apply RelS.up | apply RelS.fill | (intros; unfold core k1 kTr kTp kLv kLp kMk kNw; omega)) (by first | rfl | assumption | simp (disch := omega) only [not_false_eq_true, not_true_eq_false, w32_id, tLt, fLt, tLe, fEq, itE, and_true, true_and, and_self, and_false, false_and, ↓reduceIte, nat_add, nat_mul3, nat_mul4, nat_mul6, nat_mul15, nat_mul60, nat_cast, nc1, Int.reduceToNat, upE, upN, fill_ne, fill_in, i0])
    · intro M' h'
      have hA := h'.hA
      repeat' first
        | (with_reducible apply wp_bR; (simp (disch := omega) only [rM L, rK L, rN L, rNf, rNv, rNp, rNd, rRow, rLeg, rMark, nat_cast, Int.reduceToNat, hA]; with_reducible exact rfl))
        | with_reducible apply wp_bI
        | with_reducible apply wp_bV
        | with_reducible apply wp_bL
        | with_reducible apply wp_rI
        | with_reducible apply wp_rV
        | with_reducible apply wp_rL
        | (with_reducible apply wp_1; (first | omega | (simp (disch := omega) only [not_false_eq_true, not_true_eq_false, w32_id, tLt, fLt, tLe, fEq, itE, and_true, true_and, and_self, and_false, false_and, ↓reduceIte, nat_add, nat_mul3, nat_mul4, nat_mul6, nat_mul15, nat_mul60, nat_cast, nc1, Int.reduceToNat, upE, upN, fill_ne, fill_in, i0, hA] <;> omega)))
        | (with_reducible apply wp_2; (first | omega | (simp (disch := omega) only [not_false_eq_true, not_true_eq_false, w32_id, tLt, fLt, tLe, fEq, itE, and_true, true_and, and_self, and_false, false_and, ↓reduceIte, nat_add, nat_mul3, nat_mul4, nat_mul6, nat_mul15, nat_mul60, nat_cast, nc1, Int.reduceToNat, upE, upN, fill_ne, fill_in, i0, hA] <;> omega)))
        | (with_reducible apply wp_s; (first | (simp (disch := omega) only [not_false_eq_true, not_true_eq_false, w32_id, tLt, fLt, tLe, fEq, itE, and_true, true_and, and_self, and_false, false_and, ↓reduceIte, nat_add, nat_mul3, nat_mul4, nat_mul6, nat_mul15, nat_mul60, nat_cast, nc1, Int.reduceToNat, upE, upN, fill_ne, fill_in, i0, hA]; with_reducible exact Iff.rfl) | with_reducible exact Iff.rfl); intro hc__; (try subst hc__); rotate_left; intro hc__; rotate_left)
        | (with_reducible apply wp_eq; (with_reducible apply cl_go; simp (disch := omega) only [not_false_eq_true, not_true_eq_false, w32_id, tLt, fLt, tLe, fEq, itE, and_true, true_and, and_self, and_false, false_and, ↓reduceIte, nat_add, nat_mul3, nat_mul4, nat_mul6, nat_mul15, nat_mul60, nat_cast, nc1, Int.reduceToNat, upE, upN, fill_ne, fill_in, i0, hA]; with_reducible exact rfl))
        | (with_reducible refine wp_eq (c_Mo_greatest (by omega) _ _ _ _) ?_; with_reducible refine wp_eq (b_Mo_greatest_0 _ _ _ _ _) ?_)
        | (with_reducible refine wp_eq (c_Mo_isShip (by omega) _ _ _ _) ?_; with_reducible refine wp_eq (b_Mo_isShip_0 _ _ _ _ _) ?_)
        | (with_reducible refine wp_eq (c_Mo_isNation (by omega) _ _ _ _) ?_; with_reducible refine wp_eq (b_Mo_isNation_0 _ _ _ _ _) ?_)
        | (with_reducible refine wp_eq (c_Mo_isGood (by omega) _ _ _ _) ?_; with_reducible refine wp_eq (b_Mo_isGood_0 _ _ _ _ _) ?_)
        | (with_reducible refine wp_eq (c_Mo_isPort (by omega) _ _ _ _) ?_; with_reducible refine wp_eq (b_Mo_isPort_0 _ _ _ _ _) ?_)
        | (with_reducible refine wp_eq (c_Mo_areTwo (by omega) _ _ _ _ _) ?_; with_reducible refine wp_eq (b_Mo_areTwo_0 _ _ _ _ _ _) ?_)
        | (with_reducible refine wp_eq (c_Mo_gives (by omega) _ _ _ _) ?_; with_reducible refine wp_eq (b_Mo_gives_0 _ _ _ _ _) ?_)
        | (with_reducible refine wp_eq (c_Mo_refuse (by omega) _ _ _ _) ?_; with_reducible refine wp_eq (b_Mo_refuse_0 _ _ _ _ _) ?_)
        | (with_reducible refine wp_eq (c_Mo_orNone (by omega) _ _ _ _) ?_; with_reducible refine wp_eq (b_Mo_orNone_0 _ _ _ _ _) ?_)
        | (with_reducible refine wp_eq (c_Mo_orNothing (by omega) _ _ _ _) ?_; with_reducible refine wp_eq (b_Mo_orNothing_0 _ _ _ _ _) ?_)
        | (with_reducible refine wp_eq (c_Mo_is (by omega) _ _ _ _) ?_; with_reducible refine wp_eq (b_Mo_is_0 _ _ _ _ _) ?_)
        | (with_reducible refine wp_eq (c_Mo_isRule (by omega) _ _ _) ?_; with_reducible refine wp_eq (b_Mo_isRule_0 _ _ _ _) ?_)
        | (with_reducible refine wp_eq (c_Mo_isTons (by omega) _ _ _) ?_; with_reducible refine wp_eq (b_Mo_isTons_0 _ _ _ _) ?_)
        | (with_reducible refine wp_eq (c_Mo_isFrom (by omega) _ _ _ _ _) ?_; with_reducible refine wp_eq (b_Mo_isFrom_0 _ _ _ _ _ _) ?_)
        | (with_reducible refine wp_eq (c_Mo_isTray (by omega) _ _ _) ?_; with_reducible refine wp_eq (b_Mo_isTray_0 _ _ _ _) ?_)
        | (with_reducible apply wp_eq; (with_reducible apply lf_go; simp (disch := omega) only [not_false_eq_true, not_true_eq_false, w32_id, tLt, fLt, tLe, fEq, itE, and_true, true_and, and_self, and_false, false_and, ↓reduceIte, nat_add, nat_mul3, nat_mul4, nat_mul6, nat_mul15, nat_mul60, nat_cast, nc1, Int.reduceToNat, upE, upN, fill_ne, fill_in, i0, hA]; with_reducible exact rfl))
        | with_reducible apply wp_q1
      refine wp_loop (α := Mm) (G := fun k a => Run (callD (100 - 1)) tb_Mo_greatest 18 [vR 12 0 271, vI x1, vI (gst (fun i => wts A (ldF A i) 0 x1) k), vI (k : Int)] [] (SH L) a) (I := fun _ a => RelS xs a A N B P ∧ a 3 15 = M' 3 15) (A 3).toNat ?_ ?_ 0 M' (by omega) ⟨h', rfl⟩
      · intro k M2 hk ⟨h2, e2⟩ ih
        have hA := h2.hA
        have gk := gst_bd (fun i => wts A (ldF A i) 0 x1) k
        refine wp_eq (b_Mo_greatest_18 _ _ _ _ _ _ _) ?_
        repeat' first
          | (with_reducible apply wp_bR; (simp (disch := omega) only [rM L, rK L, rN L, rNf, rNv, rNp, rNd, rRow, rLeg, rMark, nat_cast, Int.reduceToNat, hA]; with_reducible exact rfl))
          | with_reducible apply wp_bI
          | with_reducible apply wp_bV
          | with_reducible apply wp_bL
          | with_reducible apply wp_rI
          | with_reducible apply wp_rV
          | with_reducible apply wp_rL
          | (with_reducible apply wp_1; (first | omega | (simp (disch := omega) only [not_false_eq_true, not_true_eq_false, w32_id, tLt, fLt, tLe, fEq, itE, and_true, true_and, and_self, and_false, false_and, ↓reduceIte, nat_add, nat_mul3, nat_mul4, nat_mul6, nat_mul15, nat_mul60, nat_cast, nc1, Int.reduceToNat, upE, upN, fill_ne, fill_in, i0, hA] <;> omega)))
          | (with_reducible apply wp_2; (first | omega | (simp (disch := omega) only [not_false_eq_true, not_true_eq_false, w32_id, tLt, fLt, tLe, fEq, itE, and_true, true_and, and_self, and_false, false_and, ↓reduceIte, nat_add, nat_mul3, nat_mul4, nat_mul6, nat_mul15, nat_mul60, nat_cast, nc1, Int.reduceToNat, upE, upN, fill_ne, fill_in, i0, hA] <;> omega)))
          | (with_reducible apply wp_s; (first | (simp (disch := omega) only [not_false_eq_true, not_true_eq_false, w32_id, tLt, fLt, tLe, fEq, itE, and_true, true_and, and_self, and_false, false_and, ↓reduceIte, nat_add, nat_mul3, nat_mul4, nat_mul6, nat_mul15, nat_mul60, nat_cast, nc1, Int.reduceToNat, upE, upN, fill_ne, fill_in, i0, hA]; with_reducible exact Iff.rfl) | with_reducible exact Iff.rfl); intro hc__; (try subst hc__); rotate_left; intro hc__; rotate_left)
          | (with_reducible apply wp_eq; (with_reducible apply cl_go; simp (disch := omega) only [not_false_eq_true, not_true_eq_false, w32_id, tLt, fLt, tLe, fEq, itE, and_true, true_and, and_self, and_false, false_and, ↓reduceIte, nat_add, nat_mul3, nat_mul4, nat_mul6, nat_mul15, nat_mul60, nat_cast, nc1, Int.reduceToNat, upE, upN, fill_ne, fill_in, i0, hA]; with_reducible exact rfl))
          | with_reducible refine wp_eq (n_tonsBy (by omega) (by repeat' first | assumption | apply RelS.up | apply RelS.fill | (intros; unfold core k1 kTr kTp kLv kLp kMk kNw; omega)) (by omega) (by omega)) ?_
          | (with_reducible apply wp_eq; (with_reducible apply lf_go; simp (disch := omega) only [not_false_eq_true, not_true_eq_false, w32_id, tLt, fLt, tLe, fEq, itE, and_true, true_and, and_self, and_false, false_and, ↓reduceIte, nat_add, nat_mul3, nat_mul4, nat_mul6, nat_mul15, nat_mul60, nat_cast, nc1, Int.reduceToNat, upE, upN, fill_ne, fill_in, i0, hA]; with_reducible exact rfl))
          | with_reducible apply wp_q1
        all_goals (apply wp_nx ih; (first | with_reducible rfl | (simp (disch := omega) only [not_false_eq_true, not_true_eq_false, w32_id, tLt, fLt, tLe, fEq, itE, and_true, true_and, and_self, and_false, false_and, ↓reduceIte, nat_add, nat_mul3, nat_mul4, nat_mul6, nat_mul15, nat_mul60, nat_cast, nc1, Int.reduceToNat, upE, upN, fill_ne, fill_in, i0, gst_s]; (try with_reducible rfl))); exact ⟨(by repeat' first | assumption | apply RelS.up | apply RelS.fill | (intros; unfold core k1 kTr kTp kLv kLp kMk kNw; omega)), by simp (disch := omega) only [upN, fill_ne]; exact e2⟩)
      · intro M2 ⟨h2, e2⟩
        have hA := h2.hA
        refine wp_eq (b_Mo_greatest_18 _ _ _ _ _ _ _) ?_
        repeat' first
          | (with_reducible apply wp_bR; (simp (disch := omega) only [rM L, rK L, rN L, rNf, rNv, rNp, rNd, rRow, rLeg, rMark, nat_cast, Int.reduceToNat, hA]; with_reducible exact rfl))
          | with_reducible apply wp_bI
          | with_reducible apply wp_bV
          | with_reducible apply wp_bL
          | with_reducible apply wp_rI
          | with_reducible apply wp_rV
          | with_reducible apply wp_rL
          | (with_reducible apply wp_1; (first | omega | (simp (disch := omega) only [not_false_eq_true, not_true_eq_false, w32_id, tLt, fLt, tLe, fEq, itE, and_true, true_and, and_self, and_false, false_and, ↓reduceIte, nat_add, nat_mul3, nat_mul4, nat_mul6, nat_mul15, nat_mul60, nat_cast, nc1, Int.reduceToNat, upE, upN, fill_ne, fill_in, i0, hA] <;> omega)))
          | (with_reducible apply wp_2; (first | omega | (simp (disch := omega) only [not_false_eq_true, not_true_eq_false, w32_id, tLt, fLt, tLe, fEq, itE, and_true, true_and, and_self, and_false, false_and, ↓reduceIte, nat_add, nat_mul3, nat_mul4, nat_mul6, nat_mul15, nat_mul60, nat_cast, nc1, Int.reduceToNat, upE, upN, fill_ne, fill_in, i0, hA] <;> omega)))
          | (with_reducible apply wp_s; (first | (simp (disch := omega) only [not_false_eq_true, not_true_eq_false, w32_id, tLt, fLt, tLe, fEq, itE, and_true, true_and, and_self, and_false, false_and, ↓reduceIte, nat_add, nat_mul3, nat_mul4, nat_mul6, nat_mul15, nat_mul60, nat_cast, nc1, Int.reduceToNat, upE, upN, fill_ne, fill_in, i0, hA]; with_reducible exact Iff.rfl) | with_reducible exact Iff.rfl); intro hc__; (try subst hc__); rotate_left; intro hc__; rotate_left)
          | (with_reducible apply wp_eq; (with_reducible apply cl_go; simp (disch := omega) only [not_false_eq_true, not_true_eq_false, w32_id, tLt, fLt, tLe, fEq, itE, and_true, true_and, and_self, and_false, false_and, ↓reduceIte, nat_add, nat_mul3, nat_mul4, nat_mul6, nat_mul15, nat_mul60, nat_cast, nc1, Int.reduceToNat, upE, upN, fill_ne, fill_in, i0, hA]; with_reducible exact rfl))
          | (with_reducible refine wp_eq (c_Mo_isShip (by omega) _ _ _ _) ?_; with_reducible refine wp_eq (b_Mo_isShip_0 _ _ _ _ _) ?_)
          | (with_reducible refine wp_eq (c_Mo_isNation (by omega) _ _ _ _) ?_; with_reducible refine wp_eq (b_Mo_isNation_0 _ _ _ _ _) ?_)
          | (with_reducible refine wp_eq (c_Mo_isGood (by omega) _ _ _ _) ?_; with_reducible refine wp_eq (b_Mo_isGood_0 _ _ _ _ _) ?_)
          | (with_reducible refine wp_eq (c_Mo_isPort (by omega) _ _ _ _) ?_; with_reducible refine wp_eq (b_Mo_isPort_0 _ _ _ _ _) ?_)
          | (with_reducible refine wp_eq (c_Mo_areTwo (by omega) _ _ _ _ _) ?_; with_reducible refine wp_eq (b_Mo_areTwo_0 _ _ _ _ _ _) ?_)
          | (with_reducible refine wp_eq (c_Mo_gives (by omega) _ _ _ _) ?_; with_reducible refine wp_eq (b_Mo_gives_0 _ _ _ _ _) ?_)
          | (with_reducible refine wp_eq (c_Mo_refuse (by omega) _ _ _ _) ?_; with_reducible refine wp_eq (b_Mo_refuse_0 _ _ _ _ _) ?_)
          | (with_reducible refine wp_eq (c_Mo_orNone (by omega) _ _ _ _) ?_; with_reducible refine wp_eq (b_Mo_orNone_0 _ _ _ _ _) ?_)
          | (with_reducible refine wp_eq (c_Mo_orNothing (by omega) _ _ _ _) ?_; with_reducible refine wp_eq (b_Mo_orNothing_0 _ _ _ _ _) ?_)
          | (with_reducible refine wp_eq (c_Mo_is (by omega) _ _ _ _) ?_; with_reducible refine wp_eq (b_Mo_is_0 _ _ _ _ _) ?_)
          | (with_reducible refine wp_eq (c_Mo_isRule (by omega) _ _ _) ?_; with_reducible refine wp_eq (b_Mo_isRule_0 _ _ _ _) ?_)
          | (with_reducible refine wp_eq (c_Mo_isTons (by omega) _ _ _) ?_; with_reducible refine wp_eq (b_Mo_isTons_0 _ _ _ _) ?_)
          | (with_reducible refine wp_eq (c_Mo_isFrom (by omega) _ _ _ _ _) ?_; with_reducible refine wp_eq (b_Mo_isFrom_0 _ _ _ _ _ _) ?_)
          | (with_reducible refine wp_eq (c_Mo_isTray (by omega) _ _ _) ?_; with_reducible refine wp_eq (b_Mo_isTray_0 _ _ _ _) ?_)
          | (with_reducible apply wp_eq; (with_reducible apply lf_go; simp (disch := omega) only [not_false_eq_true, not_true_eq_false, w32_id, tLt, fLt, tLe, fEq, itE, and_true, true_and, and_self, and_false, false_and, ↓reduceIte, nat_add, nat_mul3, nat_mul4, nat_mul6, nat_mul15, nat_mul60, nat_cast, nc1, Int.reduceToNat, upE, upN, fill_ne, fill_in, i0, hA]; with_reducible exact rfl))
          | with_reducible apply wp_q1
        all_goals exact wp_m (by first | rfl | exact congrArg vI (by omega) | simp (disch := omega) only [not_false_eq_true, not_true_eq_false, w32_id, tLt, fLt, tLe, fEq, itE, and_true, true_and, and_self, and_false, false_and, ↓reduceIte, nat_add, nat_mul3, nat_mul4, nat_mul6, nat_mul15, nat_mul60, nat_cast, nc1, Int.reduceToNat, upE, upN, fill_ne, fill_in, i0]) (by repeat' first | assumption | apply RelS.up | apply RelS.fill | (intros; unfold core k1 kTr kTp kLv kLp kMk kNw; omega)) (by first | rfl | assumption | simp (disch := omega) only [not_false_eq_true, not_true_eq_false, w32_id, tLt, fLt, tLe, fEq, itE, and_true, true_and, and_self, and_false, false_and, ↓reduceIte, nat_add, nat_mul3, nat_mul4, nat_mul6, nat_mul15, nat_mul60, nat_cast, nc1, Int.reduceToNat, upE, upN, fill_ne, fill_in, i0] | (simp (disch := omega) only [not_false_eq_true, not_true_eq_false, w32_id, tLt, fLt, tLe, fEq, itE, and_true, true_and, and_self, and_false, false_and, ↓reduceIte, nat_add, nat_mul3, nat_mul4, nat_mul6, nat_mul15, nat_mul60, nat_cast, nc1, Int.reduceToNat, upE, upN, fill_ne, fill_in, i0]; assumption)) (by first | rfl | assumption | simp (disch := omega) only [not_false_eq_true, not_true_eq_false, w32_id, tLt, fLt, tLe, fEq, itE, and_true, true_and, and_self, and_false, false_and, ↓reduceIte, nat_add, nat_mul3, nat_mul4, nat_mul6, nat_mul15, nat_mul60, nat_cast, nc1, Int.reduceToNat, upE, upN, fill_ne, fill_in, i0])
  · refine ⟨vI (-1), 1, ?_, ?_⟩
    · repeat' first
        | (with_reducible apply wp_bR; (simp (disch := omega) only [rM L, rK L, rN L, rNf, rNv, rNp, rNd, rRow, rLeg, rMark, nat_cast, Int.reduceToNat, hct]; with_reducible exact rfl))
        | with_reducible apply wp_bI
        | with_reducible apply wp_bV
        | with_reducible apply wp_bL
        | with_reducible apply wp_rI
        | with_reducible apply wp_rV
        | with_reducible apply wp_rL
        | (with_reducible apply wp_1; (first | omega | (simp (disch := omega) only [not_false_eq_true, not_true_eq_false, w32_id, tLt, fLt, tLe, fEq, itE, and_true, true_and, and_self, and_false, false_and, ↓reduceIte, nat_add, nat_mul3, nat_mul4, nat_mul6, nat_mul15, nat_mul60, nat_cast, nc1, Int.reduceToNat, upE, upN, fill_ne, fill_in, i0, hct] <;> omega)))
        | (with_reducible apply wp_2; (first | omega | (simp (disch := omega) only [not_false_eq_true, not_true_eq_false, w32_id, tLt, fLt, tLe, fEq, itE, and_true, true_and, and_self, and_false, false_and, ↓reduceIte, nat_add, nat_mul3, nat_mul4, nat_mul6, nat_mul15, nat_mul60, nat_cast, nc1, Int.reduceToNat, upE, upN, fill_ne, fill_in, i0, hct] <;> omega)))
        | (with_reducible apply wp_s; (first | (simp (disch := omega) only [not_false_eq_true, not_true_eq_false, w32_id, tLt, fLt, tLe, fEq, itE, and_true, true_and, and_self, and_false, false_and, ↓reduceIte, nat_add, nat_mul3, nat_mul4, nat_mul6, nat_mul15, nat_mul60, nat_cast, nc1, Int.reduceToNat, upE, upN, fill_ne, fill_in, i0, hct]; with_reducible exact Iff.rfl) | with_reducible exact Iff.rfl); intro hc__; (try subst hc__); rotate_left; intro hc__; rotate_left)
        | (with_reducible apply wp_eq; (with_reducible apply cl_go; simp (disch := omega) only [not_false_eq_true, not_true_eq_false, w32_id, tLt, fLt, tLe, fEq, itE, and_true, true_and, and_self, and_false, false_and, ↓reduceIte, nat_add, nat_mul3, nat_mul4, nat_mul6, nat_mul15, nat_mul60, nat_cast, nc1, Int.reduceToNat, upE, upN, fill_ne, fill_in, i0, hct]; with_reducible exact rfl))
        | (with_reducible refine wp_eq (c_Ca_greatest (by omega) _ _ _ _) ?_; with_reducible refine wp_eq (b_Ca_greatest_0 _ _ _ _ _) ?_)
        | (with_reducible refine wp_eq (c_Ca_within (by omega) _ _ _ _ _) ?_; with_reducible refine wp_eq (b_Ca_within_0 _ _ _ _ _ _) ?_)
        | (with_reducible refine wp_eq (c_Ca_isShip (by omega) _ _ _ _) ?_; with_reducible refine wp_eq (b_Ca_isShip_0 _ _ _ _ _) ?_)
        | (with_reducible refine wp_eq (c_Ca_isNation (by omega) _ _ _ _) ?_; with_reducible refine wp_eq (b_Ca_isNation_0 _ _ _ _ _) ?_)
        | (with_reducible refine wp_eq (c_Ca_isGood (by omega) _ _ _ _) ?_; with_reducible refine wp_eq (b_Ca_isGood_0 _ _ _ _ _) ?_)
        | (with_reducible refine wp_eq (c_Ca_isPort (by omega) _ _ _ _) ?_; with_reducible refine wp_eq (b_Ca_isPort_0 _ _ _ _ _) ?_)
        | (with_reducible refine wp_eq (c_Ca_areTwo (by omega) _ _ _ _ _ _) ?_; with_reducible refine wp_eq (b_Ca_areTwo_0 _ _ _ _ _ _ _) ?_)
        | (with_reducible refine wp_eq (c_Ca_answer (by omega) _ _ _ _) ?_; with_reducible refine wp_eq (b_Ca_answer_0 _ _ _ _ _) ?_)
        | (with_reducible refine wp_eq (c_Ca_refuse (by omega) _ _ _ _) ?_; with_reducible refine wp_eq (b_Ca_refuse_0 _ _ _ _ _) ?_)
        | (with_reducible refine wp_eq (c_Ca_answerOr (by omega) _ _ _ _ _) ?_; with_reducible refine wp_eq (b_Ca_answerOr_0 _ _ _ _ _ _) ?_)
        | (with_reducible refine wp_eq (c_Ca_agree (by omega) _ _ _) ?_; with_reducible refine wp_eq (b_Ca_agree_0 _ _ _ _) ?_)
        | (with_reducible refine wp_eq (c_Ca_deny (by omega) _ _ _ _) ?_; with_reducible refine wp_eq (b_Ca_deny_0 _ _ _ _ _) ?_)
        | (with_reducible apply wp_eq; (with_reducible apply lf_go; simp (disch := omega) only [not_false_eq_true, not_true_eq_false, w32_id, tLt, fLt, tLe, fEq, itE, and_true, true_and, and_self, and_false, false_and, ↓reduceIte, nat_add, nat_mul3, nat_mul4, nat_mul6, nat_mul15, nat_mul60, nat_cast, nc1, Int.reduceToNat, upE, upN, fill_ne, fill_in, i0, hct]; with_reducible exact rfl))
        | with_reducible apply wp_q1
      all_goals exact wp_c (by first | rfl | exact congrArg vI (by omega) | simp (disch := omega) only [not_false_eq_true, not_true_eq_false, w32_id, tLt, fLt, tLe, fEq, itE, and_true, true_and, and_self, and_false, false_and, ↓reduceIte, nat_add, nat_mul3, nat_mul4, nat_mul6, nat_mul15, nat_mul60, nat_cast, nc1, Int.reduceToNat, upE, upN, fill_ne, fill_in, i0]) (by repeat' first | assumption | apply RelS.up | apply RelS.fill | (intros; unfold core k1 kTr kTp kLv kLp kMk kNw; omega)) (by first | rfl | assumption | simp (disch := omega) only [not_false_eq_true, not_true_eq_false, w32_id, tLt, fLt, tLe, fEq, itE, and_true, true_and, and_self, and_false, false_and, ↓reduceIte, nat_add, nat_mul3, nat_mul4, nat_mul6, nat_mul15, nat_mul60, nat_cast, nc1, Int.reduceToNat, upE, upN, fill_ne, fill_in, i0])
    · intro M' h'
      have hA := h'.hA
      repeat' first
        | (with_reducible apply wp_bR; (simp (disch := omega) only [rM L, rK L, rN L, rNf, rNv, rNp, rNd, rRow, rLeg, rMark, nat_cast, Int.reduceToNat, hA]; with_reducible exact rfl))
        | with_reducible apply wp_bI
        | with_reducible apply wp_bV
        | with_reducible apply wp_bL
        | with_reducible apply wp_rI
        | with_reducible apply wp_rV
        | with_reducible apply wp_rL
        | (with_reducible apply wp_1; (first | omega | (simp (disch := omega) only [not_false_eq_true, not_true_eq_false, w32_id, tLt, fLt, tLe, fEq, itE, and_true, true_and, and_self, and_false, false_and, ↓reduceIte, nat_add, nat_mul3, nat_mul4, nat_mul6, nat_mul15, nat_mul60, nat_cast, nc1, Int.reduceToNat, upE, upN, fill_ne, fill_in, i0, hA] <;> omega)))
        | (with_reducible apply wp_2; (first | omega | (simp (disch := omega) only [not_false_eq_true, not_true_eq_false, w32_id, tLt, fLt, tLe, fEq, itE, and_true, true_and, and_self, and_false, false_and, ↓reduceIte, nat_add, nat_mul3, nat_mul4, nat_mul6, nat_mul15, nat_mul60, nat_cast, nc1, Int.reduceToNat, upE, upN, fill_ne, fill_in, i0, hA] <;> omega)))
        | (with_reducible apply wp_s; (first | (simp (disch := omega) only [not_false_eq_true, not_true_eq_false, w32_id, tLt, fLt, tLe, fEq, itE, and_true, true_and, and_self, and_false, false_and, ↓reduceIte, nat_add, nat_mul3, nat_mul4, nat_mul6, nat_mul15, nat_mul60, nat_cast, nc1, Int.reduceToNat, upE, upN, fill_ne, fill_in, i0, hA]; with_reducible exact Iff.rfl) | with_reducible exact Iff.rfl); intro hc__; (try subst hc__); rotate_left; intro hc__; rotate_left)
        | (with_reducible apply wp_eq; (with_reducible apply cl_go; simp (disch := omega) only [not_false_eq_true, not_true_eq_false, w32_id, tLt, fLt, tLe, fEq, itE, and_true, true_and, and_self, and_false, false_and, ↓reduceIte, nat_add, nat_mul3, nat_mul4, nat_mul6, nat_mul15, nat_mul60, nat_cast, nc1, Int.reduceToNat, upE, upN, fill_ne, fill_in, i0, hA]; with_reducible exact rfl))
        | (with_reducible refine wp_eq (c_Mo_greatest (by omega) _ _ _ _) ?_; with_reducible refine wp_eq (b_Mo_greatest_0 _ _ _ _ _) ?_)
        | (with_reducible refine wp_eq (c_Mo_isShip (by omega) _ _ _ _) ?_; with_reducible refine wp_eq (b_Mo_isShip_0 _ _ _ _ _) ?_)
        | (with_reducible refine wp_eq (c_Mo_isNation (by omega) _ _ _ _) ?_; with_reducible refine wp_eq (b_Mo_isNation_0 _ _ _ _ _) ?_)
        | (with_reducible refine wp_eq (c_Mo_isGood (by omega) _ _ _ _) ?_; with_reducible refine wp_eq (b_Mo_isGood_0 _ _ _ _ _) ?_)
        | (with_reducible refine wp_eq (c_Mo_isPort (by omega) _ _ _ _) ?_; with_reducible refine wp_eq (b_Mo_isPort_0 _ _ _ _ _) ?_)
        | (with_reducible refine wp_eq (c_Mo_areTwo (by omega) _ _ _ _ _) ?_; with_reducible refine wp_eq (b_Mo_areTwo_0 _ _ _ _ _ _) ?_)
        | (with_reducible refine wp_eq (c_Mo_gives (by omega) _ _ _ _) ?_; with_reducible refine wp_eq (b_Mo_gives_0 _ _ _ _ _) ?_)
        | (with_reducible refine wp_eq (c_Mo_refuse (by omega) _ _ _ _) ?_; with_reducible refine wp_eq (b_Mo_refuse_0 _ _ _ _ _) ?_)
        | (with_reducible refine wp_eq (c_Mo_orNone (by omega) _ _ _ _) ?_; with_reducible refine wp_eq (b_Mo_orNone_0 _ _ _ _ _) ?_)
        | (with_reducible refine wp_eq (c_Mo_orNothing (by omega) _ _ _ _) ?_; with_reducible refine wp_eq (b_Mo_orNothing_0 _ _ _ _ _) ?_)
        | (with_reducible refine wp_eq (c_Mo_is (by omega) _ _ _ _) ?_; with_reducible refine wp_eq (b_Mo_is_0 _ _ _ _ _) ?_)
        | (with_reducible refine wp_eq (c_Mo_isRule (by omega) _ _ _) ?_; with_reducible refine wp_eq (b_Mo_isRule_0 _ _ _ _) ?_)
        | (with_reducible refine wp_eq (c_Mo_isTons (by omega) _ _ _) ?_; with_reducible refine wp_eq (b_Mo_isTons_0 _ _ _ _) ?_)
        | (with_reducible refine wp_eq (c_Mo_isFrom (by omega) _ _ _ _ _) ?_; with_reducible refine wp_eq (b_Mo_isFrom_0 _ _ _ _ _ _) ?_)
        | (with_reducible refine wp_eq (c_Mo_isTray (by omega) _ _ _) ?_; with_reducible refine wp_eq (b_Mo_isTray_0 _ _ _ _) ?_)
        | (with_reducible apply wp_eq; (with_reducible apply lf_go; simp (disch := omega) only [not_false_eq_true, not_true_eq_false, w32_id, tLt, fLt, tLe, fEq, itE, and_true, true_and, and_self, and_false, false_and, ↓reduceIte, nat_add, nat_mul3, nat_mul4, nat_mul6, nat_mul15, nat_mul60, nat_cast, nc1, Int.reduceToNat, upE, upN, fill_ne, fill_in, i0, hA]; with_reducible exact rfl))
        | with_reducible apply wp_q1
      all_goals exact wp_m (by first | rfl | exact congrArg vI (by omega) | simp (disch := omega) only [not_false_eq_true, not_true_eq_false, w32_id, tLt, fLt, tLe, fEq, itE, and_true, true_and, and_self, and_false, false_and, ↓reduceIte, nat_add, nat_mul3, nat_mul4, nat_mul6, nat_mul15, nat_mul60, nat_cast, nc1, Int.reduceToNat, upE, upN, fill_ne, fill_in, i0]) (by repeat' first | assumption | apply RelS.up | apply RelS.fill | (intros; unfold core k1 kTr kTp kLv kLp kMk kNw; omega)) (by first | rfl | assumption | simp (disch := omega) only [not_false_eq_true, not_true_eq_false, w32_id, tLt, fLt, tLe, fEq, itE, and_true, true_and, and_self, and_false, false_and, ↓reduceIte, nat_add, nat_mul3, nat_mul4, nat_mul6, nat_mul15, nat_mul60, nat_cast, nc1, Int.reduceToNat, upE, upN, fill_ne, fill_in, i0] | (simp (disch := omega) only [not_false_eq_true, not_true_eq_false, w32_id, tLt, fLt, tLe, fEq, itE, and_true, true_and, and_self, and_false, false_and, ↓reduceIte, nat_add, nat_mul3, nat_mul4, nat_mul6, nat_mul15, nat_mul60, nat_cast, nc1, Int.reduceToNat, upE, upN, fill_ne, fill_in, i0]; assumption)) (by first | rfl | assumption | simp (disch := omega) only [not_false_eq_true, not_true_eq_false, w32_id, tLt, fLt, tLe, fEq, itE, and_true, true_and, and_self, and_false, false_and, ↓reduceIte, nat_add, nat_mul3, nat_mul4, nat_mul6, nat_mul15, nat_mul60, nat_cast, nc1, Int.reduceToNat, upE, upN, fill_ne, fill_in, i0])
/-- the good that gains most a ton -/
def bstM (f g : Nat → Int) : Nat → Int
  | 0 => 0
  | k + 1 => if 0 < f k ∧ bstM f g k < g k - f k then g k - f k else bstM f g k
def bst (f g : Nat → Int) : Nat → Int
  | 0 => -1
  | k + 1 => if 0 < f k ∧ bstM f g k < g k - f k then (k : Int) else bst f g k
theorem bstM_s (f g : Nat → Int) (k : Nat) : bstM f g (k + 1) = if 0 < f k ∧ bstM f g k < g k - f k then g k - f k else bstM f g k := rfl
theorem bst_s (f g : Nat → Int) (k : Nat) : bst f g (k + 1) = if 0 < f k ∧ bstM f g k < g k - f k then (k : Int) else bst f g k := rfl
theorem bstM_nn (f g : Nat → Int) : ∀ k, 0 ≤ bstM f g k
  | 0 => by simp [bstM]
  | k + 1 => by
    have := bstM_nn f g k
    rw [bstM_s]
    split <;> omega
theorem tAd {a b c d : Int} (h1 : a < b) (h2 : c < d) : (a < b ∧ c < d) = True := eq_true ⟨h1, h2⟩
theorem fAd {a b c d : Int} (h : b ≤ a ∨ d ≤ c) : (a < b ∧ c < d) = False := eq_false (by omega)
theorem case_best (x1 x2 : Int) : Case m_Ca_best m_Mo_best [vI x1, vI x2] := by
  refine Case.mk fun L xs M A N B P ⟨hs0, h⟩ => ?_
  have hC := h.cn
  unfold Cn at hC
  have hA := h.hA
  have hct := h.cnt
  have hlw := h.law
  have hPr := h.inv.2.2.2.2.1
  by_cases hv : 0 ≤ x1 ∧ x1 < A 2 ∧ 0 ≤ x2 ∧ x2 < A 2 ∧ ¬ x1 = x2
  · refine ⟨vI (bst (fun g => A (57 + 15 * x1.toNat + g)) (fun g => A (57 + 15 * x2.toNat + g)) (A 1).toNat), if bst (fun g => A (57 + 15 * x1.toNat + g)) (fun g => A (57 + 15 * x2.toNat + g)) (A 1).toNat = -1 then 6 else 0, ?_, ?_⟩
    · repeat' first
        | (with_reducible apply wp_bR; (simp (disch := omega) only [rM L, rK L, rN L, rNf, rNv, rNp, rNd, rRow, rLeg, rMark, nat_cast, Int.reduceToNat, hct]; with_reducible exact rfl))
        | with_reducible apply wp_bI
        | with_reducible apply wp_bV
        | with_reducible apply wp_bL
        | with_reducible apply wp_rI
        | with_reducible apply wp_rV
        | with_reducible apply wp_rL
        | (with_reducible apply wp_1; (first | omega | (simp (disch := omega) only [not_false_eq_true, not_true_eq_false, w32_id, tLt, fLt, tLe, fEq, itE, and_true, true_and, and_self, and_false, false_and, ↓reduceIte, nat_add, nat_mul3, nat_mul4, nat_mul6, nat_mul15, nat_mul60, nat_cast, nc1, Int.reduceToNat, upE, upN, fill_ne, fill_in, i0, hct] <;> omega)))
        | (with_reducible apply wp_2; (first | omega | (simp (disch := omega) only [not_false_eq_true, not_true_eq_false, w32_id, tLt, fLt, tLe, fEq, itE, and_true, true_and, and_self, and_false, false_and, ↓reduceIte, nat_add, nat_mul3, nat_mul4, nat_mul6, nat_mul15, nat_mul60, nat_cast, nc1, Int.reduceToNat, upE, upN, fill_ne, fill_in, i0, hct] <;> omega)))
        | (with_reducible apply wp_s; (first | (simp (disch := omega) only [not_false_eq_true, not_true_eq_false, w32_id, tLt, fLt, tLe, fEq, itE, and_true, true_and, and_self, and_false, false_and, ↓reduceIte, nat_add, nat_mul3, nat_mul4, nat_mul6, nat_mul15, nat_mul60, nat_cast, nc1, Int.reduceToNat, upE, upN, fill_ne, fill_in, i0, hct]; with_reducible exact Iff.rfl) | with_reducible exact Iff.rfl); intro hc__; (try subst hc__); rotate_left; intro hc__; rotate_left)
        | (with_reducible apply wp_eq; (with_reducible apply cl_go; simp (disch := omega) only [not_false_eq_true, not_true_eq_false, w32_id, tLt, fLt, tLe, fEq, itE, and_true, true_and, and_self, and_false, false_and, ↓reduceIte, nat_add, nat_mul3, nat_mul4, nat_mul6, nat_mul15, nat_mul60, nat_cast, nc1, Int.reduceToNat, upE, upN, fill_ne, fill_in, i0, hct]; with_reducible exact rfl))
        | (with_reducible refine wp_eq (c_Ca_best (by omega) _ _ _ _ _) ?_; with_reducible refine wp_eq (b_Ca_best_0 _ _ _ _ _ _) ?_)
        | (with_reducible refine wp_eq (c_Ca_within (by omega) _ _ _ _ _) ?_; with_reducible refine wp_eq (b_Ca_within_0 _ _ _ _ _ _) ?_)
        | (with_reducible refine wp_eq (c_Ca_isShip (by omega) _ _ _ _) ?_; with_reducible refine wp_eq (b_Ca_isShip_0 _ _ _ _ _) ?_)
        | (with_reducible refine wp_eq (c_Ca_isNation (by omega) _ _ _ _) ?_; with_reducible refine wp_eq (b_Ca_isNation_0 _ _ _ _ _) ?_)
        | (with_reducible refine wp_eq (c_Ca_isGood (by omega) _ _ _ _) ?_; with_reducible refine wp_eq (b_Ca_isGood_0 _ _ _ _ _) ?_)
        | (with_reducible refine wp_eq (c_Ca_isPort (by omega) _ _ _ _) ?_; with_reducible refine wp_eq (b_Ca_isPort_0 _ _ _ _ _) ?_)
        | (with_reducible refine wp_eq (c_Ca_areTwo (by omega) _ _ _ _ _ _) ?_; with_reducible refine wp_eq (b_Ca_areTwo_0 _ _ _ _ _ _ _) ?_)
        | (with_reducible refine wp_eq (c_Ca_answer (by omega) _ _ _ _) ?_; with_reducible refine wp_eq (b_Ca_answer_0 _ _ _ _ _) ?_)
        | (with_reducible refine wp_eq (c_Ca_refuse (by omega) _ _ _ _) ?_; with_reducible refine wp_eq (b_Ca_refuse_0 _ _ _ _ _) ?_)
        | (with_reducible refine wp_eq (c_Ca_answerOr (by omega) _ _ _ _ _) ?_; with_reducible refine wp_eq (b_Ca_answerOr_0 _ _ _ _ _ _) ?_)
        | (with_reducible refine wp_eq (c_Ca_agree (by omega) _ _ _) ?_; with_reducible refine wp_eq (b_Ca_agree_0 _ _ _ _) ?_)
        | (with_reducible refine wp_eq (c_Ca_deny (by omega) _ _ _ _) ?_; with_reducible refine wp_eq (b_Ca_deny_0 _ _ _ _ _) ?_)
        | (with_reducible apply wp_eq; (with_reducible apply lf_go; simp (disch := omega) only [not_false_eq_true, not_true_eq_false, w32_id, tLt, fLt, tLe, fEq, itE, and_true, true_and, and_self, and_false, false_and, ↓reduceIte, nat_add, nat_mul3, nat_mul4, nat_mul6, nat_mul15, nat_mul60, nat_cast, nc1, Int.reduceToNat, upE, upN, fill_ne, fill_in, i0, hct]; with_reducible exact rfl))
        | with_reducible apply wp_q1
      have hp := h.price
      refine wp_loop (α := AV × AV) (G := fun k a => Run (callD (100 - 1)) tb_Ca_best 24 [vR 11 0 3, vI x1, vI x2, vI (bstM (fun g => A (57 + 15 * x1.toNat + g)) (fun g => A (57 + 15 * x2.toNat + g)) k), vI (bst (fun g => A (57 + 15 * x1.toNat + g)) (fun g => A (57 + 15 * x2.toNat + g)) k), vI (k : Int), a.1, a.2] [] (SH L) M) (I := fun _ a => True) (A 1).toNat ?_ ?_ 0 (vU, vU) (by omega) trivial
      · intro k ⟨z1, z2⟩ hk _ ih
        have p1 := hPr x1.toNat k (by omega) (by omega)
        have p2 := hPr x2.toNat k (by omega) (by omega)
        have nn := bstM_nn (fun g => A (57 + 15 * x1.toNat + g)) (fun g => A (57 + 15 * x2.toNat + g)) k
        refine wp_eq (b_Ca_best_24 _ _ _ _ _ _ _ _ _ _ _) ?_
        repeat' first
          | (with_reducible apply wp_bR; (simp (disch := omega) only [rM L, rK L, rN L, rNf, rNv, rNp, rNd, rRow, rLeg, rMark, nat_cast, Int.reduceToNat, hct, hp]; with_reducible exact rfl))
          | with_reducible apply wp_bI
          | with_reducible apply wp_bV
          | with_reducible apply wp_bL
          | with_reducible apply wp_rI
          | with_reducible apply wp_rV
          | with_reducible apply wp_rL
          | (with_reducible apply wp_1; (first | omega | (simp (disch := omega) only [not_false_eq_true, not_true_eq_false, w32_id, tLt, fLt, tLe, fEq, itE, and_true, true_and, and_self, and_false, false_and, ↓reduceIte, nat_add, nat_mul3, nat_mul4, nat_mul6, nat_mul15, nat_mul60, nat_cast, nc1, Int.reduceToNat, upE, upN, fill_ne, fill_in, i0, hct, hp] <;> omega)))
          | (with_reducible apply wp_2; (first | omega | (simp (disch := omega) only [not_false_eq_true, not_true_eq_false, w32_id, tLt, fLt, tLe, fEq, itE, and_true, true_and, and_self, and_false, false_and, ↓reduceIte, nat_add, nat_mul3, nat_mul4, nat_mul6, nat_mul15, nat_mul60, nat_cast, nc1, Int.reduceToNat, upE, upN, fill_ne, fill_in, i0, hct, hp] <;> omega)))
          | (with_reducible apply wp_s; (first | (simp (disch := omega) only [not_false_eq_true, not_true_eq_false, w32_id, tLt, fLt, tLe, fEq, itE, and_true, true_and, and_self, and_false, false_and, ↓reduceIte, nat_add, nat_mul3, nat_mul4, nat_mul6, nat_mul15, nat_mul60, nat_cast, nc1, Int.reduceToNat, upE, upN, fill_ne, fill_in, i0, hct, hp]; with_reducible exact Iff.rfl) | with_reducible exact Iff.rfl); intro hc__; (try subst hc__); rotate_left; intro hc__; rotate_left)
          | (with_reducible apply wp_eq; (with_reducible apply cl_go; simp (disch := omega) only [not_false_eq_true, not_true_eq_false, w32_id, tLt, fLt, tLe, fEq, itE, and_true, true_and, and_self, and_false, false_and, ↓reduceIte, nat_add, nat_mul3, nat_mul4, nat_mul6, nat_mul15, nat_mul60, nat_cast, nc1, Int.reduceToNat, upE, upN, fill_ne, fill_in, i0, hct, hp]; with_reducible exact rfl))
          | (with_reducible apply wp_eq; (with_reducible apply lf_go; simp (disch := omega) only [not_false_eq_true, not_true_eq_false, w32_id, tLt, fLt, tLe, fEq, itE, and_true, true_and, and_self, and_false, false_and, ↓reduceIte, nat_add, nat_mul3, nat_mul4, nat_mul6, nat_mul15, nat_mul60, nat_cast, nc1, Int.reduceToNat, upE, upN, fill_ne, fill_in, i0, hct, hp]; with_reducible exact rfl))
          | with_reducible apply wp_q1
        all_goals (apply wp_nx2 ih; (simp (disch := omega) only [bst_s, bstM_s, tAd, fAd, not_false_eq_true, not_true_eq_false, w32_id, tLt, fLt, tLe, fEq, itE, and_true, true_and, and_self, and_false, false_and, ↓reduceIte, nat_add, nat_mul3, nat_mul4, nat_mul6, nat_mul15, nat_mul60, nat_cast, nc1, Int.reduceToNat, upE, upN, fill_ne, fill_in, i0, hp]; (try with_reducible rfl)); exact trivial)
      · intro ⟨z1, z2⟩ _
        refine wp_eq (b_Ca_best_24 _ _ _ _ _ _ _ _ _ _ _) ?_
        repeat' first
          | (with_reducible apply wp_bR; (simp (disch := omega) only [rM L, rK L, rN L, rNf, rNv, rNp, rNd, rRow, rLeg, rMark, nat_cast, Int.reduceToNat, hct]; with_reducible exact rfl))
          | with_reducible apply wp_bI
          | with_reducible apply wp_bV
          | with_reducible apply wp_bL
          | with_reducible apply wp_rI
          | with_reducible apply wp_rV
          | with_reducible apply wp_rL
          | (with_reducible apply wp_1; (first | omega | (simp (disch := omega) only [not_false_eq_true, not_true_eq_false, w32_id, tLt, fLt, tLe, fEq, itE, and_true, true_and, and_self, and_false, false_and, ↓reduceIte, nat_add, nat_mul3, nat_mul4, nat_mul6, nat_mul15, nat_mul60, nat_cast, nc1, Int.reduceToNat, upE, upN, fill_ne, fill_in, i0, hct] <;> omega)))
          | (with_reducible apply wp_2; (first | omega | (simp (disch := omega) only [not_false_eq_true, not_true_eq_false, w32_id, tLt, fLt, tLe, fEq, itE, and_true, true_and, and_self, and_false, false_and, ↓reduceIte, nat_add, nat_mul3, nat_mul4, nat_mul6, nat_mul15, nat_mul60, nat_cast, nc1, Int.reduceToNat, upE, upN, fill_ne, fill_in, i0, hct] <;> omega)))
          | (with_reducible apply wp_s; (first | (simp (disch := omega) only [not_false_eq_true, not_true_eq_false, w32_id, tLt, fLt, tLe, fEq, itE, and_true, true_and, and_self, and_false, false_and, ↓reduceIte, nat_add, nat_mul3, nat_mul4, nat_mul6, nat_mul15, nat_mul60, nat_cast, nc1, Int.reduceToNat, upE, upN, fill_ne, fill_in, i0, hct]; with_reducible exact Iff.rfl) | with_reducible exact Iff.rfl); intro hc__; (try subst hc__); rotate_left; intro hc__; rotate_left)
          | (with_reducible apply wp_eq; (with_reducible apply cl_go; simp (disch := omega) only [not_false_eq_true, not_true_eq_false, w32_id, tLt, fLt, tLe, fEq, itE, and_true, true_and, and_self, and_false, false_and, ↓reduceIte, nat_add, nat_mul3, nat_mul4, nat_mul6, nat_mul15, nat_mul60, nat_cast, nc1, Int.reduceToNat, upE, upN, fill_ne, fill_in, i0, hct]; with_reducible exact rfl))
          | (with_reducible refine wp_eq (c_Ca_within (by omega) _ _ _ _ _) ?_; with_reducible refine wp_eq (b_Ca_within_0 _ _ _ _ _ _) ?_)
          | (with_reducible refine wp_eq (c_Ca_isShip (by omega) _ _ _ _) ?_; with_reducible refine wp_eq (b_Ca_isShip_0 _ _ _ _ _) ?_)
          | (with_reducible refine wp_eq (c_Ca_isNation (by omega) _ _ _ _) ?_; with_reducible refine wp_eq (b_Ca_isNation_0 _ _ _ _ _) ?_)
          | (with_reducible refine wp_eq (c_Ca_isGood (by omega) _ _ _ _) ?_; with_reducible refine wp_eq (b_Ca_isGood_0 _ _ _ _ _) ?_)
          | (with_reducible refine wp_eq (c_Ca_isPort (by omega) _ _ _ _) ?_; with_reducible refine wp_eq (b_Ca_isPort_0 _ _ _ _ _) ?_)
          | (with_reducible refine wp_eq (c_Ca_areTwo (by omega) _ _ _ _ _ _) ?_; with_reducible refine wp_eq (b_Ca_areTwo_0 _ _ _ _ _ _ _) ?_)
          | (with_reducible refine wp_eq (c_Ca_answer (by omega) _ _ _ _) ?_; with_reducible refine wp_eq (b_Ca_answer_0 _ _ _ _ _) ?_)
          | (with_reducible refine wp_eq (c_Ca_refuse (by omega) _ _ _ _) ?_; with_reducible refine wp_eq (b_Ca_refuse_0 _ _ _ _ _) ?_)
          | (with_reducible refine wp_eq (c_Ca_answerOr (by omega) _ _ _ _ _) ?_; with_reducible refine wp_eq (b_Ca_answerOr_0 _ _ _ _ _ _) ?_)
          | (with_reducible refine wp_eq (c_Ca_agree (by omega) _ _ _) ?_; with_reducible refine wp_eq (b_Ca_agree_0 _ _ _ _) ?_)
          | (with_reducible refine wp_eq (c_Ca_deny (by omega) _ _ _ _) ?_; with_reducible refine wp_eq (b_Ca_deny_0 _ _ _ _ _) ?_)
          | (with_reducible apply wp_eq; (with_reducible apply lf_go; simp (disch := omega) only [not_false_eq_true, not_true_eq_false, w32_id, tLt, fLt, tLe, fEq, itE, and_true, true_and, and_self, and_false, false_and, ↓reduceIte, nat_add, nat_mul3, nat_mul4, nat_mul6, nat_mul15, nat_mul60, nat_cast, nc1, Int.reduceToNat, upE, upN, fill_ne, fill_in, i0, hct]; with_reducible exact rfl))
          | with_reducible apply wp_q1
        all_goals exact wp_c (by first | rfl | exact congrArg vI (by omega) | simp (disch := omega) only [not_false_eq_true, not_true_eq_false, w32_id, tLt, fLt, tLe, fEq, itE, and_true, true_and, and_self, and_false, false_and, ↓reduceIte, nat_add, nat_mul3, nat_mul4, nat_mul6, nat_mul15, nat_mul60, nat_cast, nc1, Int.reduceToNat, upE, upN, fill_ne, fill_in, i0]) (by repeat' first | assumption | apply RelS.up | apply RelS.fill | (intros; unfold core k1 kTr kTp kLv kLp kMk kNw; omega)) (by first | rfl | assumption | simp (disch := omega) only [not_false_eq_true, not_true_eq_false, w32_id, tLt, fLt, tLe, fEq, itE, and_true, true_and, and_self, and_false, false_and, ↓reduceIte, nat_add, nat_mul3, nat_mul4, nat_mul6, nat_mul15, nat_mul60, nat_cast, nc1, Int.reduceToNat, upE, upN, fill_ne, fill_in, i0])
    · intro M' h'
      have hA := h'.hA
      repeat' first
        | (with_reducible apply wp_bR; (simp (disch := omega) only [rM L, rK L, rN L, rNf, rNv, rNp, rNd, rRow, rLeg, rMark, nat_cast, Int.reduceToNat, hA]; with_reducible exact rfl))
        | with_reducible apply wp_bI
        | with_reducible apply wp_bV
        | with_reducible apply wp_bL
        | with_reducible apply wp_rI
        | with_reducible apply wp_rV
        | with_reducible apply wp_rL
        | (with_reducible apply wp_1; (first | omega | (simp (disch := omega) only [not_false_eq_true, not_true_eq_false, w32_id, tLt, fLt, tLe, fEq, itE, and_true, true_and, and_self, and_false, false_and, ↓reduceIte, nat_add, nat_mul3, nat_mul4, nat_mul6, nat_mul15, nat_mul60, nat_cast, nc1, Int.reduceToNat, upE, upN, fill_ne, fill_in, i0, hA] <;> omega)))
        | (with_reducible apply wp_2; (first | omega | (simp (disch := omega) only [not_false_eq_true, not_true_eq_false, w32_id, tLt, fLt, tLe, fEq, itE, and_true, true_and, and_self, and_false, false_and, ↓reduceIte, nat_add, nat_mul3, nat_mul4, nat_mul6, nat_mul15, nat_mul60, nat_cast, nc1, Int.reduceToNat, upE, upN, fill_ne, fill_in, i0, hA] <;> omega)))
        | (with_reducible apply wp_s; (first | (simp (disch := omega) only [not_false_eq_true, not_true_eq_false, w32_id, tLt, fLt, tLe, fEq, itE, and_true, true_and, and_self, and_false, false_and, ↓reduceIte, nat_add, nat_mul3, nat_mul4, nat_mul6, nat_mul15, nat_mul60, nat_cast, nc1, Int.reduceToNat, upE, upN, fill_ne, fill_in, i0, hA]; with_reducible exact Iff.rfl) | with_reducible exact Iff.rfl); intro hc__; (try subst hc__); rotate_left; intro hc__; rotate_left)
        | (with_reducible apply wp_eq; (with_reducible apply cl_go; simp (disch := omega) only [not_false_eq_true, not_true_eq_false, w32_id, tLt, fLt, tLe, fEq, itE, and_true, true_and, and_self, and_false, false_and, ↓reduceIte, nat_add, nat_mul3, nat_mul4, nat_mul6, nat_mul15, nat_mul60, nat_cast, nc1, Int.reduceToNat, upE, upN, fill_ne, fill_in, i0, hA]; with_reducible exact rfl))
        | (with_reducible refine wp_eq (c_Mo_best (by omega) _ _ _ _ _) ?_; with_reducible refine wp_eq (b_Mo_best_0 _ _ _ _ _ _) ?_)
        | (with_reducible refine wp_eq (c_Mo_isShip (by omega) _ _ _ _) ?_; with_reducible refine wp_eq (b_Mo_isShip_0 _ _ _ _ _) ?_)
        | (with_reducible refine wp_eq (c_Mo_isNation (by omega) _ _ _ _) ?_; with_reducible refine wp_eq (b_Mo_isNation_0 _ _ _ _ _) ?_)
        | (with_reducible refine wp_eq (c_Mo_isGood (by omega) _ _ _ _) ?_; with_reducible refine wp_eq (b_Mo_isGood_0 _ _ _ _ _) ?_)
        | (with_reducible refine wp_eq (c_Mo_isPort (by omega) _ _ _ _) ?_; with_reducible refine wp_eq (b_Mo_isPort_0 _ _ _ _ _) ?_)
        | (with_reducible refine wp_eq (c_Mo_areTwo (by omega) _ _ _ _ _) ?_; with_reducible refine wp_eq (b_Mo_areTwo_0 _ _ _ _ _ _) ?_)
        | (with_reducible refine wp_eq (c_Mo_gives (by omega) _ _ _ _) ?_; with_reducible refine wp_eq (b_Mo_gives_0 _ _ _ _ _) ?_)
        | (with_reducible refine wp_eq (c_Mo_refuse (by omega) _ _ _ _) ?_; with_reducible refine wp_eq (b_Mo_refuse_0 _ _ _ _ _) ?_)
        | (with_reducible refine wp_eq (c_Mo_orNone (by omega) _ _ _ _) ?_; with_reducible refine wp_eq (b_Mo_orNone_0 _ _ _ _ _) ?_)
        | (with_reducible refine wp_eq (c_Mo_orNothing (by omega) _ _ _ _) ?_; with_reducible refine wp_eq (b_Mo_orNothing_0 _ _ _ _ _) ?_)
        | (with_reducible refine wp_eq (c_Mo_is (by omega) _ _ _ _) ?_; with_reducible refine wp_eq (b_Mo_is_0 _ _ _ _ _) ?_)
        | (with_reducible refine wp_eq (c_Mo_isRule (by omega) _ _ _) ?_; with_reducible refine wp_eq (b_Mo_isRule_0 _ _ _ _) ?_)
        | (with_reducible refine wp_eq (c_Mo_isTons (by omega) _ _ _) ?_; with_reducible refine wp_eq (b_Mo_isTons_0 _ _ _ _) ?_)
        | (with_reducible refine wp_eq (c_Mo_isFrom (by omega) _ _ _ _ _) ?_; with_reducible refine wp_eq (b_Mo_isFrom_0 _ _ _ _ _ _) ?_)
        | (with_reducible refine wp_eq (c_Mo_isTray (by omega) _ _ _) ?_; with_reducible refine wp_eq (b_Mo_isTray_0 _ _ _ _) ?_)
        | (with_reducible apply wp_eq; (with_reducible apply lf_go; simp (disch := omega) only [not_false_eq_true, not_true_eq_false, w32_id, tLt, fLt, tLe, fEq, itE, and_true, true_and, and_self, and_false, false_and, ↓reduceIte, nat_add, nat_mul3, nat_mul4, nat_mul6, nat_mul15, nat_mul60, nat_cast, nc1, Int.reduceToNat, upE, upN, fill_ne, fill_in, i0, hA]; with_reducible exact rfl))
        | with_reducible apply wp_q1
      refine (wp_eq (loop_up (fun k => Run (callD (100 - 1)) tb_Mo_best 23 [vR 12 0 271, vI x1, vI x2, vI (bst (fun g => A (57 + 15 * x1.toNat + g)) (fun g => A (57 + 15 * x2.toNat + g)) k), vI (bstM (fun g => A (57 + 15 * x1.toNat + g)) (fun g => A (57 + 15 * x2.toNat + g)) k), vI (k : Int)] [] (SH L) M') (A 1).toNat ?_ 0 (by omega)) ?_)
      · intro k hk
        have p1 := hPr x1.toNat k (by omega) (by omega)
        have p2 := hPr x2.toNat k (by omega) (by omega)
        have nn := bstM_nn (fun g => A (57 + 15 * x1.toNat + g)) (fun g => A (57 + 15 * x2.toNat + g)) k
        rw [b_Mo_best_23, bst_s, bstM_s]
        by_cases c1 : A (57 + 15 * x1.toNat + k) = 0
        · repeat' first
            | (with_reducible apply bR_go; (simp (disch := omega) only [rM L, rK L, rN L, rNf, rNv, rNp, rNd, rRow, rLeg, rMark, nat_cast, Int.reduceToNat, hA, i57, c1, tAd, fAd]; with_reducible exact rfl))
            | with_reducible apply bI_go
            | with_reducible apply bV_go
            | with_reducible apply bL_go
            | (with_reducible apply it_1; (first | omega | (simp (disch := omega) only [not_false_eq_true, not_true_eq_false, w32_id, tLt, fLt, tLe, fEq, itE, and_true, true_and, and_self, and_false, false_and, ↓reduceIte, nat_add, nat_mul3, nat_mul4, nat_mul6, nat_mul15, nat_mul60, nat_cast, nc1, Int.reduceToNat, upE, upN, fill_ne, fill_in, i0, hA, i57, c1, tAd, fAd] <;> omega)))
            | (with_reducible apply it_2; (first | omega | (simp (disch := omega) only [not_false_eq_true, not_true_eq_false, w32_id, tLt, fLt, tLe, fEq, itE, and_true, true_and, and_self, and_false, false_and, ↓reduceIte, nat_add, nat_mul3, nat_mul4, nat_mul6, nat_mul15, nat_mul60, nat_cast, nc1, Int.reduceToNat, upE, upN, fill_ne, fill_in, i0, hA, i57, c1, tAd, fAd] <;> omega)))
            | (with_reducible refine cl_go ?_; simp (disch := omega) only [not_false_eq_true, not_true_eq_false, w32_id, tLt, fLt, tLe, fEq, itE, and_true, true_and, and_self, and_false, false_and, ↓reduceIte, nat_add, nat_mul3, nat_mul4, nat_mul6, nat_mul15, nat_mul60, nat_cast, nc1, Int.reduceToNat, upE, upN, fill_ne, fill_in, i0, hA, i57, c1, tAd, fAd])
            | rw [c_Mo_priceOf (by omega), b_Mo_priceOf_0]
            | rw [c_Mo_portRow (by omega), b_Mo_portRow_0]
            | (with_reducible refine rn_go ?_; simp (disch := omega) only [not_false_eq_true, not_true_eq_false, w32_id, tLt, fLt, tLe, fEq, itE, and_true, true_and, and_self, and_false, false_and, ↓reduceIte, nat_add, nat_mul3, nat_mul4, nat_mul6, nat_mul15, nat_mul60, nat_cast, nc1, Int.reduceToNat, upE, upN, fill_ne, fill_in, i0, hA, i57, c1, tAd, fAd])
            | (with_reducible refine lf_go ?_; simp (disch := omega) only [not_false_eq_true, not_true_eq_false, w32_id, tLt, fLt, tLe, fEq, itE, and_true, true_and, and_self, and_false, false_and, ↓reduceIte, nat_add, nat_mul3, nat_mul4, nat_mul6, nat_mul15, nat_mul60, nat_cast, nc1, Int.reduceToNat, upE, upN, fill_ne, fill_in, i0, hA, i57, c1, tAd, fAd])
            | with_reducible exact rfl
        · by_cases c2 : bstM (fun g => A (57 + 15 * x1.toNat + g)) (fun g => A (57 + 15 * x2.toNat + g)) k < A (57 + 15 * x2.toNat + k) - A (57 + 15 * x1.toNat + k)
          · repeat' first
              | (with_reducible apply bR_go; (simp (disch := omega) only [rM L, rK L, rN L, rNf, rNv, rNp, rNd, rRow, rLeg, rMark, nat_cast, Int.reduceToNat, hA, i57, tAd, fAd]; with_reducible exact rfl))
              | with_reducible apply bI_go
              | with_reducible apply bV_go
              | with_reducible apply bL_go
              | (with_reducible apply it_1; (first | omega | (simp (disch := omega) only [not_false_eq_true, not_true_eq_false, w32_id, tLt, fLt, tLe, fEq, itE, and_true, true_and, and_self, and_false, false_and, ↓reduceIte, nat_add, nat_mul3, nat_mul4, nat_mul6, nat_mul15, nat_mul60, nat_cast, nc1, Int.reduceToNat, upE, upN, fill_ne, fill_in, i0, hA, i57, tAd, fAd] <;> omega)))
              | (with_reducible apply it_2; (first | omega | (simp (disch := omega) only [not_false_eq_true, not_true_eq_false, w32_id, tLt, fLt, tLe, fEq, itE, and_true, true_and, and_self, and_false, false_and, ↓reduceIte, nat_add, nat_mul3, nat_mul4, nat_mul6, nat_mul15, nat_mul60, nat_cast, nc1, Int.reduceToNat, upE, upN, fill_ne, fill_in, i0, hA, i57, tAd, fAd] <;> omega)))
              | (with_reducible refine cl_go ?_; simp (disch := omega) only [not_false_eq_true, not_true_eq_false, w32_id, tLt, fLt, tLe, fEq, itE, and_true, true_and, and_self, and_false, false_and, ↓reduceIte, nat_add, nat_mul3, nat_mul4, nat_mul6, nat_mul15, nat_mul60, nat_cast, nc1, Int.reduceToNat, upE, upN, fill_ne, fill_in, i0, hA, i57, tAd, fAd])
              | rw [c_Mo_priceOf (by omega), b_Mo_priceOf_0]
              | rw [c_Mo_portRow (by omega), b_Mo_portRow_0]
              | (with_reducible refine rn_go ?_; simp (disch := omega) only [not_false_eq_true, not_true_eq_false, w32_id, tLt, fLt, tLe, fEq, itE, and_true, true_and, and_self, and_false, false_and, ↓reduceIte, nat_add, nat_mul3, nat_mul4, nat_mul6, nat_mul15, nat_mul60, nat_cast, nc1, Int.reduceToNat, upE, upN, fill_ne, fill_in, i0, hA, i57, tAd, fAd])
              | (with_reducible refine lf_go ?_; simp (disch := omega) only [not_false_eq_true, not_true_eq_false, w32_id, tLt, fLt, tLe, fEq, itE, and_true, true_and, and_self, and_false, false_and, ↓reduceIte, nat_add, nat_mul3, nat_mul4, nat_mul6, nat_mul15, nat_mul60, nat_cast, nc1, Int.reduceToNat, upE, upN, fill_ne, fill_in, i0, hA, i57, tAd, fAd])
              | with_reducible exact rfl
          · repeat' first
              | (with_reducible apply bR_go; (simp (disch := omega) only [rM L, rK L, rN L, rNf, rNv, rNp, rNd, rRow, rLeg, rMark, nat_cast, Int.reduceToNat, hA, i57, tAd, fAd]; with_reducible exact rfl))
              | with_reducible apply bI_go
              | with_reducible apply bV_go
              | with_reducible apply bL_go
              | (with_reducible apply it_1; (first | omega | (simp (disch := omega) only [not_false_eq_true, not_true_eq_false, w32_id, tLt, fLt, tLe, fEq, itE, and_true, true_and, and_self, and_false, false_and, ↓reduceIte, nat_add, nat_mul3, nat_mul4, nat_mul6, nat_mul15, nat_mul60, nat_cast, nc1, Int.reduceToNat, upE, upN, fill_ne, fill_in, i0, hA, i57, tAd, fAd] <;> omega)))
              | (with_reducible apply it_2; (first | omega | (simp (disch := omega) only [not_false_eq_true, not_true_eq_false, w32_id, tLt, fLt, tLe, fEq, itE, and_true, true_and, and_self, and_false, false_and, ↓reduceIte, nat_add, nat_mul3, nat_mul4, nat_mul6, nat_mul15, nat_mul60, nat_cast, nc1, Int.reduceToNat, upE, upN, fill_ne, fill_in, i0, hA, i57, tAd, fAd] <;> omega)))
              | (with_reducible refine cl_go ?_; simp (disch := omega) only [not_false_eq_true, not_true_eq_false, w32_id, tLt, fLt, tLe, fEq, itE, and_true, true_and, and_self, and_false, false_and, ↓reduceIte, nat_add, nat_mul3, nat_mul4, nat_mul6, nat_mul15, nat_mul60, nat_cast, nc1, Int.reduceToNat, upE, upN, fill_ne, fill_in, i0, hA, i57, tAd, fAd])
              | rw [c_Mo_priceOf (by omega), b_Mo_priceOf_0]
              | rw [c_Mo_portRow (by omega), b_Mo_portRow_0]
              | (with_reducible refine rn_go ?_; simp (disch := omega) only [not_false_eq_true, not_true_eq_false, w32_id, tLt, fLt, tLe, fEq, itE, and_true, true_and, and_self, and_false, false_and, ↓reduceIte, nat_add, nat_mul3, nat_mul4, nat_mul6, nat_mul15, nat_mul60, nat_cast, nc1, Int.reduceToNat, upE, upN, fill_ne, fill_in, i0, hA, i57, tAd, fAd])
              | (with_reducible refine lf_go ?_; simp (disch := omega) only [not_false_eq_true, not_true_eq_false, w32_id, tLt, fLt, tLe, fEq, itE, and_true, true_and, and_self, and_false, false_and, ↓reduceIte, nat_add, nat_mul3, nat_mul4, nat_mul6, nat_mul15, nat_mul60, nat_cast, nc1, Int.reduceToNat, upE, upN, fill_ne, fill_in, i0, hA, i57, tAd, fAd])
              | with_reducible exact rfl
      · refine wp_eq (b_Mo_best_23 _ _ _ _ _ _ _ _ _) ?_
        repeat' first
          | (with_reducible apply wp_bR; (simp (disch := omega) only [rM L, rK L, rN L, rNf, rNv, rNp, rNd, rRow, rLeg, rMark, nat_cast, Int.reduceToNat, hA]; with_reducible exact rfl))
          | with_reducible apply wp_bI
          | with_reducible apply wp_bV
          | with_reducible apply wp_bL
          | with_reducible apply wp_rI
          | with_reducible apply wp_rV
          | with_reducible apply wp_rL
          | (with_reducible apply wp_1; (first | omega | (simp (disch := omega) only [not_false_eq_true, not_true_eq_false, w32_id, tLt, fLt, tLe, fEq, itE, and_true, true_and, and_self, and_false, false_and, ↓reduceIte, nat_add, nat_mul3, nat_mul4, nat_mul6, nat_mul15, nat_mul60, nat_cast, nc1, Int.reduceToNat, upE, upN, fill_ne, fill_in, i0, hA] <;> omega)))
          | (with_reducible apply wp_2; (first | omega | (simp (disch := omega) only [not_false_eq_true, not_true_eq_false, w32_id, tLt, fLt, tLe, fEq, itE, and_true, true_and, and_self, and_false, false_and, ↓reduceIte, nat_add, nat_mul3, nat_mul4, nat_mul6, nat_mul15, nat_mul60, nat_cast, nc1, Int.reduceToNat, upE, upN, fill_ne, fill_in, i0, hA] <;> omega)))
          | (with_reducible apply wp_s; (first | (simp (disch := omega) only [not_false_eq_true, not_true_eq_false, w32_id, tLt, fLt, tLe, fEq, itE, and_true, true_and, and_self, and_false, false_and, ↓reduceIte, nat_add, nat_mul3, nat_mul4, nat_mul6, nat_mul15, nat_mul60, nat_cast, nc1, Int.reduceToNat, upE, upN, fill_ne, fill_in, i0, hA]; with_reducible exact Iff.rfl) | with_reducible exact Iff.rfl); intro hc__; (try subst hc__); rotate_left; intro hc__; rotate_left)
          | (with_reducible apply wp_eq; (with_reducible apply cl_go; simp (disch := omega) only [not_false_eq_true, not_true_eq_false, w32_id, tLt, fLt, tLe, fEq, itE, and_true, true_and, and_self, and_false, false_and, ↓reduceIte, nat_add, nat_mul3, nat_mul4, nat_mul6, nat_mul15, nat_mul60, nat_cast, nc1, Int.reduceToNat, upE, upN, fill_ne, fill_in, i0, hA]; with_reducible exact rfl))
          | (with_reducible refine wp_eq (c_Mo_isShip (by omega) _ _ _ _) ?_; with_reducible refine wp_eq (b_Mo_isShip_0 _ _ _ _ _) ?_)
          | (with_reducible refine wp_eq (c_Mo_isNation (by omega) _ _ _ _) ?_; with_reducible refine wp_eq (b_Mo_isNation_0 _ _ _ _ _) ?_)
          | (with_reducible refine wp_eq (c_Mo_isGood (by omega) _ _ _ _) ?_; with_reducible refine wp_eq (b_Mo_isGood_0 _ _ _ _ _) ?_)
          | (with_reducible refine wp_eq (c_Mo_isPort (by omega) _ _ _ _) ?_; with_reducible refine wp_eq (b_Mo_isPort_0 _ _ _ _ _) ?_)
          | (with_reducible refine wp_eq (c_Mo_areTwo (by omega) _ _ _ _ _) ?_; with_reducible refine wp_eq (b_Mo_areTwo_0 _ _ _ _ _ _) ?_)
          | (with_reducible refine wp_eq (c_Mo_gives (by omega) _ _ _ _) ?_; with_reducible refine wp_eq (b_Mo_gives_0 _ _ _ _ _) ?_)
          | (with_reducible refine wp_eq (c_Mo_refuse (by omega) _ _ _ _) ?_; with_reducible refine wp_eq (b_Mo_refuse_0 _ _ _ _ _) ?_)
          | (with_reducible refine wp_eq (c_Mo_orNone (by omega) _ _ _ _) ?_; with_reducible refine wp_eq (b_Mo_orNone_0 _ _ _ _ _) ?_)
          | (with_reducible refine wp_eq (c_Mo_orNothing (by omega) _ _ _ _) ?_; with_reducible refine wp_eq (b_Mo_orNothing_0 _ _ _ _ _) ?_)
          | (with_reducible refine wp_eq (c_Mo_is (by omega) _ _ _ _) ?_; with_reducible refine wp_eq (b_Mo_is_0 _ _ _ _ _) ?_)
          | (with_reducible refine wp_eq (c_Mo_isRule (by omega) _ _ _) ?_; with_reducible refine wp_eq (b_Mo_isRule_0 _ _ _ _) ?_)
          | (with_reducible refine wp_eq (c_Mo_isTons (by omega) _ _ _) ?_; with_reducible refine wp_eq (b_Mo_isTons_0 _ _ _ _) ?_)
          | (with_reducible refine wp_eq (c_Mo_isFrom (by omega) _ _ _ _ _) ?_; with_reducible refine wp_eq (b_Mo_isFrom_0 _ _ _ _ _ _) ?_)
          | (with_reducible refine wp_eq (c_Mo_isTray (by omega) _ _ _) ?_; with_reducible refine wp_eq (b_Mo_isTray_0 _ _ _ _) ?_)
          | (with_reducible apply wp_eq; (with_reducible apply lf_go; simp (disch := omega) only [not_false_eq_true, not_true_eq_false, w32_id, tLt, fLt, tLe, fEq, itE, and_true, true_and, and_self, and_false, false_and, ↓reduceIte, nat_add, nat_mul3, nat_mul4, nat_mul6, nat_mul15, nat_mul60, nat_cast, nc1, Int.reduceToNat, upE, upN, fill_ne, fill_in, i0, hA]; with_reducible exact rfl))
          | with_reducible apply wp_q1
        all_goals exact wp_m (by first | rfl | exact congrArg vI (by omega) | simp (disch := omega) only [not_false_eq_true, not_true_eq_false, w32_id, tLt, fLt, tLe, fEq, itE, and_true, true_and, and_self, and_false, false_and, ↓reduceIte, nat_add, nat_mul3, nat_mul4, nat_mul6, nat_mul15, nat_mul60, nat_cast, nc1, Int.reduceToNat, upE, upN, fill_ne, fill_in, i0]) (by repeat' first | assumption | apply RelS.up | apply RelS.fill | (intros; unfold core k1 kTr kTp kLv kLp kMk kNw; omega)) (by first | rfl | assumption | simp (disch := omega) only [not_false_eq_true, not_true_eq_false, w32_id, tLt, fLt, tLe, fEq, itE, and_true, true_and, and_self, and_false, false_and, ↓reduceIte, nat_add, nat_mul3, nat_mul4, nat_mul6, nat_mul15, nat_mul60, nat_cast, nc1, Int.reduceToNat, upE, upN, fill_ne, fill_in, i0] | (simp (disch := omega) only [not_false_eq_true, not_true_eq_false, w32_id, tLt, fLt, tLe, fEq, itE, and_true, true_and, and_self, and_false, false_and, ↓reduceIte, nat_add, nat_mul3, nat_mul4, nat_mul6, nat_mul15, nat_mul60, nat_cast, nc1, Int.reduceToNat, upE, upN, fill_ne, fill_in, i0]; assumption)) (by first | rfl | assumption | simp (disch := omega) only [not_false_eq_true, not_true_eq_false, w32_id, tLt, fLt, tLe, fEq, itE, and_true, true_and, and_self, and_false, false_and, ↓reduceIte, nat_add, nat_mul3, nat_mul4, nat_mul6, nat_mul15, nat_mul60, nat_cast, nc1, Int.reduceToNat, upE, upN, fill_ne, fill_in, i0])
  · refine ⟨vI (-1), 1, ?_, ?_⟩
    · repeat' first
        | (with_reducible apply wp_bR; (simp (disch := omega) only [rM L, rK L, rN L, rNf, rNv, rNp, rNd, rRow, rLeg, rMark, nat_cast, Int.reduceToNat, hct]; with_reducible exact rfl))
        | with_reducible apply wp_bI
        | with_reducible apply wp_bV
        | with_reducible apply wp_bL
        | with_reducible apply wp_rI
        | with_reducible apply wp_rV
        | with_reducible apply wp_rL
        | (with_reducible apply wp_1; (first | omega | (simp (disch := omega) only [not_false_eq_true, not_true_eq_false, w32_id, tLt, fLt, tLe, fEq, itE, and_true, true_and, and_self, and_false, false_and, ↓reduceIte, nat_add, nat_mul3, nat_mul4, nat_mul6, nat_mul15, nat_mul60, nat_cast, nc1, Int.reduceToNat, upE, upN, fill_ne, fill_in, i0, hct] <;> omega)))
        | (with_reducible apply wp_2; (first | omega | (simp (disch := omega) only [not_false_eq_true, not_true_eq_false, w32_id, tLt, fLt, tLe, fEq, itE, and_true, true_and, and_self, and_false, false_and, ↓reduceIte, nat_add, nat_mul3, nat_mul4, nat_mul6, nat_mul15, nat_mul60, nat_cast, nc1, Int.reduceToNat, upE, upN, fill_ne, fill_in, i0, hct] <;> omega)))
        | (with_reducible apply wp_s; (first | (simp (disch := omega) only [not_false_eq_true, not_true_eq_false, w32_id, tLt, fLt, tLe, fEq, itE, and_true, true_and, and_self, and_false, false_and, ↓reduceIte, nat_add, nat_mul3, nat_mul4, nat_mul6, nat_mul15, nat_mul60, nat_cast, nc1, Int.reduceToNat, upE, upN, fill_ne, fill_in, i0, hct]; with_reducible exact Iff.rfl) | with_reducible exact Iff.rfl); intro hc__; (try subst hc__); rotate_left; intro hc__; rotate_left)
        | (with_reducible apply wp_eq; (with_reducible apply cl_go; simp (disch := omega) only [not_false_eq_true, not_true_eq_false, w32_id, tLt, fLt, tLe, fEq, itE, and_true, true_and, and_self, and_false, false_and, ↓reduceIte, nat_add, nat_mul3, nat_mul4, nat_mul6, nat_mul15, nat_mul60, nat_cast, nc1, Int.reduceToNat, upE, upN, fill_ne, fill_in, i0, hct]; with_reducible exact rfl))
        | (with_reducible refine wp_eq (c_Ca_best (by omega) _ _ _ _ _) ?_; with_reducible refine wp_eq (b_Ca_best_0 _ _ _ _ _ _) ?_)
        | (with_reducible refine wp_eq (c_Ca_within (by omega) _ _ _ _ _) ?_; with_reducible refine wp_eq (b_Ca_within_0 _ _ _ _ _ _) ?_)
        | (with_reducible refine wp_eq (c_Ca_isShip (by omega) _ _ _ _) ?_; with_reducible refine wp_eq (b_Ca_isShip_0 _ _ _ _ _) ?_)
        | (with_reducible refine wp_eq (c_Ca_isNation (by omega) _ _ _ _) ?_; with_reducible refine wp_eq (b_Ca_isNation_0 _ _ _ _ _) ?_)
        | (with_reducible refine wp_eq (c_Ca_isGood (by omega) _ _ _ _) ?_; with_reducible refine wp_eq (b_Ca_isGood_0 _ _ _ _ _) ?_)
        | (with_reducible refine wp_eq (c_Ca_isPort (by omega) _ _ _ _) ?_; with_reducible refine wp_eq (b_Ca_isPort_0 _ _ _ _ _) ?_)
        | (with_reducible refine wp_eq (c_Ca_areTwo (by omega) _ _ _ _ _ _) ?_; with_reducible refine wp_eq (b_Ca_areTwo_0 _ _ _ _ _ _ _) ?_)
        | (with_reducible refine wp_eq (c_Ca_answer (by omega) _ _ _ _) ?_; with_reducible refine wp_eq (b_Ca_answer_0 _ _ _ _ _) ?_)
        | (with_reducible refine wp_eq (c_Ca_refuse (by omega) _ _ _ _) ?_; with_reducible refine wp_eq (b_Ca_refuse_0 _ _ _ _ _) ?_)
        | (with_reducible refine wp_eq (c_Ca_answerOr (by omega) _ _ _ _ _) ?_; with_reducible refine wp_eq (b_Ca_answerOr_0 _ _ _ _ _ _) ?_)
        | (with_reducible refine wp_eq (c_Ca_agree (by omega) _ _ _) ?_; with_reducible refine wp_eq (b_Ca_agree_0 _ _ _ _) ?_)
        | (with_reducible refine wp_eq (c_Ca_deny (by omega) _ _ _ _) ?_; with_reducible refine wp_eq (b_Ca_deny_0 _ _ _ _ _) ?_)
        | (with_reducible apply wp_eq; (with_reducible apply lf_go; simp (disch := omega) only [not_false_eq_true, not_true_eq_false, w32_id, tLt, fLt, tLe, fEq, itE, and_true, true_and, and_self, and_false, false_and, ↓reduceIte, nat_add, nat_mul3, nat_mul4, nat_mul6, nat_mul15, nat_mul60, nat_cast, nc1, Int.reduceToNat, upE, upN, fill_ne, fill_in, i0, hct]; with_reducible exact rfl))
        | with_reducible apply wp_q1
      all_goals exact wp_c (by first | rfl | exact congrArg vI (by omega) | simp (disch := omega) only [not_false_eq_true, not_true_eq_false, w32_id, tLt, fLt, tLe, fEq, itE, and_true, true_and, and_self, and_false, false_and, ↓reduceIte, nat_add, nat_mul3, nat_mul4, nat_mul6, nat_mul15, nat_mul60, nat_cast, nc1, Int.reduceToNat, upE, upN, fill_ne, fill_in, i0]) (by repeat' first | assumption | apply RelS.up | apply RelS.fill | (intros; unfold core k1 kTr kTp kLv kLp kMk kNw; omega)) (by first | rfl | assumption | simp (disch := omega) only [not_false_eq_true, not_true_eq_false, w32_id, tLt, fLt, tLe, fEq, itE, and_true, true_and, and_self, and_false, false_and, ↓reduceIte, nat_add, nat_mul3, nat_mul4, nat_mul6, nat_mul15, nat_mul60, nat_cast, nc1, Int.reduceToNat, upE, upN, fill_ne, fill_in, i0])
    · intro M' h'
      have hA := h'.hA
      repeat' first
        | (with_reducible apply wp_bR; (simp (disch := omega) only [rM L, rK L, rN L, rNf, rNv, rNp, rNd, rRow, rLeg, rMark, nat_cast, Int.reduceToNat, hA]; with_reducible exact rfl))
        | with_reducible apply wp_bI
        | with_reducible apply wp_bV
        | with_reducible apply wp_bL
        | with_reducible apply wp_rI
        | with_reducible apply wp_rV
        | with_reducible apply wp_rL
        | (with_reducible apply wp_1; (first | omega | (simp (disch := omega) only [not_false_eq_true, not_true_eq_false, w32_id, tLt, fLt, tLe, fEq, itE, and_true, true_and, and_self, and_false, false_and, ↓reduceIte, nat_add, nat_mul3, nat_mul4, nat_mul6, nat_mul15, nat_mul60, nat_cast, nc1, Int.reduceToNat, upE, upN, fill_ne, fill_in, i0, hA] <;> omega)))
        | (with_reducible apply wp_2; (first | omega | (simp (disch := omega) only [not_false_eq_true, not_true_eq_false, w32_id, tLt, fLt, tLe, fEq, itE, and_true, true_and, and_self, and_false, false_and, ↓reduceIte, nat_add, nat_mul3, nat_mul4, nat_mul6, nat_mul15, nat_mul60, nat_cast, nc1, Int.reduceToNat, upE, upN, fill_ne, fill_in, i0, hA] <;> omega)))
        | (with_reducible apply wp_s; (first | (simp (disch := omega) only [not_false_eq_true, not_true_eq_false, w32_id, tLt, fLt, tLe, fEq, itE, and_true, true_and, and_self, and_false, false_and, ↓reduceIte, nat_add, nat_mul3, nat_mul4, nat_mul6, nat_mul15, nat_mul60, nat_cast, nc1, Int.reduceToNat, upE, upN, fill_ne, fill_in, i0, hA]; with_reducible exact Iff.rfl) | with_reducible exact Iff.rfl); intro hc__; (try subst hc__); rotate_left; intro hc__; rotate_left)
        | (with_reducible apply wp_eq; (with_reducible apply cl_go; simp (disch := omega) only [not_false_eq_true, not_true_eq_false, w32_id, tLt, fLt, tLe, fEq, itE, and_true, true_and, and_self, and_false, false_and, ↓reduceIte, nat_add, nat_mul3, nat_mul4, nat_mul6, nat_mul15, nat_mul60, nat_cast, nc1, Int.reduceToNat, upE, upN, fill_ne, fill_in, i0, hA]; with_reducible exact rfl))
        | (with_reducible refine wp_eq (c_Mo_best (by omega) _ _ _ _ _) ?_; with_reducible refine wp_eq (b_Mo_best_0 _ _ _ _ _ _) ?_)
        | (with_reducible refine wp_eq (c_Mo_isShip (by omega) _ _ _ _) ?_; with_reducible refine wp_eq (b_Mo_isShip_0 _ _ _ _ _) ?_)
        | (with_reducible refine wp_eq (c_Mo_isNation (by omega) _ _ _ _) ?_; with_reducible refine wp_eq (b_Mo_isNation_0 _ _ _ _ _) ?_)
        | (with_reducible refine wp_eq (c_Mo_isGood (by omega) _ _ _ _) ?_; with_reducible refine wp_eq (b_Mo_isGood_0 _ _ _ _ _) ?_)
        | (with_reducible refine wp_eq (c_Mo_isPort (by omega) _ _ _ _) ?_; with_reducible refine wp_eq (b_Mo_isPort_0 _ _ _ _ _) ?_)
        | (with_reducible refine wp_eq (c_Mo_areTwo (by omega) _ _ _ _ _) ?_; with_reducible refine wp_eq (b_Mo_areTwo_0 _ _ _ _ _ _) ?_)
        | (with_reducible refine wp_eq (c_Mo_gives (by omega) _ _ _ _) ?_; with_reducible refine wp_eq (b_Mo_gives_0 _ _ _ _ _) ?_)
        | (with_reducible refine wp_eq (c_Mo_refuse (by omega) _ _ _ _) ?_; with_reducible refine wp_eq (b_Mo_refuse_0 _ _ _ _ _) ?_)
        | (with_reducible refine wp_eq (c_Mo_orNone (by omega) _ _ _ _) ?_; with_reducible refine wp_eq (b_Mo_orNone_0 _ _ _ _ _) ?_)
        | (with_reducible refine wp_eq (c_Mo_orNothing (by omega) _ _ _ _) ?_; with_reducible refine wp_eq (b_Mo_orNothing_0 _ _ _ _ _) ?_)
        | (with_reducible refine wp_eq (c_Mo_is (by omega) _ _ _ _) ?_; with_reducible refine wp_eq (b_Mo_is_0 _ _ _ _ _) ?_)
        | (with_reducible refine wp_eq (c_Mo_isRule (by omega) _ _ _) ?_; with_reducible refine wp_eq (b_Mo_isRule_0 _ _ _ _) ?_)
        | (with_reducible refine wp_eq (c_Mo_isTons (by omega) _ _ _) ?_; with_reducible refine wp_eq (b_Mo_isTons_0 _ _ _ _) ?_)
        | (with_reducible refine wp_eq (c_Mo_isFrom (by omega) _ _ _ _ _) ?_; with_reducible refine wp_eq (b_Mo_isFrom_0 _ _ _ _ _ _) ?_)
        | (with_reducible refine wp_eq (c_Mo_isTray (by omega) _ _ _) ?_; with_reducible refine wp_eq (b_Mo_isTray_0 _ _ _ _) ?_)
        | (with_reducible apply wp_eq; (with_reducible apply lf_go; simp (disch := omega) only [not_false_eq_true, not_true_eq_false, w32_id, tLt, fLt, tLe, fEq, itE, and_true, true_and, and_self, and_false, false_and, ↓reduceIte, nat_add, nat_mul3, nat_mul4, nat_mul6, nat_mul15, nat_mul60, nat_cast, nc1, Int.reduceToNat, upE, upN, fill_ne, fill_in, i0, hA]; with_reducible exact rfl))
        | with_reducible apply wp_q1
      all_goals exact wp_m (by first | rfl | exact congrArg vI (by omega) | simp (disch := omega) only [not_false_eq_true, not_true_eq_false, w32_id, tLt, fLt, tLe, fEq, itE, and_true, true_and, and_self, and_false, false_and, ↓reduceIte, nat_add, nat_mul3, nat_mul4, nat_mul6, nat_mul15, nat_mul60, nat_cast, nc1, Int.reduceToNat, upE, upN, fill_ne, fill_in, i0]) (by repeat' first | assumption | apply RelS.up | apply RelS.fill | (intros; unfold core k1 kTr kTp kLv kLp kMk kNw; omega)) (by first | rfl | assumption | simp (disch := omega) only [not_false_eq_true, not_true_eq_false, w32_id, tLt, fLt, tLe, fEq, itE, and_true, true_and, and_self, and_false, false_and, ↓reduceIte, nat_add, nat_mul3, nat_mul4, nat_mul6, nat_mul15, nat_mul60, nat_cast, nc1, Int.reduceToNat, upE, upN, fill_ne, fill_in, i0] | (simp (disch := omega) only [not_false_eq_true, not_true_eq_false, w32_id, tLt, fLt, tLe, fEq, itE, and_true, true_and, and_self, and_false, false_and, ↓reduceIte, nat_add, nat_mul3, nat_mul4, nat_mul6, nat_mul15, nat_mul60, nat_cast, nc1, Int.reduceToNat, upE, upN, fill_ne, fill_in, i0]; assumption)) (by first | rfl | assumption | simp (disch := omega) only [not_false_eq_true, not_true_eq_false, w32_id, tLt, fLt, tLe, fEq, itE, and_true, true_and, and_self, and_false, false_and, ↓reduceIte, nat_add, nat_mul3, nat_mul4, nat_mul6, nat_mul15, nat_mul60, nat_cast, nc1, Int.reduceToNat, upE, upN, fill_ne, fill_in, i0])

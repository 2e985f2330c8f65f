/-! A LIFE: the model, the whole of it; the call live -/
def FrV (M M' : Mm) : Prop := ∀ b j, b ≠ 280 → ¬(b = 272 ∧ j < 206) → b ≠ 284 → b ≠ 285 → ¬(b = 271 ∧ (j = 35 ∨ j = 36)) → M' b j = M b j
theorem FrV.trans {M M1 M2 : Mm} (h1 : FrV M M1) (h2 : FrV M1 M2) : FrV M M2 := fun b j q1 q2 q3 q4 q5 => (h2 b j q1 q2 q3 q4 q5).trans (h1 b j q1 q2 q3 q4 q5)
theorem FrN.v {M M' : Mm} (h : FrN M M') : FrV M M' := fun b j q1 q2 q3 q4 q5 => h b j q1 q2 q3 q4 (by omega)
section
variable {M M' : Mm} {A r : Nat → Int} {k s : Nat} {dr : Int} {T : Nat → Int} {L d : Nat}
theorem k_ends (hd : 2 ≤ d) (hP : PlA A) {Q : Option AV → Sp → Mm → Prop} {x : Int} : ∀ (j : Nat) (r : Nat → Int) (k : Nat) (M : Mm) (d3 d4 : AV), MR M A r dr T → RO r → k ≤ 60 → (∀ (M' : Mm) (d3' d4' : AV), MR M' A (eN A j (r, k)).1 dr T → (eN A j (r, k)).2 ≤ 60 → FrN M M' → Wp (Run (callD (d - 1)) tb_Mo_behindEnds 2 [vR 12 0 271, vI x, vI ((eN A j (r, k)).2 : Int), d3', d4'] [] (SH L) M') Q) → Wp (Run (callD (d - 1)) tb_Mo_behindEnds 2 [vR 12 0 271, vI x, vI (k : Int), d3, d4] [] (SH L) M) Q
  | 0, r, k, M, d3, d4, h, hR, hk, c => c M d3 d4 h hk (FrN.refl M)
  | j + 1, r, k, M, d3, d4, h, hR, hk, c => by
    rw [eN_s] at c
    by_cases e : isE A k
    · rw [if_pos (show isE A (r, k).2 from e)] at c
      have hA := h.1
      have e1 := e.1
      have e2 := e.2
      have h60 := hP.1
      obtain ⟨l1, l2, l3, l4⟩ := hP.pf.2 k e1 e2
      obtain ⟨o, ho⟩ : ∃ n : Nat, A (210 + 6 * k) = (n : Int) := ⟨(A (210 + 6 * k)).toNat, by omega⟩
      have i6 := i6 k
      have ro : M 284 o = max 0 (r o - 1) := h.2.2.1 o (by omega)
      have rb := hR o
      have sro := eS_ro (A := A) (p := (r, k)) hR
      unfold eS at c sro
      dsimp only at c sro
      rw [ho, nat_cast] at c sro
      have keep : ∀ y : Int, y = max 0 (r o - 1) → MR (up M 284 o y) A r dr T := fun y hy => h.fr (fun j _ => upN (by omega)) (fun o' ho' => by
          by_cases e : o' = o
          · subst e; rw [upE rfl rfl]; exact hy
          · rw [upN (by omega)]; exact h.2.2.1 o' ho') (by rw [upN (by omega)]; exact h.2.2.2.1) fun w hw => by rw [upN (by omega)]; exact h.2.2.2.2 w hw
      have fr : ∀ y : Int, FrN M (up M 284 o y) := fun y b j q1 q2 q3 q4 q5 => upN (by omega)
      by_cases z : A (206 + 6 * o) = 26
      · by_cases z1 : 1 < r o
        · rw [if_pos ⟨z, z1⟩] at c sro
          have mr : MR (up M 284 o (max 0 (r o - 1) - 1)) A (wU r o (r o - 1)) dr T := h.fr (fun j _ => upN (by omega)) (fun o' ho' => by
            by_cases e : o' = o
            · subst e; rw [upE rfl rfl, wUE rfl]; omega
            · rw [upN (by omega), wUN e]; exact h.2.2.1 o' ho') (by rw [upN (by omega)]; exact h.2.2.2.1) fun w hw => by rw [upN (by omega)]; exact h.2.2.2.2 w hw
          refine wp_eq (b_Mo_behindEnds_2 _ _ _ _ _ _ _ _) ?_
          repeat' first
            | (with_reducible apply wp_bR; (simp (disch := omega) only [rM L, rK L, rN L, rNf, rNv, rNp, rNd, rRow, rLeg, rMark, nat_cast, Int.reduceToNat, hA, i6, e2, ho, z, ro]; with_reducible exact rfl))
            | with_reducible apply wp_bI
            | with_reducible apply wp_bV
            | with_reducible apply wp_bL
            | with_reducible apply wp_rI
            | with_reducible apply wp_rV
            | with_reducible apply wp_rL
            | (with_reducible apply wp_1; (first | omega | (simp (disch := omega) only [not_false_eq_true, not_true_eq_false, w32_id, tLt, fLt, tLe, fEq, itE, and_true, true_and, and_self, and_false, false_and, ↓reduceIte, nat_add, nat_mul3, nat_mul4, nat_mul6, nat_mul15, nat_mul60, nat_cast, nc1, Int.reduceToNat, upE, upN, fill_ne, fill_in, i0, hA, i6, e2, ho, z, ro] <;> omega)))
            | (with_reducible apply wp_2; (first | omega | (simp (disch := omega) only [not_false_eq_true, not_true_eq_false, w32_id, tLt, fLt, tLe, fEq, itE, and_true, true_and, and_self, and_false, false_and, ↓reduceIte, nat_add, nat_mul3, nat_mul4, nat_mul6, nat_mul15, nat_mul60, nat_cast, nc1, Int.reduceToNat, upE, upN, fill_ne, fill_in, i0, hA, i6, e2, ho, z, ro] <;> omega)))
            | (with_reducible apply wp_s; (first | (simp (disch := omega) only [not_false_eq_true, not_true_eq_false, w32_id, tLt, fLt, tLe, fEq, itE, and_true, true_and, and_self, and_false, false_and, ↓reduceIte, nat_add, nat_mul3, nat_mul4, nat_mul6, nat_mul15, nat_mul60, nat_cast, nc1, Int.reduceToNat, upE, upN, fill_ne, fill_in, i0, hA, i6, e2, ho, z, ro]; with_reducible exact Iff.rfl) | with_reducible exact Iff.rfl); intro hc__; (try subst hc__); rotate_left; intro hc__; rotate_left)
            | (with_reducible apply wp_eq; (with_reducible apply cl_go; simp (disch := omega) only [not_false_eq_true, not_true_eq_false, w32_id, tLt, fLt, tLe, fEq, itE, and_true, true_and, and_self, and_false, false_and, ↓reduceIte, nat_add, nat_mul3, nat_mul4, nat_mul6, nat_mul15, nat_mul60, nat_cast, nc1, Int.reduceToNat, upE, upN, fill_ne, fill_in, i0, hA, i6, e2, ho, z, ro]; with_reducible exact rfl))
            | (with_reducible apply wp_eq; (with_reducible apply lf_go; simp (disch := omega) only [not_false_eq_true, not_true_eq_false, w32_id, tLt, fLt, tLe, fEq, itE, and_true, true_and, and_self, and_false, false_and, ↓reduceIte, nat_add, nat_mul3, nat_mul4, nat_mul6, nat_mul15, nat_mul60, nat_cast, nc1, Int.reduceToNat, upE, upN, fill_ne, fill_in, i0, hA, i6, e2, ho, z, ro]; with_reducible exact rfl))
            | with_reducible apply wp_q1
          refine wp_eq (o' := Run (callD (d - 1)) tb_Mo_behindEnds 2 [vR 12 0 271, vI x, vI ((o + 1 : Nat) : Int), vI (o : Int), vI 1] [] (SH L) (up M 284 o (max 0 (r o - 1) - 1))) (by simp (disch := omega) only [not_false_eq_true, not_true_eq_false, w32_id, tLt, fLt, tLe, fEq, itE, and_true, true_and, and_self, and_false, false_and, ↓reduceIte, nat_add, nat_mul3, nat_mul4, nat_mul6, nat_mul15, nat_mul60, nat_cast, nc1, Int.reduceToNat, upE, upN, fill_ne, fill_in, i0, hA, i6, ho, ro]) ?_
          exact k_ends hd hP j _ _ _ _ _ mr sro (by omega) fun M' d3' d4' q1 q2 q3 => c M' d3' d4' q1 q2 ((fr _).trans q3)
        · rw [if_neg (fun q => z1 q.2)] at c sro
          refine wp_eq (b_Mo_behindEnds_2 _ _ _ _ _ _ _ _) ?_
          repeat' first
            | (with_reducible apply wp_bR; (simp (disch := omega) only [rM L, rK L, rN L, rNf, rNv, rNp, rNd, rRow, rLeg, rMark, nat_cast, Int.reduceToNat, hA, i6, e2, ho, z, ro]; with_reducible exact rfl))
            | with_reducible apply wp_bI
            | with_reducible apply wp_bV
            | with_reducible apply wp_bL
            | with_reducible apply wp_rI
            | with_reducible apply wp_rV
            | with_reducible apply wp_rL
            | (with_reducible apply wp_1; (first | omega | (simp (disch := omega) only [not_false_eq_true, not_true_eq_false, w32_id, tLt, fLt, tLe, fEq, itE, and_true, true_and, and_self, and_false, false_and, ↓reduceIte, nat_add, nat_mul3, nat_mul4, nat_mul6, nat_mul15, nat_mul60, nat_cast, nc1, Int.reduceToNat, upE, upN, fill_ne, fill_in, i0, hA, i6, e2, ho, z, ro] <;> omega)))
            | (with_reducible apply wp_2; (first | omega | (simp (disch := omega) only [not_false_eq_true, not_true_eq_false, w32_id, tLt, fLt, tLe, fEq, itE, and_true, true_and, and_self, and_false, false_and, ↓reduceIte, nat_add, nat_mul3, nat_mul4, nat_mul6, nat_mul15, nat_mul60, nat_cast, nc1, Int.reduceToNat, upE, upN, fill_ne, fill_in, i0, hA, i6, e2, ho, z, ro] <;> omega)))
            | (with_reducible apply wp_s; (first | (simp (disch := omega) only [not_false_eq_true, not_true_eq_false, w32_id, tLt, fLt, tLe, fEq, itE, and_true, true_and, and_self, and_false, false_and, ↓reduceIte, nat_add, nat_mul3, nat_mul4, nat_mul6, nat_mul15, nat_mul60, nat_cast, nc1, Int.reduceToNat, upE, upN, fill_ne, fill_in, i0, hA, i6, e2, ho, z, ro]; with_reducible exact Iff.rfl) | with_reducible exact Iff.rfl); intro hc__; (try subst hc__); rotate_left; intro hc__; rotate_left)
            | (with_reducible apply wp_eq; (with_reducible apply cl_go; simp (disch := omega) only [not_false_eq_true, not_true_eq_false, w32_id, tLt, fLt, tLe, fEq, itE, and_true, true_and, and_self, and_false, false_and, ↓reduceIte, nat_add, nat_mul3, nat_mul4, nat_mul6, nat_mul15, nat_mul60, nat_cast, nc1, Int.reduceToNat, upE, upN, fill_ne, fill_in, i0, hA, i6, e2, ho, z, ro]; with_reducible exact rfl))
            | (with_reducible apply wp_eq; (with_reducible apply lf_go; simp (disch := omega) only [not_false_eq_true, not_true_eq_false, w32_id, tLt, fLt, tLe, fEq, itE, and_true, true_and, and_self, and_false, false_and, ↓reduceIte, nat_add, nat_mul3, nat_mul4, nat_mul6, nat_mul15, nat_mul60, nat_cast, nc1, Int.reduceToNat, upE, upN, fill_ne, fill_in, i0, hA, i6, e2, ho, z, ro]; with_reducible exact rfl))
            | with_reducible apply wp_q1
          refine wp_eq (o' := Run (callD (d - 1)) tb_Mo_behindEnds 2 [vR 12 0 271, vI x, vI ((k + 1 : Nat) : Int), vI (o : Int), vI 0] [] (SH L) (up M 284 o (max 0 (r o - 1) - 0))) (by simp (disch := omega) only [not_false_eq_true, not_true_eq_false, w32_id, tLt, fLt, tLe, fEq, itE, and_true, true_and, and_self, and_false, false_and, ↓reduceIte, nat_add, nat_mul3, nat_mul4, nat_mul6, nat_mul15, nat_mul60, nat_cast, nc1, Int.reduceToNat, upE, upN, fill_ne, fill_in, i0, hA, i6, ho, ro]) ?_
          exact k_ends hd hP j _ _ _ _ _ (keep _ (by omega)) sro (by omega) fun M' d3' d4' q1 q2 q3 => c M' d3' d4' q1 q2 ((fr _).trans q3)
      · rw [if_neg (fun q => z q.1)] at c sro
        refine wp_eq (b_Mo_behindEnds_2 _ _ _ _ _ _ _ _) ?_
        repeat' first
          | (with_reducible apply wp_bR; (simp (disch := omega) only [rM L, rK L, rN L, rNf, rNv, rNp, rNd, rRow, rLeg, rMark, nat_cast, Int.reduceToNat, hA, i6, e2, ho, ro]; with_reducible exact rfl))
          | with_reducible apply wp_bI
          | with_reducible apply wp_bV
          | with_reducible apply wp_bL
          | with_reducible apply wp_rI
          | with_reducible apply wp_rV
          | with_reducible apply wp_rL
          | (with_reducible apply wp_1; (first | omega | (simp (disch := omega) only [not_false_eq_true, not_true_eq_false, w32_id, tLt, fLt, tLe, fEq, itE, and_true, true_and, and_self, and_false, false_and, ↓reduceIte, nat_add, nat_mul3, nat_mul4, nat_mul6, nat_mul15, nat_mul60, nat_cast, nc1, Int.reduceToNat, upE, upN, fill_ne, fill_in, i0, hA, i6, e2, ho, ro] <;> omega)))
          | (with_reducible apply wp_2; (first | omega | (simp (disch := omega) only [not_false_eq_true, not_true_eq_false, w32_id, tLt, fLt, tLe, fEq, itE, and_true, true_and, and_self, and_false, false_and, ↓reduceIte, nat_add, nat_mul3, nat_mul4, nat_mul6, nat_mul15, nat_mul60, nat_cast, nc1, Int.reduceToNat, upE, upN, fill_ne, fill_in, i0, hA, i6, e2, ho, ro] <;> omega)))
          | (with_reducible apply wp_s; (first | (simp (disch := omega) only [not_false_eq_true, not_true_eq_false, w32_id, tLt, fLt, tLe, fEq, itE, and_true, true_and, and_self, and_false, false_and, ↓reduceIte, nat_add, nat_mul3, nat_mul4, nat_mul6, nat_mul15, nat_mul60, nat_cast, nc1, Int.reduceToNat, upE, upN, fill_ne, fill_in, i0, hA, i6, e2, ho, ro]; with_reducible exact Iff.rfl) | with_reducible exact Iff.rfl); intro hc__; (try subst hc__); rotate_left; intro hc__; rotate_left)
          | (with_reducible apply wp_eq; (with_reducible apply cl_go; simp (disch := omega) only [not_false_eq_true, not_true_eq_false, w32_id, tLt, fLt, tLe, fEq, itE, and_true, true_and, and_self, and_false, false_and, ↓reduceIte, nat_add, nat_mul3, nat_mul4, nat_mul6, nat_mul15, nat_mul60, nat_cast, nc1, Int.reduceToNat, upE, upN, fill_ne, fill_in, i0, hA, i6, e2, ho, ro]; with_reducible exact rfl))
          | (with_reducible apply wp_eq; (with_reducible apply lf_go; simp (disch := omega) only [not_false_eq_true, not_true_eq_false, w32_id, tLt, fLt, tLe, fEq, itE, and_true, true_and, and_self, and_false, false_and, ↓reduceIte, nat_add, nat_mul3, nat_mul4, nat_mul6, nat_mul15, nat_mul60, nat_cast, nc1, Int.reduceToNat, upE, upN, fill_ne, fill_in, i0, hA, i6, e2, ho, ro]; with_reducible exact rfl))
          | with_reducible apply wp_q1
        refine wp_eq (o' := Run (callD (d - 1)) tb_Mo_behindEnds 2 [vR 12 0 271, vI x, vI ((k + 1 : Nat) : Int), vI (o : Int), vI 0] [] (SH L) (up M 284 o (max 0 (r o - 1) - 0))) (by simp (disch := omega) only [not_false_eq_true, not_true_eq_false, w32_id, tLt, fLt, tLe, fEq, itE, and_true, true_and, and_self, and_false, false_and, ↓reduceIte, nat_add, nat_mul3, nat_mul4, nat_mul6, nat_mul15, nat_mul60, nat_cast, nc1, Int.reduceToNat, upE, upN, fill_ne, fill_in, i0, hA, i6, ho, ro]) ?_
        exact k_ends hd hP j _ _ _ _ _ (keep _ (by omega)) sro (by omega) fun M' d3' d4' q1 q2 q3 => c M' d3' d4' q1 q2 ((fr _).trans q3)
    · rw [if_neg (show ¬isE A (r, k).2 from e)] at c
      exact c M d3 d4 h hk (FrN.refl M)
theorem k_behind (hd : 2 ≤ d) (hP : PlA A) (h : MR M A r dr T) (hR : RO r) (hk : k ≤ 60) : Wp (callD d m_Mo_behindEnds [vR 12 0 271, vI (k : Int)] (SH L) M) (fun x S M' => x = some (vI ((eE A (r, k)).2 : Int)) ∧ S = SH L ∧ MR M' A (eE A (r, k)).1 dr T ∧ (eE A (r, k)).2 ≤ 60 ∧ FrN M M') := by
  repeat' first
    | (with_reducible apply wp_bR; (simp (disch := omega) only [rM L, rK L, rN L, rNf, rNv, rNp, rNd, rRow, rLeg, rMark, nat_cast, Int.reduceToNat]; with_reducible exact rfl))
    | with_reducible apply wp_bI
    | with_reducible apply wp_bV
    | with_reducible apply wp_bL
    | with_reducible apply wp_rI
    | with_reducible apply wp_rV
    | with_reducible apply wp_rL
    | (with_reducible apply wp_1; (first | omega | (simp (disch := omega) only [not_false_eq_true, not_true_eq_false, w32_id, tLt, fLt, tLe, fEq, itE, and_true, true_and, and_self, and_false, false_and, ↓reduceIte, nat_add, nat_mul3, nat_mul4, nat_mul6, nat_mul15, nat_mul60, nat_cast, nc1, Int.reduceToNat, upE, upN, fill_ne, fill_in, i0] <;> omega)))
    | (with_reducible apply wp_2; (first | omega | (simp (disch := omega) only [not_false_eq_true, not_true_eq_false, w32_id, tLt, fLt, tLe, fEq, itE, and_true, true_and, and_self, and_false, false_and, ↓reduceIte, nat_add, nat_mul3, nat_mul4, nat_mul6, nat_mul15, nat_mul60, nat_cast, nc1, Int.reduceToNat, upE, upN, fill_ne, fill_in, i0] <;> omega)))
    | (with_reducible apply wp_s; (first | (simp (disch := omega) only [not_false_eq_true, not_true_eq_false, w32_id, tLt, fLt, tLe, fEq, itE, and_true, true_and, and_self, and_false, false_and, ↓reduceIte, nat_add, nat_mul3, nat_mul4, nat_mul6, nat_mul15, nat_mul60, nat_cast, nc1, Int.reduceToNat, upE, upN, fill_ne, fill_in, i0]; with_reducible exact Iff.rfl) | with_reducible exact Iff.rfl); intro hc__; (try subst hc__); rotate_left; intro hc__; rotate_left)
    | (with_reducible apply wp_eq; (with_reducible apply cl_go; simp (disch := omega) only [not_false_eq_true, not_true_eq_false, w32_id, tLt, fLt, tLe, fEq, itE, and_true, true_and, and_self, and_false, false_and, ↓reduceIte, nat_add, nat_mul3, nat_mul4, nat_mul6, nat_mul15, nat_mul60, nat_cast, nc1, Int.reduceToNat, upE, upN, fill_ne, fill_in, i0]; with_reducible exact rfl))
    | (with_reducible refine wp_eq (c_Mo_behindEnds (by omega) _ _ _ _) ?_; with_reducible refine wp_eq (b_Mo_behindEnds_0 _ _ _ _ _) ?_)
    | (with_reducible apply wp_eq; (with_reducible apply lf_go; simp (disch := omega) only [not_false_eq_true, not_true_eq_false, w32_id, tLt, fLt, tLe, fEq, itE, and_true, true_and, and_self, and_false, false_and, ↓reduceIte, nat_add, nat_mul3, nat_mul4, nat_mul6, nat_mul15, nat_mul60, nat_cast, nc1, Int.reduceToNat, upE, upN, fill_ne, fill_in, i0]; with_reducible exact rfl))
    | with_reducible apply wp_q1
  refine k_ends hd hP 200 r k M _ _ h hR hk fun M' d3 d4 h1 h2 h3 => ?_
  have he := eE_end hP.pf (p := (r, k)) hR
  have eq : eN A 200 (r, k) = eE A (r, k) := rfl
  rw [eq] at h1 h2 ⊢
  generalize eE A (r, k) = p at *
  have h60 := hP.1
  have hA := h1.1
  by_cases z : (p.2 : Int) < A 6
  · have n27 : A (206 + 6 * p.2) ≠ 27 := fun q => he ⟨z, q⟩
    refine wp_eq (b_Mo_behindEnds_2 _ _ _ _ _ _ _ _) ?_
    repeat' first
      | (with_reducible apply wp_bR; (simp (disch := omega) only [rM L, rK L, rN L, rNf, rNv, rNp, rNd, rRow, rLeg, rMark, nat_cast, Int.reduceToNat, hA]; with_reducible exact rfl))
      | with_reducible apply wp_bI
      | with_reducible apply wp_bV
      | with_reducible apply wp_bL
      | with_reducible apply wp_rI
      | with_reducible apply wp_rV
      | with_reducible apply wp_rL
      | (with_reducible apply wp_1; (first | omega | (simp (disch := omega) only [not_false_eq_true, not_true_eq_false, w32_id, tLt, fLt, tLe, fEq, itE, and_true, true_and, and_self, and_false, false_and, ↓reduceIte, nat_add, nat_mul3, nat_mul4, nat_mul6, nat_mul15, nat_mul60, nat_cast, nc1, Int.reduceToNat, upE, upN, fill_ne, fill_in, i0, hA] <;> omega)))
      | (with_reducible apply wp_2; (first | omega | (simp (disch := omega) only [not_false_eq_true, not_true_eq_false, w32_id, tLt, fLt, tLe, fEq, itE, and_true, true_and, and_self, and_false, false_and, ↓reduceIte, nat_add, nat_mul3, nat_mul4, nat_mul6, nat_mul15, nat_mul60, nat_cast, nc1, Int.reduceToNat, upE, upN, fill_ne, fill_in, i0, hA] <;> omega)))
      | (with_reducible apply wp_s; (first | (simp (disch := omega) only [not_false_eq_true, not_true_eq_false, w32_id, tLt, fLt, tLe, fEq, itE, and_true, true_and, and_self, and_false, false_and, ↓reduceIte, nat_add, nat_mul3, nat_mul4, nat_mul6, nat_mul15, nat_mul60, nat_cast, nc1, Int.reduceToNat, upE, upN, fill_ne, fill_in, i0, hA]; with_reducible exact Iff.rfl) | with_reducible exact Iff.rfl); intro hc__; (try subst hc__); rotate_left; intro hc__; rotate_left)
      | (with_reducible apply wp_eq; (with_reducible apply cl_go; simp (disch := omega) only [not_false_eq_true, not_true_eq_false, w32_id, tLt, fLt, tLe, fEq, itE, and_true, true_and, and_self, and_false, false_and, ↓reduceIte, nat_add, nat_mul3, nat_mul4, nat_mul6, nat_mul15, nat_mul60, nat_cast, nc1, Int.reduceToNat, upE, upN, fill_ne, fill_in, i0, hA]; with_reducible exact rfl))
      | (with_reducible apply wp_eq; (with_reducible apply lf_go; simp (disch := omega) only [not_false_eq_true, not_true_eq_false, w32_id, tLt, fLt, tLe, fEq, itE, and_true, true_and, and_self, and_false, false_and, ↓reduceIte, nat_add, nat_mul3, nat_mul4, nat_mul6, nat_mul15, nat_mul60, nat_cast, nc1, Int.reduceToNat, upE, upN, fill_ne, fill_in, i0, hA]; with_reducible exact rfl))
      | with_reducible apply wp_q1
    exact ⟨_, _, _, rfl, rfl, rfl, h1, h2, h3⟩
  · refine wp_eq (b_Mo_behindEnds_2 _ _ _ _ _ _ _ _) ?_
    repeat' first
      | (with_reducible apply wp_bR; (simp (disch := omega) only [rM L, rK L, rN L, rNf, rNv, rNp, rNd, rRow, rLeg, rMark, nat_cast, Int.reduceToNat, hA]; with_reducible exact rfl))
      | with_reducible apply wp_bI
      | with_reducible apply wp_bV
      | with_reducible apply wp_bL
      | with_reducible apply wp_rI
      | with_reducible apply wp_rV
      | with_reducible apply wp_rL
      | (with_reducible apply wp_1; (first | omega | (simp (disch := omega) only [not_false_eq_true, not_true_eq_false, w32_id, tLt, fLt, tLe, fEq, itE, and_true, true_and, and_self, and_false, false_and, ↓reduceIte, nat_add, nat_mul3, nat_mul4, nat_mul6, nat_mul15, nat_mul60, nat_cast, nc1, Int.reduceToNat, upE, upN, fill_ne, fill_in, i0, hA] <;> omega)))
      | (with_reducible apply wp_2; (first | omega | (simp (disch := omega) only [not_false_eq_true, not_true_eq_false, w32_id, tLt, fLt, tLe, fEq, itE, and_true, true_and, and_self, and_false, false_and, ↓reduceIte, nat_add, nat_mul3, nat_mul4, nat_mul6, nat_mul15, nat_mul60, nat_cast, nc1, Int.reduceToNat, upE, upN, fill_ne, fill_in, i0, hA] <;> omega)))
      | (with_reducible apply wp_s; (first | (simp (disch := omega) only [not_false_eq_true, not_true_eq_false, w32_id, tLt, fLt, tLe, fEq, itE, and_true, true_and, and_self, and_false, false_and, ↓reduceIte, nat_add, nat_mul3, nat_mul4, nat_mul6, nat_mul15, nat_mul60, nat_cast, nc1, Int.reduceToNat, upE, upN, fill_ne, fill_in, i0, hA]; with_reducible exact Iff.rfl) | with_reducible exact Iff.rfl); intro hc__; (try subst hc__); rotate_left; intro hc__; rotate_left)
      | (with_reducible apply wp_eq; (with_reducible apply cl_go; simp (disch := omega) only [not_false_eq_true, not_true_eq_false, w32_id, tLt, fLt, tLe, fEq, itE, and_true, true_and, and_self, and_false, false_and, ↓reduceIte, nat_add, nat_mul3, nat_mul4, nat_mul6, nat_mul15, nat_mul60, nat_cast, nc1, Int.reduceToNat, upE, upN, fill_ne, fill_in, i0, hA]; with_reducible exact rfl))
      | (with_reducible apply wp_eq; (with_reducible apply lf_go; simp (disch := omega) only [not_false_eq_true, not_true_eq_false, w32_id, tLt, fLt, tLe, fEq, itE, and_true, true_and, and_self, and_false, false_and, ↓reduceIte, nat_add, nat_mul3, nat_mul4, nat_mul6, nat_mul15, nat_mul60, nat_cast, nc1, Int.reduceToNat, upE, upN, fill_ne, fill_in, i0, hA]; with_reducible exact rfl))
      | with_reducible apply wp_q1
    exact ⟨_, _, _, rfl, rfl, rfl, h1, h2, h3⟩
def QV (L : Nat) (M : Mm) (q : (Nat → Int) × (Nat → Int) × (Nat → Int) × Nat) : Option AV → Sp → Mm → Prop := fun x S M' => x = none ∧ S = SH L ∧ ((∀ k, k < 572 → M' 272 k = q.1 k) ∧ Inv q.1) ∧ (∀ o, o < 60 → M' 284 o = max 0 (q.2.1 o - 1)) ∧ (∀ w, w < 5 → M' 285 w = q.2.2.1 w) ∧ M' 271 36 = 300 - (q.2.2.2 : Int) ∧ FrV M M'
theorem MR.c36 (h : MR M A r dr T) (x : Int) : MR (up M 271 36 x) A r dr T := h.fr (fun j _ => upN (by omega)) (fun o ho => by rw [upN (by omega)]; exact h.2.2.1 o ho) (by rw [upN (by omega)]; exact h.2.2.2.1) fun w hw => by rw [upN (by omega)]; exact h.2.2.2.2 w hw
theorem MR.t0 (h : MR M A r dr T) {x y : Int} (hx : x = y) : MR (up M 285 0 x) A r dr (wU T 0 y) := h.fr (fun j _ => upN (by omega)) (fun o ho => by rw [upN (by omega)]; exact h.2.2.1 o ho) (by rw [upN (by omega)]; exact h.2.2.2.1) fun w hw => by
  by_cases e : w = 0
  · subst e; rw [upE rfl rfl, wUE rfl]; exact hx
  · rw [upN (by omega), wUN e]; exact h.2.2.2.2 w hw
theorem MR.tt (h : MR M A r dr T) {T' : Nat → Int} (e : ∀ w, w < 5 → T' w = T w) : MR M A r dr T' := ⟨h.1, h.2.1, h.2.2.1, h.2.2.2.1, fun w hw => (h.2.2.2.2 w hw).trans (e w hw).symm⟩
theorem k_runs (hd : 25 ≤ d) {x : Int} : ∀ (m : Nat) (A r : Nat → Int) (k : Nat) (dr : Int) (T : Nat → Int) (M0 M : Mm) (d3 : AV), m ≤ 300 → MR M A r dr T → M 271 36 = 300 - (m : Int) → RO r → 0 ≤ dr ∧ dr ≤ 65535 → w32 (T 0) = T 0 → PlA A → k ≤ 60 → ¬isE A k → FrV M0 M → Wp (Run (callD (d - 1)) tb_Mo_lives 32 [vR 12 0 271, vI x, vI (k : Int), d3] [] (SH L) M) (QV L M0 (lfL m A r k dr T))
  | 0, A, r, k, dr, T, M0, M, d3, hm, h, h36, hR, hdr, hT, hP, hk, hE, hf => by
    have h36 : M 271 36 = 300 := h36
    have hA := h.1
    rw [lfL_0]
    by_cases e : (k : Int) < A 6
    · rw [if_pos e]
      refine wp_eq (b_Mo_lives_32 _ _ _ _ _ _ _) ?_
      repeat' first
        | (with_reducible apply wp_bR; (simp (disch := omega) only [rM L, rK L, rN L, rNf, rNv, rNp, rNd, rRow, rLeg, rMark, nat_cast, Int.reduceToNat, hA, h36]; with_reducible exact rfl))
        | with_reducible apply wp_bI
        | with_reducible apply wp_bV
        | with_reducible apply wp_bL
        | with_reducible apply wp_rI
        | with_reducible apply wp_rV
        | with_reducible apply wp_rL
        | (with_reducible apply wp_1; (first | omega | (simp (disch := omega) only [not_false_eq_true, not_true_eq_false, w32_id, tLt, fLt, tLe, fEq, itE, and_true, true_and, and_self, and_false, false_and, ↓reduceIte, nat_add, nat_mul3, nat_mul4, nat_mul6, nat_mul15, nat_mul60, nat_cast, nc1, Int.reduceToNat, upE, upN, fill_ne, fill_in, i0, hA, h36] <;> omega)))
        | (with_reducible apply wp_2; (first | omega | (simp (disch := omega) only [not_false_eq_true, not_true_eq_false, w32_id, tLt, fLt, tLe, fEq, itE, and_true, true_and, and_self, and_false, false_and, ↓reduceIte, nat_add, nat_mul3, nat_mul4, nat_mul6, nat_mul15, nat_mul60, nat_cast, nc1, Int.reduceToNat, upE, upN, fill_ne, fill_in, i0, hA, h36] <;> omega)))
        | (with_reducible apply wp_s; (first | (simp (disch := omega) only [not_false_eq_true, not_true_eq_false, w32_id, tLt, fLt, tLe, fEq, itE, and_true, true_and, and_self, and_false, false_and, ↓reduceIte, nat_add, nat_mul3, nat_mul4, nat_mul6, nat_mul15, nat_mul60, nat_cast, nc1, Int.reduceToNat, upE, upN, fill_ne, fill_in, i0, hA, h36]; with_reducible exact Iff.rfl) | with_reducible exact Iff.rfl); intro hc__; (try subst hc__); rotate_left; intro hc__; rotate_left)
        | (with_reducible apply wp_eq; (with_reducible apply cl_go; simp (disch := omega) only [not_false_eq_true, not_true_eq_false, w32_id, tLt, fLt, tLe, fEq, itE, and_true, true_and, and_self, and_false, false_and, ↓reduceIte, nat_add, nat_mul3, nat_mul4, nat_mul6, nat_mul15, nat_mul60, nat_cast, nc1, Int.reduceToNat, upE, upN, fill_ne, fill_in, i0, hA, h36]; with_reducible exact rfl))
        | (with_reducible apply wp_eq; (with_reducible apply lf_go; simp (disch := omega) only [not_false_eq_true, not_true_eq_false, w32_id, tLt, fLt, tLe, fEq, itE, and_true, true_and, and_self, and_false, false_and, ↓reduceIte, nat_add, nat_mul3, nat_mul4, nat_mul6, nat_mul15, nat_mul60, nat_cast, nc1, Int.reduceToNat, upE, upN, fill_ne, fill_in, i0, hA, h36]; with_reducible exact rfl))
        | with_reducible apply wp_q1
      refine ⟨_, _, _, rfl, rfl, rfl, ⟨fun j hj => by rw [upN (by omega)]; exact h.1 j hj, h.2.1⟩, fun o ho => by rw [upN (by omega)]; exact h.2.2.1 o ho, fun w hw => ?_, by rw [upN (by omega)]; exact h36, hf.trans fun b j q1 q2 q3 q4 q5 => upN (by omega)⟩
      dsimp only
      by_cases q : w = 4
      · subst q; rw [upE rfl rfl, wUE rfl]
      · rw [upN (by omega), wUN q]; exact h.2.2.2.2 w hw
    · rw [if_neg e]
      refine wp_eq (b_Mo_lives_32 _ _ _ _ _ _ _) ?_
      repeat' first
        | (with_reducible apply wp_bR; (simp (disch := omega) only [rM L, rK L, rN L, rNf, rNv, rNp, rNd, rRow, rLeg, rMark, nat_cast, Int.reduceToNat, hA, h36]; with_reducible exact rfl))
        | with_reducible apply wp_bI
        | with_reducible apply wp_bV
        | with_reducible apply wp_bL
        | with_reducible apply wp_rI
        | with_reducible apply wp_rV
        | with_reducible apply wp_rL
        | (with_reducible apply wp_1; (first | omega | (simp (disch := omega) only [not_false_eq_true, not_true_eq_false, w32_id, tLt, fLt, tLe, fEq, itE, and_true, true_and, and_self, and_false, false_and, ↓reduceIte, nat_add, nat_mul3, nat_mul4, nat_mul6, nat_mul15, nat_mul60, nat_cast, nc1, Int.reduceToNat, upE, upN, fill_ne, fill_in, i0, hA, h36] <;> omega)))
        | (with_reducible apply wp_2; (first | omega | (simp (disch := omega) only [not_false_eq_true, not_true_eq_false, w32_id, tLt, fLt, tLe, fEq, itE, and_true, true_and, and_self, and_false, false_and, ↓reduceIte, nat_add, nat_mul3, nat_mul4, nat_mul6, nat_mul15, nat_mul60, nat_cast, nc1, Int.reduceToNat, upE, upN, fill_ne, fill_in, i0, hA, h36] <;> omega)))
        | (with_reducible apply wp_s; (first | (simp (disch := omega) only [not_false_eq_true, not_true_eq_false, w32_id, tLt, fLt, tLe, fEq, itE, and_true, true_and, and_self, and_false, false_and, ↓reduceIte, nat_add, nat_mul3, nat_mul4, nat_mul6, nat_mul15, nat_mul60, nat_cast, nc1, Int.reduceToNat, upE, upN, fill_ne, fill_in, i0, hA, h36]; with_reducible exact Iff.rfl) | with_reducible exact Iff.rfl); intro hc__; (try subst hc__); rotate_left; intro hc__; rotate_left)
        | (with_reducible apply wp_eq; (with_reducible apply cl_go; simp (disch := omega) only [not_false_eq_true, not_true_eq_false, w32_id, tLt, fLt, tLe, fEq, itE, and_true, true_and, and_self, and_false, false_and, ↓reduceIte, nat_add, nat_mul3, nat_mul4, nat_mul6, nat_mul15, nat_mul60, nat_cast, nc1, Int.reduceToNat, upE, upN, fill_ne, fill_in, i0, hA, h36]; with_reducible exact rfl))
        | (with_reducible apply wp_eq; (with_reducible apply lf_go; simp (disch := omega) only [not_false_eq_true, not_true_eq_false, w32_id, tLt, fLt, tLe, fEq, itE, and_true, true_and, and_self, and_false, false_and, ↓reduceIte, nat_add, nat_mul3, nat_mul4, nat_mul6, nat_mul15, nat_mul60, nat_cast, nc1, Int.reduceToNat, upE, upN, fill_ne, fill_in, i0, hA, h36]; with_reducible exact rfl))
        | with_reducible apply wp_q1
      exact ⟨_, _, _, rfl, rfl, rfl, ⟨h.1, h.2.1⟩, h.2.2.1, h.2.2.2.2, h36, hf⟩
  | m + 1, A, r, k, dr, T, M0, M, d3, hm, h, h36, hR, hdr, hT, hP, hk, hE, hf => by
    have hI := h.2.1
    have hA := h.1
    have h60 := hP.1
    have i6 := i6 k
    rw [lfL_s]
    by_cases e : (k : Int) < A 6
    · rw [if_pos e]
      have sa := hP.2 k e
      have n27 : A (206 + 6 * k) ≠ 27 := fun q => hE ⟨e, q⟩
      obtain ⟨g1, g2, g3, g4⟩ := n_ag (T := T) hI sa hdr hT
      have hc : MR (up M 271 36 (300 - ((m : Int) + 1) + 1)) A r dr T := h.c36 _
      have fc : FrV M (up M 271 36 (300 - ((m : Int) + 1) + 1)) := fun b j q1 q2 q3 q4 q5 => upN (by omega)
      have v36 : up M 271 36 (300 - ((m : Int) + 1) + 1) 271 36 = 300 - (m : Int) := by rw [upE rfl rfl]; omega
      have nk60 : nK A k ≤ 60 := by
        unfold nK
        unfold StA at sa
        split
        · omega
        · split
          · omega
          · split
            · omega
            · omega
      -- what comes behind a step
      have go : ∀ (M1 : Mm) (d3' : AV) (kk : Int), kk = (nK A k : Int) → MR M1 (nA A k dr T) (nR A r k) (nD A k dr T) (nT A k dr T) → M1 271 36 = 300 - (m : Int) → FrV M M1 → Wp (callD (d - 1) m_Mo_behindEnds [vR 12 0 271, vI kk] (SH L) M1) (KI (fun r S M' => Run (callD (d - 1)) tb_Mo_lives 32 [vR 12 0 271, vI x, vI r, d3'] [] S M') (QV L M0 (lfL m (nA A k dr T) (eE A (nR A r k, nK A k)).1 (eE A (nR A r k, nK A k)).2 (nD A k dr T) (nT A k dr T)))) := by
        intro M1 d3' kk hkk h1 c1 f1
        subst hkk
        have hR1 := hR.nx sa
        have hP1 := hP.ag g2
        refine wp_mono (k_behind (by omega) hP1 h1 hR1 nk60) ?_
        rintro y S M2 ⟨rfl, rfl, h2, b2, f2⟩
        rw [eE_ag g2] at h2 b2 ⊢
        refine ⟨_, rfl, ?_⟩
        refine k_runs hd m _ _ _ _ _ M0 M2 _ (by omega) h2 (by rw [f2 _ _ (by omega) (by omega) (by omega) (by omega) (by omega)]; exact c1) ?_ g3 g4 hP1 b2 ?_ (hf.trans (f1.trans f2.v))
        · exact eN_ro 200 hR1
        · have := eE_end hP1.pf (p := (nR A r k, nK A k)) hR1
          rw [eE_ag g2] at this
          exact this
      have p36 : M 271 36 = 300 - ((m : Int) + 1) := h36
      by_cases o24 : A (206 + 6 * k) ≤ 24
      · rw [if_neg (by omega)]
        have ld := k_does (L := L) (d := d - 1) (by omega) hc (by omega) sa o24 hdr
        have t0 : M 285 0 = T 0 := h.2.2.2.2 0 (by omega)
        have dg := do_ag (T := T) hI sa o24 hdr
        have d01 := do_01 (A := A) (k := k) (dr := dr) (T := T)
        refine wp_eq (b_Mo_lives_32 _ _ _ _ _ _ _) ?_
        repeat' first
          | (with_reducible apply wp_bR; (simp (disch := omega) only [rM L, rK L, rN L, rNf, rNv, rNp, rNd, rRow, rLeg, rMark, nat_cast, Int.reduceToNat, hA, p36]; with_reducible exact rfl))
          | with_reducible apply wp_bI
          | with_reducible apply wp_bV
          | with_reducible apply wp_bL
          | with_reducible apply wp_rI
          | with_reducible apply wp_rV
          | with_reducible apply wp_rL
          | (with_reducible apply wp_1; (first | omega | (simp (disch := omega) only [not_false_eq_true, not_true_eq_false, w32_id, tLt, fLt, tLe, fEq, itE, and_true, true_and, and_self, and_false, false_and, ↓reduceIte, nat_add, nat_mul3, nat_mul4, nat_mul6, nat_mul15, nat_mul60, nat_cast, nc1, Int.reduceToNat, upE, upN, fill_ne, fill_in, i0, hA, p36] <;> omega)))
          | (with_reducible apply wp_2; (first | omega | (simp (disch := omega) only [not_false_eq_true, not_true_eq_false, w32_id, tLt, fLt, tLe, fEq, itE, and_true, true_and, and_self, and_false, false_and, ↓reduceIte, nat_add, nat_mul3, nat_mul4, nat_mul6, nat_mul15, nat_mul60, nat_cast, nc1, Int.reduceToNat, upE, upN, fill_ne, fill_in, i0, hA, p36] <;> omega)))
          | (with_reducible apply wp_s; (first | (simp (disch := omega) only [not_false_eq_true, not_true_eq_false, w32_id, tLt, fLt, tLe, fEq, itE, and_true, true_and, and_self, and_false, false_and, ↓reduceIte, nat_add, nat_mul3, nat_mul4, nat_mul6, nat_mul15, nat_mul60, nat_cast, nc1, Int.reduceToNat, upE, upN, fill_ne, fill_in, i0, hA, p36]; with_reducible exact Iff.rfl) | with_reducible exact Iff.rfl); intro hc__; (try subst hc__); rotate_left; intro hc__; rotate_left)
          | (with_reducible apply wp_eq; (with_reducible apply cl_go; simp (disch := omega) only [not_false_eq_true, not_true_eq_false, w32_id, tLt, fLt, tLe, fEq, itE, and_true, true_and, and_self, and_false, false_and, ↓reduceIte, nat_add, nat_mul3, nat_mul4, nat_mul6, nat_mul15, nat_mul60, nat_cast, nc1, Int.reduceToNat, upE, upN, fill_ne, fill_in, i0, hA, p36]; with_reducible exact rfl))
          | (with_reducible apply wp_eq; (with_reducible apply lf_go; simp (disch := omega) only [not_false_eq_true, not_true_eq_false, w32_id, tLt, fLt, tLe, fEq, itE, and_true, true_and, and_self, and_false, false_and, ↓reduceIte, nat_add, nat_mul3, nat_mul4, nat_mul6, nat_mul15, nat_mul60, nat_cast, nc1, Int.reduceToNat, upE, upN, fill_ne, fill_in, i0, hA, p36]; with_reducible exact rfl))
          | with_reducible apply wp_q1
        refine wp_qn ld fun M1 h1 f1 => ?_
        have eR : nR A r k = r := by unfold nR; rw [if_neg (by omega)]
        have eK : nK A k = k + 1 := by unfold nK; rw [if_pos (by omega)]
        have eA : nA A k dr T = (doL A k dr T).2.1 := by unfold nA; rw [if_pos o24]
        have eD : nD A k dr T = (doL A k dr T).2.2.1 := by unfold nD; rw [if_pos o24]
        have eT : nT A k dr T = wU (doL A k dr T).2.2.2 0 (w32 (T 0 + (1 - (doL A k dr T).1))) := by unfold nT; rw [if_pos o24]
        have m206 : M1 272 (206 + 6 * k) = A (206 + 6 * k) := by rw [h1.1 _ (by omega)]; exact dg.2.1 _ (by omega)
        have m36 : M1 271 36 = 300 - (m : Int) := by rw [f1 _ _ (by omega) (by omega) (by omega) (by omega) (by omega)]; exact v36
        have fin : ∀ y : Int, y = w32 (T 0 + (1 - (doL A k dr T).1)) → MR (up M1 285 0 y) (nA A k dr T) (nR A r k) (nD A k dr T) (nT A k dr T) ∧ up M1 285 0 y 271 36 = 300 - (m : Int) ∧ FrV M (up M1 285 0 y) := fun y hy => by
          rw [eR, eA, eD, eT]
          exact ⟨h1.t0 hy, by rw [upN (by omega)]; exact m36, fc.trans (f1.v.trans fun b j q1 q2 q3 q4 q5 => upN (by omega))⟩
        generalize hok : (doL A k dr T).1 = ok at d01 fin ⊢
        rcases d01 with rfl | rfl
        · have q := fin (w32 (T 0 + 1)) (by rfl)
          repeat' first
            | (with_reducible apply wp_bR; (simp (disch := omega) only [rM L, rK L, rN L, rNf, rNv, rNp, rNd, rRow, rLeg, rMark, nat_cast, Int.reduceToNat, m206, t0]; with_reducible exact rfl))
            | with_reducible apply wp_bI
            | with_reducible apply wp_bV
            | with_reducible apply wp_bL
            | with_reducible apply wp_rI
            | with_reducible apply wp_rV
            | with_reducible apply wp_rL
            | (with_reducible apply wp_1; (first | omega | (simp (disch := omega) only [not_false_eq_true, not_true_eq_false, w32_id, tLt, fLt, tLe, fEq, itE, and_true, true_and, and_self, and_false, false_and, ↓reduceIte, nat_add, nat_mul3, nat_mul4, nat_mul6, nat_mul15, nat_mul60, nat_cast, nc1, Int.reduceToNat, upE, upN, fill_ne, fill_in, i0, m206, t0] <;> omega)))
            | (with_reducible apply wp_2; (first | omega | (simp (disch := omega) only [not_false_eq_true, not_true_eq_false, w32_id, tLt, fLt, tLe, fEq, itE, and_true, true_and, and_self, and_false, false_and, ↓reduceIte, nat_add, nat_mul3, nat_mul4, nat_mul6, nat_mul15, nat_mul60, nat_cast, nc1, Int.reduceToNat, upE, upN, fill_ne, fill_in, i0, m206, t0] <;> omega)))
            | (with_reducible apply wp_s; (first | (simp (disch := omega) only [not_false_eq_true, not_true_eq_false, w32_id, tLt, fLt, tLe, fEq, itE, and_true, true_and, and_self, and_false, false_and, ↓reduceIte, nat_add, nat_mul3, nat_mul4, nat_mul6, nat_mul15, nat_mul60, nat_cast, nc1, Int.reduceToNat, upE, upN, fill_ne, fill_in, i0, m206, t0]; with_reducible exact Iff.rfl) | with_reducible exact Iff.rfl); intro hc__; (try subst hc__); rotate_left; intro hc__; rotate_left)
            | (with_reducible apply wp_eq; (with_reducible apply cl_go; simp (disch := omega) only [not_false_eq_true, not_true_eq_false, w32_id, tLt, fLt, tLe, fEq, itE, and_true, true_and, and_self, and_false, false_and, ↓reduceIte, nat_add, nat_mul3, nat_mul4, nat_mul6, nat_mul15, nat_mul60, nat_cast, nc1, Int.reduceToNat, upE, upN, fill_ne, fill_in, i0, m206, t0]; with_reducible exact rfl))
            | (with_reducible apply wp_eq; (with_reducible apply lf_go; simp (disch := omega) only [not_false_eq_true, not_true_eq_false, w32_id, tLt, fLt, tLe, fEq, itE, and_true, true_and, and_self, and_false, false_and, ↓reduceIte, nat_add, nat_mul3, nat_mul4, nat_mul6, nat_mul15, nat_mul60, nat_cast, nc1, Int.reduceToNat, upE, upN, fill_ne, fill_in, i0, m206, t0]; with_reducible exact rfl))
            | with_reducible apply wp_q1
          exact go _ _ _ (by rw [eK]; rfl) q.1 q.2.1 q.2.2
        · have q := fin (w32 (T 0 + 0)) (by rfl)
          repeat' first
            | (with_reducible apply wp_bR; (simp (disch := omega) only [rM L, rK L, rN L, rNf, rNv, rNp, rNd, rRow, rLeg, rMark, nat_cast, Int.reduceToNat, m206, t0]; with_reducible exact rfl))
            | with_reducible apply wp_bI
            | with_reducible apply wp_bV
            | with_reducible apply wp_bL
            | with_reducible apply wp_rI
            | with_reducible apply wp_rV
            | with_reducible apply wp_rL
            | (with_reducible apply wp_1; (first | omega | (simp (disch := omega) only [not_false_eq_true, not_true_eq_false, w32_id, tLt, fLt, tLe, fEq, itE, and_true, true_and, and_self, and_false, false_and, ↓reduceIte, nat_add, nat_mul3, nat_mul4, nat_mul6, nat_mul15, nat_mul60, nat_cast, nc1, Int.reduceToNat, upE, upN, fill_ne, fill_in, i0, m206, t0] <;> omega)))
            | (with_reducible apply wp_2; (first | omega | (simp (disch := omega) only [not_false_eq_true, not_true_eq_false, w32_id, tLt, fLt, tLe, fEq, itE, and_true, true_and, and_self, and_false, false_and, ↓reduceIte, nat_add, nat_mul3, nat_mul4, nat_mul6, nat_mul15, nat_mul60, nat_cast, nc1, Int.reduceToNat, upE, upN, fill_ne, fill_in, i0, m206, t0] <;> omega)))
            | (with_reducible apply wp_s; (first | (simp (disch := omega) only [not_false_eq_true, not_true_eq_false, w32_id, tLt, fLt, tLe, fEq, itE, and_true, true_and, and_self, and_false, false_and, ↓reduceIte, nat_add, nat_mul3, nat_mul4, nat_mul6, nat_mul15, nat_mul60, nat_cast, nc1, Int.reduceToNat, upE, upN, fill_ne, fill_in, i0, m206, t0]; with_reducible exact Iff.rfl) | with_reducible exact Iff.rfl); intro hc__; (try subst hc__); rotate_left; intro hc__; rotate_left)
            | (with_reducible apply wp_eq; (with_reducible apply cl_go; simp (disch := omega) only [not_false_eq_true, not_true_eq_false, w32_id, tLt, fLt, tLe, fEq, itE, and_true, true_and, and_self, and_false, false_and, ↓reduceIte, nat_add, nat_mul3, nat_mul4, nat_mul6, nat_mul15, nat_mul60, nat_cast, nc1, Int.reduceToNat, upE, upN, fill_ne, fill_in, i0, m206, t0]; with_reducible exact rfl))
            | (with_reducible apply wp_eq; (with_reducible apply lf_go; simp (disch := omega) only [not_false_eq_true, not_true_eq_false, w32_id, tLt, fLt, tLe, fEq, itE, and_true, true_and, and_self, and_false, false_and, ↓reduceIte, nat_add, nat_mul3, nat_mul4, nat_mul6, nat_mul15, nat_mul60, nat_cast, nc1, Int.reduceToNat, upE, upN, fill_ne, fill_in, i0, m206, t0]; with_reducible exact rfl))
            | with_reducible apply wp_q1
          exact go _ _ _ (by rw [eK]; rfl) q.1 q.2.1 q.2.2
      · by_cases o28 : A (206 + 6 * k) = 28
        · rw [if_pos o28]
          refine wp_eq (b_Mo_lives_32 _ _ _ _ _ _ _) ?_
          repeat' first
            | (with_reducible apply wp_bR; (simp (disch := omega) only [rM L, rK L, rN L, rNf, rNv, rNp, rNd, rRow, rLeg, rMark, nat_cast, Int.reduceToNat, hA, p36, o28]; with_reducible exact rfl))
            | with_reducible apply wp_bI
            | with_reducible apply wp_bV
            | with_reducible apply wp_bL
            | with_reducible apply wp_rI
            | with_reducible apply wp_rV
            | with_reducible apply wp_rL
            | (with_reducible apply wp_1; (first | omega | (simp (disch := omega) only [not_false_eq_true, not_true_eq_false, w32_id, tLt, fLt, tLe, fEq, itE, and_true, true_and, and_self, and_false, false_and, ↓reduceIte, nat_add, nat_mul3, nat_mul4, nat_mul6, nat_mul15, nat_mul60, nat_cast, nc1, Int.reduceToNat, upE, upN, fill_ne, fill_in, i0, hA, p36, o28] <;> omega)))
            | (with_reducible apply wp_2; (first | omega | (simp (disch := omega) only [not_false_eq_true, not_true_eq_false, w32_id, tLt, fLt, tLe, fEq, itE, and_true, true_and, and_self, and_false, false_and, ↓reduceIte, nat_add, nat_mul3, nat_mul4, nat_mul6, nat_mul15, nat_mul60, nat_cast, nc1, Int.reduceToNat, upE, upN, fill_ne, fill_in, i0, hA, p36, o28] <;> omega)))
            | (with_reducible apply wp_s; (first | (simp (disch := omega) only [not_false_eq_true, not_true_eq_false, w32_id, tLt, fLt, tLe, fEq, itE, and_true, true_and, and_self, and_false, false_and, ↓reduceIte, nat_add, nat_mul3, nat_mul4, nat_mul6, nat_mul15, nat_mul60, nat_cast, nc1, Int.reduceToNat, upE, upN, fill_ne, fill_in, i0, hA, p36, o28]; with_reducible exact Iff.rfl) | with_reducible exact Iff.rfl); intro hc__; (try subst hc__); rotate_left; intro hc__; rotate_left)
            | (with_reducible apply wp_eq; (with_reducible apply cl_go; simp (disch := omega) only [not_false_eq_true, not_true_eq_false, w32_id, tLt, fLt, tLe, fEq, itE, and_true, true_and, and_self, and_false, false_and, ↓reduceIte, nat_add, nat_mul3, nat_mul4, nat_mul6, nat_mul15, nat_mul60, nat_cast, nc1, Int.reduceToNat, upE, upN, fill_ne, fill_in, i0, hA, p36, o28]; with_reducible exact rfl))
            | (with_reducible apply wp_eq; (with_reducible apply lf_go; simp (disch := omega) only [not_false_eq_true, not_true_eq_false, w32_id, tLt, fLt, tLe, fEq, itE, and_true, true_and, and_self, and_false, false_and, ↓reduceIte, nat_add, nat_mul3, nat_mul4, nat_mul6, nat_mul15, nat_mul60, nat_cast, nc1, Int.reduceToNat, upE, upN, fill_ne, fill_in, i0, hA, p36, o28]; with_reducible exact rfl))
            | with_reducible apply wp_q1
          exact ⟨_, _, _, rfl, rfl, rfl, ⟨hc.1, hI⟩, hc.2.2.1, hc.2.2.2.2, v36, hf.trans fc⟩
        · rw [if_neg o28]
          have eA : nA A k dr T = A := by unfold nA; rw [if_neg o24]
          have eD : nD A k dr T = dr := by unfold nD; rw [if_neg o24]
          have eT : nT A k dr T = T := by unfold nT; rw [if_neg o24]
          have e0 := k_does0 (L := L) (d := d - 1) (by omega) hc (k := k) (by omega) (by omega)
          have t0 : M 285 0 = T 0 := h.2.2.2.2 0 (by omega)
          have hz : w32 (T 0 + 0) = T 0 := by rw [Int.add_zero]; exact hT
          have h1 : MR (up (up M 271 36 (300 - ((m : Int) + 1) + 1)) 285 0 (T 0)) A r dr T := (hc.t0 rfl).tt fun w hw => by
            by_cases e : w = 0
            · subst e; rw [wUE rfl]
            · rw [wUN e]
          have f1 : FrV M (up (up M 271 36 (300 - ((m : Int) + 1) + 1)) 285 0 (T 0)) := fc.trans fun b j q1 q2 q3 q4 q5 => upN (by omega)
          by_cases o26 : A (206 + 6 * k) = 26
          · have eR : nR A r k = wU r k (A (207 + 6 * k)) := by unfold nR; rw [if_pos o26]
            have eK : nK A k = k + 1 := by unfold nK; rw [if_pos (by omega)]
            have a207 : 1 ≤ A (207 + 6 * k) ∧ A (207 + 6 * k) ≤ 99 := by
              unfold StA at sa
              omega
            have h2 : MR (up (up (up M 271 36 (300 - ((m : Int) + 1) + 1)) 285 0 (T 0)) 284 k (A (207 + 6 * k) - 1)) A (wU r k (A (207 + 6 * k))) dr T := h1.fr (fun j _ => upN (by omega)) (fun o' ho' => by
              by_cases e : o' = k
              · subst e; rw [upE rfl rfl, wUE rfl]; omega
              · rw [upN (by omega), wUN e]; exact h1.2.2.1 o' ho') (by rw [upN (by omega)]; exact h1.2.2.2.1) fun w hw => by rw [upN (by omega)]; exact h1.2.2.2.2 w hw
            refine wp_eq (b_Mo_lives_32 _ _ _ _ _ _ _) ?_
            repeat' first
              | (with_reducible apply wp_bR; (simp (disch := omega) only [rM L, rK L, rN L, rNf, rNv, rNp, rNd, rRow, rLeg, rMark, nat_cast, Int.reduceToNat, hA, i6, p36, o26, t0, hz]; with_reducible exact rfl))
              | with_reducible apply wp_bI
              | with_reducible apply wp_bV
              | with_reducible apply wp_bL
              | with_reducible apply wp_rI
              | with_reducible apply wp_rV
              | with_reducible apply wp_rL
              | (with_reducible apply wp_1; (first | omega | (simp (disch := omega) only [not_false_eq_true, not_true_eq_false, w32_id, tLt, fLt, tLe, fEq, itE, and_true, true_and, and_self, and_false, false_and, ↓reduceIte, nat_add, nat_mul3, nat_mul4, nat_mul6, nat_mul15, nat_mul60, nat_cast, nc1, Int.reduceToNat, upE, upN, fill_ne, fill_in, i0, hA, i6, p36, o26, t0, hz] <;> omega)))
              | (with_reducible apply wp_2; (first | omega | (simp (disch := omega) only [not_false_eq_true, not_true_eq_false, w32_id, tLt, fLt, tLe, fEq, itE, and_true, true_and, and_self, and_false, false_and, ↓reduceIte, nat_add, nat_mul3, nat_mul4, nat_mul6, nat_mul15, nat_mul60, nat_cast, nc1, Int.reduceToNat, upE, upN, fill_ne, fill_in, i0, hA, i6, p36, o26, t0, hz] <;> omega)))
              | (with_reducible apply wp_s; (first | (simp (disch := omega) only [not_false_eq_true, not_true_eq_false, w32_id, tLt, fLt, tLe, fEq, itE, and_true, true_and, and_self, and_false, false_and, ↓reduceIte, nat_add, nat_mul3, nat_mul4, nat_mul6, nat_mul15, nat_mul60, nat_cast, nc1, Int.reduceToNat, upE, upN, fill_ne, fill_in, i0, hA, i6, p36, o26, t0, hz]; with_reducible exact Iff.rfl) | with_reducible exact Iff.rfl); intro hc__; (try subst hc__); rotate_left; intro hc__; rotate_left)
              | (with_reducible apply wp_eq; (with_reducible apply cl_go; simp (disch := omega) only [not_false_eq_true, not_true_eq_false, w32_id, tLt, fLt, tLe, fEq, itE, and_true, true_and, and_self, and_false, false_and, ↓reduceIte, nat_add, nat_mul3, nat_mul4, nat_mul6, nat_mul15, nat_mul60, nat_cast, nc1, Int.reduceToNat, upE, upN, fill_ne, fill_in, i0, hA, i6, p36, o26, t0, hz]; with_reducible exact rfl))
              | with_reducible refine wp_eq (e0) ?_
              | (with_reducible apply wp_eq; (with_reducible apply lf_go; simp (disch := omega) only [not_false_eq_true, not_true_eq_false, w32_id, tLt, fLt, tLe, fEq, itE, and_true, true_and, and_self, and_false, false_and, ↓reduceIte, nat_add, nat_mul3, nat_mul4, nat_mul6, nat_mul15, nat_mul60, nat_cast, nc1, Int.reduceToNat, upE, upN, fill_ne, fill_in, i0, hA, i6, p36, o26, t0, hz]; with_reducible exact rfl))
              | with_reducible apply wp_q1
            exact go _ _ _ (by rw [eK]; rfl) (by rw [eA, eD, eT, eR]; exact h2) (by rw [upN (by omega), upN (by omega)]; exact v36) (f1.trans fun b j q1 q2 q3 q4 q5 => upN (by omega))
          · have big : 2500 ≤ A (206 + 6 * k) := by
              unfold StA at sa
              omega
            have lk : (k : Int) < A (210 + 6 * k) ∧ A (210 + 6 * k) < A 6 := by
              unfold StA at sa
              omega
            have eR : nR A r k = r := by unfold nR; rw [if_neg o26]
            have lh := k_holds (L := L) (d := d - 1) (by omega) h1 (k := k) (by omega) sa big
            have hA1 := h1.1
            refine wp_eq (b_Mo_lives_32 _ _ _ _ _ _ _) ?_
            repeat' first
              | (with_reducible apply wp_bR; (simp (disch := omega) only [rM L, rK L, rN L, rNf, rNv, rNp, rNd, rRow, rLeg, rMark, nat_cast, Int.reduceToNat, hA, i6, p36, t0, hz]; with_reducible exact rfl))
              | with_reducible apply wp_bI
              | with_reducible apply wp_bV
              | with_reducible apply wp_bL
              | with_reducible apply wp_rI
              | with_reducible apply wp_rV
              | with_reducible apply wp_rL
              | (with_reducible apply wp_1; (first | omega | (simp (disch := omega) only [not_false_eq_true, not_true_eq_false, w32_id, tLt, fLt, tLe, fEq, itE, and_true, true_and, and_self, and_false, false_and, ↓reduceIte, nat_add, nat_mul3, nat_mul4, nat_mul6, nat_mul15, nat_mul60, nat_cast, nc1, Int.reduceToNat, upE, upN, fill_ne, fill_in, i0, hA, i6, p36, t0, hz] <;> omega)))
              | (with_reducible apply wp_2; (first | omega | (simp (disch := omega) only [not_false_eq_true, not_true_eq_false, w32_id, tLt, fLt, tLe, fEq, itE, and_true, true_and, and_self, and_false, false_and, ↓reduceIte, nat_add, nat_mul3, nat_mul4, nat_mul6, nat_mul15, nat_mul60, nat_cast, nc1, Int.reduceToNat, upE, upN, fill_ne, fill_in, i0, hA, i6, p36, t0, hz] <;> omega)))
              | (with_reducible apply wp_s; (first | (simp (disch := omega) only [not_false_eq_true, not_true_eq_false, w32_id, tLt, fLt, tLe, fEq, itE, and_true, true_and, and_self, and_false, false_and, ↓reduceIte, nat_add, nat_mul3, nat_mul4, nat_mul6, nat_mul15, nat_mul60, nat_cast, nc1, Int.reduceToNat, upE, upN, fill_ne, fill_in, i0, hA, i6, p36, t0, hz]; with_reducible exact Iff.rfl) | with_reducible exact Iff.rfl); intro hc__; (try subst hc__); rotate_left; intro hc__; rotate_left)
              | (with_reducible apply wp_eq; (with_reducible apply cl_go; simp (disch := omega) only [not_false_eq_true, not_true_eq_false, w32_id, tLt, fLt, tLe, fEq, itE, and_true, true_and, and_self, and_false, false_and, ↓reduceIte, nat_add, nat_mul3, nat_mul4, nat_mul6, nat_mul15, nat_mul60, nat_cast, nc1, Int.reduceToNat, upE, upN, fill_ne, fill_in, i0, hA, i6, p36, t0, hz]; with_reducible exact rfl))
              | with_reducible refine wp_eq (e0) ?_
              | (with_reducible apply wp_eq; (with_reducible apply lf_go; simp (disch := omega) only [not_false_eq_true, not_true_eq_false, w32_id, tLt, fLt, tLe, fEq, itE, and_true, true_and, and_self, and_false, false_and, ↓reduceIte, nat_add, nat_mul3, nat_mul4, nat_mul6, nat_mul15, nat_mul60, nat_cast, nc1, Int.reduceToNat, upE, upN, fill_ne, fill_in, i0, hA, i6, p36, t0, hz]; with_reducible exact rfl))
              | with_reducible apply wp_q1
            refine wp_qn lh fun M1 h2 f2 => ?_
            have h2 : MR M1 A r dr T := h2
            have hA2 := h2.1
            have c2 : M1 271 36 = 300 - (m : Int) := by rw [f2 _ _ (by omega) (by omega) (by omega) (by omega) (by omega), upN (by omega)]; exact v36
            have f3 := f1.trans f2.v
            by_cases z : hoL A k = 0
            · have eK : ((nK A k : Nat) : Int) = A (210 + 6 * k) + 1 := by unfold nK; rw [if_neg (by omega), if_neg o28, if_pos z]; omega
              show Wp (some (some (vI (hoL A k)), SH L, M1)) _
              rw [z]
              repeat' first
                | (with_reducible apply wp_bR; (simp (disch := omega) only [rM L, rK L, rN L, rNf, rNv, rNp, rNd, rRow, rLeg, rMark, nat_cast, Int.reduceToNat, hA2, i6]; with_reducible exact rfl))
                | with_reducible apply wp_bI
                | with_reducible apply wp_bV
                | with_reducible apply wp_bL
                | with_reducible apply wp_rI
                | with_reducible apply wp_rV
                | with_reducible apply wp_rL
                | (with_reducible apply wp_1; (first | omega | (simp (disch := omega) only [not_false_eq_true, not_true_eq_false, w32_id, tLt, fLt, tLe, fEq, itE, and_true, true_and, and_self, and_false, false_and, ↓reduceIte, nat_add, nat_mul3, nat_mul4, nat_mul6, nat_mul15, nat_mul60, nat_cast, nc1, Int.reduceToNat, upE, upN, fill_ne, fill_in, i0, hA2, i6] <;> omega)))
                | (with_reducible apply wp_2; (first | omega | (simp (disch := omega) only [not_false_eq_true, not_true_eq_false, w32_id, tLt, fLt, tLe, fEq, itE, and_true, true_and, and_self, and_false, false_and, ↓reduceIte, nat_add, nat_mul3, nat_mul4, nat_mul6, nat_mul15, nat_mul60, nat_cast, nc1, Int.reduceToNat, upE, upN, fill_ne, fill_in, i0, hA2, i6] <;> omega)))
                | (with_reducible apply wp_s; (first | (simp (disch := omega) only [not_false_eq_true, not_true_eq_false, w32_id, tLt, fLt, tLe, fEq, itE, and_true, true_and, and_self, and_false, false_and, ↓reduceIte, nat_add, nat_mul3, nat_mul4, nat_mul6, nat_mul15, nat_mul60, nat_cast, nc1, Int.reduceToNat, upE, upN, fill_ne, fill_in, i0, hA2, i6]; with_reducible exact Iff.rfl) | with_reducible exact Iff.rfl); intro hc__; (try subst hc__); rotate_left; intro hc__; rotate_left)
                | (with_reducible apply wp_eq; (with_reducible apply cl_go; simp (disch := omega) only [not_false_eq_true, not_true_eq_false, w32_id, tLt, fLt, tLe, fEq, itE, and_true, true_and, and_self, and_false, false_and, ↓reduceIte, nat_add, nat_mul3, nat_mul4, nat_mul6, nat_mul15, nat_mul60, nat_cast, nc1, Int.reduceToNat, upE, upN, fill_ne, fill_in, i0, hA2, i6]; with_reducible exact rfl))
                | (with_reducible apply wp_eq; (with_reducible apply lf_go; simp (disch := omega) only [not_false_eq_true, not_true_eq_false, w32_id, tLt, fLt, tLe, fEq, itE, and_true, true_and, and_self, and_false, false_and, ↓reduceIte, nat_add, nat_mul3, nat_mul4, nat_mul6, nat_mul15, nat_mul60, nat_cast, nc1, Int.reduceToNat, upE, upN, fill_ne, fill_in, i0, hA2, i6]; with_reducible exact rfl))
                | with_reducible apply wp_q1
              exact go _ _ _ eK.symm (by rw [eA, eD, eT, eR]; exact h2) c2 f3
            · have eK : nK A k = k + 1 := by unfold nK; rw [if_neg (by omega), if_neg o28, if_neg z]
              show Wp (some (some (vI (hoL A k)), SH L, M1)) _
              repeat' first
                | (with_reducible apply wp_bR; (simp (disch := omega) only [rM L, rK L, rN L, rNf, rNv, rNp, rNd, rRow, rLeg, rMark, nat_cast, Int.reduceToNat, hA2, i6]; with_reducible exact rfl))
                | with_reducible apply wp_bI
                | with_reducible apply wp_bV
                | with_reducible apply wp_bL
                | with_reducible apply wp_rI
                | with_reducible apply wp_rV
                | with_reducible apply wp_rL
                | (with_reducible apply wp_1; (first | omega | (simp (disch := omega) only [not_false_eq_true, not_true_eq_false, w32_id, tLt, fLt, tLe, fEq, itE, and_true, true_and, and_self, and_false, false_and, ↓reduceIte, nat_add, nat_mul3, nat_mul4, nat_mul6, nat_mul15, nat_mul60, nat_cast, nc1, Int.reduceToNat, upE, upN, fill_ne, fill_in, i0, hA2, i6] <;> omega)))
                | (with_reducible apply wp_2; (first | omega | (simp (disch := omega) only [not_false_eq_true, not_true_eq_false, w32_id, tLt, fLt, tLe, fEq, itE, and_true, true_and, and_self, and_false, false_and, ↓reduceIte, nat_add, nat_mul3, nat_mul4, nat_mul6, nat_mul15, nat_mul60, nat_cast, nc1, Int.reduceToNat, upE, upN, fill_ne, fill_in, i0, hA2, i6] <;> omega)))
                | (with_reducible apply wp_s; (first | (simp (disch := omega) only [not_false_eq_true, not_true_eq_false, w32_id, tLt, fLt, tLe, fEq, itE, and_true, true_and, and_self, and_false, false_and, ↓reduceIte, nat_add, nat_mul3, nat_mul4, nat_mul6, nat_mul15, nat_mul60, nat_cast, nc1, Int.reduceToNat, upE, upN, fill_ne, fill_in, i0, hA2, i6]; with_reducible exact Iff.rfl) | with_reducible exact Iff.rfl); intro hc__; (try subst hc__); rotate_left; intro hc__; rotate_left)
                | (with_reducible apply wp_eq; (with_reducible apply cl_go; simp (disch := omega) only [not_false_eq_true, not_true_eq_false, w32_id, tLt, fLt, tLe, fEq, itE, and_true, true_and, and_self, and_false, false_and, ↓reduceIte, nat_add, nat_mul3, nat_mul4, nat_mul6, nat_mul15, nat_mul60, nat_cast, nc1, Int.reduceToNat, upE, upN, fill_ne, fill_in, i0, hA2, i6]; with_reducible exact rfl))
                | (with_reducible apply wp_eq; (with_reducible apply lf_go; simp (disch := omega) only [not_false_eq_true, not_true_eq_false, w32_id, tLt, fLt, tLe, fEq, itE, and_true, true_and, and_self, and_false, false_and, ↓reduceIte, nat_add, nat_mul3, nat_mul4, nat_mul6, nat_mul15, nat_mul60, nat_cast, nc1, Int.reduceToNat, upE, upN, fill_ne, fill_in, i0, hA2, i6]; with_reducible exact rfl))
                | with_reducible apply wp_q1
              exact go _ _ _ (by rw [eK]; rfl) (by rw [eA, eD, eT, eR]; exact h2) c2 f3
    · rw [if_neg e]
      refine wp_eq (b_Mo_lives_32 _ _ _ _ _ _ _) ?_
      repeat' first
        | (with_reducible apply wp_bR; (simp (disch := omega) only [rM L, rK L, rN L, rNf, rNv, rNp, rNd, rRow, rLeg, rMark, nat_cast, Int.reduceToNat, hA]; with_reducible exact rfl))
        | with_reducible apply wp_bI
        | with_reducible apply wp_bV
        | with_reducible apply wp_bL
        | with_reducible apply wp_rI
        | with_reducible apply wp_rV
        | with_reducible apply wp_rL
        | (with_reducible apply wp_1; (first | omega | (simp (disch := omega) only [not_false_eq_true, not_true_eq_false, w32_id, tLt, fLt, tLe, fEq, itE, and_true, true_and, and_self, and_false, false_and, ↓reduceIte, nat_add, nat_mul3, nat_mul4, nat_mul6, nat_mul15, nat_mul60, nat_cast, nc1, Int.reduceToNat, upE, upN, fill_ne, fill_in, i0, hA] <;> omega)))
        | (with_reducible apply wp_2; (first | omega | (simp (disch := omega) only [not_false_eq_true, not_true_eq_false, w32_id, tLt, fLt, tLe, fEq, itE, and_true, true_and, and_self, and_false, false_and, ↓reduceIte, nat_add, nat_mul3, nat_mul4, nat_mul6, nat_mul15, nat_mul60, nat_cast, nc1, Int.reduceToNat, upE, upN, fill_ne, fill_in, i0, hA] <;> omega)))
        | (with_reducible apply wp_s; (first | (simp (disch := omega) only [not_false_eq_true, not_true_eq_false, w32_id, tLt, fLt, tLe, fEq, itE, and_true, true_and, and_self, and_false, false_and, ↓reduceIte, nat_add, nat_mul3, nat_mul4, nat_mul6, nat_mul15, nat_mul60, nat_cast, nc1, Int.reduceToNat, upE, upN, fill_ne, fill_in, i0, hA]; with_reducible exact Iff.rfl) | with_reducible exact Iff.rfl); intro hc__; (try subst hc__); rotate_left; intro hc__; rotate_left)
        | (with_reducible apply wp_eq; (with_reducible apply cl_go; simp (disch := omega) only [not_false_eq_true, not_true_eq_false, w32_id, tLt, fLt, tLe, fEq, itE, and_true, true_and, and_self, and_false, false_and, ↓reduceIte, nat_add, nat_mul3, nat_mul4, nat_mul6, nat_mul15, nat_mul60, nat_cast, nc1, Int.reduceToNat, upE, upN, fill_ne, fill_in, i0, hA]; with_reducible exact rfl))
        | (with_reducible apply wp_eq; (with_reducible apply lf_go; simp (disch := omega) only [not_false_eq_true, not_true_eq_false, w32_id, tLt, fLt, tLe, fEq, itE, and_true, true_and, and_self, and_false, false_and, ↓reduceIte, nat_add, nat_mul3, nat_mul4, nat_mul6, nat_mul15, nat_mul60, nat_cast, nc1, Int.reduceToNat, upE, upN, fill_ne, fill_in, i0, hA]; with_reducible exact rfl))
        | with_reducible apply wp_q1
      exact ⟨_, _, _, rfl, rfl, rfl, ⟨h.1, hI⟩, h.2.2.1, h.2.2.2.2, h36, hf⟩
def T00 : Nat → Int := fun _ => 0
theorem lf_all : ∀ (m : Nat) (A r : Nat → Int) (k : Nat) (dr : Int) (T : Nat → Int), Inv A → PlA A → RO r → 0 ≤ dr ∧ dr ≤ 65535 → w32 (T 0) = T 0 → Inv (lfL m A r k dr T).1 ∧ Ag A (lfL m A r k dr T).1 ∧ RO (lfL m A r k dr T).2.1 ∧ (lfL m A r k dr T).2.2.2 ≤ m
  | 0, A, r, k, dr, T, hI, hP, hR, hdr, hT => by
    rw [lfL_0]
    split
    · exact ⟨hI, Ag.refl A, hR, by dsimp only; omega⟩
    · exact ⟨hI, Ag.refl A, hR, by dsimp only; omega⟩
  | m + 1, A, r, k, dr, T, hI, hP, hR, hdr, hT => by
    rw [lfL_s]
    split
    · next e =>
      split
      · exact ⟨hI, Ag.refl A, hR, by dsimp only; omega⟩
      · have sa := hP.2 k e
        obtain ⟨g1, g2, g3, g4⟩ := n_ag (T := T) hI sa hdr hT
        obtain ⟨i1, i2, i3, i4⟩ := lf_all m (nA A k dr T) (eE A (nR A r k, nK A k)).1 (eE A (nR A r k, nK A k)).2 (nD A k dr T) (nT A k dr T) g1 (hP.ag g2) (eN_ro 200 (hR.nx sa)) g3 g4
        exact ⟨i1, g2.trans i2, i3, by omega⟩
    · exact ⟨hI, Ag.refl A, hR, by dsimp only; omega⟩
theorem c_life (hd : 21 ≤ d) (hc : RelC M A) (hP : PlC M A) {r : Nat → Int} (hr : ∀ o, o < 60 → M 128 o = r o) (hR : RO r) {x : Int} (h0 : 0 ≤ x) (h1 : x ≤ 9999) : Wp (callD d m_Life_runs [vR 1 0 126, vR 5 0 18, vI x] (SH L) M) (QR L M (lfL 300 A r 0 x T00)) := by
  have ef := s_fill0 (M := M) (S := SH L) (a := 127) (n := 5) (v := 0) (d := d - 1) (by omega) (by omega)
  rw [show ((5 : Nat) : Int) = 5 from rfl] at ef
  have nE : ¬isE A 0 := fun q => by
    have := hP.a.pf.2 0 q.1 q.2
    omega
  have lc : LC (up (up (fillP M 127 (fun _ => 0) 5) 126 2 x) 126 3 0) A r 0 x T00 := by
    refine ⟨hc.fr fun b j q1 q2 q3 => by rw [upN (by omega), upN (by omega), fill_ne (by omega)], hP.fr (fun b j q1 q2 => by rw [upN (by omega), upN (by omega), fill_ne (by omega)]) (Ag.refl A), fun o ho => by rw [upN (by omega), upN (by omega), fill_ne (by omega)]; exact hr o ho, upE rfl rfl, by rw [upN (by omega), upE rfl rfl], fun w hw => by rw [upN (by omega), upN (by omega), fill_in rfl hw]; rfl⟩
  have g := l_runs (L := L) (d := d) (x := x) (by omega) 300 A r 0 x T00 0 M _ vU (by omega) lc hR ⟨h0, by omega⟩ rfl nE (by omega) fun b j q1 q2 q3 q4 => by rw [upN (by omega), upN (by omega), fill_ne (by omega)]
  rw [show (300 : Int) - ((300 : Nat) : Int) = 0 from rfl, show ((0 : Nat) : Int) = 0 from rfl] at g
  repeat' first
    | (with_reducible apply wp_bR; (simp (disch := omega) only [rM L, rK L, rN L, rNf, rNv, rNp, rNd, rRow, rLeg, rMark, nat_cast, Int.reduceToNat]; with_reducible exact rfl))
    | with_reducible apply wp_bI
    | with_reducible apply wp_bV
    | with_reducible apply wp_bL
    | with_reducible apply wp_rI
    | with_reducible apply wp_rV
    | with_reducible apply wp_rL
    | (with_reducible apply wp_1; (first | omega | (simp (disch := omega) only [not_false_eq_true, not_true_eq_false, w32_id, tLt, fLt, tLe, fEq, itE, and_true, true_and, and_self, and_false, false_and, ↓reduceIte, nat_add, nat_mul3, nat_mul4, nat_mul6, nat_mul15, nat_mul60, nat_cast, nc1, Int.reduceToNat, upE, upN, fill_ne, fill_in, i0] <;> omega)))
    | (with_reducible apply wp_2; (first | omega | (simp (disch := omega) only [not_false_eq_true, not_true_eq_false, w32_id, tLt, fLt, tLe, fEq, itE, and_true, true_and, and_self, and_false, false_and, ↓reduceIte, nat_add, nat_mul3, nat_mul4, nat_mul6, nat_mul15, nat_mul60, nat_cast, nc1, Int.reduceToNat, upE, upN, fill_ne, fill_in, i0] <;> omega)))
    | (with_reducible apply wp_s; (first | (simp (disch := omega) only [not_false_eq_true, not_true_eq_false, w32_id, tLt, fLt, tLe, fEq, itE, and_true, true_and, and_self, and_false, false_and, ↓reduceIte, nat_add, nat_mul3, nat_mul4, nat_mul6, nat_mul15, nat_mul60, nat_cast, nc1, Int.reduceToNat, upE, upN, fill_ne, fill_in, i0]; with_reducible exact Iff.rfl) | with_reducible exact Iff.rfl); intro hc__; (try subst hc__); rotate_left; intro hc__; rotate_left)
    | (with_reducible apply wp_eq; (with_reducible apply cl_go; simp (disch := omega) only [not_false_eq_true, not_true_eq_false, w32_id, tLt, fLt, tLe, fEq, itE, and_true, true_and, and_self, and_false, false_and, ↓reduceIte, nat_add, nat_mul3, nat_mul4, nat_mul6, nat_mul15, nat_mul60, nat_cast, nc1, Int.reduceToNat, upE, upN, fill_ne, fill_in, i0]; with_reducible exact rfl))
    | (with_reducible refine wp_eq (c_Life_runs (by omega) _ _ _ _ _) ?_; with_reducible refine wp_eq (b_Life_runs_0 _ _ _ _ _ _) ?_)
    | with_reducible refine wp_eq (ef) ?_
    | (with_reducible apply wp_eq; (with_reducible apply lf_go; simp (disch := omega) only [not_false_eq_true, not_true_eq_false, w32_id, tLt, fLt, tLe, fEq, itE, and_true, true_and, and_self, and_false, false_and, ↓reduceIte, nat_add, nat_mul3, nat_mul4, nat_mul6, nat_mul15, nat_mul60, nat_cast, nc1, Int.reduceToNat, upE, upN, fill_ne, fill_in, i0]; with_reducible exact rfl))
    | with_reducible apply wp_q1
  exact g
theorem k_life (hd : 26 ≤ d) (hA : ∀ k, k < 572 → M 272 k = A k) (hI : Inv A) (hP : PlA A) {r : Nat → Int} (hr : ∀ o, o < 60 → M 284 o = max 0 (r o - 1)) (hR : RO r) {x : Int} (h0 : 0 ≤ x) (h1 : x ≤ 9999) : Wp (callD d m_Mo_lives [vR 12 0 271, vI x] (SH L) M) (QV L M (lfL 300 A r 0 x T00)) := by
  have nE : ¬isE A 0 := fun q => by
    have := hP.pf.2 0 q.1 q.2
    omega
  repeat' first
    | (with_reducible apply wp_bR; (simp (disch := omega) only [rM L, rK L, rN L, rNf, rNv, rNp, rNd, rRow, rLeg, rMark, nat_cast, Int.reduceToNat]; with_reducible exact rfl))
    | with_reducible apply wp_bI
    | with_reducible apply wp_bV
    | with_reducible apply wp_bL
    | with_reducible apply wp_rI
    | with_reducible apply wp_rV
    | with_reducible apply wp_rL
    | (with_reducible apply wp_1; (first | omega | (simp (disch := omega) only [not_false_eq_true, not_true_eq_false, w32_id, tLt, fLt, tLe, fEq, itE, and_true, true_and, and_self, and_false, false_and, ↓reduceIte, nat_add, nat_mul3, nat_mul4, nat_mul6, nat_mul15, nat_mul60, nat_cast, nc1, Int.reduceToNat, upE, upN, fill_ne, fill_in, i0] <;> omega)))
    | (with_reducible apply wp_2; (first | omega | (simp (disch := omega) only [not_false_eq_true, not_true_eq_false, w32_id, tLt, fLt, tLe, fEq, itE, and_true, true_and, and_self, and_false, false_and, ↓reduceIte, nat_add, nat_mul3, nat_mul4, nat_mul6, nat_mul15, nat_mul60, nat_cast, nc1, Int.reduceToNat, upE, upN, fill_ne, fill_in, i0] <;> omega)))
    | (with_reducible apply wp_s; (first | (simp (disch := omega) only [not_false_eq_true, not_true_eq_false, w32_id, tLt, fLt, tLe, fEq, itE, and_true, true_and, and_self, and_false, false_and, ↓reduceIte, nat_add, nat_mul3, nat_mul4, nat_mul6, nat_mul15, nat_mul60, nat_cast, nc1, Int.reduceToNat, upE, upN, fill_ne, fill_in, i0]; with_reducible exact Iff.rfl) | with_reducible exact Iff.rfl); intro hc__; (try subst hc__); rotate_left; intro hc__; rotate_left)
    | (with_reducible apply wp_eq; (with_reducible apply cl_go; simp (disch := omega) only [not_false_eq_true, not_true_eq_false, w32_id, tLt, fLt, tLe, fEq, itE, and_true, true_and, and_self, and_false, false_and, ↓reduceIte, nat_add, nat_mul3, nat_mul4, nat_mul6, nat_mul15, nat_mul60, nat_cast, nc1, Int.reduceToNat, upE, upN, fill_ne, fill_in, i0]; with_reducible exact rfl))
    | (with_reducible refine wp_eq (c_Mo_lives (by omega) _ _ _ _) ?_; with_reducible refine wp_eq (b_Mo_lives_0 _ _ _ _ _) ?_)
    | (with_reducible apply wp_eq; (with_reducible apply lf_go; simp (disch := omega) only [not_false_eq_true, not_true_eq_false, w32_id, tLt, fLt, tLe, fEq, itE, and_true, true_and, and_self, and_false, false_and, ↓reduceIte, nat_add, nat_mul3, nat_mul4, nat_mul6, nat_mul15, nat_mul60, nat_cast, nc1, Int.reduceToNat, upE, upN, fill_ne, fill_in, i0]; with_reducible exact rfl))
    | with_reducible apply wp_q1
  refine wp_loop (α := Mm) (G := fun i a => Run (callD (d - 1)) tb_Mo_lives 12 [vR 12 0 271, vI x, vI (i : Int), vU] [] (SH L) a) (I := fun i a => (∀ w, w < i → a 285 w = 0) ∧ a 271 35 = x ∧ a 271 36 = 0 ∧ ∀ b j, b ≠ 285 → ¬(b = 271 ∧ (j = 35 ∨ j = 36)) → a b j = M b j) 5 ?_ ?_ 0 _ (by omega) ⟨fun _ h => by omega, by rw [upN (by omega), upE rfl rfl], upE rfl rfl, fun b j q1 q2 => by rw [upN (by omega), upN (by omega)]⟩
  · intro i M1 hi ⟨a1, a2, a3, a4⟩ ih
    refine wp_eq (b_Mo_lives_12 _ _ _ _ _ _ _) ?_
    repeat' first
      | (with_reducible apply wp_bR; (simp (disch := omega) only [rM L, rK L, rN L, rNf, rNv, rNp, rNd, rRow, rLeg, rMark, nat_cast, Int.reduceToNat]; with_reducible exact rfl))
      | with_reducible apply wp_bI
      | with_reducible apply wp_bV
      | with_reducible apply wp_bL
      | with_reducible apply wp_rI
      | with_reducible apply wp_rV
      | with_reducible apply wp_rL
      | (with_reducible apply wp_1; (first | omega | (simp (disch := omega) only [not_false_eq_true, not_true_eq_false, w32_id, tLt, fLt, tLe, fEq, itE, and_true, true_and, and_self, and_false, false_and, ↓reduceIte, nat_add, nat_mul3, nat_mul4, nat_mul6, nat_mul15, nat_mul60, nat_cast, nc1, Int.reduceToNat, upE, upN, fill_ne, fill_in, i0] <;> omega)))
      | (with_reducible apply wp_2; (first | omega | (simp (disch := omega) only [not_false_eq_true, not_true_eq_false, w32_id, tLt, fLt, tLe, fEq, itE, and_true, true_and, and_self, and_false, false_and, ↓reduceIte, nat_add, nat_mul3, nat_mul4, nat_mul6, nat_mul15, nat_mul60, nat_cast, nc1, Int.reduceToNat, upE, upN, fill_ne, fill_in, i0] <;> omega)))
      | (with_reducible apply wp_s; (first | (simp (disch := omega) only [not_false_eq_true, not_true_eq_false, w32_id, tLt, fLt, tLe, fEq, itE, and_true, true_and, and_self, and_false, false_and, ↓reduceIte, nat_add, nat_mul3, nat_mul4, nat_mul6, nat_mul15, nat_mul60, nat_cast, nc1, Int.reduceToNat, upE, upN, fill_ne, fill_in, i0]; with_reducible exact Iff.rfl) | with_reducible exact Iff.rfl); intro hc__; (try subst hc__); rotate_left; intro hc__; rotate_left)
      | (with_reducible apply wp_eq; (with_reducible apply cl_go; simp (disch := omega) only [not_false_eq_true, not_true_eq_false, w32_id, tLt, fLt, tLe, fEq, itE, and_true, true_and, and_self, and_false, false_and, ↓reduceIte, nat_add, nat_mul3, nat_mul4, nat_mul6, nat_mul15, nat_mul60, nat_cast, nc1, Int.reduceToNat, upE, upN, fill_ne, fill_in, i0]; with_reducible exact rfl))
      | (with_reducible apply wp_eq; (with_reducible apply lf_go; simp (disch := omega) only [not_false_eq_true, not_true_eq_false, w32_id, tLt, fLt, tLe, fEq, itE, and_true, true_and, and_self, and_false, false_and, ↓reduceIte, nat_add, nat_mul3, nat_mul4, nat_mul6, nat_mul15, nat_mul60, nat_cast, nc1, Int.reduceToNat, upE, upN, fill_ne, fill_in, i0]; with_reducible exact rfl))
      | with_reducible apply wp_q1
    apply wp_nx ih
    · simp (disch := omega) only [not_false_eq_true, not_true_eq_false, w32_id, tLt, fLt, tLe, fEq, itE, and_true, true_and, and_self, and_false, false_and, ↓reduceIte, nat_add, nat_mul3, nat_mul4, nat_mul6, nat_mul15, nat_mul60, nat_cast, nc1, Int.reduceToNat, upE, upN, fill_ne, fill_in, i0]
      with_reducible rfl
    · refine ⟨fun w hw => ?_, ?_, ?_, fun b j q1 q2 => ?_⟩
      · by_cases e : w = i
        · subst e; simp (disch := omega) only [not_false_eq_true, not_true_eq_false, w32_id, tLt, fLt, tLe, fEq, itE, and_true, true_and, and_self, and_false, false_and, ↓reduceIte, nat_add, nat_mul3, nat_mul4, nat_mul6, nat_mul15, nat_mul60, nat_cast, nc1, Int.reduceToNat, upE, upN, fill_ne, fill_in, i0]
        · simp (disch := omega) only [not_false_eq_true, not_true_eq_false, w32_id, tLt, fLt, tLe, fEq, itE, and_true, true_and, and_self, and_false, false_and, ↓reduceIte, nat_add, nat_mul3, nat_mul4, nat_mul6, nat_mul15, nat_mul60, nat_cast, nc1, Int.reduceToNat, upE, upN, fill_ne, fill_in, i0]; exact a1 w (by omega)
      · simp (disch := omega) only [not_false_eq_true, not_true_eq_false, w32_id, tLt, fLt, tLe, fEq, itE, and_true, true_and, and_self, and_false, false_and, ↓reduceIte, nat_add, nat_mul3, nat_mul4, nat_mul6, nat_mul15, nat_mul60, nat_cast, nc1, Int.reduceToNat, upE, upN, fill_ne, fill_in, i0]; exact a2
      · simp (disch := omega) only [not_false_eq_true, not_true_eq_false, w32_id, tLt, fLt, tLe, fEq, itE, and_true, true_and, and_self, and_false, false_and, ↓reduceIte, nat_add, nat_mul3, nat_mul4, nat_mul6, nat_mul15, nat_mul60, nat_cast, nc1, Int.reduceToNat, upE, upN, fill_ne, fill_in, i0]; exact a3
      · simp (disch := omega) only [not_false_eq_true, not_true_eq_false, w32_id, tLt, fLt, tLe, fEq, itE, and_true, true_and, and_self, and_false, false_and, ↓reduceIte, nat_add, nat_mul3, nat_mul4, nat_mul6, nat_mul15, nat_mul60, nat_cast, nc1, Int.reduceToNat, upE, upN, fill_ne, fill_in, i0]; exact a4 b j q1 q2
  · intro M1 ⟨a1, a2, a3, a4⟩
    refine wp_eq (b_Mo_lives_12 _ _ _ _ _ _ _) ?_
    repeat' first
      | (with_reducible apply wp_bR; (simp (disch := omega) only [rM L, rK L, rN L, rNf, rNv, rNp, rNd, rRow, rLeg, rMark, nat_cast, Int.reduceToNat]; with_reducible exact rfl))
      | with_reducible apply wp_bI
      | with_reducible apply wp_bV
      | with_reducible apply wp_bL
      | with_reducible apply wp_rI
      | with_reducible apply wp_rV
      | with_reducible apply wp_rL
      | (with_reducible apply wp_1; (first | omega | (simp (disch := omega) only [not_false_eq_true, not_true_eq_false, w32_id, tLt, fLt, tLe, fEq, itE, and_true, true_and, and_self, and_false, false_and, ↓reduceIte, nat_add, nat_mul3, nat_mul4, nat_mul6, nat_mul15, nat_mul60, nat_cast, nc1, Int.reduceToNat, upE, upN, fill_ne, fill_in, i0] <;> omega)))
      | (with_reducible apply wp_2; (first | omega | (simp (disch := omega) only [not_false_eq_true, not_true_eq_false, w32_id, tLt, fLt, tLe, fEq, itE, and_true, true_and, and_self, and_false, false_and, ↓reduceIte, nat_add, nat_mul3, nat_mul4, nat_mul6, nat_mul15, nat_mul60, nat_cast, nc1, Int.reduceToNat, upE, upN, fill_ne, fill_in, i0] <;> omega)))
      | (with_reducible apply wp_s; (first | (simp (disch := omega) only [not_false_eq_true, not_true_eq_false, w32_id, tLt, fLt, tLe, fEq, itE, and_true, true_and, and_self, and_false, false_and, ↓reduceIte, nat_add, nat_mul3, nat_mul4, nat_mul6, nat_mul15, nat_mul60, nat_cast, nc1, Int.reduceToNat, upE, upN, fill_ne, fill_in, i0]; with_reducible exact Iff.rfl) | with_reducible exact Iff.rfl); intro hc__; (try subst hc__); rotate_left; intro hc__; rotate_left)
      | (with_reducible apply wp_eq; (with_reducible apply cl_go; simp (disch := omega) only [not_false_eq_true, not_true_eq_false, w32_id, tLt, fLt, tLe, fEq, itE, and_true, true_and, and_self, and_false, false_and, ↓reduceIte, nat_add, nat_mul3, nat_mul4, nat_mul6, nat_mul15, nat_mul60, nat_cast, nc1, Int.reduceToNat, upE, upN, fill_ne, fill_in, i0]; with_reducible exact rfl))
      | (with_reducible apply wp_eq; (with_reducible apply lf_go; simp (disch := omega) only [not_false_eq_true, not_true_eq_false, w32_id, tLt, fLt, tLe, fEq, itE, and_true, true_and, and_self, and_false, false_and, ↓reduceIte, nat_add, nat_mul3, nat_mul4, nat_mul6, nat_mul15, nat_mul60, nat_cast, nc1, Int.reduceToNat, upE, upN, fill_ne, fill_in, i0]; with_reducible exact rfl))
      | with_reducible apply wp_q1
    have mr : MR M1 A r x T00 := ⟨fun k hk => by rw [a4 _ _ (by omega) (by omega)]; exact hA k hk, hI, fun o ho => by rw [a4 _ _ (by omega) (by omega)]; exact hr o ho, a2, fun w hw => a1 w hw⟩
    exact k_runs (by omega) 300 A r 0 x T00 M M1 _ (by omega) mr (by rw [a3]; rfl) hR ⟨h0, by omega⟩ rfl hP (by omega) nE fun b j q1 q2 q3 q4 q5 => a4 b j q4 q5
end

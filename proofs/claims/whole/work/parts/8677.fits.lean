/-! whether a load of two goods fits a log, in the class -/
section
variable {M : Mm} {A : Nat → Int} {L d c : Nat}
theorem o_two (hd : 1 ≤ d) (hc : isCh c) (hW : ChW M c A) (hC' : Cn A) (hG : Gd A) {a b : Nat} {x y : Int} (ha : (a : Int) < A 1) (hb : (b : Int) < A 1) (hx : 0 ≤ x ∧ x ≤ 60) (hy : 0 ≤ y ∧ y ≤ 60) : Wp (callD d m_Outlook_flagOfTwo [vR 0 0 c, vI (a : Int), vI x, vI (b : Int), vI y] (SH L) M) (fun r S M' => r = some (vI (f2 A a x b y)) ∧ S = SH L ∧ M' = M) := by
  have hC := hC'
  unfold Cn at hC
  obtain ⟨g1, g2, g3⟩ := hW.2.2.2.1 a ha
  obtain ⟨k1', k2, k3⟩ := hW.2.2.2.1 b hb
  have l := hW.2.1
  obtain ⟨ga1, ga2, ga3, ga4, -⟩ := hG a ha
  obtain ⟨gb1, gb2, gb3, gb4, -⟩ := hG b hb
  have m1 := mul_bd hx.1 hx.2 (show 0 ≤ A (33 + 3 * a) by omega) ga4
  have m2 := mul_bd hy.1 hy.2 (show 0 ≤ A (33 + 3 * b) by omega) gb4
  repeat' first
    | (with_reducible apply wp_bR; (simp (disch := omega) only [rM L, rK L, rN L, rNf, rNv, rNp, rNd, rRow, rLeg, rMark, nat_cast, Int.reduceToNat, rC hc, g1, g2, k1', k2, l]; with_reducible exact rfl))
    | with_reducible apply wp_bI
    | with_reducible apply wp_bV
    | with_reducible apply wp_bL
    | with_reducible apply wp_rI
    | with_reducible apply wp_rV
    | with_reducible apply wp_rL
    | (with_reducible apply wp_1; (first | omega | (simp (disch := omega) only [not_false_eq_true, not_true_eq_false, w32_id, tLt, fLt, tLe, fEq, itE, and_true, true_and, and_self, and_false, false_and, ↓reduceIte, nat_add, nat_mul3, nat_mul4, nat_mul6, nat_mul15, nat_mul60, nat_cast, nc1, Int.reduceToNat, upE, upN, fill_ne, fill_in, i0, rC hc, g1, g2, k1', k2, l] <;> omega)))
    | (with_reducible apply wp_2; (first | omega | (simp (disch := omega) only [not_false_eq_true, not_true_eq_false, w32_id, tLt, fLt, tLe, fEq, itE, and_true, true_and, and_self, and_false, false_and, ↓reduceIte, nat_add, nat_mul3, nat_mul4, nat_mul6, nat_mul15, nat_mul60, nat_cast, nc1, Int.reduceToNat, upE, upN, fill_ne, fill_in, i0, rC hc, g1, g2, k1', k2, l] <;> omega)))
    | (with_reducible apply wp_s; (first | (simp (disch := omega) only [not_false_eq_true, not_true_eq_false, w32_id, tLt, fLt, tLe, fEq, itE, and_true, true_and, and_self, and_false, false_and, ↓reduceIte, nat_add, nat_mul3, nat_mul4, nat_mul6, nat_mul15, nat_mul60, nat_cast, nc1, Int.reduceToNat, upE, upN, fill_ne, fill_in, i0, rC hc, g1, g2, k1', k2, l]; with_reducible exact Iff.rfl) | with_reducible exact Iff.rfl); intro hc__; (try subst hc__); rotate_left; intro hc__; rotate_left)
    | (with_reducible apply wp_eq; (with_reducible apply cl_go; simp (disch := omega) only [not_false_eq_true, not_true_eq_false, w32_id, tLt, fLt, tLe, fEq, itE, and_true, true_and, and_self, and_false, false_and, ↓reduceIte, nat_add, nat_mul3, nat_mul4, nat_mul6, nat_mul15, nat_mul60, nat_cast, nc1, Int.reduceToNat, upE, upN, fill_ne, fill_in, i0, rC hc, g1, g2, k1', k2, l]; with_reducible exact rfl))
    | (with_reducible refine wp_eq (c_Outlook_flagOfTwo (by omega) _ _ _ _ _ _ _) ?_; with_reducible refine wp_eq (b_Outlook_flagOfTwo_0 _ _ _ _ _ _ _ _) ?_)
    | (with_reducible apply wp_eq; (with_reducible apply lf_go; simp (disch := omega) only [not_false_eq_true, not_true_eq_false, w32_id, tLt, fLt, tLe, fEq, itE, and_true, true_and, and_self, and_false, false_and, ↓reduceIte, nat_add, nat_mul3, nat_mul4, nat_mul6, nat_mul15, nat_mul60, nat_cast, nc1, Int.reduceToNat, upE, upN, fill_ne, fill_in, i0, rC hc, g1, g2, k1', k2, l]; with_reducible exact rfl))
    | with_reducible apply wp_q1
  all_goals done
end

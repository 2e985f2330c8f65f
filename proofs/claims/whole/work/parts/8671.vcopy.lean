/-! a copy of a vessel -/
section
variable {M : Mm} {A B : Nat → Int} {L d v w c : Nat}
theorem v_copy (hd : 1 ≤ d) (hv : isV v) (hw : isV w) (hvw : v + 1 < w ∨ w + 1 < v) (hW : VsW M w B) : Wp (callD d m_Vessel_copyFrom [vR 8 0 v, vR 8 0 w] (SH L) M) (QVs L v c M B none) := by
  have h0 := hW.1
  repeat' first
    | (with_reducible apply wp_bR; (simp (disch := omega) only [rM L, rK L, rN L, rNf, rNv, rNp, rNd, rRow, rLeg, rMark, nat_cast, Int.reduceToNat, rV hv, rV hw, h0]; with_reducible exact rfl))
    | with_reducible apply wp_bI
    | with_reducible apply wp_bV
    | with_reducible apply wp_bL
    | with_reducible apply wp_rI
    | with_reducible apply wp_rV
    | with_reducible apply wp_rL
    | (with_reducible apply wp_1; (first | omega | (simp (disch := omega) only [not_false_eq_true, not_true_eq_false, w32_id, tLt, fLt, tLe, fEq, itE, and_true, true_and, and_self, and_false, false_and, ↓reduceIte, nat_add, nat_mul3, nat_mul4, nat_mul6, nat_mul15, nat_mul60, nat_cast, nc1, Int.reduceToNat, upE, upN, fill_ne, fill_in, i0, rV hv, rV hw, h0] <;> omega)))
    | (with_reducible apply wp_2; (first | omega | (simp (disch := omega) only [not_false_eq_true, not_true_eq_false, w32_id, tLt, fLt, tLe, fEq, itE, and_true, true_and, and_self, and_false, false_and, ↓reduceIte, nat_add, nat_mul3, nat_mul4, nat_mul6, nat_mul15, nat_mul60, nat_cast, nc1, Int.reduceToNat, upE, upN, fill_ne, fill_in, i0, rV hv, rV hw, h0] <;> omega)))
    | (with_reducible apply wp_s; (first | (simp (disch := omega) only [not_false_eq_true, not_true_eq_false, w32_id, tLt, fLt, tLe, fEq, itE, and_true, true_and, and_self, and_false, false_and, ↓reduceIte, nat_add, nat_mul3, nat_mul4, nat_mul6, nat_mul15, nat_mul60, nat_cast, nc1, Int.reduceToNat, upE, upN, fill_ne, fill_in, i0, rV hv, rV hw, h0]; with_reducible exact Iff.rfl) | with_reducible exact Iff.rfl); intro hc__; (try subst hc__); rotate_left; intro hc__; rotate_left)
    | (with_reducible apply wp_eq; (with_reducible apply cl_go; simp (disch := omega) only [not_false_eq_true, not_true_eq_false, w32_id, tLt, fLt, tLe, fEq, itE, and_true, true_and, and_self, and_false, false_and, ↓reduceIte, nat_add, nat_mul3, nat_mul4, nat_mul6, nat_mul15, nat_mul60, nat_cast, nc1, Int.reduceToNat, upE, upN, fill_ne, fill_in, i0, rV hv, rV hw, h0]; with_reducible exact rfl))
    | (with_reducible refine wp_eq (c_Vessel_copyFrom (by omega) _ _ _ _) ?_; with_reducible refine wp_eq (b_Vessel_copyFrom_0 _ _ _ _ _) ?_)
    | (with_reducible apply wp_eq; (with_reducible apply lf_go; simp (disch := omega) only [not_false_eq_true, not_true_eq_false, w32_id, tLt, fLt, tLe, fEq, itE, and_true, true_and, and_self, and_false, false_and, ↓reduceIte, nat_add, nat_mul3, nat_mul4, nat_mul6, nat_mul15, nat_mul60, nat_cast, nc1, Int.reduceToNat, upE, upN, fill_ne, fill_in, i0, rV hv, rV hw, h0]; with_reducible exact rfl))
    | with_reducible apply wp_q1
  refine wp_vs rfl ⟨fun k hk => ?_, fun g hg => ?_⟩ fun b j q1 q2 _ => ?_
  · rw [cpN (by omega)]
    rcases k with _ | _ | _ | _ | _ | _ | _ | k
    · simp (disch := omega) only [upN, upE]
    · simp (disch := omega) only [upN, upE]
    · simp (disch := omega) only [upN, upE]
    · simp (disch := omega) only [upN, upE]
    · simp (disch := omega) only [upN, upE]
    · simp (disch := omega) only [upN, upE]
    · simp (disch := omega) only [upN, upE]
    · omega
  · rw [cpI rfl (by omega) (by omega)]
    simp (disch := omega) only [upN]
    rw [show 0 + (g - 0) = g by omega]
    exact hW.2 g hg
  · rw [cpN (by omega)]
    simp (disch := omega) only [upN]
end

/-! copies of a slot, in the model -/
section
variable {M : Mm} {L d : Nat}
theorem m_copies (hd : 1 ≤ d) {f t : Nat} (hf : f < 4) (ht : t < 4) (hft : f ≠ t) : callD d m_Mo_copies [vR 12 0 271, vI (f : Int), vI (t : Int)] (SH L) M = some (none, SH L, fillR (fillR M 272 (572 * t) (fun k => M 272 (572 * f + k)) 572) 273 (24 * t) (fun k => M 273 (24 * f + k)) 24) := by
  have st1 : ∀ k : Nat, k < 572 → Run (callD (d - 1)) tb_Mo_copies 2 [vR 12 0 271, vI (f : Int), vI (t : Int), vI (k : Int)] [] (SH L) (fillR M 272 (572 * t) (fun k => M 272 (572 * f + k)) k) = Run (callD (d - 1)) tb_Mo_copies 2 [vR 12 0 271, vI (f : Int), vI (t : Int), vI ((k + 1 : Nat) : Int)] [] (SH L) (fillR M 272 (572 * t) (fun k => M 272 (572 * f + k)) (k + 1)) := by
    intro k hk
    have e1 : (572 * (t : Int) + k).toNat = 572 * t + k := by omega
    have e2 : (572 * (f : Int) + k).toNat = 572 * f + k := by omega
    have e3 : fillR M 272 (572 * t) (fun k => M 272 (572 * f + k)) k 272 (572 * f + k) = M 272 (572 * f + k) := fillR_ne (by omega)
    rw [b_Mo_copies_2, ← fillR_s M 272 (572 * t) (fun k => M 272 (572 * f + k)) k rfl]
    repeat' first
      | (with_reducible apply bR_go; (simp (disch := omega) only [rM L, rK L, rN L, rNf, rNv, rNp, rNd, rRow, rLeg, rMark, nat_cast, Int.reduceToNat, e1, e2, e3]; with_reducible exact rfl))
      | with_reducible apply bI_go
      | with_reducible apply bV_go
      | with_reducible apply bL_go
      | (with_reducible apply it_1; (first | omega | (simp (disch := omega) only [not_false_eq_true, not_true_eq_false, w32_id, tLt, fLt, tLe, fEq, itE, and_true, true_and, and_self, and_false, false_and, ↓reduceIte, nat_add, nat_mul3, nat_mul4, nat_mul6, nat_mul15, nat_mul60, nat_cast, nc1, Int.reduceToNat, upE, upN, fill_ne, fill_in, i0, e1, e2, e3] <;> omega)))
      | (with_reducible apply it_2; (first | omega | (simp (disch := omega) only [not_false_eq_true, not_true_eq_false, w32_id, tLt, fLt, tLe, fEq, itE, and_true, true_and, and_self, and_false, false_and, ↓reduceIte, nat_add, nat_mul3, nat_mul4, nat_mul6, nat_mul15, nat_mul60, nat_cast, nc1, Int.reduceToNat, upE, upN, fill_ne, fill_in, i0, e1, e2, e3] <;> omega)))
      | (with_reducible refine cl_go ?_; simp (disch := omega) only [not_false_eq_true, not_true_eq_false, w32_id, tLt, fLt, tLe, fEq, itE, and_true, true_and, and_self, and_false, false_and, ↓reduceIte, nat_add, nat_mul3, nat_mul4, nat_mul6, nat_mul15, nat_mul60, nat_cast, nc1, Int.reduceToNat, upE, upN, fill_ne, fill_in, i0, e1, e2, e3])
      | (with_reducible refine rn_go ?_; simp (disch := omega) only [not_false_eq_true, not_true_eq_false, w32_id, tLt, fLt, tLe, fEq, itE, and_true, true_and, and_self, and_false, false_and, ↓reduceIte, nat_add, nat_mul3, nat_mul4, nat_mul6, nat_mul15, nat_mul60, nat_cast, nc1, Int.reduceToNat, upE, upN, fill_ne, fill_in, i0, e1, e2, e3])
      | (with_reducible refine lf_go ?_; simp (disch := omega) only [not_false_eq_true, not_true_eq_false, w32_id, tLt, fLt, tLe, fEq, itE, and_true, true_and, and_self, and_false, false_and, ↓reduceIte, nat_add, nat_mul3, nat_mul4, nat_mul6, nat_mul15, nat_mul60, nat_cast, nc1, Int.reduceToNat, upE, upN, fill_ne, fill_in, i0, e1, e2, e3])
      | with_reducible exact rfl
  generalize hM1 : fillR M 272 (572 * t) (fun k => M 272 (572 * f + k)) 572 = M1
  have r3 : ∀ j, M1 273 j = M 273 j := fun j => by rw [← hM1]; exact fillR_ne (by omega)
  have st2 : ∀ k : Nat, k < 24 → Run (callD (d - 1)) tb_Mo_copies 41 [vR 12 0 271, vI (f : Int), vI (t : Int), vI (k : Int)] [] (SH L) (fillR M1 273 (24 * t) (fun k => M 273 (24 * f + k)) k) = Run (callD (d - 1)) tb_Mo_copies 41 [vR 12 0 271, vI (f : Int), vI (t : Int), vI ((k + 1 : Nat) : Int)] [] (SH L) (fillR M1 273 (24 * t) (fun k => M 273 (24 * f + k)) (k + 1)) := by
    intro k hk
    have e1 : (24 * (t : Int) + k).toNat = 24 * t + k := by omega
    have e2 : (24 * (f : Int) + k).toNat = 24 * f + k := by omega
    have e3 : fillR M1 273 (24 * t) (fun k => M 273 (24 * f + k)) k 273 (24 * f + k) = M 273 (24 * f + k) := by rw [fillR_ne (by omega)]; exact r3 _
    rw [b_Mo_copies_41, ← fillR_s M1 273 (24 * t) (fun k => M 273 (24 * f + k)) k rfl]
    repeat' first
      | (with_reducible apply bR_go; (simp (disch := omega) only [rM L, rK L, rN L, rNf, rNv, rNp, rNd, rRow, rLeg, rMark, nat_cast, Int.reduceToNat, e1, e2, e3]; with_reducible exact rfl))
      | with_reducible apply bI_go
      | with_reducible apply bV_go
      | with_reducible apply bL_go
      | (with_reducible apply it_1; (first | omega | (simp (disch := omega) only [not_false_eq_true, not_true_eq_false, w32_id, tLt, fLt, tLe, fEq, itE, and_true, true_and, and_self, and_false, false_and, ↓reduceIte, nat_add, nat_mul3, nat_mul4, nat_mul6, nat_mul15, nat_mul60, nat_cast, nc1, Int.reduceToNat, upE, upN, fill_ne, fill_in, i0, e1, e2, e3] <;> omega)))
      | (with_reducible apply it_2; (first | omega | (simp (disch := omega) only [not_false_eq_true, not_true_eq_false, w32_id, tLt, fLt, tLe, fEq, itE, and_true, true_and, and_self, and_false, false_and, ↓reduceIte, nat_add, nat_mul3, nat_mul4, nat_mul6, nat_mul15, nat_mul60, nat_cast, nc1, Int.reduceToNat, upE, upN, fill_ne, fill_in, i0, e1, e2, e3] <;> omega)))
      | (with_reducible refine cl_go ?_; simp (disch := omega) only [not_false_eq_true, not_true_eq_false, w32_id, tLt, fLt, tLe, fEq, itE, and_true, true_and, and_self, and_false, false_and, ↓reduceIte, nat_add, nat_mul3, nat_mul4, nat_mul6, nat_mul15, nat_mul60, nat_cast, nc1, Int.reduceToNat, upE, upN, fill_ne, fill_in, i0, e1, e2, e3])
      | (with_reducible refine rn_go ?_; simp (disch := omega) only [not_false_eq_true, not_true_eq_false, w32_id, tLt, fLt, tLe, fEq, itE, and_true, true_and, and_self, and_false, false_and, ↓reduceIte, nat_add, nat_mul3, nat_mul4, nat_mul6, nat_mul15, nat_mul60, nat_cast, nc1, Int.reduceToNat, upE, upN, fill_ne, fill_in, i0, e1, e2, e3])
      | (with_reducible refine lf_go ?_; simp (disch := omega) only [not_false_eq_true, not_true_eq_false, w32_id, tLt, fLt, tLe, fEq, itE, and_true, true_and, and_self, and_false, false_and, ↓reduceIte, nat_add, nat_mul3, nat_mul4, nat_mul6, nat_mul15, nat_mul60, nat_cast, nc1, Int.reduceToNat, upE, upN, fill_ne, fill_in, i0, e1, e2, e3])
      | with_reducible exact rfl
  rw [c_Mo_copies hd, b_Mo_copies_0]
  have e := loop_up (fun k => Run (callD (d - 1)) tb_Mo_copies 2 [vR 12 0 271, vI (f : Int), vI (t : Int), vI (k : Int)] [] (SH L) (fillR M 272 (572 * t) (fun k => M 272 (572 * f + k)) k)) 572 st1 0 (by omega)
  rw [fillR_0, hM1] at e
  refine e.trans ?_
  rw [b_Mo_copies_2]
  have e' := loop_up (fun k => Run (callD (d - 1)) tb_Mo_copies 41 [vR 12 0 271, vI (f : Int), vI (t : Int), vI (k : Int)] [] (SH L) (fillR M1 273 (24 * t) (fun k => M 273 (24 * f + k)) k)) 24 st2 0 (by omega)
  rw [fillR_0] at e'
  have en : Run (callD (d - 1)) tb_Mo_copies 41 [vR 12 0 271, vI (f : Int), vI (t : Int), vI ((24 : Nat) : Int)] [] (SH L) (fillR M1 273 (24 * t) (fun k => M 273 (24 * f + k)) 24) = some (none, SH L, fillR M1 273 (24 * t) (fun k => M 273 (24 * f + k)) 24) := by
    rw [b_Mo_copies_41]
    repeat' first
      | (with_reducible apply bR_go; (simp (disch := omega) only [rM L, rK L, rN L, rNf, rNv, rNp, rNd, rRow, rLeg, rMark, nat_cast, Int.reduceToNat]; with_reducible exact rfl))
      | with_reducible apply bI_go
      | with_reducible apply bV_go
      | with_reducible apply bL_go
      | (with_reducible apply it_1; (first | omega | (simp (disch := omega) only [not_false_eq_true, not_true_eq_false, w32_id, tLt, fLt, tLe, fEq, itE, and_true, true_and, and_self, and_false, false_and, ↓reduceIte, nat_add, nat_mul3, nat_mul4, nat_mul6, nat_mul15, nat_mul60, nat_cast, nc1, Int.reduceToNat, upE, upN, fill_ne, fill_in, i0] <;> omega)))
      | (with_reducible apply it_2; (first | omega | (simp (disch := omega) only [not_false_eq_true, not_true_eq_false, w32_id, tLt, fLt, tLe, fEq, itE, and_true, true_and, and_self, and_false, false_and, ↓reduceIte, nat_add, nat_mul3, nat_mul4, nat_mul6, nat_mul15, nat_mul60, nat_cast, nc1, Int.reduceToNat, upE, upN, fill_ne, fill_in, i0] <;> omega)))
      | (with_reducible refine cl_go ?_; simp (disch := omega) only [not_false_eq_true, not_true_eq_false, w32_id, tLt, fLt, tLe, fEq, itE, and_true, true_and, and_self, and_false, false_and, ↓reduceIte, nat_add, nat_mul3, nat_mul4, nat_mul6, nat_mul15, nat_mul60, nat_cast, nc1, Int.reduceToNat, upE, upN, fill_ne, fill_in, i0])
      | (with_reducible refine rn_go ?_; simp (disch := omega) only [not_false_eq_true, not_true_eq_false, w32_id, tLt, fLt, tLe, fEq, itE, and_true, true_and, and_self, and_false, false_and, ↓reduceIte, nat_add, nat_mul3, nat_mul4, nat_mul6, nat_mul15, nat_mul60, nat_cast, nc1, Int.reduceToNat, upE, upN, fill_ne, fill_in, i0])
      | (with_reducible refine lf_go ?_; simp (disch := omega) only [not_false_eq_true, not_true_eq_false, w32_id, tLt, fLt, tLe, fEq, itE, and_true, true_and, and_self, and_false, false_and, ↓reduceIte, nat_add, nat_mul3, nat_mul4, nat_mul6, nat_mul15, nat_mul60, nat_cast, nc1, Int.reduceToNat, upE, upN, fill_ne, fill_in, i0])
      | with_reducible exact rfl
  rw [if_neg (by omega)]
  exact e'.trans en
end

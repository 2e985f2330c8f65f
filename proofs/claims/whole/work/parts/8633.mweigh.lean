/-! THE MODEL: weights, captains, flags -/
def fillP (M : Mm) (a : Nat) (f : Nat → Int) (k : Nat) : Mm := fun b j => if b = a ∧ j < k then f j else M b j
theorem fill_0 (M : Mm) (a : Nat) (f : Nat → Int) : fillP M a f 0 = M := by
  funext b j
  unfold fillP
  rw [if_neg (by omega)]
theorem fill_s (M : Mm) (a : Nat) (f : Nat → Int) (k : Nat) {v : Int} (hv : v = f k) : up (fillP M a f k) a k v = fillP M a f (k + 1) := by
  funext b j
  unfold up fillP
  by_cases h : b = a ∧ j = k
  · rw [if_pos h, if_pos (by omega), h.2, hv]
  · rw [if_neg h]
    by_cases h1 : b = a ∧ j < k
    · rw [if_pos h1, if_pos (by omega)]
    · rw [if_neg h1, if_neg (by omega)]
theorem fill_ne {M : Mm} {a : Nat} {f : Nat → Int} {k b j : Nat} (h : b ≠ a ∨ k ≤ j) : fillP M a f k b j = M b j := by
  unfold fillP
  rw [if_neg (by omega)]
theorem fill_in {M : Mm} {a : Nat} {f : Nat → Int} {k b j : Nat} (h : b = a) (h' : j < k) : fillP M a f k b j = f j := by
  unfold fillP
  rw [if_pos ⟨h, h'⟩]
theorem s_Mo_weightOf {d L : Nat} {M : Mm} {A ld : Nat → Int} {n r : Int} (hd : 2 ≤ d) (hA : ∀ k, k < 206 → M 272 k = A k) (hl : ∀ g : Nat, (g : Int) < A 1 → M 280 g = ld g) (hC : Cn A) (hG : Gd A) (hL : Ld ld) : callD d m_Mo_weightOf [vR 12 0 271, vI n, vI r] (SH L) M = some (some (vI (wts A ld r n)), SH L, M) := by
  have hC' := hC
  unfold Cn at hC'
  have st : ∀ k : Nat, k < (A 1).toNat → Run (callD (d - 1)) tb_Mo_weightOf 5 [vR 12 0 271, vI n, vI r, vI (wt A ld r n k), vI (k : Int)] [] (SH L) M = Run (callD (d - 1)) tb_Mo_weightOf 5 [vR 12 0 271, vI n, vI r, vI (wt A ld r n (k + 1)), vI ((k + 1 : Nat) : Int)] [] (SH L) M := by
    intro k hk
    have hg := hG k (by omega)
    have hl' := hL k (by omega)
    have hb := wt_bd (r := r) (n := n) hG hL (by omega) k (by omega)
    have hp := mul_bd hl'.1 hl'.2 (show 0 ≤ A (33 + 3 * k) by omega) hg.2.2.2.1
    rw [b_Mo_weightOf_5, wt_s]
    by_cases h1 : A (32 + 3 * k) = n
    · by_cases h2 : ld k = 0
      · rw [if_neg (by omega), Int.add_zero]
        repeat' first
          | (with_reducible apply bR_go; (simp (disch := omega) only [rM L, rK L, rN L, rNf, rNv, rNp, rNd, rRow, rLeg, rMark, nat_cast, Int.reduceToNat, hA, hl, h1, h2]; with_reducible exact rfl))
          | with_reducible apply bI_go
          | with_reducible apply bV_go
          | with_reducible apply bL_go
          | (with_reducible apply it_1; (first | omega | (simp (disch := omega) only [not_false_eq_true, not_true_eq_false, w32_id, tLt, fLt, tLe, fEq, itE, and_true, true_and, and_self, and_false, false_and, ↓reduceIte, nat_add, nat_mul3, nat_mul4, nat_mul6, nat_mul15, nat_mul60, nat_cast, nc1, Int.reduceToNat, upE, upN, i0, hA, hl, h1, h2] <;> omega)))
          | (with_reducible apply it_2; (first | omega | (simp (disch := omega) only [not_false_eq_true, not_true_eq_false, w32_id, tLt, fLt, tLe, fEq, itE, and_true, true_and, and_self, and_false, false_and, ↓reduceIte, nat_add, nat_mul3, nat_mul4, nat_mul6, nat_mul15, nat_mul60, nat_cast, nc1, Int.reduceToNat, upE, upN, i0, hA, hl, h1, h2] <;> omega)))
          | (with_reducible refine cl_go ?_; simp (disch := omega) only [not_false_eq_true, not_true_eq_false, w32_id, tLt, fLt, tLe, fEq, itE, and_true, true_and, and_self, and_false, false_and, ↓reduceIte, nat_add, nat_mul3, nat_mul4, nat_mul6, nat_mul15, nat_mul60, nat_cast, nc1, Int.reduceToNat, upE, upN, i0, hA, hl, h1, h2])
          | rw [c_Mo_goodRow (by omega), b_Mo_goodRow_0]
          | (with_reducible refine rn_go ?_; simp (disch := omega) only [not_false_eq_true, not_true_eq_false, w32_id, tLt, fLt, tLe, fEq, itE, and_true, true_and, and_self, and_false, false_and, ↓reduceIte, nat_add, nat_mul3, nat_mul4, nat_mul6, nat_mul15, nat_mul60, nat_cast, nc1, Int.reduceToNat, upE, upN, i0, hA, hl, h1, h2])
          | (with_reducible refine lf_go ?_; simp (disch := omega) only [not_false_eq_true, not_true_eq_false, w32_id, tLt, fLt, tLe, fEq, itE, and_true, true_and, and_self, and_false, false_and, ↓reduceIte, nat_add, nat_mul3, nat_mul4, nat_mul6, nat_mul15, nat_mul60, nat_cast, nc1, Int.reduceToNat, upE, upN, i0, hA, hl, h1, h2])
          | with_reducible exact rfl
      · have h3 : 0 < ld k := by omega
        rw [if_pos ⟨h1, h3⟩]
        by_cases h4 : r = 0
        · rw [if_pos h4]
          repeat' first
            | (with_reducible apply bR_go; (simp (disch := omega) only [rM L, rK L, rN L, rNf, rNv, rNp, rNd, rRow, rLeg, rMark, nat_cast, Int.reduceToNat, hA, hl, h1]; with_reducible exact rfl))
            | with_reducible apply bI_go
            | with_reducible apply bV_go
            | with_reducible apply bL_go
            | (with_reducible apply it_1; (first | omega | (simp (disch := omega) only [not_false_eq_true, not_true_eq_false, w32_id, tLt, fLt, tLe, fEq, itE, and_true, true_and, and_self, and_false, false_and, ↓reduceIte, nat_add, nat_mul3, nat_mul4, nat_mul6, nat_mul15, nat_mul60, nat_cast, nc1, Int.reduceToNat, upE, upN, i0, hA, hl, h1] <;> omega)))
            | (with_reducible apply it_2; (first | omega | (simp (disch := omega) only [not_false_eq_true, not_true_eq_false, w32_id, tLt, fLt, tLe, fEq, itE, and_true, true_and, and_self, and_false, false_and, ↓reduceIte, nat_add, nat_mul3, nat_mul4, nat_mul6, nat_mul15, nat_mul60, nat_cast, nc1, Int.reduceToNat, upE, upN, i0, hA, hl, h1] <;> omega)))
            | (with_reducible refine cl_go ?_; simp (disch := omega) only [not_false_eq_true, not_true_eq_false, w32_id, tLt, fLt, tLe, fEq, itE, and_true, true_and, and_self, and_false, false_and, ↓reduceIte, nat_add, nat_mul3, nat_mul4, nat_mul6, nat_mul15, nat_mul60, nat_cast, nc1, Int.reduceToNat, upE, upN, i0, hA, hl, h1])
            | rw [c_Mo_goodRow (by omega), b_Mo_goodRow_0]
            | (with_reducible refine rn_go ?_; simp (disch := omega) only [not_false_eq_true, not_true_eq_false, w32_id, tLt, fLt, tLe, fEq, itE, and_true, true_and, and_self, and_false, false_and, ↓reduceIte, nat_add, nat_mul3, nat_mul4, nat_mul6, nat_mul15, nat_mul60, nat_cast, nc1, Int.reduceToNat, upE, upN, i0, hA, hl, h1])
            | (with_reducible refine lf_go ?_; simp (disch := omega) only [not_false_eq_true, not_true_eq_false, w32_id, tLt, fLt, tLe, fEq, itE, and_true, true_and, and_self, and_false, false_and, ↓reduceIte, nat_add, nat_mul3, nat_mul4, nat_mul6, nat_mul15, nat_mul60, nat_cast, nc1, Int.reduceToNat, upE, upN, i0, hA, hl, h1])
            | with_reducible exact rfl
        · by_cases h5 : r = 1
          · rw [if_neg h4, if_pos h5]
            repeat' first
              | (with_reducible apply bR_go; (simp (disch := omega) only [rM L, rK L, rN L, rNf, rNv, rNp, rNd, rRow, rLeg, rMark, nat_cast, Int.reduceToNat, hA, hl, h1]; with_reducible exact rfl))
              | with_reducible apply bI_go
              | with_reducible apply bV_go
              | with_reducible apply bL_go
              | (with_reducible apply it_1; (first | omega | (simp (disch := omega) only [not_false_eq_true, not_true_eq_false, w32_id, tLt, fLt, tLe, fEq, itE, and_true, true_and, and_self, and_false, false_and, ↓reduceIte, nat_add, nat_mul3, nat_mul4, nat_mul6, nat_mul15, nat_mul60, nat_cast, nc1, Int.reduceToNat, upE, upN, i0, hA, hl, h1] <;> omega)))
              | (with_reducible apply it_2; (first | omega | (simp (disch := omega) only [not_false_eq_true, not_true_eq_false, w32_id, tLt, fLt, tLe, fEq, itE, and_true, true_and, and_self, and_false, false_and, ↓reduceIte, nat_add, nat_mul3, nat_mul4, nat_mul6, nat_mul15, nat_mul60, nat_cast, nc1, Int.reduceToNat, upE, upN, i0, hA, hl, h1] <;> omega)))
              | (with_reducible refine cl_go ?_; simp (disch := omega) only [not_false_eq_true, not_true_eq_false, w32_id, tLt, fLt, tLe, fEq, itE, and_true, true_and, and_self, and_false, false_and, ↓reduceIte, nat_add, nat_mul3, nat_mul4, nat_mul6, nat_mul15, nat_mul60, nat_cast, nc1, Int.reduceToNat, upE, upN, i0, hA, hl, h1])
              | rw [c_Mo_goodRow (by omega), b_Mo_goodRow_0]
              | (with_reducible refine rn_go ?_; simp (disch := omega) only [not_false_eq_true, not_true_eq_false, w32_id, tLt, fLt, tLe, fEq, itE, and_true, true_and, and_self, and_false, false_and, ↓reduceIte, nat_add, nat_mul3, nat_mul4, nat_mul6, nat_mul15, nat_mul60, nat_cast, nc1, Int.reduceToNat, upE, upN, i0, hA, hl, h1])
              | (with_reducible refine lf_go ?_; simp (disch := omega) only [not_false_eq_true, not_true_eq_false, w32_id, tLt, fLt, tLe, fEq, itE, and_true, true_and, and_self, and_false, false_and, ↓reduceIte, nat_add, nat_mul3, nat_mul4, nat_mul6, nat_mul15, nat_mul60, nat_cast, nc1, Int.reduceToNat, upE, upN, i0, hA, hl, h1])
              | with_reducible exact rfl
          · rw [if_neg h4, if_neg h5]
            have e : 32 + 3 * k + 1 = 33 + 3 * k := by omega
            repeat' first
              | (with_reducible apply bR_go; (simp (disch := omega) only [rM L, rK L, rN L, rNf, rNv, rNp, rNd, rRow, rLeg, rMark, nat_cast, Int.reduceToNat, hA, hl, h1, e]; with_reducible exact rfl))
              | with_reducible apply bI_go
              | with_reducible apply bV_go
              | with_reducible apply bL_go
              | (with_reducible apply it_1; (first | omega | (simp (disch := omega) only [not_false_eq_true, not_true_eq_false, w32_id, tLt, fLt, tLe, fEq, itE, and_true, true_and, and_self, and_false, false_and, ↓reduceIte, nat_add, nat_mul3, nat_mul4, nat_mul6, nat_mul15, nat_mul60, nat_cast, nc1, Int.reduceToNat, upE, upN, i0, hA, hl, h1, e] <;> omega)))
              | (with_reducible apply it_2; (first | omega | (simp (disch := omega) only [not_false_eq_true, not_true_eq_false, w32_id, tLt, fLt, tLe, fEq, itE, and_true, true_and, and_self, and_false, false_and, ↓reduceIte, nat_add, nat_mul3, nat_mul4, nat_mul6, nat_mul15, nat_mul60, nat_cast, nc1, Int.reduceToNat, upE, upN, i0, hA, hl, h1, e] <;> omega)))
              | (with_reducible refine cl_go ?_; simp (disch := omega) only [not_false_eq_true, not_true_eq_false, w32_id, tLt, fLt, tLe, fEq, itE, and_true, true_and, and_self, and_false, false_and, ↓reduceIte, nat_add, nat_mul3, nat_mul4, nat_mul6, nat_mul15, nat_mul60, nat_cast, nc1, Int.reduceToNat, upE, upN, i0, hA, hl, h1, e])
              | rw [c_Mo_goodRow (by omega), b_Mo_goodRow_0]
              | (with_reducible refine rn_go ?_; simp (disch := omega) only [not_false_eq_true, not_true_eq_false, w32_id, tLt, fLt, tLe, fEq, itE, and_true, true_and, and_self, and_false, false_and, ↓reduceIte, nat_add, nat_mul3, nat_mul4, nat_mul6, nat_mul15, nat_mul60, nat_cast, nc1, Int.reduceToNat, upE, upN, i0, hA, hl, h1, e])
              | (with_reducible refine lf_go ?_; simp (disch := omega) only [not_false_eq_true, not_true_eq_false, w32_id, tLt, fLt, tLe, fEq, itE, and_true, true_and, and_self, and_false, false_and, ↓reduceIte, nat_add, nat_mul3, nat_mul4, nat_mul6, nat_mul15, nat_mul60, nat_cast, nc1, Int.reduceToNat, upE, upN, i0, hA, hl, h1, e])
              | with_reducible exact rfl
    · rw [if_neg (by omega), Int.add_zero]
      repeat' first
        | (with_reducible apply bR_go; (simp (disch := omega) only [rM L, rK L, rN L, rNf, rNv, rNp, rNd, rRow, rLeg, rMark, nat_cast, Int.reduceToNat, hA, hl]; with_reducible exact rfl))
        | with_reducible apply bI_go
        | with_reducible apply bV_go
        | with_reducible apply bL_go
        | (with_reducible apply it_1; (first | omega | (simp (disch := omega) only [not_false_eq_true, not_true_eq_false, w32_id, tLt, fLt, tLe, fEq, itE, and_true, true_and, and_self, and_false, false_and, ↓reduceIte, nat_add, nat_mul3, nat_mul4, nat_mul6, nat_mul15, nat_mul60, nat_cast, nc1, Int.reduceToNat, upE, upN, i0, hA, hl] <;> omega)))
        | (with_reducible apply it_2; (first | omega | (simp (disch := omega) only [not_false_eq_true, not_true_eq_false, w32_id, tLt, fLt, tLe, fEq, itE, and_true, true_and, and_self, and_false, false_and, ↓reduceIte, nat_add, nat_mul3, nat_mul4, nat_mul6, nat_mul15, nat_mul60, nat_cast, nc1, Int.reduceToNat, upE, upN, i0, hA, hl] <;> omega)))
        | (with_reducible refine cl_go ?_; simp (disch := omega) only [not_false_eq_true, not_true_eq_false, w32_id, tLt, fLt, tLe, fEq, itE, and_true, true_and, and_self, and_false, false_and, ↓reduceIte, nat_add, nat_mul3, nat_mul4, nat_mul6, nat_mul15, nat_mul60, nat_cast, nc1, Int.reduceToNat, upE, upN, i0, hA, hl])
        | rw [c_Mo_goodRow (by omega), b_Mo_goodRow_0]
        | (with_reducible refine rn_go ?_; simp (disch := omega) only [not_false_eq_true, not_true_eq_false, w32_id, tLt, fLt, tLe, fEq, itE, and_true, true_and, and_self, and_false, false_and, ↓reduceIte, nat_add, nat_mul3, nat_mul4, nat_mul6, nat_mul15, nat_mul60, nat_cast, nc1, Int.reduceToNat, upE, upN, i0, hA, hl])
        | (with_reducible refine lf_go ?_; simp (disch := omega) only [not_false_eq_true, not_true_eq_false, w32_id, tLt, fLt, tLe, fEq, itE, and_true, true_and, and_self, and_false, false_and, ↓reduceIte, nat_add, nat_mul3, nat_mul4, nat_mul6, nat_mul15, nat_mul60, nat_cast, nc1, Int.reduceToNat, upE, upN, i0, hA, hl])
        | with_reducible exact rfl
  rw [c_Mo_weightOf (by omega), b_Mo_weightOf_0]
  have e := loop_up (fun k => Run (callD (d - 1)) tb_Mo_weightOf 5 [vR 12 0 271, vI n, vI r, vI (wt A ld r n k), vI (k : Int)] [] (SH L) M) (A 1).toNat st 0 (by omega)
  refine e.trans ?_
  show Run (callD (d - 1)) tb_Mo_weightOf 5 [vR 12 0 271, vI n, vI r, vI (wt A ld r n (A 1).toNat), vI ((A 1).toNat : Int)] [] (SH L) M = _
  rw [b_Mo_weightOf_5]
  unfold wts
  repeat' first
    | (with_reducible apply bR_go; (simp (disch := omega) only [rM L, rK L, rN L, rNf, rNv, rNp, rNd, rRow, rLeg, rMark, nat_cast, Int.reduceToNat, hA]; with_reducible exact rfl))
    | with_reducible apply bI_go
    | with_reducible apply bV_go
    | with_reducible apply bL_go
    | (with_reducible apply it_1; (first | omega | (simp (disch := omega) only [not_false_eq_true, not_true_eq_false, w32_id, tLt, fLt, tLe, fEq, itE, and_true, true_and, and_self, and_false, false_and, ↓reduceIte, nat_add, nat_mul3, nat_mul4, nat_mul6, nat_mul15, nat_mul60, nat_cast, nc1, Int.reduceToNat, upE, upN, i0, hA] <;> omega)))
    | (with_reducible apply it_2; (first | omega | (simp (disch := omega) only [not_false_eq_true, not_true_eq_false, w32_id, tLt, fLt, tLe, fEq, itE, and_true, true_and, and_self, and_false, false_and, ↓reduceIte, nat_add, nat_mul3, nat_mul4, nat_mul6, nat_mul15, nat_mul60, nat_cast, nc1, Int.reduceToNat, upE, upN, i0, hA] <;> omega)))
    | (with_reducible refine cl_go ?_; simp (disch := omega) only [not_false_eq_true, not_true_eq_false, w32_id, tLt, fLt, tLe, fEq, itE, and_true, true_and, and_self, and_false, false_and, ↓reduceIte, nat_add, nat_mul3, nat_mul4, nat_mul6, nat_mul15, nat_mul60, nat_cast, nc1, Int.reduceToNat, upE, upN, i0, hA])
    | (with_reducible refine rn_go ?_; simp (disch := omega) only [not_false_eq_true, not_true_eq_false, w32_id, tLt, fLt, tLe, fEq, itE, and_true, true_and, and_self, and_false, false_and, ↓reduceIte, nat_add, nat_mul3, nat_mul4, nat_mul6, nat_mul15, nat_mul60, nat_cast, nc1, Int.reduceToNat, upE, upN, i0, hA])
    | (with_reducible refine lf_go ?_; simp (disch := omega) only [not_false_eq_true, not_true_eq_false, w32_id, tLt, fLt, tLe, fEq, itE, and_true, true_and, and_self, and_false, false_and, ↓reduceIte, nat_add, nat_mul3, nat_mul4, nat_mul6, nat_mul15, nat_mul60, nat_cast, nc1, Int.reduceToNat, upE, upN, i0, hA])
    | with_reducible exact rfl
theorem s_Mo_captainsBy {d L : Nat} {M : Mm} {A ld : Nat → Int} {r : Int} (hd : 3 ≤ d) (hA : ∀ k, k < 206 → M 272 k = A k) (hl : ∀ g : Nat, (g : Int) < A 1 → M 280 g = ld g) (hC : Cn A) (hG : Gd A) (hL : Ld ld) : callD d m_Mo_captainsBy [vR 12 0 271, vI r] (SH L) M = some (some (vI (cap (fun n => wts A ld r n) (A 0).toNat)), SH L, M) := by
  have hC' := hC
  unfold Cn at hC'
  have hw : ∀ n : Int, callD (d - 1) m_Mo_weightOf [vR 12 0 271, vI n, vI r] (SH L) M = some (some (vI (wts A ld r n)), SH L, M) := fun n => s_Mo_weightOf (by omega) hA hl hC hG hL
  have st1 : ∀ k : Nat, k < (A 0).toNat → Run (callD (d - 1)) tb_Mo_captainsBy 4 [vR 12 0 271, vI r, vI (mx (fun n => wts A ld r n) k), vI (k : Int), vU] [] (SH L) M = Run (callD (d - 1)) tb_Mo_captainsBy 4 [vR 12 0 271, vI r, vI (mx (fun n => wts A ld r n) (k + 1)), vI ((k + 1 : Nat) : Int), vU] [] (SH L) M := by
    intro k hk
    rw [b_Mo_captainsBy_4, mx_s]
    repeat' first
      | (with_reducible apply bR_go; (simp (disch := omega) only [rM L, rK L, rN L, rNf, rNv, rNp, rNd, rRow, rLeg, rMark, nat_cast, Int.reduceToNat, hA]; with_reducible exact rfl))
      | with_reducible apply bI_go
      | with_reducible apply bV_go
      | with_reducible apply bL_go
      | (with_reducible apply it_1; (first | omega | (simp (disch := omega) only [not_false_eq_true, not_true_eq_false, w32_id, tLt, fLt, tLe, fEq, itE, and_true, true_and, and_self, and_false, false_and, ↓reduceIte, nat_add, nat_mul3, nat_mul4, nat_mul6, nat_mul15, nat_mul60, nat_cast, nc1, Int.reduceToNat, upE, upN, i0, hA] <;> omega)))
      | (with_reducible apply it_2; (first | omega | (simp (disch := omega) only [not_false_eq_true, not_true_eq_false, w32_id, tLt, fLt, tLe, fEq, itE, and_true, true_and, and_self, and_false, false_and, ↓reduceIte, nat_add, nat_mul3, nat_mul4, nat_mul6, nat_mul15, nat_mul60, nat_cast, nc1, Int.reduceToNat, upE, upN, i0, hA] <;> omega)))
      | (with_reducible refine cl_go ?_; simp (disch := omega) only [not_false_eq_true, not_true_eq_false, w32_id, tLt, fLt, tLe, fEq, itE, and_true, true_and, and_self, and_false, false_and, ↓reduceIte, nat_add, nat_mul3, nat_mul4, nat_mul6, nat_mul15, nat_mul60, nat_cast, nc1, Int.reduceToNat, upE, upN, i0, hA])
      | with_reducible exact hw _
      | (with_reducible refine rn_go ?_; simp (disch := omega) only [not_false_eq_true, not_true_eq_false, w32_id, tLt, fLt, tLe, fEq, itE, and_true, true_and, and_self, and_false, false_and, ↓reduceIte, nat_add, nat_mul3, nat_mul4, nat_mul6, nat_mul15, nat_mul60, nat_cast, nc1, Int.reduceToNat, upE, upN, i0, hA])
      | (with_reducible refine lf_go ?_; simp (disch := omega) only [not_false_eq_true, not_true_eq_false, w32_id, tLt, fLt, tLe, fEq, itE, and_true, true_and, and_self, and_false, false_and, ↓reduceIte, nat_add, nat_mul3, nat_mul4, nat_mul6, nat_mul15, nat_mul60, nat_cast, nc1, Int.reduceToNat, upE, upN, i0, hA])
      | with_reducible exact rfl
  rw [c_Mo_captainsBy (by omega), b_Mo_captainsBy_0]
  refine (loop_up (fun k => Run (callD (d - 1)) tb_Mo_captainsBy 4 [vR 12 0 271, vI r, vI (mx (fun n => wts A ld r n) k), vI (k : Int), vU] [] (SH L) M) (A 0).toNat st1 0 (by omega)).trans ?_
  show Run (callD (d - 1)) tb_Mo_captainsBy 4 [vR 12 0 271, vI r, vI (mx (fun n => wts A ld r n) (A 0).toNat), vI ((A 0).toNat : Int), vU] [] (SH L) M = _
  rw [b_Mo_captainsBy_4]
  generalize hm : mx (fun n => wts A ld r n) (A 0).toNat = m
  by_cases h0 : 0 < m
  · have st2 : ∀ k : Nat, k < (A 0).toNat → Run (callD (d - 1)) tb_Mo_captainsBy 36 [vR 12 0 271, vI r, vI m, vI (setb (fun n => decide (wts A ld r n = m)) k), vI (k : Int)] [] (SH L) M = Run (callD (d - 1)) tb_Mo_captainsBy 36 [vR 12 0 271, vI r, vI m, vI (setb (fun n => decide (wts A ld r n = m)) (k + 1)), vI ((k + 1 : Nat) : Int)] [] (SH L) M := by
      intro k hk
      have hb := setb_bd (fun n : Nat => decide (wts A ld r n = m)) k
      have hp : (2 ^ k : Nat) ≤ 2 ^ 6 := pow_le (by omega)
      rw [b_Mo_captainsBy_36, setb_s]
      by_cases h1 : wts A ld r (k : Int) = m
      · have e := or_setb (n := k) (by omega) hb.1 hb.2
        rw [decide_eq_true h1]
        repeat' first
          | (with_reducible apply bR_go; (simp (disch := omega) only [rM L, rK L, rN L, rNf, rNv, rNp, rNd, rRow, rLeg, rMark, nat_cast, Int.reduceToNat, hA, e, cond]; with_reducible exact rfl))
          | with_reducible apply bI_go
          | with_reducible apply bV_go
          | with_reducible apply bL_go
          | (with_reducible apply it_1; (first | omega | (simp (disch := omega) only [not_false_eq_true, not_true_eq_false, w32_id, tLt, fLt, tLe, fEq, itE, and_true, true_and, and_self, and_false, false_and, ↓reduceIte, nat_add, nat_mul3, nat_mul4, nat_mul6, nat_mul15, nat_mul60, nat_cast, nc1, Int.reduceToNat, upE, upN, i0, hA, e, cond] <;> omega)))
          | (with_reducible apply it_2; (first | omega | (simp (disch := omega) only [not_false_eq_true, not_true_eq_false, w32_id, tLt, fLt, tLe, fEq, itE, and_true, true_and, and_self, and_false, false_and, ↓reduceIte, nat_add, nat_mul3, nat_mul4, nat_mul6, nat_mul15, nat_mul60, nat_cast, nc1, Int.reduceToNat, upE, upN, i0, hA, e, cond] <;> omega)))
          | (with_reducible refine cl_go ?_; simp (disch := omega) only [not_false_eq_true, not_true_eq_false, w32_id, tLt, fLt, tLe, fEq, itE, and_true, true_and, and_self, and_false, false_and, ↓reduceIte, nat_add, nat_mul3, nat_mul4, nat_mul6, nat_mul15, nat_mul60, nat_cast, nc1, Int.reduceToNat, upE, upN, i0, hA, e, cond])
          | with_reducible exact hw _
          | (with_reducible refine rn_go ?_; simp (disch := omega) only [not_false_eq_true, not_true_eq_false, w32_id, tLt, fLt, tLe, fEq, itE, and_true, true_and, and_self, and_false, false_and, ↓reduceIte, nat_add, nat_mul3, nat_mul4, nat_mul6, nat_mul15, nat_mul60, nat_cast, nc1, Int.reduceToNat, upE, upN, i0, hA, e, cond])
          | (with_reducible refine lf_go ?_; simp (disch := omega) only [not_false_eq_true, not_true_eq_false, w32_id, tLt, fLt, tLe, fEq, itE, and_true, true_and, and_self, and_false, false_and, ↓reduceIte, nat_add, nat_mul3, nat_mul4, nat_mul6, nat_mul15, nat_mul60, nat_cast, nc1, Int.reduceToNat, upE, upN, i0, hA, e, cond])
          | with_reducible exact rfl
      · have e := or_0 hb.1 (by omega)
        rw [decide_eq_false h1]
        repeat' first
          | (with_reducible apply bR_go; (simp (disch := omega) only [rM L, rK L, rN L, rNf, rNv, rNp, rNd, rRow, rLeg, rMark, nat_cast, Int.reduceToNat, hA, e, cond, n0, Int.add_zero]; with_reducible exact rfl))
          | with_reducible apply bI_go
          | with_reducible apply bV_go
          | with_reducible apply bL_go
          | (with_reducible apply it_1; (first | omega | (simp (disch := omega) only [not_false_eq_true, not_true_eq_false, w32_id, tLt, fLt, tLe, fEq, itE, and_true, true_and, and_self, and_false, false_and, ↓reduceIte, nat_add, nat_mul3, nat_mul4, nat_mul6, nat_mul15, nat_mul60, nat_cast, nc1, Int.reduceToNat, upE, upN, i0, hA, e, cond, n0, Int.add_zero] <;> omega)))
          | (with_reducible apply it_2; (first | omega | (simp (disch := omega) only [not_false_eq_true, not_true_eq_false, w32_id, tLt, fLt, tLe, fEq, itE, and_true, true_and, and_self, and_false, false_and, ↓reduceIte, nat_add, nat_mul3, nat_mul4, nat_mul6, nat_mul15, nat_mul60, nat_cast, nc1, Int.reduceToNat, upE, upN, i0, hA, e, cond, n0, Int.add_zero] <;> omega)))
          | (with_reducible refine cl_go ?_; simp (disch := omega) only [not_false_eq_true, not_true_eq_false, w32_id, tLt, fLt, tLe, fEq, itE, and_true, true_and, and_self, and_false, false_and, ↓reduceIte, nat_add, nat_mul3, nat_mul4, nat_mul6, nat_mul15, nat_mul60, nat_cast, nc1, Int.reduceToNat, upE, upN, i0, hA, e, cond, n0, Int.add_zero])
          | with_reducible exact hw _
          | (with_reducible refine rn_go ?_; simp (disch := omega) only [not_false_eq_true, not_true_eq_false, w32_id, tLt, fLt, tLe, fEq, itE, and_true, true_and, and_self, and_false, false_and, ↓reduceIte, nat_add, nat_mul3, nat_mul4, nat_mul6, nat_mul15, nat_mul60, nat_cast, nc1, Int.reduceToNat, upE, upN, i0, hA, e, cond, n0, Int.add_zero])
          | (with_reducible refine lf_go ?_; simp (disch := omega) only [not_false_eq_true, not_true_eq_false, w32_id, tLt, fLt, tLe, fEq, itE, and_true, true_and, and_self, and_false, false_and, ↓reduceIte, nat_add, nat_mul3, nat_mul4, nat_mul6, nat_mul15, nat_mul60, nat_cast, nc1, Int.reduceToNat, upE, upN, i0, hA, e, cond, n0, Int.add_zero])
          | with_reducible exact rfl
    have e : Run (callD (d - 1)) tb_Mo_captainsBy 36 [vR 12 0 271, vI r, vI m, vI 0, vI 0] [] (SH L) M = some (some (vI (cap (fun n => wts A ld r n) (A 0).toNat)), SH L, M) := by
      refine (loop_up (fun k => Run (callD (d - 1)) tb_Mo_captainsBy 36 [vR 12 0 271, vI r, vI m, vI (setb (fun n => decide (wts A ld r n = m)) k), vI (k : Int)] [] (SH L) M) (A 0).toNat st2 0 (by omega)).trans ?_
      show Run (callD (d - 1)) tb_Mo_captainsBy 36 [vR 12 0 271, vI r, vI m, vI (setb (fun n => decide (wts A ld r n = m)) (A 0).toNat), vI ((A 0).toNat : Int)] [] (SH L) M = _
      rw [b_Mo_captainsBy_36]
      unfold cap
      rw [hm, if_pos h0]
      repeat' first
        | (with_reducible apply bR_go; (simp (disch := omega) only [rM L, rK L, rN L, rNf, rNv, rNp, rNd, rRow, rLeg, rMark, nat_cast, Int.reduceToNat, hA]; with_reducible exact rfl))
        | with_reducible apply bI_go
        | with_reducible apply bV_go
        | with_reducible apply bL_go
        | (with_reducible apply it_1; (first | omega | (simp (disch := omega) only [not_false_eq_true, not_true_eq_false, w32_id, tLt, fLt, tLe, fEq, itE, and_true, true_and, and_self, and_false, false_and, ↓reduceIte, nat_add, nat_mul3, nat_mul4, nat_mul6, nat_mul15, nat_mul60, nat_cast, nc1, Int.reduceToNat, upE, upN, i0, hA] <;> omega)))
        | (with_reducible apply it_2; (first | omega | (simp (disch := omega) only [not_false_eq_true, not_true_eq_false, w32_id, tLt, fLt, tLe, fEq, itE, and_true, true_and, and_self, and_false, false_and, ↓reduceIte, nat_add, nat_mul3, nat_mul4, nat_mul6, nat_mul15, nat_mul60, nat_cast, nc1, Int.reduceToNat, upE, upN, i0, hA] <;> omega)))
        | (with_reducible refine cl_go ?_; simp (disch := omega) only [not_false_eq_true, not_true_eq_false, w32_id, tLt, fLt, tLe, fEq, itE, and_true, true_and, and_self, and_false, false_and, ↓reduceIte, nat_add, nat_mul3, nat_mul4, nat_mul6, nat_mul15, nat_mul60, nat_cast, nc1, Int.reduceToNat, upE, upN, i0, hA])
        | (with_reducible refine rn_go ?_; simp (disch := omega) only [not_false_eq_true, not_true_eq_false, w32_id, tLt, fLt, tLe, fEq, itE, and_true, true_and, and_self, and_false, false_and, ↓reduceIte, nat_add, nat_mul3, nat_mul4, nat_mul6, nat_mul15, nat_mul60, nat_cast, nc1, Int.reduceToNat, upE, upN, i0, hA])
        | (with_reducible refine lf_go ?_; simp (disch := omega) only [not_false_eq_true, not_true_eq_false, w32_id, tLt, fLt, tLe, fEq, itE, and_true, true_and, and_self, and_false, false_and, ↓reduceIte, nat_add, nat_mul3, nat_mul4, nat_mul6, nat_mul15, nat_mul60, nat_cast, nc1, Int.reduceToNat, upE, upN, i0, hA])
        | with_reducible exact rfl
    repeat' first
      | (with_reducible apply bR_go; (simp (disch := omega) only [rM L, rK L, rN L, rNf, rNv, rNp, rNd, rRow, rLeg, rMark, nat_cast, Int.reduceToNat, hA]; with_reducible exact rfl))
      | with_reducible apply bI_go
      | with_reducible apply bV_go
      | with_reducible apply bL_go
      | (with_reducible apply it_1; (first | omega | (simp (disch := omega) only [not_false_eq_true, not_true_eq_false, w32_id, tLt, fLt, tLe, fEq, itE, and_true, true_and, and_self, and_false, false_and, ↓reduceIte, nat_add, nat_mul3, nat_mul4, nat_mul6, nat_mul15, nat_mul60, nat_cast, nc1, Int.reduceToNat, upE, upN, i0, hA] <;> omega)))
      | (with_reducible apply it_2; (first | omega | (simp (disch := omega) only [not_false_eq_true, not_true_eq_false, w32_id, tLt, fLt, tLe, fEq, itE, and_true, true_and, and_self, and_false, false_and, ↓reduceIte, nat_add, nat_mul3, nat_mul4, nat_mul6, nat_mul15, nat_mul60, nat_cast, nc1, Int.reduceToNat, upE, upN, i0, hA] <;> omega)))
      | (with_reducible refine cl_go ?_; simp (disch := omega) only [not_false_eq_true, not_true_eq_false, w32_id, tLt, fLt, tLe, fEq, itE, and_true, true_and, and_self, and_false, false_and, ↓reduceIte, nat_add, nat_mul3, nat_mul4, nat_mul6, nat_mul15, nat_mul60, nat_cast, nc1, Int.reduceToNat, upE, upN, i0, hA])
      | with_reducible exact e
      | (with_reducible refine rn_go ?_; simp (disch := omega) only [not_false_eq_true, not_true_eq_false, w32_id, tLt, fLt, tLe, fEq, itE, and_true, true_and, and_self, and_false, false_and, ↓reduceIte, nat_add, nat_mul3, nat_mul4, nat_mul6, nat_mul15, nat_mul60, nat_cast, nc1, Int.reduceToNat, upE, upN, i0, hA])
      | (with_reducible refine lf_go ?_; simp (disch := omega) only [not_false_eq_true, not_true_eq_false, w32_id, tLt, fLt, tLe, fEq, itE, and_true, true_and, and_self, and_false, false_and, ↓reduceIte, nat_add, nat_mul3, nat_mul4, nat_mul6, nat_mul15, nat_mul60, nat_cast, nc1, Int.reduceToNat, upE, upN, i0, hA])
      | with_reducible exact rfl
  · have e : Run (callD (d - 1)) tb_Mo_captainsBy 36 [vR 12 0 271, vI r, vI m, vI 0, vI 0] [] (SH L) M = some (some (vI (cap (fun n => wts A ld r n) (A 0).toNat)), SH L, M) := by
      rw [b_Mo_captainsBy_36]
      unfold cap
      rw [hm, if_neg h0]
      by_cases hz : 0 < A 0
      · repeat' first
          | (with_reducible apply bR_go; (simp (disch := omega) only [rM L, rK L, rN L, rNf, rNv, rNp, rNd, rRow, rLeg, rMark, nat_cast, Int.reduceToNat, hA]; with_reducible exact rfl))
          | with_reducible apply bI_go
          | with_reducible apply bV_go
          | with_reducible apply bL_go
          | (with_reducible apply it_1; (first | omega | (simp (disch := omega) only [not_false_eq_true, not_true_eq_false, w32_id, tLt, fLt, tLe, fEq, itE, and_true, true_and, and_self, and_false, false_and, ↓reduceIte, nat_add, nat_mul3, nat_mul4, nat_mul6, nat_mul15, nat_mul60, nat_cast, nc1, Int.reduceToNat, upE, upN, i0, hA] <;> omega)))
          | (with_reducible apply it_2; (first | omega | (simp (disch := omega) only [not_false_eq_true, not_true_eq_false, w32_id, tLt, fLt, tLe, fEq, itE, and_true, true_and, and_self, and_false, false_and, ↓reduceIte, nat_add, nat_mul3, nat_mul4, nat_mul6, nat_mul15, nat_mul60, nat_cast, nc1, Int.reduceToNat, upE, upN, i0, hA] <;> omega)))
          | (with_reducible refine cl_go ?_; simp (disch := omega) only [not_false_eq_true, not_true_eq_false, w32_id, tLt, fLt, tLe, fEq, itE, and_true, true_and, and_self, and_false, false_and, ↓reduceIte, nat_add, nat_mul3, nat_mul4, nat_mul6, nat_mul15, nat_mul60, nat_cast, nc1, Int.reduceToNat, upE, upN, i0, hA])
          | (with_reducible refine rn_go ?_; simp (disch := omega) only [not_false_eq_true, not_true_eq_false, w32_id, tLt, fLt, tLe, fEq, itE, and_true, true_and, and_self, and_false, false_and, ↓reduceIte, nat_add, nat_mul3, nat_mul4, nat_mul6, nat_mul15, nat_mul60, nat_cast, nc1, Int.reduceToNat, upE, upN, i0, hA])
          | (with_reducible refine lf_go ?_; simp (disch := omega) only [not_false_eq_true, not_true_eq_false, w32_id, tLt, fLt, tLe, fEq, itE, and_true, true_and, and_self, and_false, false_and, ↓reduceIte, nat_add, nat_mul3, nat_mul4, nat_mul6, nat_mul15, nat_mul60, nat_cast, nc1, Int.reduceToNat, upE, upN, i0, hA])
          | with_reducible exact rfl
      · repeat' first
          | (with_reducible apply bR_go; (simp (disch := omega) only [rM L, rK L, rN L, rNf, rNv, rNp, rNd, rRow, rLeg, rMark, nat_cast, Int.reduceToNat, hA]; with_reducible exact rfl))
          | with_reducible apply bI_go
          | with_reducible apply bV_go
          | with_reducible apply bL_go
          | (with_reducible apply it_1; (first | omega | (simp (disch := omega) only [not_false_eq_true, not_true_eq_false, w32_id, tLt, fLt, tLe, fEq, itE, and_true, true_and, and_self, and_false, false_and, ↓reduceIte, nat_add, nat_mul3, nat_mul4, nat_mul6, nat_mul15, nat_mul60, nat_cast, nc1, Int.reduceToNat, upE, upN, i0, hA] <;> omega)))
          | (with_reducible apply it_2; (first | omega | (simp (disch := omega) only [not_false_eq_true, not_true_eq_false, w32_id, tLt, fLt, tLe, fEq, itE, and_true, true_and, and_self, and_false, false_and, ↓reduceIte, nat_add, nat_mul3, nat_mul4, nat_mul6, nat_mul15, nat_mul60, nat_cast, nc1, Int.reduceToNat, upE, upN, i0, hA] <;> omega)))
          | (with_reducible refine cl_go ?_; simp (disch := omega) only [not_false_eq_true, not_true_eq_false, w32_id, tLt, fLt, tLe, fEq, itE, and_true, true_and, and_self, and_false, false_and, ↓reduceIte, nat_add, nat_mul3, nat_mul4, nat_mul6, nat_mul15, nat_mul60, nat_cast, nc1, Int.reduceToNat, upE, upN, i0, hA])
          | (with_reducible refine rn_go ?_; simp (disch := omega) only [not_false_eq_true, not_true_eq_false, w32_id, tLt, fLt, tLe, fEq, itE, and_true, true_and, and_self, and_false, false_and, ↓reduceIte, nat_add, nat_mul3, nat_mul4, nat_mul6, nat_mul15, nat_mul60, nat_cast, nc1, Int.reduceToNat, upE, upN, i0, hA])
          | (with_reducible refine lf_go ?_; simp (disch := omega) only [not_false_eq_true, not_true_eq_false, w32_id, tLt, fLt, tLe, fEq, itE, and_true, true_and, and_self, and_false, false_and, ↓reduceIte, nat_add, nat_mul3, nat_mul4, nat_mul6, nat_mul15, nat_mul60, nat_cast, nc1, Int.reduceToNat, upE, upN, i0, hA])
          | with_reducible exact rfl
    repeat' first
      | (with_reducible apply bR_go; (simp (disch := omega) only [rM L, rK L, rN L, rNf, rNv, rNp, rNd, rRow, rLeg, rMark, nat_cast, Int.reduceToNat, hA]; with_reducible exact rfl))
      | with_reducible apply bI_go
      | with_reducible apply bV_go
      | with_reducible apply bL_go
      | (with_reducible apply it_1; (first | omega | (simp (disch := omega) only [not_false_eq_true, not_true_eq_false, w32_id, tLt, fLt, tLe, fEq, itE, and_true, true_and, and_self, and_false, false_and, ↓reduceIte, nat_add, nat_mul3, nat_mul4, nat_mul6, nat_mul15, nat_mul60, nat_cast, nc1, Int.reduceToNat, upE, upN, i0, hA] <;> omega)))
      | (with_reducible apply it_2; (first | omega | (simp (disch := omega) only [not_false_eq_true, not_true_eq_false, w32_id, tLt, fLt, tLe, fEq, itE, and_true, true_and, and_self, and_false, false_and, ↓reduceIte, nat_add, nat_mul3, nat_mul4, nat_mul6, nat_mul15, nat_mul60, nat_cast, nc1, Int.reduceToNat, upE, upN, i0, hA] <;> omega)))
      | (with_reducible refine cl_go ?_; simp (disch := omega) only [not_false_eq_true, not_true_eq_false, w32_id, tLt, fLt, tLe, fEq, itE, and_true, true_and, and_self, and_false, false_and, ↓reduceIte, nat_add, nat_mul3, nat_mul4, nat_mul6, nat_mul15, nat_mul60, nat_cast, nc1, Int.reduceToNat, upE, upN, i0, hA])
      | with_reducible exact e
      | (with_reducible refine rn_go ?_; simp (disch := omega) only [not_false_eq_true, not_true_eq_false, w32_id, tLt, fLt, tLe, fEq, itE, and_true, true_and, and_self, and_false, false_and, ↓reduceIte, nat_add, nat_mul3, nat_mul4, nat_mul6, nat_mul15, nat_mul60, nat_cast, nc1, Int.reduceToNat, upE, upN, i0, hA])
      | (with_reducible refine lf_go ?_; simp (disch := omega) only [not_false_eq_true, not_true_eq_false, w32_id, tLt, fLt, tLe, fEq, itE, and_true, true_and, and_self, and_false, false_and, ↓reduceIte, nat_add, nat_mul3, nat_mul4, nat_mul6, nat_mul15, nat_mul60, nat_cast, nc1, Int.reduceToNat, upE, upN, i0, hA])
      | with_reducible exact rfl
def bitsE : Nat → Int → Bool
  | 0, x => decide (x = 0)
  | k + 1, x => decide (x = 0) || bitsE k (and32 x (w32 (x - 1)))
theorem bits_run {K : Cal} {S : Sp} {M : Mm} {x0 : Int} : ∀ (j : Nat) (n x : Int), bitsE j x = true → 0 ≤ n → n + j < 1000 → Run K tb_Mo_bits 4 [vI x0, vI n, vI x] [] S M = some (some (vI (n + bitsF j x)), S, M)
  | 0, n, x, h, _, _ => by
    have h : x = 0 := of_decide_eq_true h
    rw [b_Mo_bits_4, if_pos h]
    simp [bitsF]
  | j + 1, n, x, h, h0, h1 => by
    rw [b_Mo_bits_4]
    unfold bitsF
    by_cases hx : x = 0
    · rw [if_pos hx, if_pos hx, Int.add_zero]
    · rw [if_neg hx, if_neg hx]
      unfold bitsE at h
      rw [decide_eq_false hx, Bool.false_or] at h
      rw [w32_id (by omega) (by omega), bits_run j (n + 1) _ h (by omega) (by omega), Int.add_assoc]
theorem bitsE_64 : ∀ x : Fin 64, bitsE 7 (x.val : Int) = true := by decide +kernel
theorem s_Mo_bits {d : Nat} {S : Sp} {M : Mm} {x : Int} (hd : 1 ≤ d) (h0 : 0 ≤ x) (h1 : x < 64) : callD d m_Mo_bits [vI x] S M = some (some (vI (bitsF 7 x)), S, M) := by
  obtain ⟨k, rfl⟩ := Int.eq_ofNat_of_zero_le h0
  rw [c_Mo_bits hd, b_Mo_bits_0, bits_run 7 0 _ (bitsE_64 ⟨k, by omega⟩) (by omega) (by omega), Int.zero_add]
def lowE : Nat → Int → Int → Bool
  | 0, _, _ => false
  | j + 1, x, k => cond (decide (and32 (shr32 x k) 1 = 0)) (lowE j x (k + 1)) true
theorem low_run {K : Cal} {S : Sp} {M : Mm} : ∀ (j : Nat) (x k : Int), lowE j x k = true → 0 ≤ k → k + j < 1000 → Run K tb_Mo_lowest 2 [vI x, vI k] [] S M = some (some (vI (lowF j x k)), S, M)
  | j + 1, x, k, h, h0, h1 => by
    rw [b_Mo_lowest_2]
    unfold lowF
    unfold lowE at h
    by_cases hx : and32 (shr32 x k) 1 = 0
    · rw [if_pos hx, if_pos hx]
      rw [decide_eq_true hx] at h
      rw [w32_id (by omega) (by omega), low_run j x (k + 1) h (by omega) (by omega)]
    · rw [if_neg hx, if_neg hx]
theorem lowE_64 : ∀ x : Fin 64, x.val ≠ 0 → lowE 7 (x.val : Int) 0 = true := by decide +kernel
theorem s_Mo_lowest {d : Nat} {S : Sp} {M : Mm} {x : Int} (hd : 1 ≤ d) (h0 : 0 < x) (h1 : x < 64) : callD d m_Mo_lowest [vI x] S M = some (some (vI (lowF 7 x 0)), S, M) := by
  obtain ⟨k, rfl⟩ := Int.eq_ofNat_of_zero_le (show 0 ≤ x by omega)
  rw [c_Mo_lowest hd, b_Mo_lowest_0, low_run 7 _ 0 (lowE_64 ⟨k, by omega⟩ (by show k ≠ 0; omega)) (by omega) (by omega)]
theorem bits_0 : bitsF 7 0 = 0 := by decide +kernel
theorem s_Mo_onlyOne {d : Nat} {S : Sp} {M : Mm} {x : Int} (hd : 2 ≤ d) (h0 : 0 ≤ x) (h1 : x < 64) : callD d m_Mo_onlyOne [vI x] S M = some (some (vI (oo x)), S, M) := by
  rw [c_Mo_onlyOne (by omega), b_Mo_onlyOne_0, s_Mo_bits (by omega) h0 h1, bndI_some]
  unfold oo
  by_cases h : bitsF 7 x = 1
  · have hx : 0 < x := by
      rcases Int.lt_or_eq_of_le h0 with h2 | h2
      · exact h2
      · rw [← h2, bits_0] at h; cases h
    rw [if_pos h, if_pos h, s_Mo_lowest (by omega) hx h1, bndI_some]
  · rw [if_neg h, if_neg h]
theorem cap64 (W : Nat → Int) {n : Nat} (hn : n ≤ 6) : cap W n < 64 := by
  have a := (cap_bd W n).2
  have b : (2 ^ n : Nat) ≤ 2 ^ 6 := pow_le hn
  omega
theorem s_Mo_flag {d L : Nat} {M : Mm} {A ld : Nat → Int} (hd : 5 ≤ d) (hA : ∀ k, k < 206 → M 272 k = A k) (hl : ∀ g : Nat, (g : Int) < A 1 → M 280 g = ld g) (hC : Cn A) (hG : Gd A) (hL : Ld ld) : callD d m_Mo_flag [vR 12 0 271] (SH L) M = some (some (vI (flg (fun n => wts A ld (A 4) n) (A 0).toNat)), SH L, M) := by
  have hC' := hC
  unfold Cn at hC'
  have b := cap_bd (fun n : Nat => wts A ld (A 4) n) (A 0).toNat
  have b6 := cap64 (fun n : Nat => wts A ld (A 4) n) (n := (A 0).toNat) (by omega)
  rw [← oo_cap (by omega) fun k _ => (wts_bd (A 4) k hG hL hC).1]
  repeat' first
    | (with_reducible apply bR_go; (simp (disch := omega) only [rM L, rK L, rN L, rNf, rNv, rNp, rNd, rRow, rLeg, rMark, nat_cast, Int.reduceToNat, hA]; with_reducible exact rfl))
    | with_reducible apply bI_go
    | with_reducible apply bV_go
    | with_reducible apply bL_go
    | (with_reducible apply it_1; (first | omega | (simp (disch := omega) only [not_false_eq_true, not_true_eq_false, w32_id, tLt, fLt, tLe, fEq, itE, and_true, true_and, and_self, and_false, false_and, ↓reduceIte, nat_add, nat_mul3, nat_mul4, nat_mul6, nat_mul15, nat_mul60, nat_cast, nc1, Int.reduceToNat, upE, upN, i0, hA] <;> omega)))
    | (with_reducible apply it_2; (first | omega | (simp (disch := omega) only [not_false_eq_true, not_true_eq_false, w32_id, tLt, fLt, tLe, fEq, itE, and_true, true_and, and_self, and_false, false_and, ↓reduceIte, nat_add, nat_mul3, nat_mul4, nat_mul6, nat_mul15, nat_mul60, nat_cast, nc1, Int.reduceToNat, upE, upN, i0, hA] <;> omega)))
    | (with_reducible refine cl_go ?_; simp (disch := omega) only [not_false_eq_true, not_true_eq_false, w32_id, tLt, fLt, tLe, fEq, itE, and_true, true_and, and_self, and_false, false_and, ↓reduceIte, nat_add, nat_mul3, nat_mul4, nat_mul6, nat_mul15, nat_mul60, nat_cast, nc1, Int.reduceToNat, upE, upN, i0, hA])
    | rw [c_Mo_flag (by omega), b_Mo_flag_0]
    | rw [c_Mo_captainsNow (by omega), b_Mo_captainsNow_0]
    | with_reducible exact s_Mo_captainsBy (by omega) hA hl hC hG hL
    | with_reducible exact s_Mo_onlyOne (by omega) (by omega) (by omega)
    | (with_reducible refine rn_go ?_; simp (disch := omega) only [not_false_eq_true, not_true_eq_false, w32_id, tLt, fLt, tLe, fEq, itE, and_true, true_and, and_self, and_false, false_and, ↓reduceIte, nat_add, nat_mul3, nat_mul4, nat_mul6, nat_mul15, nat_mul60, nat_cast, nc1, Int.reduceToNat, upE, upN, i0, hA])
    | (with_reducible refine lf_go ?_; simp (disch := omega) only [not_false_eq_true, not_true_eq_false, w32_id, tLt, fLt, tLe, fEq, itE, and_true, true_and, and_self, and_false, false_and, ↓reduceIte, nat_add, nat_mul3, nat_mul4, nat_mul6, nat_mul15, nat_mul60, nat_cast, nc1, Int.reduceToNat, upE, upN, i0, hA])
    | with_reducible exact rfl
def ldF (A : Nat → Int) (i g : Nat) : Int := A (153 + 15 * i + g)
theorem s_Mo_shipOf {d L : Nat} {M : Mm} {s w : Int} (hd : 2 ≤ d) (h0 : 0 ≤ s) (h1 : s < 4) (h2 : 0 ≤ w) (h3 : w < 15) : callD d m_Mo_shipOf [vR 12 0 271, vI s, vI w] (SH L) M = some (some (vI (M 272 (146 + 15 * s.toNat + w.toNat))), SH L, M) := by
  repeat' first
    | (with_reducible apply bR_go; (simp (disch := omega) only [rM L, rK L, rN L, rNf, rNv, rNp, rNd, rRow, rLeg, rMark, nat_cast, Int.reduceToNat]; with_reducible exact rfl))
    | with_reducible apply bI_go
    | with_reducible apply bV_go
    | with_reducible apply bL_go
    | (with_reducible apply it_1; (first | omega | (simp (disch := omega) only [not_false_eq_true, not_true_eq_false, w32_id, tLt, fLt, tLe, fEq, itE, and_true, true_and, and_self, and_false, false_and, ↓reduceIte, nat_add, nat_mul3, nat_mul4, nat_mul6, nat_mul15, nat_mul60, nat_cast, nc1, Int.reduceToNat, upE, upN, i0] <;> omega)))
    | (with_reducible apply it_2; (first | omega | (simp (disch := omega) only [not_false_eq_true, not_true_eq_false, w32_id, tLt, fLt, tLe, fEq, itE, and_true, true_and, and_self, and_false, false_and, ↓reduceIte, nat_add, nat_mul3, nat_mul4, nat_mul6, nat_mul15, nat_mul60, nat_cast, nc1, Int.reduceToNat, upE, upN, i0] <;> omega)))
    | (with_reducible refine cl_go ?_; simp (disch := omega) only [not_false_eq_true, not_true_eq_false, w32_id, tLt, fLt, tLe, fEq, itE, and_true, true_and, and_self, and_false, false_and, ↓reduceIte, nat_add, nat_mul3, nat_mul4, nat_mul6, nat_mul15, nat_mul60, nat_cast, nc1, Int.reduceToNat, upE, upN, i0])
    | rw [c_Mo_shipOf (by omega), b_Mo_shipOf_0]
    | rw [c_Mo_shipRow (by omega), b_Mo_shipRow_0]
    | (with_reducible refine rn_go ?_; simp (disch := omega) only [not_false_eq_true, not_true_eq_false, w32_id, tLt, fLt, tLe, fEq, itE, and_true, true_and, and_self, and_false, false_and, ↓reduceIte, nat_add, nat_mul3, nat_mul4, nat_mul6, nat_mul15, nat_mul60, nat_cast, nc1, Int.reduceToNat, upE, upN, i0])
    | (with_reducible refine lf_go ?_; simp (disch := omega) only [not_false_eq_true, not_true_eq_false, w32_id, tLt, fLt, tLe, fEq, itE, and_true, true_and, and_self, and_false, false_and, ↓reduceIte, nat_add, nat_mul3, nat_mul4, nat_mul6, nat_mul15, nat_mul60, nat_cast, nc1, Int.reduceToNat, upE, upN, i0])
    | with_reducible exact rfl
theorem s_Mo_loads {d L : Nat} {M : Mm} {s : Int} (hd : 3 ≤ d) (h0 : 0 ≤ s) (h1 : s < 4) : callD d m_Mo_loads [vR 12 0 271, vI s] (SH L) M = some (none, SH L, fillP M 280 (ldF (M 272) s.toNat) 8) := by
  have st : ∀ k : Nat, k < 8 → Run (callD (d - 1)) tb_Mo_loads 2 [vR 12 0 271, vI s, vI (k : Int)] [] (SH L) (fillP M 280 (ldF (M 272) s.toNat) k) = Run (callD (d - 1)) tb_Mo_loads 2 [vR 12 0 271, vI s, vI ((k + 1 : Nat) : Int)] [] (SH L) (fillP M 280 (ldF (M 272) s.toNat) (k + 1)) := by
    intro k hk
    rw [b_Mo_loads_2, ← fill_s M 280 (ldF (M 272) s.toNat) k rfl]
    have e : fillP M 280 (ldF (M 272) s.toNat) k 272 (146 + 15 * s.toNat + (7 + k)) = ldF (M 272) s.toNat k := by
      rw [fill_ne (by omega), show 146 + 15 * s.toNat + (7 + k) = 153 + 15 * s.toNat + k by omega]
      rfl
    repeat' first
      | (with_reducible apply bR_go; (simp (disch := omega) only [rM L, rK L, rN L, rNf, rNv, rNp, rNd, rRow, rLeg, rMark, nat_cast, Int.reduceToNat, e]; with_reducible exact rfl))
      | with_reducible apply bI_go
      | with_reducible apply bV_go
      | with_reducible apply bL_go
      | (with_reducible apply it_1; (first | omega | (simp (disch := omega) only [not_false_eq_true, not_true_eq_false, w32_id, tLt, fLt, tLe, fEq, itE, and_true, true_and, and_self, and_false, false_and, ↓reduceIte, nat_add, nat_mul3, nat_mul4, nat_mul6, nat_mul15, nat_mul60, nat_cast, nc1, Int.reduceToNat, upE, upN, i0, e] <;> omega)))
      | (with_reducible apply it_2; (first | omega | (simp (disch := omega) only [not_false_eq_true, not_true_eq_false, w32_id, tLt, fLt, tLe, fEq, itE, and_true, true_and, and_self, and_false, false_and, ↓reduceIte, nat_add, nat_mul3, nat_mul4, nat_mul6, nat_mul15, nat_mul60, nat_cast, nc1, Int.reduceToNat, upE, upN, i0, e] <;> omega)))
      | (with_reducible refine cl_go ?_; simp (disch := omega) only [not_false_eq_true, not_true_eq_false, w32_id, tLt, fLt, tLe, fEq, itE, and_true, true_and, and_self, and_false, false_and, ↓reduceIte, nat_add, nat_mul3, nat_mul4, nat_mul6, nat_mul15, nat_mul60, nat_cast, nc1, Int.reduceToNat, upE, upN, i0, e])
      | with_reducible exact s_Mo_shipOf (by omega) (by omega) (by omega) (by omega) (by omega)
      | (with_reducible refine rn_go ?_; simp (disch := omega) only [not_false_eq_true, not_true_eq_false, w32_id, tLt, fLt, tLe, fEq, itE, and_true, true_and, and_self, and_false, false_and, ↓reduceIte, nat_add, nat_mul3, nat_mul4, nat_mul6, nat_mul15, nat_mul60, nat_cast, nc1, Int.reduceToNat, upE, upN, i0, e])
      | (with_reducible refine lf_go ?_; simp (disch := omega) only [not_false_eq_true, not_true_eq_false, w32_id, tLt, fLt, tLe, fEq, itE, and_true, true_and, and_self, and_false, false_and, ↓reduceIte, nat_add, nat_mul3, nat_mul4, nat_mul6, nat_mul15, nat_mul60, nat_cast, nc1, Int.reduceToNat, upE, upN, i0, e])
      | with_reducible exact rfl
  rw [c_Mo_loads (by omega), b_Mo_loads_0]
  have e := loop_up (fun k => Run (callD (d - 1)) tb_Mo_loads 2 [vR 12 0 271, vI s, vI (k : Int)] [] (SH L) (fillP M 280 (ldF (M 272) s.toNat) k)) 8 st 0 (by omega)
  rw [fill_0] at e
  refine e.trans ?_
  rw [b_Mo_loads_2]
  repeat' first
    | (with_reducible apply bR_go; (simp (disch := omega) only [rM L, rK L, rN L, rNf, rNv, rNp, rNd, rRow, rLeg, rMark, nat_cast, Int.reduceToNat]; with_reducible exact rfl))
    | with_reducible apply bI_go
    | with_reducible apply bV_go
    | with_reducible apply bL_go
    | (with_reducible apply it_1; (first | omega | (simp (disch := omega) only [not_false_eq_true, not_true_eq_false, w32_id, tLt, fLt, tLe, fEq, itE, and_true, true_and, and_self, and_false, false_and, ↓reduceIte, nat_add, nat_mul3, nat_mul4, nat_mul6, nat_mul15, nat_mul60, nat_cast, nc1, Int.reduceToNat, upE, upN, i0] <;> omega)))
    | (with_reducible apply it_2; (first | omega | (simp (disch := omega) only [not_false_eq_true, not_true_eq_false, w32_id, tLt, fLt, tLe, fEq, itE, and_true, true_and, and_self, and_false, false_and, ↓reduceIte, nat_add, nat_mul3, nat_mul4, nat_mul6, nat_mul15, nat_mul60, nat_cast, nc1, Int.reduceToNat, upE, upN, i0] <;> omega)))
    | (with_reducible refine cl_go ?_; simp (disch := omega) only [not_false_eq_true, not_true_eq_false, w32_id, tLt, fLt, tLe, fEq, itE, and_true, true_and, and_self, and_false, false_and, ↓reduceIte, nat_add, nat_mul3, nat_mul4, nat_mul6, nat_mul15, nat_mul60, nat_cast, nc1, Int.reduceToNat, upE, upN, i0])
    | (with_reducible refine rn_go ?_; simp (disch := omega) only [not_false_eq_true, not_true_eq_false, w32_id, tLt, fLt, tLe, fEq, itE, and_true, true_and, and_self, and_false, false_and, ↓reduceIte, nat_add, nat_mul3, nat_mul4, nat_mul6, nat_mul15, nat_mul60, nat_cast, nc1, Int.reduceToNat, upE, upN, i0])
    | (with_reducible refine lf_go ?_; simp (disch := omega) only [not_false_eq_true, not_true_eq_false, w32_id, tLt, fLt, tLe, fEq, itE, and_true, true_and, and_self, and_false, false_and, ↓reduceIte, nat_add, nat_mul3, nat_mul4, nat_mul6, nat_mul15, nat_mul60, nat_cast, nc1, Int.reduceToNat, upE, upN, i0])
    | with_reducible exact rfl

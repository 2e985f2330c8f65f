/-! a copy of a chart -/
def CpC (M M' : Mm) (c e : Nat) : Prop := (∀ j, j < 4 → M' (c + 1) j = M (e + 1) j) ∧ (∀ i j, i < 4 → j < 8 → M' (c + 3 + i) j = M (e + 3 + i) j) ∧ (∀ o j, 7 ≤ o → o ≤ 10 → j < 6 → M' (c + o) j = M (e + o) j) ∧ (∀ o j, 11 ≤ o → o ≤ 13 → j < 8 → M' (c + o) j = M (e + o) j) ∧ (∀ j, j < 6 → M' (c + 14) j = M (e + 14) j) ∧ (∀ p j, p < 6 → j < 8 → M' (c + 16 + p) j = M (e + 16 + p) j) ∧ (∀ p j, p < 6 → j < 6 → M' (c + 23 + p) j = M (e + 23 + p) j) ∧ M' c 12 = M e 12 ∧ ∀ b j, ¬(c ≤ b ∧ b ≤ c + 28) → M' b j = M b j
section
variable {M : Mm} {L d c e : Nat}
theorem c_copy (hd : 1 ≤ d) (hc : isCh c) (he : isCh e) (hce : c + 47 ≤ e ∨ e + 47 ≤ c) : Wp (callD d m_Chart_copyFrom [vR 0 0 c, vR 0 0 e] (SH L) M) (fun r S M' => r = none ∧ S = SH L ∧ CpC M M' c e) := by
  repeat' first
    | (with_reducible apply wp_bR; (simp (disch := omega) only [rM L, rK L, rN L, rNf, rNv, rNp, rNd, rRow, rLeg, rMark, nat_cast, Int.reduceToNat, rC hc, rC he]; with_reducible exact rfl))
    | with_reducible apply wp_bI
    | with_reducible apply wp_bV
    | with_reducible apply wp_bL
    | with_reducible apply wp_rI
    | with_reducible apply wp_rV
    | with_reducible apply wp_rL
    | (with_reducible apply wp_1; (first | omega | (simp (disch := omega) only [not_false_eq_true, not_true_eq_false, w32_id, tLt, fLt, tLe, fEq, itE, and_true, true_and, and_self, and_false, false_and, ↓reduceIte, nat_add, nat_mul3, nat_mul4, nat_mul6, nat_mul15, nat_mul60, nat_cast, nc1, Int.reduceToNat, upE, upN, fill_ne, fill_in, i0, rC hc, rC he] <;> omega)))
    | (with_reducible apply wp_2; (first | omega | (simp (disch := omega) only [not_false_eq_true, not_true_eq_false, w32_id, tLt, fLt, tLe, fEq, itE, and_true, true_and, and_self, and_false, false_and, ↓reduceIte, nat_add, nat_mul3, nat_mul4, nat_mul6, nat_mul15, nat_mul60, nat_cast, nc1, Int.reduceToNat, upE, upN, fill_ne, fill_in, i0, rC hc, rC he] <;> omega)))
    | (with_reducible apply wp_s; (first | (simp (disch := omega) only [not_false_eq_true, not_true_eq_false, w32_id, tLt, fLt, tLe, fEq, itE, and_true, true_and, and_self, and_false, false_and, ↓reduceIte, nat_add, nat_mul3, nat_mul4, nat_mul6, nat_mul15, nat_mul60, nat_cast, nc1, Int.reduceToNat, upE, upN, fill_ne, fill_in, i0, rC hc, rC he]; with_reducible exact Iff.rfl) | with_reducible exact Iff.rfl); intro hc__; (try subst hc__); rotate_left; intro hc__; rotate_left)
    | (with_reducible apply wp_eq; (with_reducible apply cl_go; simp (disch := omega) only [not_false_eq_true, not_true_eq_false, w32_id, tLt, fLt, tLe, fEq, itE, and_true, true_and, and_self, and_false, false_and, ↓reduceIte, nat_add, nat_mul3, nat_mul4, nat_mul6, nat_mul15, nat_mul60, nat_cast, nc1, Int.reduceToNat, upE, upN, fill_ne, fill_in, i0, rC hc, rC he]; with_reducible exact rfl))
    | (with_reducible refine wp_eq (c_Chart_copyFrom (by omega) _ _ _ _) ?_; with_reducible refine wp_eq (b_Chart_copyFrom_0 _ _ _ _ _) ?_)
    | (with_reducible apply wp_eq; (with_reducible apply lf_go; simp (disch := omega) only [not_false_eq_true, not_true_eq_false, w32_id, tLt, fLt, tLe, fEq, itE, and_true, true_and, and_self, and_false, false_and, ↓reduceIte, nat_add, nat_mul3, nat_mul4, nat_mul6, nat_mul15, nat_mul60, nat_cast, nc1, Int.reduceToNat, upE, upN, fill_ne, fill_in, i0, rC hc, rC he]; with_reducible exact rfl))
    | with_reducible apply wp_q1
  refine wp_loop (α := Mm) (G := fun k a => Run (callD (d - 1)) tb_Chart_copyFrom 16 [vR 0 0 c, vR 0 0 e, vI (k : Int)] [] (SH L) a) (I := fun k a => (∀ j, j < 4 → a (c + 1) j = M (e + 1) j) ∧ (∀ i j, i < k → j < 8 → a (c + 3 + i) j = M (e + 3 + i) j) ∧ ∀ b j, ¬(c + 1 ≤ b ∧ b ≤ c + 6) → a b j = M b j) 4 ?_ ?_ 0 _ (by omega) ?_
  · intro k M1 hk ⟨i1, i2, i3⟩ ih
    have r1 := rCn (L := L) hc (k := k) hk
    have r2 := rCn (L := L) he (k := k) hk
    have nx : (∀ j, j < 4 → cpy M1 (e + 3 + k) 0 (c + 3 + k) 0 8 (c + 1) j = M (e + 1) j) ∧ (∀ i j, i < k + 1 → j < 8 → cpy M1 (e + 3 + k) 0 (c + 3 + k) 0 8 (c + 3 + i) j = M (e + 3 + i) j) ∧ ∀ b j, ¬(c + 1 ≤ b ∧ b ≤ c + 6) → cpy M1 (e + 3 + k) 0 (c + 3 + k) 0 8 b j = M b j := by
      refine ⟨fun j hj => by rw [cpN (by omega)]; exact i1 j hj, fun i j hi hj => ?_, fun b j q => by rw [cpN (by omega)]; exact i3 b j q⟩
      by_cases q : i = k
      · subst q
        rw [cpI rfl (by omega) (by omega), i3 _ _ (by omega)]
        congr 1
        omega
      · rw [cpN (by omega)]; exact i2 i j (by omega) hj
    refine wp_eq (b_Chart_copyFrom_16 _ _ _ _ _ _) ?_
    repeat' first
      | (with_reducible apply wp_bR; (simp (disch := omega) only [rM L, rK L, rN L, rNf, rNv, rNp, rNd, rRow, rLeg, rMark, nat_cast, Int.reduceToNat, rC hc, rC he, r1, r2]; with_reducible exact rfl))
      | with_reducible apply wp_bI
      | with_reducible apply wp_bV
      | with_reducible apply wp_bL
      | with_reducible apply wp_rI
      | with_reducible apply wp_rV
      | with_reducible apply wp_rL
      | (with_reducible apply wp_1; (first | omega | (simp (disch := omega) only [not_false_eq_true, not_true_eq_false, w32_id, tLt, fLt, tLe, fEq, itE, and_true, true_and, and_self, and_false, false_and, ↓reduceIte, nat_add, nat_mul3, nat_mul4, nat_mul6, nat_mul15, nat_mul60, nat_cast, nc1, Int.reduceToNat, upE, upN, fill_ne, fill_in, i0, rC hc, rC he, r1, r2] <;> omega)))
      | (with_reducible apply wp_2; (first | omega | (simp (disch := omega) only [not_false_eq_true, not_true_eq_false, w32_id, tLt, fLt, tLe, fEq, itE, and_true, true_and, and_self, and_false, false_and, ↓reduceIte, nat_add, nat_mul3, nat_mul4, nat_mul6, nat_mul15, nat_mul60, nat_cast, nc1, Int.reduceToNat, upE, upN, fill_ne, fill_in, i0, rC hc, rC he, r1, r2] <;> omega)))
      | (with_reducible apply wp_s; (first | (simp (disch := omega) only [not_false_eq_true, not_true_eq_false, w32_id, tLt, fLt, tLe, fEq, itE, and_true, true_and, and_self, and_false, false_and, ↓reduceIte, nat_add, nat_mul3, nat_mul4, nat_mul6, nat_mul15, nat_mul60, nat_cast, nc1, Int.reduceToNat, upE, upN, fill_ne, fill_in, i0, rC hc, rC he, r1, r2]; with_reducible exact Iff.rfl) | with_reducible exact Iff.rfl); intro hc__; (try subst hc__); rotate_left; intro hc__; rotate_left)
      | (with_reducible apply wp_eq; (with_reducible apply cl_go; simp (disch := omega) only [not_false_eq_true, not_true_eq_false, w32_id, tLt, fLt, tLe, fEq, itE, and_true, true_and, and_self, and_false, false_and, ↓reduceIte, nat_add, nat_mul3, nat_mul4, nat_mul6, nat_mul15, nat_mul60, nat_cast, nc1, Int.reduceToNat, upE, upN, fill_ne, fill_in, i0, rC hc, rC he, r1, r2]; with_reducible exact rfl))
      | (with_reducible apply wp_eq; (with_reducible apply lf_go; simp (disch := omega) only [not_false_eq_true, not_true_eq_false, w32_id, tLt, fLt, tLe, fEq, itE, and_true, true_and, and_self, and_false, false_and, ↓reduceIte, nat_add, nat_mul3, nat_mul4, nat_mul6, nat_mul15, nat_mul60, nat_cast, nc1, Int.reduceToNat, upE, upN, fill_ne, fill_in, i0, rC hc, rC he, r1, r2]; with_reducible exact rfl))
      | with_reducible apply wp_q1
    all_goals (apply wp_nx ih; (first | with_reducible rfl | (simp (disch := omega) only [not_false_eq_true, not_true_eq_false, w32_id, tLt, fLt, tLe, fEq, itE, and_true, true_and, and_self, and_false, false_and, ↓reduceIte, nat_add, nat_mul3, nat_mul4, nat_mul6, nat_mul15, nat_mul60, nat_cast, nc1, Int.reduceToNat, upE, upN, fill_ne, fill_in, i0]; (try with_reducible rfl))); exact nx)
  · intro M1 ⟨i1, i2, i3⟩
    refine wp_eq (b_Chart_copyFrom_16 _ _ _ _ _ _) ?_
    repeat' first
      | (with_reducible apply wp_bR; (simp (disch := omega) only [rM L, rK L, rN L, rNf, rNv, rNp, rNd, rRow, rLeg, rMark, nat_cast, Int.reduceToNat, rC hc, rC he]; with_reducible exact rfl))
      | with_reducible apply wp_bI
      | with_reducible apply wp_bV
      | with_reducible apply wp_bL
      | with_reducible apply wp_rI
      | with_reducible apply wp_rV
      | with_reducible apply wp_rL
      | (with_reducible apply wp_1; (first | omega | (simp (disch := omega) only [not_false_eq_true, not_true_eq_false, w32_id, tLt, fLt, tLe, fEq, itE, and_true, true_and, and_self, and_false, false_and, ↓reduceIte, nat_add, nat_mul3, nat_mul4, nat_mul6, nat_mul15, nat_mul60, nat_cast, nc1, Int.reduceToNat, upE, upN, fill_ne, fill_in, i0, rC hc, rC he] <;> omega)))
      | (with_reducible apply wp_2; (first | omega | (simp (disch := omega) only [not_false_eq_true, not_true_eq_false, w32_id, tLt, fLt, tLe, fEq, itE, and_true, true_and, and_self, and_false, false_and, ↓reduceIte, nat_add, nat_mul3, nat_mul4, nat_mul6, nat_mul15, nat_mul60, nat_cast, nc1, Int.reduceToNat, upE, upN, fill_ne, fill_in, i0, rC hc, rC he] <;> omega)))
      | (with_reducible apply wp_s; (first | (simp (disch := omega) only [not_false_eq_true, not_true_eq_false, w32_id, tLt, fLt, tLe, fEq, itE, and_true, true_and, and_self, and_false, false_and, ↓reduceIte, nat_add, nat_mul3, nat_mul4, nat_mul6, nat_mul15, nat_mul60, nat_cast, nc1, Int.reduceToNat, upE, upN, fill_ne, fill_in, i0, rC hc, rC he]; with_reducible exact Iff.rfl) | with_reducible exact Iff.rfl); intro hc__; (try subst hc__); rotate_left; intro hc__; rotate_left)
      | (with_reducible apply wp_eq; (with_reducible apply cl_go; simp (disch := omega) only [not_false_eq_true, not_true_eq_false, w32_id, tLt, fLt, tLe, fEq, itE, and_true, true_and, and_self, and_false, false_and, ↓reduceIte, nat_add, nat_mul3, nat_mul4, nat_mul6, nat_mul15, nat_mul60, nat_cast, nc1, Int.reduceToNat, upE, upN, fill_ne, fill_in, i0, rC hc, rC he]; with_reducible exact rfl))
      | (with_reducible apply wp_eq; (with_reducible apply lf_go; simp (disch := omega) only [not_false_eq_true, not_true_eq_false, w32_id, tLt, fLt, tLe, fEq, itE, and_true, true_and, and_self, and_false, false_and, ↓reduceIte, nat_add, nat_mul3, nat_mul4, nat_mul6, nat_mul15, nat_mul60, nat_cast, nc1, Int.reduceToNat, upE, upN, fill_ne, fill_in, i0, rC hc, rC he]; with_reducible exact rfl))
      | with_reducible apply wp_q1
    generalize hM2 : cpy (cpy (cpy (cpy (cpy (cpy (cpy (cpy M1 (e + 7) 0 (c + 7) 0 6) (e + 8) 0 (c + 8) 0 6) (e + 9) 0 (c + 9) 0 6) (e + 10) 0 (c + 10) 0 6) (e + 11) 0 (c + 11) 0 8) (e + 12) 0 (c + 12) 0 8) (e + 13) 0 (c + 13) 0 8) (e + 14) 0 (c + 14) 0 6 = M2
    have a1 : ∀ b j, ¬(c + 1 ≤ b ∧ b ≤ c + 14) → M2 b j = M b j := fun b j q => by
      rw [← hM2]
      simp (disch := omega) only [cpN]
      exact i3 b j (by omega)
    have a2 : ∀ b j, b ≤ c + 6 → M2 b j = M1 b j := fun b j q => by
      rw [← hM2]
      simp (disch := omega) only [cpN]
    have a3 : ∀ o j, 7 ≤ o → o ≤ 10 → j < 6 → M2 (c + o) j = M (e + o) j := fun o j q1 q2 q3 => by
      have : o = 7 ∨ o = 8 ∨ o = 9 ∨ o = 10 := by omega
      rw [← hM2]
      rcases this with rfl | rfl | rfl | rfl
      all_goals (simp (disch := omega) only [cpN, cpI, Nat.zero_add, Nat.sub_zero]; exact i3 _ _ (by omega))
    have a4 : ∀ o j, 11 ≤ o → o ≤ 13 → j < 8 → M2 (c + o) j = M (e + o) j := fun o j q1 q2 q3 => by
      have : o = 11 ∨ o = 12 ∨ o = 13 := by omega
      rw [← hM2]
      rcases this with rfl | rfl | rfl
      all_goals (simp (disch := omega) only [cpN, cpI, Nat.zero_add, Nat.sub_zero]; exact i3 _ _ (by omega))
    have a5 : ∀ j, j < 6 → M2 (c + 14) j = M (e + 14) j := fun j q => by
      rw [← hM2]
      simp (disch := omega) only [cpN, cpI, Nat.zero_add, Nat.sub_zero]
      exact i3 _ _ (by omega)
    refine wp_loop (α := Mm) (G := fun k a => Run (callD (d - 1)) tb_Chart_copyFrom 168 [vR 0 0 c, vR 0 0 e, vI (k : Int)] [] (SH L) a) (I := fun k a => (∀ p j, p < k → j < 8 → a (c + 16 + p) j = M (e + 16 + p) j) ∧ (∀ p j, p < k → j < 6 → a (c + 23 + p) j = M (e + 23 + p) j) ∧ ∀ b j, ¬(c + 16 ≤ b ∧ b ≤ c + 28) → a b j = M2 b j) 6 ?_ ?_ 0 M2 (by omega) ⟨fun _ _ h => by omega, fun _ _ h => by omega, fun _ _ _ => rfl⟩
    · intro k M3 hk ⟨j1', j2, j3⟩ ih
      have r1 := rCp (L := L) hc (k := k) hk
      have r2 := rCp (L := L) he (k := k) hk
      have r3 := rCd (L := L) hc (k := k) hk
      have r4 := rCd (L := L) he (k := k) hk
      have nx : (∀ p j, p < k + 1 → j < 8 → cpy (cpy M3 (e + 16 + k) 0 (c + 16 + k) 0 8) (e + 23 + k) 0 (c + 23 + k) 0 6 (c + 16 + p) j = M (e + 16 + p) j) ∧ (∀ p j, p < k + 1 → j < 6 → cpy (cpy M3 (e + 16 + k) 0 (c + 16 + k) 0 8) (e + 23 + k) 0 (c + 23 + k) 0 6 (c + 23 + p) j = M (e + 23 + p) j) ∧ ∀ b j, ¬(c + 16 ≤ b ∧ b ≤ c + 28) → cpy (cpy M3 (e + 16 + k) 0 (c + 16 + k) 0 8) (e + 23 + k) 0 (c + 23 + k) 0 6 b j = M2 b j := by
        refine ⟨fun p j hp hj => ?_, fun p j hp hj => ?_, fun b j q => by rw [cpN (by omega), cpN (by omega)]; exact j3 b j q⟩
        · rw [cpN (by omega)]
          by_cases q : p = k
          · subst q
            rw [cpI rfl (by omega) (by omega), j3 _ _ (by omega), a1 _ _ (by omega)]
            congr 1
            omega
          · rw [cpN (by omega)]; exact j1' p j (by omega) hj
        · by_cases q : p = k
          · subst q
            rw [cpI rfl (by omega) (by omega), cpN (by omega), j3 _ _ (by omega), a1 _ _ (by omega)]
            congr 1
            omega
          · rw [cpN (by omega), cpN (by omega)]; exact j2 p j (by omega) hj
      refine wp_eq (b_Chart_copyFrom_168 _ _ _ _ _ _) ?_
      repeat' first
        | (with_reducible apply wp_bR; (simp (disch := omega) only [rM L, rK L, rN L, rNf, rNv, rNp, rNd, rRow, rLeg, rMark, nat_cast, Int.reduceToNat, rC hc, rC he, r1, r2, r3, r4]; with_reducible exact rfl))
        | with_reducible apply wp_bI
        | with_reducible apply wp_bV
        | with_reducible apply wp_bL
        | with_reducible apply wp_rI
        | with_reducible apply wp_rV
        | with_reducible apply wp_rL
        | (with_reducible apply wp_1; (first | omega | (simp (disch := omega) only [not_false_eq_true, not_true_eq_false, w32_id, tLt, fLt, tLe, fEq, itE, and_true, true_and, and_self, and_false, false_and, ↓reduceIte, nat_add, nat_mul3, nat_mul4, nat_mul6, nat_mul15, nat_mul60, nat_cast, nc1, Int.reduceToNat, upE, upN, fill_ne, fill_in, i0, rC hc, rC he, r1, r2, r3, r4] <;> omega)))
        | (with_reducible apply wp_2; (first | omega | (simp (disch := omega) only [not_false_eq_true, not_true_eq_false, w32_id, tLt, fLt, tLe, fEq, itE, and_true, true_and, and_self, and_false, false_and, ↓reduceIte, nat_add, nat_mul3, nat_mul4, nat_mul6, nat_mul15, nat_mul60, nat_cast, nc1, Int.reduceToNat, upE, upN, fill_ne, fill_in, i0, rC hc, rC he, r1, r2, r3, r4] <;> omega)))
        | (with_reducible apply wp_s; (first | (simp (disch := omega) only [not_false_eq_true, not_true_eq_false, w32_id, tLt, fLt, tLe, fEq, itE, and_true, true_and, and_self, and_false, false_and, ↓reduceIte, nat_add, nat_mul3, nat_mul4, nat_mul6, nat_mul15, nat_mul60, nat_cast, nc1, Int.reduceToNat, upE, upN, fill_ne, fill_in, i0, rC hc, rC he, r1, r2, r3, r4]; with_reducible exact Iff.rfl) | with_reducible exact Iff.rfl); intro hc__; (try subst hc__); rotate_left; intro hc__; rotate_left)
        | (with_reducible apply wp_eq; (with_reducible apply cl_go; simp (disch := omega) only [not_false_eq_true, not_true_eq_false, w32_id, tLt, fLt, tLe, fEq, itE, and_true, true_and, and_self, and_false, false_and, ↓reduceIte, nat_add, nat_mul3, nat_mul4, nat_mul6, nat_mul15, nat_mul60, nat_cast, nc1, Int.reduceToNat, upE, upN, fill_ne, fill_in, i0, rC hc, rC he, r1, r2, r3, r4]; with_reducible exact rfl))
        | (with_reducible apply wp_eq; (with_reducible apply lf_go; simp (disch := omega) only [not_false_eq_true, not_true_eq_false, w32_id, tLt, fLt, tLe, fEq, itE, and_true, true_and, and_self, and_false, false_and, ↓reduceIte, nat_add, nat_mul3, nat_mul4, nat_mul6, nat_mul15, nat_mul60, nat_cast, nc1, Int.reduceToNat, upE, upN, fill_ne, fill_in, i0, rC hc, rC he, r1, r2, r3, r4]; with_reducible exact rfl))
        | with_reducible apply wp_q1
      all_goals (apply wp_nx ih; (first | with_reducible rfl | (simp (disch := omega) only [not_false_eq_true, not_true_eq_false, w32_id, tLt, fLt, tLe, fEq, itE, and_true, true_and, and_self, and_false, false_and, ↓reduceIte, nat_add, nat_mul3, nat_mul4, nat_mul6, nat_mul15, nat_mul60, nat_cast, nc1, Int.reduceToNat, upE, upN, fill_ne, fill_in, i0]; (try with_reducible rfl))); exact nx)
    · intro M3 ⟨j1', j2, j3⟩
      have b12 : M3 e 12 = M e 12 := by rw [j3 _ _ (by omega), a1 _ _ (by omega)]
      refine wp_eq (b_Chart_copyFrom_168 _ _ _ _ _ _) ?_
      repeat' first
        | (with_reducible apply wp_bR; (simp (disch := omega) only [rM L, rK L, rN L, rNf, rNv, rNp, rNd, rRow, rLeg, rMark, nat_cast, Int.reduceToNat, b12]; with_reducible exact rfl))
        | with_reducible apply wp_bI
        | with_reducible apply wp_bV
        | with_reducible apply wp_bL
        | with_reducible apply wp_rI
        | with_reducible apply wp_rV
        | with_reducible apply wp_rL
        | (with_reducible apply wp_1; (first | omega | (simp (disch := omega) only [not_false_eq_true, not_true_eq_false, w32_id, tLt, fLt, tLe, fEq, itE, and_true, true_and, and_self, and_false, false_and, ↓reduceIte, nat_add, nat_mul3, nat_mul4, nat_mul6, nat_mul15, nat_mul60, nat_cast, nc1, Int.reduceToNat, upE, upN, fill_ne, fill_in, i0, b12] <;> omega)))
        | (with_reducible apply wp_2; (first | omega | (simp (disch := omega) only [not_false_eq_true, not_true_eq_false, w32_id, tLt, fLt, tLe, fEq, itE, and_true, true_and, and_self, and_false, false_and, ↓reduceIte, nat_add, nat_mul3, nat_mul4, nat_mul6, nat_mul15, nat_mul60, nat_cast, nc1, Int.reduceToNat, upE, upN, fill_ne, fill_in, i0, b12] <;> omega)))
        | (with_reducible apply wp_s; (first | (simp (disch := omega) only [not_false_eq_true, not_true_eq_false, w32_id, tLt, fLt, tLe, fEq, itE, and_true, true_and, and_self, and_false, false_and, ↓reduceIte, nat_add, nat_mul3, nat_mul4, nat_mul6, nat_mul15, nat_mul60, nat_cast, nc1, Int.reduceToNat, upE, upN, fill_ne, fill_in, i0, b12]; with_reducible exact Iff.rfl) | with_reducible exact Iff.rfl); intro hc__; (try subst hc__); rotate_left; intro hc__; rotate_left)
        | (with_reducible apply wp_eq; (with_reducible apply cl_go; simp (disch := omega) only [not_false_eq_true, not_true_eq_false, w32_id, tLt, fLt, tLe, fEq, itE, and_true, true_and, and_self, and_false, false_and, ↓reduceIte, nat_add, nat_mul3, nat_mul4, nat_mul6, nat_mul15, nat_mul60, nat_cast, nc1, Int.reduceToNat, upE, upN, fill_ne, fill_in, i0, b12]; with_reducible exact rfl))
        | (with_reducible apply wp_eq; (with_reducible apply lf_go; simp (disch := omega) only [not_false_eq_true, not_true_eq_false, w32_id, tLt, fLt, tLe, fEq, itE, and_true, true_and, and_self, and_false, false_and, ↓reduceIte, nat_add, nat_mul3, nat_mul4, nat_mul6, nat_mul15, nat_mul60, nat_cast, nc1, Int.reduceToNat, upE, upN, fill_ne, fill_in, i0, b12]; with_reducible exact rfl))
        | with_reducible apply wp_q1
      refine wp_ret ⟨rfl, rfl, fun j hj => ?_, fun i j hi hj => ?_, fun o j q1 q2 q3 => ?_, fun o j q1 q2 q3 => ?_, fun j hj => ?_, fun p j hp hj => ?_, fun p j hp hj => ?_, upE rfl rfl, fun b j q => ?_⟩
      · rw [upN (by omega), j3 _ _ (by omega), a2 _ _ (by omega)]; exact i1 j hj
      · rw [upN (by omega), j3 _ _ (by omega), a2 _ _ (by omega)]; exact i2 i j hi hj
      · rw [upN (by omega), j3 _ _ (by omega)]; exact a3 o j q1 q2 q3
      · rw [upN (by omega), j3 _ _ (by omega)]; exact a4 o j q1 q2 q3
      · rw [upN (by omega), j3 _ _ (by omega)]; exact a5 j hj
      · rw [upN (by omega)]; exact j1' p j hp hj
      · rw [upN (by omega)]; exact j2 p j hp hj
      · rw [upN (by omega), j3 _ _ (by omega)]; exact a1 b j (by omega)
  · refine ⟨fun j hj => ?_, fun i j hi => by omega, fun b j q => by rw [cpN (by omega)]⟩
    rw [cpI rfl (by omega) (by omega)]
    congr 1
    omega
end

/-! THE CLASS: weights, captains, flags -/
def ChW (M : Mm) (c : Nat) (A : Nat → Int) : Prop :=
  (∀ k, k < 4 → M (c + 1) k = A k) ∧ M c 12 = A 4 ∧
  (∀ n : Nat, (n : Int) < A 0 → M (c + 7) n = A (8 + 4 * n) ∧ M (c + 8) n = A (9 + 4 * n) ∧ M (c + 9) n = A (10 + 4 * n) ∧ M (c + 10) n = A (11 + 4 * n)) ∧
  (∀ g : Nat, (g : Int) < A 1 → M (c + 11) g = A (32 + 3 * g) ∧ M (c + 12) g = A (33 + 3 * g) ∧ M (c + 13) g = A (34 + 3 * g)) ∧
  (∀ p : Nat, (p : Int) < A 2 → M (c + 14) p = A (56 + 15 * p)) ∧
  (∀ p g : Nat, p < 6 → g < 8 → M (c + 16 + p) g = A (57 + 15 * p + g)) ∧
  (∀ p q : Nat, p < 6 → q < 6 → M (c + 23 + p) q = A (65 + 15 * p + q))
theorem fill_upd {M : Mm} {a : Nat} {f f' : Nat → Int} {n o : Nat} {v : Int} (ho : o < n) (hv : v = f' o) (h : ∀ k, k < n → k ≠ o → f' k = f k) : up (fillP M a f n) a o v = fillP M a f' n := by
  funext b j
  unfold up fillP
  by_cases h1 : b = a ∧ j = o
  · rw [if_pos h1, if_pos (by omega), h1.2, hv]
  · rw [if_neg h1]
    by_cases h2 : b = a ∧ j < n
    · rw [if_pos h2, if_pos h2, h j h2.2 (by omega)]
    · rw [if_neg h2, if_neg h2]
theorem fill_congr {M : Mm} {a : Nat} {f f' : Nat → Int} {n : Nat} (h : ∀ k, k < n → f k = f' k) : fillP M a f n = fillP M a f' n := by
  funext b j
  unfold fillP
  by_cases h2 : b = a ∧ j < n
  · rw [if_pos h2, if_pos h2, h j h2.2]
  · rw [if_neg h2, if_neg h2]
theorem s_Chart_weigh {d L c t : Nat} {M : Mm} {A ld : Nat → Int} {r : Int} (hd : 1 ≤ d) (hc : isCh c) (hA : ChW M c A) (hC : Cn A) (hG : Gd A) (hl : ∀ g : Nat, (g : Int) < A 1 → M t g = ld g) (hL : Ld ld) (ht : t ≠ c + 29) : callD d m_Chart_weigh [vR 0 0 c, vR 20 8 t, vI r] (SH L) M = some (none, SH L, fillP M (c + 29) (fun n => wts A ld r n) (A 0).toNat) := by
  have hC' := hC
  unfold Cn at hC'
  obtain ⟨hcnt, -, -, hgd, -⟩ := hA
  have st1 : ∀ k : Nat, k < (A 0).toNat → Run (callD (d - 1)) tb_Chart_weigh 2 [vR 0 0 c, vR 20 8 t, vI r, vI (k : Int)] [] (SH L) (fillP M (c + 29) (fun _ => 0) k) = Run (callD (d - 1)) tb_Chart_weigh 2 [vR 0 0 c, vR 20 8 t, vI r, vI ((k + 1 : Nat) : Int)] [] (SH L) (fillP M (c + 29) (fun _ => 0) (k + 1)) := by
    intro k hk
    rw [b_Chart_weigh_2, ← fill_s M (c + 29) (fun _ => 0) k rfl]
    repeat' first
      | (with_reducible apply bR_go; (simp (disch := omega) only [rM L, rK L, rN L, rNf, rNv, rNp, rNd, rRow, rLeg, rMark, nat_cast, Int.reduceToNat, rC hc, fill_ne, hcnt]; with_reducible exact rfl))
      | with_reducible apply bI_go
      | with_reducible apply bV_go
      | with_reducible apply bL_go
      | (with_reducible apply it_1; (first | omega | (simp (disch := omega) only [not_false_eq_true, not_true_eq_false, w32_id, tLt, fLt, tLe, fEq, itE, and_true, true_and, and_self, and_false, false_and, ↓reduceIte, nat_add, nat_mul3, nat_mul4, nat_mul6, nat_mul15, nat_mul60, nat_cast, nc1, Int.reduceToNat, upE, upN, i0, rC hc, fill_ne, hcnt] <;> omega)))
      | (with_reducible apply it_2; (first | omega | (simp (disch := omega) only [not_false_eq_true, not_true_eq_false, w32_id, tLt, fLt, tLe, fEq, itE, and_true, true_and, and_self, and_false, false_and, ↓reduceIte, nat_add, nat_mul3, nat_mul4, nat_mul6, nat_mul15, nat_mul60, nat_cast, nc1, Int.reduceToNat, upE, upN, i0, rC hc, fill_ne, hcnt] <;> omega)))
      | (with_reducible refine cl_go ?_; simp (disch := omega) only [not_false_eq_true, not_true_eq_false, w32_id, tLt, fLt, tLe, fEq, itE, and_true, true_and, and_self, and_false, false_and, ↓reduceIte, nat_add, nat_mul3, nat_mul4, nat_mul6, nat_mul15, nat_mul60, nat_cast, nc1, Int.reduceToNat, upE, upN, i0, rC hc, fill_ne, hcnt])
      | (with_reducible refine rn_go ?_; simp (disch := omega) only [not_false_eq_true, not_true_eq_false, w32_id, tLt, fLt, tLe, fEq, itE, and_true, true_and, and_self, and_false, false_and, ↓reduceIte, nat_add, nat_mul3, nat_mul4, nat_mul6, nat_mul15, nat_mul60, nat_cast, nc1, Int.reduceToNat, upE, upN, i0, rC hc, fill_ne, hcnt])
      | (with_reducible refine lf_go ?_; simp (disch := omega) only [not_false_eq_true, not_true_eq_false, w32_id, tLt, fLt, tLe, fEq, itE, and_true, true_and, and_self, and_false, false_and, ↓reduceIte, nat_add, nat_mul3, nat_mul4, nat_mul6, nat_mul15, nat_mul60, nat_cast, nc1, Int.reduceToNat, upE, upN, i0, rC hc, fill_ne, hcnt])
      | with_reducible exact rfl
  have st2 : ∀ k : Nat, k < (A 1).toNat → Run (callD (d - 1)) tb_Chart_weigh 27 [vR 0 0 c, vR 20 8 t, vI r, vI (k : Int)] [] (SH L) (fillP M (c + 29) (fun n => wt A ld r n k) (A 0).toNat) = Run (callD (d - 1)) tb_Chart_weigh 27 [vR 0 0 c, vR 20 8 t, vI r, vI ((k + 1 : Nat) : Int)] [] (SH L) (fillP M (c + 29) (fun n => wt A ld r n (k + 1)) (A 0).toNat) := by
    intro k hk
    have hg := hG k (by omega)
    have hl' := hL k (by omega)
    have hb := wt_bd (r := r) (n := A (32 + 3 * k)) hG hL (by omega) k (by omega)
    have hp := mul_bd hl'.1 hl'.2 (show 0 ≤ A (33 + 3 * k) by omega) hg.2.2.2.1
    have ho : ((A (32 + 3 * k)).toNat : Int) = A (32 + 3 * k) := by omega
    rw [b_Chart_weigh_27]
    by_cases h1 : 0 < ld k
    · by_cases h2 : r = 0
      · rw [← fill_upd (f := fun n => wt A ld r n k) (f' := fun n => wt A ld r n (k + 1)) (o := (A (32 + 3 * k)).toNat) (v := wt A ld r (A (32 + 3 * k)) k + ld k) (by omega) (by rw [ho, wt_s, if_pos ⟨rfl, h1⟩, if_pos h2]) fun n hn hne => by rw [wt_s, if_neg (by omega), Int.add_zero]]
        repeat' first
          | (with_reducible apply bR_go; (simp (disch := omega) only [rM L, rK L, rN L, rNf, rNv, rNp, rNd, rRow, rLeg, rMark, nat_cast, Int.reduceToNat, rC hc, fill_ne, fill_in, hcnt, hgd, hl, ho]; with_reducible exact rfl))
          | with_reducible apply bI_go
          | with_reducible apply bV_go
          | with_reducible apply bL_go
          | (with_reducible apply it_1; (first | omega | (simp (disch := omega) only [not_false_eq_true, not_true_eq_false, w32_id, tLt, fLt, tLe, fEq, itE, and_true, true_and, and_self, and_false, false_and, ↓reduceIte, nat_add, nat_mul3, nat_mul4, nat_mul6, nat_mul15, nat_mul60, nat_cast, nc1, Int.reduceToNat, upE, upN, i0, rC hc, fill_ne, fill_in, hcnt, hgd, hl, ho] <;> omega)))
          | (with_reducible apply it_2; (first | omega | (simp (disch := omega) only [not_false_eq_true, not_true_eq_false, w32_id, tLt, fLt, tLe, fEq, itE, and_true, true_and, and_self, and_false, false_and, ↓reduceIte, nat_add, nat_mul3, nat_mul4, nat_mul6, nat_mul15, nat_mul60, nat_cast, nc1, Int.reduceToNat, upE, upN, i0, rC hc, fill_ne, fill_in, hcnt, hgd, hl, ho] <;> omega)))
          | (with_reducible refine cl_go ?_; simp (disch := omega) only [not_false_eq_true, not_true_eq_false, w32_id, tLt, fLt, tLe, fEq, itE, and_true, true_and, and_self, and_false, false_and, ↓reduceIte, nat_add, nat_mul3, nat_mul4, nat_mul6, nat_mul15, nat_mul60, nat_cast, nc1, Int.reduceToNat, upE, upN, i0, rC hc, fill_ne, fill_in, hcnt, hgd, hl, ho])
          | (with_reducible refine rn_go ?_; simp (disch := omega) only [not_false_eq_true, not_true_eq_false, w32_id, tLt, fLt, tLe, fEq, itE, and_true, true_and, and_self, and_false, false_and, ↓reduceIte, nat_add, nat_mul3, nat_mul4, nat_mul6, nat_mul15, nat_mul60, nat_cast, nc1, Int.reduceToNat, upE, upN, i0, rC hc, fill_ne, fill_in, hcnt, hgd, hl, ho])
          | (with_reducible refine lf_go ?_; simp (disch := omega) only [not_false_eq_true, not_true_eq_false, w32_id, tLt, fLt, tLe, fEq, itE, and_true, true_and, and_self, and_false, false_and, ↓reduceIte, nat_add, nat_mul3, nat_mul4, nat_mul6, nat_mul15, nat_mul60, nat_cast, nc1, Int.reduceToNat, upE, upN, i0, rC hc, fill_ne, fill_in, hcnt, hgd, hl, ho])
          | with_reducible exact rfl
      · by_cases h3 : r = 1
        · rw [← fill_upd (f := fun n => wt A ld r n k) (f' := fun n => wt A ld r n (k + 1)) (o := (A (32 + 3 * k)).toNat) (v := wt A ld r (A (32 + 3 * k)) k + 1) (by omega) (by rw [ho, wt_s, if_pos ⟨rfl, h1⟩, if_neg h2, if_pos h3]) fun n hn hne => by rw [wt_s, if_neg (by omega), Int.add_zero]]
          repeat' first
            | (with_reducible apply bR_go; (simp (disch := omega) only [rM L, rK L, rN L, rNf, rNv, rNp, rNd, rRow, rLeg, rMark, nat_cast, Int.reduceToNat, rC hc, fill_ne, fill_in, hcnt, hgd, hl, ho]; with_reducible exact rfl))
            | with_reducible apply bI_go
            | with_reducible apply bV_go
            | with_reducible apply bL_go
            | (with_reducible apply it_1; (first | omega | (simp (disch := omega) only [not_false_eq_true, not_true_eq_false, w32_id, tLt, fLt, tLe, fEq, itE, and_true, true_and, and_self, and_false, false_and, ↓reduceIte, nat_add, nat_mul3, nat_mul4, nat_mul6, nat_mul15, nat_mul60, nat_cast, nc1, Int.reduceToNat, upE, upN, i0, rC hc, fill_ne, fill_in, hcnt, hgd, hl, ho] <;> omega)))
            | (with_reducible apply it_2; (first | omega | (simp (disch := omega) only [not_false_eq_true, not_true_eq_false, w32_id, tLt, fLt, tLe, fEq, itE, and_true, true_and, and_self, and_false, false_and, ↓reduceIte, nat_add, nat_mul3, nat_mul4, nat_mul6, nat_mul15, nat_mul60, nat_cast, nc1, Int.reduceToNat, upE, upN, i0, rC hc, fill_ne, fill_in, hcnt, hgd, hl, ho] <;> omega)))
            | (with_reducible refine cl_go ?_; simp (disch := omega) only [not_false_eq_true, not_true_eq_false, w32_id, tLt, fLt, tLe, fEq, itE, and_true, true_and, and_self, and_false, false_and, ↓reduceIte, nat_add, nat_mul3, nat_mul4, nat_mul6, nat_mul15, nat_mul60, nat_cast, nc1, Int.reduceToNat, upE, upN, i0, rC hc, fill_ne, fill_in, hcnt, hgd, hl, ho])
            | (with_reducible refine rn_go ?_; simp (disch := omega) only [not_false_eq_true, not_true_eq_false, w32_id, tLt, fLt, tLe, fEq, itE, and_true, true_and, and_self, and_false, false_and, ↓reduceIte, nat_add, nat_mul3, nat_mul4, nat_mul6, nat_mul15, nat_mul60, nat_cast, nc1, Int.reduceToNat, upE, upN, i0, rC hc, fill_ne, fill_in, hcnt, hgd, hl, ho])
            | (with_reducible refine lf_go ?_; simp (disch := omega) only [not_false_eq_true, not_true_eq_false, w32_id, tLt, fLt, tLe, fEq, itE, and_true, true_and, and_self, and_false, false_and, ↓reduceIte, nat_add, nat_mul3, nat_mul4, nat_mul6, nat_mul15, nat_mul60, nat_cast, nc1, Int.reduceToNat, upE, upN, i0, rC hc, fill_ne, fill_in, hcnt, hgd, hl, ho])
            | with_reducible exact rfl
        · rw [← fill_upd (f := fun n => wt A ld r n k) (f' := fun n => wt A ld r n (k + 1)) (o := (A (32 + 3 * k)).toNat) (v := wt A ld r (A (32 + 3 * k)) k + ld k * A (33 + 3 * k)) (by omega) (by rw [ho, wt_s, if_pos ⟨rfl, h1⟩, if_neg h2, if_neg h3]) fun n hn hne => by rw [wt_s, if_neg (by omega), Int.add_zero]]
          repeat' first
            | (with_reducible apply bR_go; (simp (disch := omega) only [rM L, rK L, rN L, rNf, rNv, rNp, rNd, rRow, rLeg, rMark, nat_cast, Int.reduceToNat, rC hc, fill_ne, fill_in, hcnt, hgd, hl, ho]; with_reducible exact rfl))
            | with_reducible apply bI_go
            | with_reducible apply bV_go
            | with_reducible apply bL_go
            | (with_reducible apply it_1; (first | omega | (simp (disch := omega) only [not_false_eq_true, not_true_eq_false, w32_id, tLt, fLt, tLe, fEq, itE, and_true, true_and, and_self, and_false, false_and, ↓reduceIte, nat_add, nat_mul3, nat_mul4, nat_mul6, nat_mul15, nat_mul60, nat_cast, nc1, Int.reduceToNat, upE, upN, i0, rC hc, fill_ne, fill_in, hcnt, hgd, hl, ho] <;> omega)))
            | (with_reducible apply it_2; (first | omega | (simp (disch := omega) only [not_false_eq_true, not_true_eq_false, w32_id, tLt, fLt, tLe, fEq, itE, and_true, true_and, and_self, and_false, false_and, ↓reduceIte, nat_add, nat_mul3, nat_mul4, nat_mul6, nat_mul15, nat_mul60, nat_cast, nc1, Int.reduceToNat, upE, upN, i0, rC hc, fill_ne, fill_in, hcnt, hgd, hl, ho] <;> omega)))
            | (with_reducible refine cl_go ?_; simp (disch := omega) only [not_false_eq_true, not_true_eq_false, w32_id, tLt, fLt, tLe, fEq, itE, and_true, true_and, and_self, and_false, false_and, ↓reduceIte, nat_add, nat_mul3, nat_mul4, nat_mul6, nat_mul15, nat_mul60, nat_cast, nc1, Int.reduceToNat, upE, upN, i0, rC hc, fill_ne, fill_in, hcnt, hgd, hl, ho])
            | (with_reducible refine rn_go ?_; simp (disch := omega) only [not_false_eq_true, not_true_eq_false, w32_id, tLt, fLt, tLe, fEq, itE, and_true, true_and, and_self, and_false, false_and, ↓reduceIte, nat_add, nat_mul3, nat_mul4, nat_mul6, nat_mul15, nat_mul60, nat_cast, nc1, Int.reduceToNat, upE, upN, i0, rC hc, fill_ne, fill_in, hcnt, hgd, hl, ho])
            | (with_reducible refine lf_go ?_; simp (disch := omega) only [not_false_eq_true, not_true_eq_false, w32_id, tLt, fLt, tLe, fEq, itE, and_true, true_and, and_self, and_false, false_and, ↓reduceIte, nat_add, nat_mul3, nat_mul4, nat_mul6, nat_mul15, nat_mul60, nat_cast, nc1, Int.reduceToNat, upE, upN, i0, rC hc, fill_ne, fill_in, hcnt, hgd, hl, ho])
            | with_reducible exact rfl
    · rw [fill_congr (f := fun n => wt A ld r n k) (f' := fun n => wt A ld r n (k + 1)) fun n _ => by
        rw [wt_s, if_neg (by omega), Int.add_zero]]
      repeat' first
        | (with_reducible apply bR_go; (simp (disch := omega) only [rM L, rK L, rN L, rNf, rNv, rNp, rNd, rRow, rLeg, rMark, nat_cast, Int.reduceToNat, rC hc, fill_ne, fill_in, hcnt, hgd, hl, ho]; with_reducible exact rfl))
        | with_reducible apply bI_go
        | with_reducible apply bV_go
        | with_reducible apply bL_go
        | (with_reducible apply it_1; (first | omega | (simp (disch := omega) only [not_false_eq_true, not_true_eq_false, w32_id, tLt, fLt, tLe, fEq, itE, and_true, true_and, and_self, and_false, false_and, ↓reduceIte, nat_add, nat_mul3, nat_mul4, nat_mul6, nat_mul15, nat_mul60, nat_cast, nc1, Int.reduceToNat, upE, upN, i0, rC hc, fill_ne, fill_in, hcnt, hgd, hl, ho] <;> omega)))
        | (with_reducible apply it_2; (first | omega | (simp (disch := omega) only [not_false_eq_true, not_true_eq_false, w32_id, tLt, fLt, tLe, fEq, itE, and_true, true_and, and_self, and_false, false_and, ↓reduceIte, nat_add, nat_mul3, nat_mul4, nat_mul6, nat_mul15, nat_mul60, nat_cast, nc1, Int.reduceToNat, upE, upN, i0, rC hc, fill_ne, fill_in, hcnt, hgd, hl, ho] <;> omega)))
        | (with_reducible refine cl_go ?_; simp (disch := omega) only [not_false_eq_true, not_true_eq_false, w32_id, tLt, fLt, tLe, fEq, itE, and_true, true_and, and_self, and_false, false_and, ↓reduceIte, nat_add, nat_mul3, nat_mul4, nat_mul6, nat_mul15, nat_mul60, nat_cast, nc1, Int.reduceToNat, upE, upN, i0, rC hc, fill_ne, fill_in, hcnt, hgd, hl, ho])
        | (with_reducible refine rn_go ?_; simp (disch := omega) only [not_false_eq_true, not_true_eq_false, w32_id, tLt, fLt, tLe, fEq, itE, and_true, true_and, and_self, and_false, false_and, ↓reduceIte, nat_add, nat_mul3, nat_mul4, nat_mul6, nat_mul15, nat_mul60, nat_cast, nc1, Int.reduceToNat, upE, upN, i0, rC hc, fill_ne, fill_in, hcnt, hgd, hl, ho])
        | (with_reducible refine lf_go ?_; simp (disch := omega) only [not_false_eq_true, not_true_eq_false, w32_id, tLt, fLt, tLe, fEq, itE, and_true, true_and, and_self, and_false, false_and, ↓reduceIte, nat_add, nat_mul3, nat_mul4, nat_mul6, nat_mul15, nat_mul60, nat_cast, nc1, Int.reduceToNat, upE, upN, i0, rC hc, fill_ne, fill_in, hcnt, hgd, hl, ho])
        | with_reducible exact rfl
  rw [c_Chart_weigh (by omega), b_Chart_weigh_0]
  have e := loop_up (fun k => Run (callD (d - 1)) tb_Chart_weigh 2 [vR 0 0 c, vR 20 8 t, vI r, vI (k : Int)] [] (SH L) (fillP M (c + 29) (fun _ => 0) k)) (A 0).toNat st1 0 (by omega)
  rw [fill_0] at e
  refine e.trans ?_
  rw [b_Chart_weigh_2]
  refine Eq.trans (b := Run (callD (d - 1)) tb_Chart_weigh 27 [vR 0 0 c, vR 20 8 t, vI r, vI 0] [] (SH L) (fillP M (c + 29) (fun _ => 0) (A 0).toNat)) ?_ ?_
  · repeat' first
      | (with_reducible apply bR_go; (simp (disch := omega) only [rM L, rK L, rN L, rNf, rNv, rNp, rNd, rRow, rLeg, rMark, nat_cast, Int.reduceToNat, rC hc, fill_ne, hcnt]; with_reducible exact rfl))
      | with_reducible apply bI_go
      | with_reducible apply bV_go
      | with_reducible apply bL_go
      | (with_reducible apply it_1; (first | omega | (simp (disch := omega) only [not_false_eq_true, not_true_eq_false, w32_id, tLt, fLt, tLe, fEq, itE, and_true, true_and, and_self, and_false, false_and, ↓reduceIte, nat_add, nat_mul3, nat_mul4, nat_mul6, nat_mul15, nat_mul60, nat_cast, nc1, Int.reduceToNat, upE, upN, i0, rC hc, fill_ne, hcnt] <;> omega)))
      | (with_reducible apply it_2; (first | omega | (simp (disch := omega) only [not_false_eq_true, not_true_eq_false, w32_id, tLt, fLt, tLe, fEq, itE, and_true, true_and, and_self, and_false, false_and, ↓reduceIte, nat_add, nat_mul3, nat_mul4, nat_mul6, nat_mul15, nat_mul60, nat_cast, nc1, Int.reduceToNat, upE, upN, i0, rC hc, fill_ne, hcnt] <;> omega)))
      | (with_reducible refine cl_go ?_; simp (disch := omega) only [not_false_eq_true, not_true_eq_false, w32_id, tLt, fLt, tLe, fEq, itE, and_true, true_and, and_self, and_false, false_and, ↓reduceIte, nat_add, nat_mul3, nat_mul4, nat_mul6, nat_mul15, nat_mul60, nat_cast, nc1, Int.reduceToNat, upE, upN, i0, rC hc, fill_ne, hcnt])
      | (with_reducible refine rn_go ?_; simp (disch := omega) only [not_false_eq_true, not_true_eq_false, w32_id, tLt, fLt, tLe, fEq, itE, and_true, true_and, and_self, and_false, false_and, ↓reduceIte, nat_add, nat_mul3, nat_mul4, nat_mul6, nat_mul15, nat_mul60, nat_cast, nc1, Int.reduceToNat, upE, upN, i0, rC hc, fill_ne, hcnt])
      | (with_reducible refine lf_go ?_; simp (disch := omega) only [not_false_eq_true, not_true_eq_false, w32_id, tLt, fLt, tLe, fEq, itE, and_true, true_and, and_self, and_false, false_and, ↓reduceIte, nat_add, nat_mul3, nat_mul4, nat_mul6, nat_mul15, nat_mul60, nat_cast, nc1, Int.reduceToNat, upE, upN, i0, rC hc, fill_ne, hcnt])
      | with_reducible exact rfl
  refine (loop_up (fun k => Run (callD (d - 1)) tb_Chart_weigh 27 [vR 0 0 c, vR 20 8 t, vI r, vI (k : Int)] [] (SH L) (fillP M (c + 29) (fun n => wt A ld r n k) (A 0).toNat)) (A 1).toNat st2 0 (by omega)).trans ?_
  rw [b_Chart_weigh_27]
  unfold wts
  repeat' first
    | (with_reducible apply bR_go; (simp (disch := omega) only [rM L, rK L, rN L, rNf, rNv, rNp, rNd, rRow, rLeg, rMark, nat_cast, Int.reduceToNat, rC hc, fill_ne, hcnt]; with_reducible exact rfl))
    | with_reducible apply bI_go
    | with_reducible apply bV_go
    | with_reducible apply bL_go
    | (with_reducible apply it_1; (first | omega | (simp (disch := omega) only [not_false_eq_true, not_true_eq_false, w32_id, tLt, fLt, tLe, fEq, itE, and_true, true_and, and_self, and_false, false_and, ↓reduceIte, nat_add, nat_mul3, nat_mul4, nat_mul6, nat_mul15, nat_mul60, nat_cast, nc1, Int.reduceToNat, upE, upN, i0, rC hc, fill_ne, hcnt] <;> omega)))
    | (with_reducible apply it_2; (first | omega | (simp (disch := omega) only [not_false_eq_true, not_true_eq_false, w32_id, tLt, fLt, tLe, fEq, itE, and_true, true_and, and_self, and_false, false_and, ↓reduceIte, nat_add, nat_mul3, nat_mul4, nat_mul6, nat_mul15, nat_mul60, nat_cast, nc1, Int.reduceToNat, upE, upN, i0, rC hc, fill_ne, hcnt] <;> omega)))
    | (with_reducible refine cl_go ?_; simp (disch := omega) only [not_false_eq_true, not_true_eq_false, w32_id, tLt, fLt, tLe, fEq, itE, and_true, true_and, and_self, and_false, false_and, ↓reduceIte, nat_add, nat_mul3, nat_mul4, nat_mul6, nat_mul15, nat_mul60, nat_cast, nc1, Int.reduceToNat, upE, upN, i0, rC hc, fill_ne, hcnt])
    | (with_reducible refine rn_go ?_; simp (disch := omega) only [not_false_eq_true, not_true_eq_false, w32_id, tLt, fLt, tLe, fEq, itE, and_true, true_and, and_self, and_false, false_and, ↓reduceIte, nat_add, nat_mul3, nat_mul4, nat_mul6, nat_mul15, nat_mul60, nat_cast, nc1, Int.reduceToNat, upE, upN, i0, rC hc, fill_ne, hcnt])
    | (with_reducible refine lf_go ?_; simp (disch := omega) only [not_false_eq_true, not_true_eq_false, w32_id, tLt, fLt, tLe, fEq, itE, and_true, true_and, and_self, and_false, false_and, ↓reduceIte, nat_add, nat_mul3, nat_mul4, nat_mul6, nat_mul15, nat_mul60, nat_cast, nc1, Int.reduceToNat, upE, upN, i0, rC hc, fill_ne, hcnt])
    | with_reducible exact rfl
theorem s_Chart_ruler {d L c t : Nat} {M : Mm} {A ld : Nat → Int} {r : Int} (hd : 2 ≤ d) (hc : isCh c) (hA : ChW M c A) (hC : Cn A) (hG : Gd A) (hl : ∀ g : Nat, (g : Int) < A 1 → M t g = ld g) (hL : Ld ld) (ht : t ≠ c + 29) : callD d m_Chart_ruler [vR 0 0 c, vR 20 8 t, vI r] (SH L) M = some (some (vI (flg (fun n => wts A ld r n) (A 0).toNat)), SH L, fillP M (c + 29) (fun n => wts A ld r n) (A 0).toNat) := by
  have hC' := hC
  unfold Cn at hC'
  have hcnt := hA.1
  rw [c_Chart_ruler (by omega), b_Chart_ruler_0, s_Chart_weigh (by omega) hc hA hC hG hl hL ht, bndV_some]
  generalize hW : (fun n : Nat => wts A ld r n) = W
  have st : ∀ k : Nat, k < (A 0).toNat → Run (callD (d - 1)) tb_Chart_ruler 14 [vR 0 0 c, vR 20 8 t, vI r, vI (mx W k), vI (flg W k), vI (k : Int)] [] (SH L) (fillP M (c + 29) W (A 0).toNat) = Run (callD (d - 1)) tb_Chart_ruler 14 [vR 0 0 c, vR 20 8 t, vI r, vI (mx W (k + 1)), vI (flg W (k + 1)), vI ((k + 1 : Nat) : Int)] [] (SH L) (fillP M (c + 29) W (A 0).toNat) := by
    intro k hk
    rw [b_Chart_ruler_14, mx_s, flg_s]
    by_cases h1 : mx W k < W k
    · rw [if_pos h1, show max (mx W k) (W k) = W k by omega]
      repeat' first
        | (with_reducible apply bR_go; (simp (disch := omega) only [rM L, rK L, rN L, rNf, rNv, rNp, rNd, rRow, rLeg, rMark, nat_cast, Int.reduceToNat, rC hc, fill_ne, fill_in, hcnt]; with_reducible exact rfl))
        | with_reducible apply bI_go
        | with_reducible apply bV_go
        | with_reducible apply bL_go
        | (with_reducible apply it_1; (first | omega | (simp (disch := omega) only [not_false_eq_true, not_true_eq_false, w32_id, tLt, fLt, tLe, fEq, itE, and_true, true_and, and_self, and_false, false_and, ↓reduceIte, nat_add, nat_mul3, nat_mul4, nat_mul6, nat_mul15, nat_mul60, nat_cast, nc1, Int.reduceToNat, upE, upN, i0, rC hc, fill_ne, fill_in, hcnt] <;> omega)))
        | (with_reducible apply it_2; (first | omega | (simp (disch := omega) only [not_false_eq_true, not_true_eq_false, w32_id, tLt, fLt, tLe, fEq, itE, and_true, true_and, and_self, and_false, false_and, ↓reduceIte, nat_add, nat_mul3, nat_mul4, nat_mul6, nat_mul15, nat_mul60, nat_cast, nc1, Int.reduceToNat, upE, upN, i0, rC hc, fill_ne, fill_in, hcnt] <;> omega)))
        | (with_reducible refine cl_go ?_; simp (disch := omega) only [not_false_eq_true, not_true_eq_false, w32_id, tLt, fLt, tLe, fEq, itE, and_true, true_and, and_self, and_false, false_and, ↓reduceIte, nat_add, nat_mul3, nat_mul4, nat_mul6, nat_mul15, nat_mul60, nat_cast, nc1, Int.reduceToNat, upE, upN, i0, rC hc, fill_ne, fill_in, hcnt])
        | (with_reducible refine rn_go ?_; simp (disch := omega) only [not_false_eq_true, not_true_eq_false, w32_id, tLt, fLt, tLe, fEq, itE, and_true, true_and, and_self, and_false, false_and, ↓reduceIte, nat_add, nat_mul3, nat_mul4, nat_mul6, nat_mul15, nat_mul60, nat_cast, nc1, Int.reduceToNat, upE, upN, i0, rC hc, fill_ne, fill_in, hcnt])
        | (with_reducible refine lf_go ?_; simp (disch := omega) only [not_false_eq_true, not_true_eq_false, w32_id, tLt, fLt, tLe, fEq, itE, and_true, true_and, and_self, and_false, false_and, ↓reduceIte, nat_add, nat_mul3, nat_mul4, nat_mul6, nat_mul15, nat_mul60, nat_cast, nc1, Int.reduceToNat, upE, upN, i0, rC hc, fill_ne, fill_in, hcnt])
        | with_reducible exact rfl
    · rw [if_neg h1, show max (mx W k) (W k) = mx W k by omega]
      by_cases h2 : W k = mx W k
      · rw [if_pos h2]
        repeat' first
          | (with_reducible apply bR_go; (simp (disch := omega) only [rM L, rK L, rN L, rNf, rNv, rNp, rNd, rRow, rLeg, rMark, nat_cast, Int.reduceToNat, rC hc, fill_ne, fill_in, hcnt]; with_reducible exact rfl))
          | with_reducible apply bI_go
          | with_reducible apply bV_go
          | with_reducible apply bL_go
          | (with_reducible apply it_1; (first | omega | (simp (disch := omega) only [not_false_eq_true, not_true_eq_false, w32_id, tLt, fLt, tLe, fEq, itE, and_true, true_and, and_self, and_false, false_and, ↓reduceIte, nat_add, nat_mul3, nat_mul4, nat_mul6, nat_mul15, nat_mul60, nat_cast, nc1, Int.reduceToNat, upE, upN, i0, rC hc, fill_ne, fill_in, hcnt] <;> omega)))
          | (with_reducible apply it_2; (first | omega | (simp (disch := omega) only [not_false_eq_true, not_true_eq_false, w32_id, tLt, fLt, tLe, fEq, itE, and_true, true_and, and_self, and_false, false_and, ↓reduceIte, nat_add, nat_mul3, nat_mul4, nat_mul6, nat_mul15, nat_mul60, nat_cast, nc1, Int.reduceToNat, upE, upN, i0, rC hc, fill_ne, fill_in, hcnt] <;> omega)))
          | (with_reducible refine cl_go ?_; simp (disch := omega) only [not_false_eq_true, not_true_eq_false, w32_id, tLt, fLt, tLe, fEq, itE, and_true, true_and, and_self, and_false, false_and, ↓reduceIte, nat_add, nat_mul3, nat_mul4, nat_mul6, nat_mul15, nat_mul60, nat_cast, nc1, Int.reduceToNat, upE, upN, i0, rC hc, fill_ne, fill_in, hcnt])
          | (with_reducible refine rn_go ?_; simp (disch := omega) only [not_false_eq_true, not_true_eq_false, w32_id, tLt, fLt, tLe, fEq, itE, and_true, true_and, and_self, and_false, false_and, ↓reduceIte, nat_add, nat_mul3, nat_mul4, nat_mul6, nat_mul15, nat_mul60, nat_cast, nc1, Int.reduceToNat, upE, upN, i0, rC hc, fill_ne, fill_in, hcnt])
          | (with_reducible refine lf_go ?_; simp (disch := omega) only [not_false_eq_true, not_true_eq_false, w32_id, tLt, fLt, tLe, fEq, itE, and_true, true_and, and_self, and_false, false_and, ↓reduceIte, nat_add, nat_mul3, nat_mul4, nat_mul6, nat_mul15, nat_mul60, nat_cast, nc1, Int.reduceToNat, upE, upN, i0, rC hc, fill_ne, fill_in, hcnt])
          | with_reducible exact rfl
      · rw [if_neg h2]
        repeat' first
          | (with_reducible apply bR_go; (simp (disch := omega) only [rM L, rK L, rN L, rNf, rNv, rNp, rNd, rRow, rLeg, rMark, nat_cast, Int.reduceToNat, rC hc, fill_ne, fill_in, hcnt]; with_reducible exact rfl))
          | with_reducible apply bI_go
          | with_reducible apply bV_go
          | with_reducible apply bL_go
          | (with_reducible apply it_1; (first | omega | (simp (disch := omega) only [not_false_eq_true, not_true_eq_false, w32_id, tLt, fLt, tLe, fEq, itE, and_true, true_and, and_self, and_false, false_and, ↓reduceIte, nat_add, nat_mul3, nat_mul4, nat_mul6, nat_mul15, nat_mul60, nat_cast, nc1, Int.reduceToNat, upE, upN, i0, rC hc, fill_ne, fill_in, hcnt] <;> omega)))
          | (with_reducible apply it_2; (first | omega | (simp (disch := omega) only [not_false_eq_true, not_true_eq_false, w32_id, tLt, fLt, tLe, fEq, itE, and_true, true_and, and_self, and_false, false_and, ↓reduceIte, nat_add, nat_mul3, nat_mul4, nat_mul6, nat_mul15, nat_mul60, nat_cast, nc1, Int.reduceToNat, upE, upN, i0, rC hc, fill_ne, fill_in, hcnt] <;> omega)))
          | (with_reducible refine cl_go ?_; simp (disch := omega) only [not_false_eq_true, not_true_eq_false, w32_id, tLt, fLt, tLe, fEq, itE, and_true, true_and, and_self, and_false, false_and, ↓reduceIte, nat_add, nat_mul3, nat_mul4, nat_mul6, nat_mul15, nat_mul60, nat_cast, nc1, Int.reduceToNat, upE, upN, i0, rC hc, fill_ne, fill_in, hcnt])
          | (with_reducible refine rn_go ?_; simp (disch := omega) only [not_false_eq_true, not_true_eq_false, w32_id, tLt, fLt, tLe, fEq, itE, and_true, true_and, and_self, and_false, false_and, ↓reduceIte, nat_add, nat_mul3, nat_mul4, nat_mul6, nat_mul15, nat_mul60, nat_cast, nc1, Int.reduceToNat, upE, upN, i0, rC hc, fill_ne, fill_in, hcnt])
          | (with_reducible refine lf_go ?_; simp (disch := omega) only [not_false_eq_true, not_true_eq_false, w32_id, tLt, fLt, tLe, fEq, itE, and_true, true_and, and_self, and_false, false_and, ↓reduceIte, nat_add, nat_mul3, nat_mul4, nat_mul6, nat_mul15, nat_mul60, nat_cast, nc1, Int.reduceToNat, upE, upN, i0, rC hc, fill_ne, fill_in, hcnt])
          | with_reducible exact rfl
  refine (loop_up (fun k => Run (callD (d - 1)) tb_Chart_ruler 14 [vR 0 0 c, vR 20 8 t, vI r, vI (mx W k), vI (flg W k), vI (k : Int)] [] (SH L) (fillP M (c + 29) W (A 0).toNat)) (A 0).toNat st 0 (by omega)).trans ?_
  rw [b_Chart_ruler_14]
  repeat' first
    | (with_reducible apply bR_go; (simp (disch := omega) only [rM L, rK L, rN L, rNf, rNv, rNp, rNd, rRow, rLeg, rMark, nat_cast, Int.reduceToNat, rC hc, fill_ne, hcnt]; with_reducible exact rfl))
    | with_reducible apply bI_go
    | with_reducible apply bV_go
    | with_reducible apply bL_go
    | (with_reducible apply it_1; (first | omega | (simp (disch := omega) only [not_false_eq_true, not_true_eq_false, w32_id, tLt, fLt, tLe, fEq, itE, and_true, true_and, and_self, and_false, false_and, ↓reduceIte, nat_add, nat_mul3, nat_mul4, nat_mul6, nat_mul15, nat_mul60, nat_cast, nc1, Int.reduceToNat, upE, upN, i0, rC hc, fill_ne, hcnt] <;> omega)))
    | (with_reducible apply it_2; (first | omega | (simp (disch := omega) only [not_false_eq_true, not_true_eq_false, w32_id, tLt, fLt, tLe, fEq, itE, and_true, true_and, and_self, and_false, false_and, ↓reduceIte, nat_add, nat_mul3, nat_mul4, nat_mul6, nat_mul15, nat_mul60, nat_cast, nc1, Int.reduceToNat, upE, upN, i0, rC hc, fill_ne, hcnt] <;> omega)))
    | (with_reducible refine cl_go ?_; simp (disch := omega) only [not_false_eq_true, not_true_eq_false, w32_id, tLt, fLt, tLe, fEq, itE, and_true, true_and, and_self, and_false, false_and, ↓reduceIte, nat_add, nat_mul3, nat_mul4, nat_mul6, nat_mul15, nat_mul60, nat_cast, nc1, Int.reduceToNat, upE, upN, i0, rC hc, fill_ne, hcnt])
    | (with_reducible refine rn_go ?_; simp (disch := omega) only [not_false_eq_true, not_true_eq_false, w32_id, tLt, fLt, tLe, fEq, itE, and_true, true_and, and_self, and_false, false_and, ↓reduceIte, nat_add, nat_mul3, nat_mul4, nat_mul6, nat_mul15, nat_mul60, nat_cast, nc1, Int.reduceToNat, upE, upN, i0, rC hc, fill_ne, hcnt])
    | (with_reducible refine lf_go ?_; simp (disch := omega) only [not_false_eq_true, not_true_eq_false, w32_id, tLt, fLt, tLe, fEq, itE, and_true, true_and, and_self, and_false, false_and, ↓reduceIte, nat_add, nat_mul3, nat_mul4, nat_mul6, nat_mul15, nat_mul60, nat_cast, nc1, Int.reduceToNat, upE, upN, i0, rC hc, fill_ne, hcnt])
    | with_reducible exact rfl
theorem cap1_s (W : Nat → Int) (n : Nat) : max 1 (mx W (n + 1)) = if max 1 (mx W n) < W n then W n else max 1 (mx W n) := by
  rw [mx_s]
  split <;> omega
theorem s_Chart_captainSet {d L c t : Nat} {M : Mm} {A ld : Nat → Int} {r : Int} (hd : 2 ≤ d) (hc : isCh c) (hA : ChW M c A) (hC : Cn A) (hG : Gd A) (hl : ∀ g : Nat, (g : Int) < A 1 → M t g = ld g) (hL : Ld ld) (ht : t ≠ c + 29) : callD d m_Chart_captainSet [vR 0 0 c, vR 20 8 t, vI r] (SH L) M = some (some (vI (cap (fun n => wts A ld r n) (A 0).toNat)), SH L, fillP M (c + 29) (fun n => wts A ld r n) (A 0).toNat) := by
  have hC' := hC
  unfold Cn at hC'
  have hcnt := hA.1
  rw [c_Chart_captainSet (by omega), b_Chart_captainSet_0, s_Chart_weigh (by omega) hc hA hC hG hl hL ht, bndV_some]
  generalize hW : (fun n : Nat => wts A ld r n) = W
  have hW0 : ∀ k, 0 ≤ W k := fun k => by rw [← hW]; exact (wts_bd r k hG hL hC).1
  have st : ∀ k : Nat, k < (A 0).toNat → Run (callD (d - 1)) tb_Chart_captainSet 14 [vR 0 0 c, vR 20 8 t, vI r, vI (max 1 (mx W k)), vI (cap W k), vI (k : Int)] [] (SH L) (fillP M (c + 29) W (A 0).toNat) = Run (callD (d - 1)) tb_Chart_captainSet 14 [vR 0 0 c, vR 20 8 t, vI r, vI (max 1 (mx W (k + 1))), vI (cap W (k + 1)), vI ((k + 1 : Nat) : Int)] [] (SH L) (fillP M (c + 29) W (A 0).toNat) := by
    intro k hk
    have h0 := mx_nn W k
    have hk0 := hW0 k
    have cb := cap_bd W k
    have hp : 0 < 2 ^ k := Nat.two_pow_pos k
    have e2 : or32 0 (shl32 1 (k : Int)) = (2 ^ k : Nat) := by
      rw [or_setb (by omega) (by omega) (by omega), Int.zero_add]
    rw [b_Chart_captainSet_14, cap1_s, cap_s]
    by_cases h1 : max 1 (mx W k) < W k
    · rw [if_pos h1, if_pos (by omega)]
      repeat' first
        | (with_reducible apply bR_go; (simp (disch := omega) only [rM L, rK L, rN L, rNf, rNv, rNp, rNd, rRow, rLeg, rMark, nat_cast, Int.reduceToNat, rC hc, fill_ne, fill_in, hcnt, e2]; with_reducible exact rfl))
        | with_reducible apply bI_go
        | with_reducible apply bV_go
        | with_reducible apply bL_go
        | (with_reducible apply it_1; (first | omega | (simp (disch := omega) only [not_false_eq_true, not_true_eq_false, w32_id, tLt, fLt, tLe, fEq, itE, and_true, true_and, and_self, and_false, false_and, ↓reduceIte, nat_add, nat_mul3, nat_mul4, nat_mul6, nat_mul15, nat_mul60, nat_cast, nc1, Int.reduceToNat, upE, upN, i0, rC hc, fill_ne, fill_in, hcnt, e2] <;> omega)))
        | (with_reducible apply it_2; (first | omega | (simp (disch := omega) only [not_false_eq_true, not_true_eq_false, w32_id, tLt, fLt, tLe, fEq, itE, and_true, true_and, and_self, and_false, false_and, ↓reduceIte, nat_add, nat_mul3, nat_mul4, nat_mul6, nat_mul15, nat_mul60, nat_cast, nc1, Int.reduceToNat, upE, upN, i0, rC hc, fill_ne, fill_in, hcnt, e2] <;> omega)))
        | (with_reducible refine cl_go ?_; simp (disch := omega) only [not_false_eq_true, not_true_eq_false, w32_id, tLt, fLt, tLe, fEq, itE, and_true, true_and, and_self, and_false, false_and, ↓reduceIte, nat_add, nat_mul3, nat_mul4, nat_mul6, nat_mul15, nat_mul60, nat_cast, nc1, Int.reduceToNat, upE, upN, i0, rC hc, fill_ne, fill_in, hcnt, e2])
        | (with_reducible refine rn_go ?_; simp (disch := omega) only [not_false_eq_true, not_true_eq_false, w32_id, tLt, fLt, tLe, fEq, itE, and_true, true_and, and_self, and_false, false_and, ↓reduceIte, nat_add, nat_mul3, nat_mul4, nat_mul6, nat_mul15, nat_mul60, nat_cast, nc1, Int.reduceToNat, upE, upN, i0, rC hc, fill_ne, fill_in, hcnt, e2])
        | (with_reducible refine lf_go ?_; simp (disch := omega) only [not_false_eq_true, not_true_eq_false, w32_id, tLt, fLt, tLe, fEq, itE, and_true, true_and, and_self, and_false, false_and, ↓reduceIte, nat_add, nat_mul3, nat_mul4, nat_mul6, nat_mul15, nat_mul60, nat_cast, nc1, Int.reduceToNat, upE, upN, i0, rC hc, fill_ne, fill_in, hcnt, e2])
        | with_reducible exact rfl
    · rw [if_neg h1]
      by_cases h2 : W k = max 1 (mx W k)
      · by_cases h3 : mx W k < W k
        · have c0 : cap W k = 0 := by unfold cap; rw [if_neg (by omega)]
          rw [if_pos h3, c0]
          repeat' first
            | (with_reducible apply bR_go; (simp (disch := omega) only [rM L, rK L, rN L, rNf, rNv, rNp, rNd, rRow, rLeg, rMark, nat_cast, Int.reduceToNat, rC hc, fill_ne, fill_in, hcnt, e2]; with_reducible exact rfl))
            | with_reducible apply bI_go
            | with_reducible apply bV_go
            | with_reducible apply bL_go
            | (with_reducible apply it_1; (first | omega | (simp (disch := omega) only [not_false_eq_true, not_true_eq_false, w32_id, tLt, fLt, tLe, fEq, itE, and_true, true_and, and_self, and_false, false_and, ↓reduceIte, nat_add, nat_mul3, nat_mul4, nat_mul6, nat_mul15, nat_mul60, nat_cast, nc1, Int.reduceToNat, upE, upN, i0, rC hc, fill_ne, fill_in, hcnt, e2] <;> omega)))
            | (with_reducible apply it_2; (first | omega | (simp (disch := omega) only [not_false_eq_true, not_true_eq_false, w32_id, tLt, fLt, tLe, fEq, itE, and_true, true_and, and_self, and_false, false_and, ↓reduceIte, nat_add, nat_mul3, nat_mul4, nat_mul6, nat_mul15, nat_mul60, nat_cast, nc1, Int.reduceToNat, upE, upN, i0, rC hc, fill_ne, fill_in, hcnt, e2] <;> omega)))
            | (with_reducible refine cl_go ?_; simp (disch := omega) only [not_false_eq_true, not_true_eq_false, w32_id, tLt, fLt, tLe, fEq, itE, and_true, true_and, and_self, and_false, false_and, ↓reduceIte, nat_add, nat_mul3, nat_mul4, nat_mul6, nat_mul15, nat_mul60, nat_cast, nc1, Int.reduceToNat, upE, upN, i0, rC hc, fill_ne, fill_in, hcnt, e2])
            | (with_reducible refine rn_go ?_; simp (disch := omega) only [not_false_eq_true, not_true_eq_false, w32_id, tLt, fLt, tLe, fEq, itE, and_true, true_and, and_self, and_false, false_and, ↓reduceIte, nat_add, nat_mul3, nat_mul4, nat_mul6, nat_mul15, nat_mul60, nat_cast, nc1, Int.reduceToNat, upE, upN, i0, rC hc, fill_ne, fill_in, hcnt, e2])
            | (with_reducible refine lf_go ?_; simp (disch := omega) only [not_false_eq_true, not_true_eq_false, w32_id, tLt, fLt, tLe, fEq, itE, and_true, true_and, and_self, and_false, false_and, ↓reduceIte, nat_add, nat_mul3, nat_mul4, nat_mul6, nat_mul15, nat_mul60, nat_cast, nc1, Int.reduceToNat, upE, upN, i0, rC hc, fill_ne, fill_in, hcnt, e2])
            | with_reducible exact rfl
        · have e3 := or_setb (n := k) (by omega) cb.1 cb.2
          rw [if_neg h3, if_pos ⟨by omega, by omega⟩]
          repeat' first
            | (with_reducible apply bR_go; (simp (disch := omega) only [rM L, rK L, rN L, rNf, rNv, rNp, rNd, rRow, rLeg, rMark, nat_cast, Int.reduceToNat, rC hc, fill_ne, fill_in, hcnt, e3]; with_reducible exact rfl))
            | with_reducible apply bI_go
            | with_reducible apply bV_go
            | with_reducible apply bL_go
            | (with_reducible apply it_1; (first | omega | (simp (disch := omega) only [not_false_eq_true, not_true_eq_false, w32_id, tLt, fLt, tLe, fEq, itE, and_true, true_and, and_self, and_false, false_and, ↓reduceIte, nat_add, nat_mul3, nat_mul4, nat_mul6, nat_mul15, nat_mul60, nat_cast, nc1, Int.reduceToNat, upE, upN, i0, rC hc, fill_ne, fill_in, hcnt, e3] <;> omega)))
            | (with_reducible apply it_2; (first | omega | (simp (disch := omega) only [not_false_eq_true, not_true_eq_false, w32_id, tLt, fLt, tLe, fEq, itE, and_true, true_and, and_self, and_false, false_and, ↓reduceIte, nat_add, nat_mul3, nat_mul4, nat_mul6, nat_mul15, nat_mul60, nat_cast, nc1, Int.reduceToNat, upE, upN, i0, rC hc, fill_ne, fill_in, hcnt, e3] <;> omega)))
            | (with_reducible refine cl_go ?_; simp (disch := omega) only [not_false_eq_true, not_true_eq_false, w32_id, tLt, fLt, tLe, fEq, itE, and_true, true_and, and_self, and_false, false_and, ↓reduceIte, nat_add, nat_mul3, nat_mul4, nat_mul6, nat_mul15, nat_mul60, nat_cast, nc1, Int.reduceToNat, upE, upN, i0, rC hc, fill_ne, fill_in, hcnt, e3])
            | (with_reducible refine rn_go ?_; simp (disch := omega) only [not_false_eq_true, not_true_eq_false, w32_id, tLt, fLt, tLe, fEq, itE, and_true, true_and, and_self, and_false, false_and, ↓reduceIte, nat_add, nat_mul3, nat_mul4, nat_mul6, nat_mul15, nat_mul60, nat_cast, nc1, Int.reduceToNat, upE, upN, i0, rC hc, fill_ne, fill_in, hcnt, e3])
            | (with_reducible refine lf_go ?_; simp (disch := omega) only [not_false_eq_true, not_true_eq_false, w32_id, tLt, fLt, tLe, fEq, itE, and_true, true_and, and_self, and_false, false_and, ↓reduceIte, nat_add, nat_mul3, nat_mul4, nat_mul6, nat_mul15, nat_mul60, nat_cast, nc1, Int.reduceToNat, upE, upN, i0, rC hc, fill_ne, fill_in, hcnt, e3])
            | with_reducible exact rfl
      · rw [if_neg (by omega), if_neg (by omega)]
        repeat' first
          | (with_reducible apply bR_go; (simp (disch := omega) only [rM L, rK L, rN L, rNf, rNv, rNp, rNd, rRow, rLeg, rMark, nat_cast, Int.reduceToNat, rC hc, fill_ne, fill_in, hcnt]; with_reducible exact rfl))
          | with_reducible apply bI_go
          | with_reducible apply bV_go
          | with_reducible apply bL_go
          | (with_reducible apply it_1; (first | omega | (simp (disch := omega) only [not_false_eq_true, not_true_eq_false, w32_id, tLt, fLt, tLe, fEq, itE, and_true, true_and, and_self, and_false, false_and, ↓reduceIte, nat_add, nat_mul3, nat_mul4, nat_mul6, nat_mul15, nat_mul60, nat_cast, nc1, Int.reduceToNat, upE, upN, i0, rC hc, fill_ne, fill_in, hcnt] <;> omega)))
          | (with_reducible apply it_2; (first | omega | (simp (disch := omega) only [not_false_eq_true, not_true_eq_false, w32_id, tLt, fLt, tLe, fEq, itE, and_true, true_and, and_self, and_false, false_and, ↓reduceIte, nat_add, nat_mul3, nat_mul4, nat_mul6, nat_mul15, nat_mul60, nat_cast, nc1, Int.reduceToNat, upE, upN, i0, rC hc, fill_ne, fill_in, hcnt] <;> omega)))
          | (with_reducible refine cl_go ?_; simp (disch := omega) only [not_false_eq_true, not_true_eq_false, w32_id, tLt, fLt, tLe, fEq, itE, and_true, true_and, and_self, and_false, false_and, ↓reduceIte, nat_add, nat_mul3, nat_mul4, nat_mul6, nat_mul15, nat_mul60, nat_cast, nc1, Int.reduceToNat, upE, upN, i0, rC hc, fill_ne, fill_in, hcnt])
          | (with_reducible refine rn_go ?_; simp (disch := omega) only [not_false_eq_true, not_true_eq_false, w32_id, tLt, fLt, tLe, fEq, itE, and_true, true_and, and_self, and_false, false_and, ↓reduceIte, nat_add, nat_mul3, nat_mul4, nat_mul6, nat_mul15, nat_mul60, nat_cast, nc1, Int.reduceToNat, upE, upN, i0, rC hc, fill_ne, fill_in, hcnt])
          | (with_reducible refine lf_go ?_; simp (disch := omega) only [not_false_eq_true, not_true_eq_false, w32_id, tLt, fLt, tLe, fEq, itE, and_true, true_and, and_self, and_false, false_and, ↓reduceIte, nat_add, nat_mul3, nat_mul4, nat_mul6, nat_mul15, nat_mul60, nat_cast, nc1, Int.reduceToNat, upE, upN, i0, rC hc, fill_ne, fill_in, hcnt])
          | with_reducible exact rfl
  refine (loop_up (fun k => Run (callD (d - 1)) tb_Chart_captainSet 14 [vR 0 0 c, vR 20 8 t, vI r, vI (max 1 (mx W k)), vI (cap W k), vI (k : Int)] [] (SH L) (fillP M (c + 29) W (A 0).toNat)) (A 0).toNat st 0 (by omega)).trans ?_
  rw [b_Chart_captainSet_14]
  repeat' first
    | (with_reducible apply bR_go; (simp (disch := omega) only [rM L, rK L, rN L, rNf, rNv, rNp, rNd, rRow, rLeg, rMark, nat_cast, Int.reduceToNat, rC hc, fill_ne, hcnt]; with_reducible exact rfl))
    | with_reducible apply bI_go
    | with_reducible apply bV_go
    | with_reducible apply bL_go
    | (with_reducible apply it_1; (first | omega | (simp (disch := omega) only [not_false_eq_true, not_true_eq_false, w32_id, tLt, fLt, tLe, fEq, itE, and_true, true_and, and_self, and_false, false_and, ↓reduceIte, nat_add, nat_mul3, nat_mul4, nat_mul6, nat_mul15, nat_mul60, nat_cast, nc1, Int.reduceToNat, upE, upN, i0, rC hc, fill_ne, hcnt] <;> omega)))
    | (with_reducible apply it_2; (first | omega | (simp (disch := omega) only [not_false_eq_true, not_true_eq_false, w32_id, tLt, fLt, tLe, fEq, itE, and_true, true_and, and_self, and_false, false_and, ↓reduceIte, nat_add, nat_mul3, nat_mul4, nat_mul6, nat_mul15, nat_mul60, nat_cast, nc1, Int.reduceToNat, upE, upN, i0, rC hc, fill_ne, hcnt] <;> omega)))
    | (with_reducible refine cl_go ?_; simp (disch := omega) only [not_false_eq_true, not_true_eq_false, w32_id, tLt, fLt, tLe, fEq, itE, and_true, true_and, and_self, and_false, false_and, ↓reduceIte, nat_add, nat_mul3, nat_mul4, nat_mul6, nat_mul15, nat_mul60, nat_cast, nc1, Int.reduceToNat, upE, upN, i0, rC hc, fill_ne, hcnt])
    | (with_reducible refine rn_go ?_; simp (disch := omega) only [not_false_eq_true, not_true_eq_false, w32_id, tLt, fLt, tLe, fEq, itE, and_true, true_and, and_self, and_false, false_and, ↓reduceIte, nat_add, nat_mul3, nat_mul4, nat_mul6, nat_mul15, nat_mul60, nat_cast, nc1, Int.reduceToNat, upE, upN, i0, rC hc, fill_ne, hcnt])
    | (with_reducible refine lf_go ?_; simp (disch := omega) only [not_false_eq_true, not_true_eq_false, w32_id, tLt, fLt, tLe, fEq, itE, and_true, true_and, and_self, and_false, false_and, ↓reduceIte, nat_add, nat_mul3, nat_mul4, nat_mul6, nat_mul15, nat_mul60, nat_cast, nc1, Int.reduceToNat, upE, upN, i0, rC hc, fill_ne, hcnt])
    | with_reducible exact rfl
theorem s_Chart_heft {d L c t : Nat} {M : Mm} {A ld : Nat → Int} {n r : Int} (hd : 2 ≤ d) (hc : isCh c) (hA : ChW M c A) (hC : Cn A) (hG : Gd A) (hl : ∀ g : Nat, (g : Int) < A 1 → M t g = ld g) (hL : Ld ld) (ht : t ≠ c + 29) (hn : 0 ≤ n) (hn' : n < A 0) : callD d m_Chart_heft [vR 0 0 c, vR 20 8 t, vI n, vI r] (SH L) M = some (some (vI (wts A ld r n)), SH L, fillP M (c + 29) (fun n => wts A ld r n) (A 0).toNat) := by
  have hC' := hC
  unfold Cn at hC'
  rw [c_Chart_heft (by omega), b_Chart_heft_0, s_Chart_weigh (by omega) hc hA hC hG hl hL ht, bndV_some]
  have e : ((n.toNat : Nat) : Int) = n := by omega
  repeat' first
    | (with_reducible apply bR_go; (simp (disch := omega) only [rM L, rK L, rN L, rNf, rNv, rNp, rNd, rRow, rLeg, rMark, nat_cast, Int.reduceToNat, rC hc, fill_in, e]; with_reducible exact rfl))
    | with_reducible apply bI_go
    | with_reducible apply bV_go
    | with_reducible apply bL_go
    | (with_reducible apply it_1; (first | omega | (simp (disch := omega) only [not_false_eq_true, not_true_eq_false, w32_id, tLt, fLt, tLe, fEq, itE, and_true, true_and, and_self, and_false, false_and, ↓reduceIte, nat_add, nat_mul3, nat_mul4, nat_mul6, nat_mul15, nat_mul60, nat_cast, nc1, Int.reduceToNat, upE, upN, i0, rC hc, fill_in, e] <;> omega)))
    | (with_reducible apply it_2; (first | omega | (simp (disch := omega) only [not_false_eq_true, not_true_eq_false, w32_id, tLt, fLt, tLe, fEq, itE, and_true, true_and, and_self, and_false, false_and, ↓reduceIte, nat_add, nat_mul3, nat_mul4, nat_mul6, nat_mul15, nat_mul60, nat_cast, nc1, Int.reduceToNat, upE, upN, i0, rC hc, fill_in, e] <;> omega)))
    | (with_reducible refine cl_go ?_; simp (disch := omega) only [not_false_eq_true, not_true_eq_false, w32_id, tLt, fLt, tLe, fEq, itE, and_true, true_and, and_self, and_false, false_and, ↓reduceIte, nat_add, nat_mul3, nat_mul4, nat_mul6, nat_mul15, nat_mul60, nat_cast, nc1, Int.reduceToNat, upE, upN, i0, rC hc, fill_in, e])
    | (with_reducible refine rn_go ?_; simp (disch := omega) only [not_false_eq_true, not_true_eq_false, w32_id, tLt, fLt, tLe, fEq, itE, and_true, true_and, and_self, and_false, false_and, ↓reduceIte, nat_add, nat_mul3, nat_mul4, nat_mul6, nat_mul15, nat_mul60, nat_cast, nc1, Int.reduceToNat, upE, upN, i0, rC hc, fill_in, e])
    | (with_reducible refine lf_go ?_; simp (disch := omega) only [not_false_eq_true, not_true_eq_false, w32_id, tLt, fLt, tLe, fEq, itE, and_true, true_and, and_self, and_false, false_and, ↓reduceIte, nat_add, nat_mul3, nat_mul4, nat_mul6, nat_mul15, nat_mul60, nat_cast, nc1, Int.reduceToNat, upE, upN, i0, rC hc, fill_in, e])
    | with_reducible exact rfl
/-- the tons of a load -/
def sm (ld : Nat → Int) : Nat → Int
  | 0 => 0
  | k + 1 => sm ld k + ld k
theorem sm_s (ld : Nat → Int) (k : Nat) : sm ld (k + 1) = sm ld k + ld k := rfl
theorem sm_bd {ld : Nat → Int} (hL : Ld ld) : ∀ k : Nat, k ≤ 8 → 0 ≤ sm ld k ∧ sm ld k ≤ 1000 * k
  | 0, _ => by simp [sm]
  | k + 1, h => by
    have := sm_bd hL k (by omega)
    have := hL k (by omega)
    unfold sm; omega
theorem s_Vessel_load {d L v : Nat} {M : Mm} {ld : Nat → Int} (hd : 1 ≤ d) (hv : isV v) (hl : ∀ g, g < 8 → M (v + 1) g = ld g) (hL : Ld ld) : callD d m_Vessel_load [vR 8 0 v] (SH L) M = some (some (vI (sm ld 8)), SH L, M) := by
  have st : ∀ k : Nat, k < 8 → Run (callD (d - 1)) tb_Vessel_load 4 [vR 8 0 v, vI (sm ld k), vI (k : Int)] [] (SH L) M = Run (callD (d - 1)) tb_Vessel_load 4 [vR 8 0 v, vI (sm ld (k + 1)), vI ((k + 1 : Nat) : Int)] [] (SH L) M := by
    intro k hk
    have := sm_bd hL k (by omega)
    have := hL k (by omega)
    rw [b_Vessel_load_4]
    repeat' first
      | (with_reducible apply bR_go; (simp (disch := omega) only [rM L, rK L, rN L, rNf, rNv, rNp, rNd, rRow, rLeg, rMark, nat_cast, Int.reduceToNat, rV hv, hl, sm_s]; with_reducible exact rfl))
      | with_reducible apply bI_go
      | with_reducible apply bV_go
      | with_reducible apply bL_go
      | (with_reducible apply it_1; (first | omega | (simp (disch := omega) only [not_false_eq_true, not_true_eq_false, w32_id, tLt, fLt, tLe, fEq, itE, and_true, true_and, and_self, and_false, false_and, ↓reduceIte, nat_add, nat_mul3, nat_mul4, nat_mul6, nat_mul15, nat_mul60, nat_cast, nc1, Int.reduceToNat, upE, upN, i0, rV hv, hl, sm_s] <;> omega)))
      | (with_reducible apply it_2; (first | omega | (simp (disch := omega) only [not_false_eq_true, not_true_eq_false, w32_id, tLt, fLt, tLe, fEq, itE, and_true, true_and, and_self, and_false, false_and, ↓reduceIte, nat_add, nat_mul3, nat_mul4, nat_mul6, nat_mul15, nat_mul60, nat_cast, nc1, Int.reduceToNat, upE, upN, i0, rV hv, hl, sm_s] <;> omega)))
      | (with_reducible refine cl_go ?_; simp (disch := omega) only [not_false_eq_true, not_true_eq_false, w32_id, tLt, fLt, tLe, fEq, itE, and_true, true_and, and_self, and_false, false_and, ↓reduceIte, nat_add, nat_mul3, nat_mul4, nat_mul6, nat_mul15, nat_mul60, nat_cast, nc1, Int.reduceToNat, upE, upN, i0, rV hv, hl, sm_s])
      | (with_reducible refine rn_go ?_; simp (disch := omega) only [not_false_eq_true, not_true_eq_false, w32_id, tLt, fLt, tLe, fEq, itE, and_true, true_and, and_self, and_false, false_and, ↓reduceIte, nat_add, nat_mul3, nat_mul4, nat_mul6, nat_mul15, nat_mul60, nat_cast, nc1, Int.reduceToNat, upE, upN, i0, rV hv, hl, sm_s])
      | (with_reducible refine lf_go ?_; simp (disch := omega) only [not_false_eq_true, not_true_eq_false, w32_id, tLt, fLt, tLe, fEq, itE, and_true, true_and, and_self, and_false, false_and, ↓reduceIte, nat_add, nat_mul3, nat_mul4, nat_mul6, nat_mul15, nat_mul60, nat_cast, nc1, Int.reduceToNat, upE, upN, i0, rV hv, hl, sm_s])
      | with_reducible exact rfl
  rw [c_Vessel_load (by omega), b_Vessel_load_0]
  refine (loop_up (fun k => Run (callD (d - 1)) tb_Vessel_load 4 [vR 8 0 v, vI (sm ld k), vI (k : Int)] [] (SH L) M) 8 st 0 (by omega)).trans ?_
  rw [b_Vessel_load_4]
  repeat' first
    | (with_reducible apply bR_go; (simp (disch := omega) only [rM L, rK L, rN L, rNf, rNv, rNp, rNd, rRow, rLeg, rMark, nat_cast, Int.reduceToNat]; with_reducible exact rfl))
    | with_reducible apply bI_go
    | with_reducible apply bV_go
    | with_reducible apply bL_go
    | (with_reducible apply it_1; (first | omega | (simp (disch := omega) only [not_false_eq_true, not_true_eq_false, w32_id, tLt, fLt, tLe, fEq, itE, and_true, true_and, and_self, and_false, false_and, ↓reduceIte, nat_add, nat_mul3, nat_mul4, nat_mul6, nat_mul15, nat_mul60, nat_cast, nc1, Int.reduceToNat, upE, upN, i0] <;> omega)))
    | (with_reducible apply it_2; (first | omega | (simp (disch := omega) only [not_false_eq_true, not_true_eq_false, w32_id, tLt, fLt, tLe, fEq, itE, and_true, true_and, and_self, and_false, false_and, ↓reduceIte, nat_add, nat_mul3, nat_mul4, nat_mul6, nat_mul15, nat_mul60, nat_cast, nc1, Int.reduceToNat, upE, upN, i0] <;> omega)))
    | (with_reducible refine cl_go ?_; simp (disch := omega) only [not_false_eq_true, not_true_eq_false, w32_id, tLt, fLt, tLe, fEq, itE, and_true, true_and, and_self, and_false, false_and, ↓reduceIte, nat_add, nat_mul3, nat_mul4, nat_mul6, nat_mul15, nat_mul60, nat_cast, nc1, Int.reduceToNat, upE, upN, i0])
    | (with_reducible refine rn_go ?_; simp (disch := omega) only [not_false_eq_true, not_true_eq_false, w32_id, tLt, fLt, tLe, fEq, itE, and_true, true_and, and_self, and_false, false_and, ↓reduceIte, nat_add, nat_mul3, nat_mul4, nat_mul6, nat_mul15, nat_mul60, nat_cast, nc1, Int.reduceToNat, upE, upN, i0])
    | (with_reducible refine lf_go ?_; simp (disch := omega) only [not_false_eq_true, not_true_eq_false, w32_id, tLt, fLt, tLe, fEq, itE, and_true, true_and, and_self, and_false, false_and, ↓reduceIte, nat_add, nat_mul3, nat_mul4, nat_mul6, nat_mul15, nat_mul60, nat_cast, nc1, Int.reduceToNat, upE, upN, i0])
    | with_reducible exact rfl
theorem s_Vessel_room {d L v : Nat} {M : Mm} {ld : Nat → Int} (hd : 2 ≤ d) (hv : isV v) (hl : ∀ g, g < 8 → M (v + 1) g = ld g) (hL : Ld ld) (h0 : 0 ≤ M v 3) (h1 : M v 3 ≤ 60) : callD d m_Vessel_room [vR 8 0 v] (SH L) M = some (some (vI (M v 3 - sm ld 8)), SH L, M) := by
  have := sm_bd hL 8 (by omega)
  repeat' first
    | (with_reducible apply bR_go; (simp (disch := omega) only [rM L, rK L, rN L, rNf, rNv, rNp, rNd, rRow, rLeg, rMark, nat_cast, Int.reduceToNat]; with_reducible exact rfl))
    | with_reducible apply bI_go
    | with_reducible apply bV_go
    | with_reducible apply bL_go
    | (with_reducible apply it_1; (first | omega | (simp (disch := omega) only [not_false_eq_true, not_true_eq_false, w32_id, tLt, fLt, tLe, fEq, itE, and_true, true_and, and_self, and_false, false_and, ↓reduceIte, nat_add, nat_mul3, nat_mul4, nat_mul6, nat_mul15, nat_mul60, nat_cast, nc1, Int.reduceToNat, upE, upN, i0] <;> omega)))
    | (with_reducible apply it_2; (first | omega | (simp (disch := omega) only [not_false_eq_true, not_true_eq_false, w32_id, tLt, fLt, tLe, fEq, itE, and_true, true_and, and_self, and_false, false_and, ↓reduceIte, nat_add, nat_mul3, nat_mul4, nat_mul6, nat_mul15, nat_mul60, nat_cast, nc1, Int.reduceToNat, upE, upN, i0] <;> omega)))
    | (with_reducible refine cl_go ?_; simp (disch := omega) only [not_false_eq_true, not_true_eq_false, w32_id, tLt, fLt, tLe, fEq, itE, and_true, true_and, and_self, and_false, false_and, ↓reduceIte, nat_add, nat_mul3, nat_mul4, nat_mul6, nat_mul15, nat_mul60, nat_cast, nc1, Int.reduceToNat, upE, upN, i0])
    | rw [c_Vessel_room (by omega), b_Vessel_room_0]
    | with_reducible exact s_Vessel_load (by omega) hv hl hL
    | (with_reducible refine rn_go ?_; simp (disch := omega) only [not_false_eq_true, not_true_eq_false, w32_id, tLt, fLt, tLe, fEq, itE, and_true, true_and, and_self, and_false, false_and, ↓reduceIte, nat_add, nat_mul3, nat_mul4, nat_mul6, nat_mul15, nat_mul60, nat_cast, nc1, Int.reduceToNat, upE, upN, i0])
    | (with_reducible refine lf_go ?_; simp (disch := omega) only [not_false_eq_true, not_true_eq_false, w32_id, tLt, fLt, tLe, fEq, itE, and_true, true_and, and_self, and_false, false_and, ↓reduceIte, nat_add, nat_mul3, nat_mul4, nat_mul6, nat_mul15, nat_mul60, nat_cast, nc1, Int.reduceToNat, upE, upN, i0])
    | with_reducible exact rfl
theorem s_Mo_tons {d L : Nat} {M : Mm} {ld : Nat → Int} (hd : 1 ≤ d) (hl : ∀ g, g < 8 → M 280 g = ld g) (hL : Ld ld) : callD d m_Mo_tons [vR 12 0 271] (SH L) M = some (some (vI (sm ld 8)), SH L, M) := by
  have st : ∀ k : Nat, k < 8 → Run (callD (d - 1)) tb_Mo_tons 4 [vR 12 0 271, vI (sm ld k), vI (k : Int)] [] (SH L) M = Run (callD (d - 1)) tb_Mo_tons 4 [vR 12 0 271, vI (sm ld (k + 1)), vI ((k + 1 : Nat) : Int)] [] (SH L) M := by
    intro k hk
    have := sm_bd hL k (by omega)
    have := hL k (by omega)
    rw [b_Mo_tons_4]
    repeat' first
      | (with_reducible apply bR_go; (simp (disch := omega) only [rM L, rK L, rN L, rNf, rNv, rNp, rNd, rRow, rLeg, rMark, nat_cast, Int.reduceToNat, hl, sm_s]; with_reducible exact rfl))
      | with_reducible apply bI_go
      | with_reducible apply bV_go
      | with_reducible apply bL_go
      | (with_reducible apply it_1; (first | omega | (simp (disch := omega) only [not_false_eq_true, not_true_eq_false, w32_id, tLt, fLt, tLe, fEq, itE, and_true, true_and, and_self, and_false, false_and, ↓reduceIte, nat_add, nat_mul3, nat_mul4, nat_mul6, nat_mul15, nat_mul60, nat_cast, nc1, Int.reduceToNat, upE, upN, i0, hl, sm_s] <;> omega)))
      | (with_reducible apply it_2; (first | omega | (simp (disch := omega) only [not_false_eq_true, not_true_eq_false, w32_id, tLt, fLt, tLe, fEq, itE, and_true, true_and, and_self, and_false, false_and, ↓reduceIte, nat_add, nat_mul3, nat_mul4, nat_mul6, nat_mul15, nat_mul60, nat_cast, nc1, Int.reduceToNat, upE, upN, i0, hl, sm_s] <;> omega)))
      | (with_reducible refine cl_go ?_; simp (disch := omega) only [not_false_eq_true, not_true_eq_false, w32_id, tLt, fLt, tLe, fEq, itE, and_true, true_and, and_self, and_false, false_and, ↓reduceIte, nat_add, nat_mul3, nat_mul4, nat_mul6, nat_mul15, nat_mul60, nat_cast, nc1, Int.reduceToNat, upE, upN, i0, hl, sm_s])
      | (with_reducible refine rn_go ?_; simp (disch := omega) only [not_false_eq_true, not_true_eq_false, w32_id, tLt, fLt, tLe, fEq, itE, and_true, true_and, and_self, and_false, false_and, ↓reduceIte, nat_add, nat_mul3, nat_mul4, nat_mul6, nat_mul15, nat_mul60, nat_cast, nc1, Int.reduceToNat, upE, upN, i0, hl, sm_s])
      | (with_reducible refine lf_go ?_; simp (disch := omega) only [not_false_eq_true, not_true_eq_false, w32_id, tLt, fLt, tLe, fEq, itE, and_true, true_and, and_self, and_false, false_and, ↓reduceIte, nat_add, nat_mul3, nat_mul4, nat_mul6, nat_mul15, nat_mul60, nat_cast, nc1, Int.reduceToNat, upE, upN, i0, hl, sm_s])
      | with_reducible exact rfl
  rw [c_Mo_tons (by omega), b_Mo_tons_0]
  refine (loop_up (fun k => Run (callD (d - 1)) tb_Mo_tons 4 [vR 12 0 271, vI (sm ld k), vI (k : Int)] [] (SH L) M) 8 st 0 (by omega)).trans ?_
  rw [b_Mo_tons_4]
  repeat' first
    | (with_reducible apply bR_go; (simp (disch := omega) only [rM L, rK L, rN L, rNf, rNv, rNp, rNd, rRow, rLeg, rMark, nat_cast, Int.reduceToNat]; with_reducible exact rfl))
    | with_reducible apply bI_go
    | with_reducible apply bV_go
    | with_reducible apply bL_go
    | (with_reducible apply it_1; (first | omega | (simp (disch := omega) only [not_false_eq_true, not_true_eq_false, w32_id, tLt, fLt, tLe, fEq, itE, and_true, true_and, and_self, and_false, false_and, ↓reduceIte, nat_add, nat_mul3, nat_mul4, nat_mul6, nat_mul15, nat_mul60, nat_cast, nc1, Int.reduceToNat, upE, upN, i0] <;> omega)))
    | (with_reducible apply it_2; (first | omega | (simp (disch := omega) only [not_false_eq_true, not_true_eq_false, w32_id, tLt, fLt, tLe, fEq, itE, and_true, true_and, and_self, and_false, false_and, ↓reduceIte, nat_add, nat_mul3, nat_mul4, nat_mul6, nat_mul15, nat_mul60, nat_cast, nc1, Int.reduceToNat, upE, upN, i0] <;> omega)))
    | (with_reducible refine cl_go ?_; simp (disch := omega) only [not_false_eq_true, not_true_eq_false, w32_id, tLt, fLt, tLe, fEq, itE, and_true, true_and, and_self, and_false, false_and, ↓reduceIte, nat_add, nat_mul3, nat_mul4, nat_mul6, nat_mul15, nat_mul60, nat_cast, nc1, Int.reduceToNat, upE, upN, i0])
    | (with_reducible refine rn_go ?_; simp (disch := omega) only [not_false_eq_true, not_true_eq_false, w32_id, tLt, fLt, tLe, fEq, itE, and_true, true_and, and_self, and_false, false_and, ↓reduceIte, nat_add, nat_mul3, nat_mul4, nat_mul6, nat_mul15, nat_mul60, nat_cast, nc1, Int.reduceToNat, upE, upN, i0])
    | (with_reducible refine lf_go ?_; simp (disch := omega) only [not_false_eq_true, not_true_eq_false, w32_id, tLt, fLt, tLe, fEq, itE, and_true, true_and, and_self, and_false, false_and, ↓reduceIte, nat_add, nat_mul3, nat_mul4, nat_mul6, nat_mul15, nat_mul60, nat_cast, nc1, Int.reduceToNat, upE, upN, i0])
    | with_reducible exact rfl

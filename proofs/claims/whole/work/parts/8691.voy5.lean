/-! THE VOYAGE THAT GAINS MOST: the model's search -/
def st1 (b : Int × Int) (v c : Int) : Int × Int := if b.1 < v then (v, c) else b
def foC (F : Nat → Int) (ch : Nat → Int) (b : Int × Int) : Nat → Int × Int
  | 0 => b
  | k + 1 => st1 (foC F ch b k) (F k) (ch k)
theorem foC_s (F : Nat → Int) (ch : Nat → Int) (b : Int × Int) (k : Nat) : foC F ch b (k + 1) = st1 (foC F ch b k) (F k) (ch k) := rfl
theorem st1_no (b : Int × Int) {v : Int} (c : Int) (h : v ≤ b.1) : st1 b v c = b := by unfold st1; rw [if_neg (by omega)]
theorem st1_yes (b : Int × Int) {v : Int} (c : Int) (h : b.1 < v) : st1 b v c = (v, c) := by unfold st1; rw [if_pos h]
theorem foC_ge {F ch : Nat → Int} {b : Int × Int} (hb : -1 ≤ b.1) : ∀ k, -1 ≤ (foC F ch b k).1
  | 0 => hb
  | k + 1 => by
    have := foC_ge (F := F) (ch := ch) hb k
    rw [foC_s]
    unfold st1
    split
    · dsimp only; omega
    · exact this
/-- a row of choices behind one first choice is one choice -/
theorem foC_const {F : Nat → Int} {c : Int} {b : Int × Int} (hb : -1 ≤ b.1) : ∀ k, foC F (fun _ => c) b k = st1 b (fm F k) c
  | 0 => (st1_no b c (show (-1 : Int) ≤ b.1 from hb)).symm
  | k + 1 => by
    rw [foC_s, foC_const hb k, fm_s]
    by_cases e1 : b.1 < fm F k
    · rw [st1_yes b c e1]
      by_cases e2 : fm F k < F k
      · rw [if_pos e2, st1_yes _ _ (show (fm F k, c).1 < F k from e2), st1_yes _ _ (by omega)]
      · rw [if_neg e2, st1_no _ _ (show F k ≤ (fm F k, c).1 by show F k ≤ fm F k; omega), st1_yes b c e1]
    · rw [st1_no b c (by omega)]
      by_cases e2 : fm F k < F k
      · rw [if_pos e2]
      · rw [if_neg e2, st1_no b c (by omega), st1_no b c (by omega)]
theorem foC_top {F : Nat → Int} {y : Int} : ∀ k, (foC F (fun k => (k : Int)) (-1, y) k).1 = fm F k ∧ (fm F k ≠ -1 → (foC F (fun k => (k : Int)) (-1, y) k).2 = fa F k)
  | 0 => ⟨rfl, fun h => absurd rfl h⟩
  | k + 1 => by
    have i := foC_top (F := F) (y := y) k
    rw [foC_s, fm_s, fa_s]
    unfold st1
    rw [i.1]
    by_cases e : fm F k < F k
    · rw [if_pos e, if_pos e, if_pos e]
      exact ⟨rfl, fun _ => rfl⟩
    · rw [if_neg e, if_neg e, if_neg e]
      exact i
section
variable {M : Mm} {A : Nat → Int} {L d s : Nat}
theorem q_keeps (hd : 2 ≤ d) (hs : s < 4) {x : Nat} (hx : x < 4) : Wp (callD d m_Mo_keepsShip [vR 12 0 271, vI (s : Int), vI (x : Int)] (SH L) M) (fun r S M' => r = none ∧ S = SH L ∧ (∀ w, w < 15 → M' 282 (15 * x + w) = M 272 (146 + 15 * s + w)) ∧ ∀ b j, ¬(b = 282 ∧ 15 * x ≤ j ∧ j < 15 * x + 15) → M' b j = M b j) := by
  repeat' first
    | (with_reducible apply wp_bR; (simp (disch := omega) only [rM L, rK L, rN L, rNf, rNv, rNp, rNd, rRow, rLeg, rMark, nat_cast, Int.reduceToNat]; with_reducible exact rfl))
    | with_reducible apply wp_bI
    | with_reducible apply wp_bV
    | with_reducible apply wp_bL
    | with_reducible apply wp_rI
    | with_reducible apply wp_rV
    | with_reducible apply wp_rL
    | (with_reducible apply wp_1; (first | omega | (simp (disch := omega) only [not_false_eq_true, not_true_eq_false, w32_id, tLt, fLt, tLe, fEq, itE, and_true, true_and, and_self, and_false, false_and, ↓reduceIte, nat_add, nat_mul3, nat_mul4, nat_mul6, nat_mul15, nat_mul60, nat_cast, nc1, Int.reduceToNat, upE, upN, fill_ne, fill_in, i0] <;> omega)))
    | (with_reducible apply wp_2; (first | omega | (simp (disch := omega) only [not_false_eq_true, not_true_eq_false, w32_id, tLt, fLt, tLe, fEq, itE, and_true, true_and, and_self, and_false, false_and, ↓reduceIte, nat_add, nat_mul3, nat_mul4, nat_mul6, nat_mul15, nat_mul60, nat_cast, nc1, Int.reduceToNat, upE, upN, fill_ne, fill_in, i0] <;> omega)))
    | (with_reducible apply wp_s; (first | (simp (disch := omega) only [not_false_eq_true, not_true_eq_false, w32_id, tLt, fLt, tLe, fEq, itE, and_true, true_and, and_self, and_false, false_and, ↓reduceIte, nat_add, nat_mul3, nat_mul4, nat_mul6, nat_mul15, nat_mul60, nat_cast, nc1, Int.reduceToNat, upE, upN, fill_ne, fill_in, i0]; with_reducible exact Iff.rfl) | with_reducible exact Iff.rfl); intro hc__; (try subst hc__); rotate_left; intro hc__; rotate_left)
    | (with_reducible apply wp_eq; (with_reducible apply cl_go; simp (disch := omega) only [not_false_eq_true, not_true_eq_false, w32_id, tLt, fLt, tLe, fEq, itE, and_true, true_and, and_self, and_false, false_and, ↓reduceIte, nat_add, nat_mul3, nat_mul4, nat_mul6, nat_mul15, nat_mul60, nat_cast, nc1, Int.reduceToNat, upE, upN, fill_ne, fill_in, i0]; with_reducible exact rfl))
    | (with_reducible refine wp_eq (c_Mo_keepsShip (by omega) _ _ _ _ _) ?_; with_reducible refine wp_eq (b_Mo_keepsShip_0 _ _ _ _ _ _) ?_)
    | (with_reducible apply wp_eq; (with_reducible apply lf_go; simp (disch := omega) only [not_false_eq_true, not_true_eq_false, w32_id, tLt, fLt, tLe, fEq, itE, and_true, true_and, and_self, and_false, false_and, ↓reduceIte, nat_add, nat_mul3, nat_mul4, nat_mul6, nat_mul15, nat_mul60, nat_cast, nc1, Int.reduceToNat, upE, upN, fill_ne, fill_in, i0]; with_reducible exact rfl))
    | with_reducible apply wp_q1
  refine wp_loop (α := Mm) (G := fun k m => Run (callD (d - 1)) tb_Mo_keepsShip 2 [vR 12 0 271, vI (s : Int), vI (x : Int), vI (k : Int)] [] (SH L) m) (I := fun k m => (∀ w, w < k → m 282 (15 * x + w) = M 272 (146 + 15 * s + w)) ∧ ∀ b j, ¬(b = 282 ∧ 15 * x ≤ j ∧ j < 15 * x + 15) → m b j = M b j) 15 ?_ ?_ 0 M (by omega) ⟨fun _ h => by omega, fun _ _ _ => rfl⟩
  · intro k M1 hk ⟨r1, f1⟩ ih
    have e1 : M1 272 (146 + 15 * s + k) = M 272 (146 + 15 * s + k) := f1 _ _ (by omega)
    refine wp_eq (b_Mo_keepsShip_2 _ _ _ _ _ _ _) ?_
    repeat' first
      | (with_reducible apply wp_bR; (simp (disch := omega) only [rM L, rK L, rN L, rNf, rNv, rNp, rNd, rRow, rLeg, rMark, nat_cast, Int.reduceToNat, e1]; with_reducible exact rfl))
      | with_reducible apply wp_bI
      | with_reducible apply wp_bV
      | with_reducible apply wp_bL
      | with_reducible apply wp_rI
      | with_reducible apply wp_rV
      | with_reducible apply wp_rL
      | (with_reducible apply wp_1; (first | omega | (simp (disch := omega) only [not_false_eq_true, not_true_eq_false, w32_id, tLt, fLt, tLe, fEq, itE, and_true, true_and, and_self, and_false, false_and, ↓reduceIte, nat_add, nat_mul3, nat_mul4, nat_mul6, nat_mul15, nat_mul60, nat_cast, nc1, Int.reduceToNat, upE, upN, fill_ne, fill_in, i0, e1] <;> omega)))
      | (with_reducible apply wp_2; (first | omega | (simp (disch := omega) only [not_false_eq_true, not_true_eq_false, w32_id, tLt, fLt, tLe, fEq, itE, and_true, true_and, and_self, and_false, false_and, ↓reduceIte, nat_add, nat_mul3, nat_mul4, nat_mul6, nat_mul15, nat_mul60, nat_cast, nc1, Int.reduceToNat, upE, upN, fill_ne, fill_in, i0, e1] <;> omega)))
      | (with_reducible apply wp_s; (first | (simp (disch := omega) only [not_false_eq_true, not_true_eq_false, w32_id, tLt, fLt, tLe, fEq, itE, and_true, true_and, and_self, and_false, false_and, ↓reduceIte, nat_add, nat_mul3, nat_mul4, nat_mul6, nat_mul15, nat_mul60, nat_cast, nc1, Int.reduceToNat, upE, upN, fill_ne, fill_in, i0, e1]; with_reducible exact Iff.rfl) | with_reducible exact Iff.rfl); intro hc__; (try subst hc__); rotate_left; intro hc__; rotate_left)
      | (with_reducible apply wp_eq; (with_reducible apply cl_go; simp (disch := omega) only [not_false_eq_true, not_true_eq_false, w32_id, tLt, fLt, tLe, fEq, itE, and_true, true_and, and_self, and_false, false_and, ↓reduceIte, nat_add, nat_mul3, nat_mul4, nat_mul6, nat_mul15, nat_mul60, nat_cast, nc1, Int.reduceToNat, upE, upN, fill_ne, fill_in, i0, e1]; with_reducible exact rfl))
      | (with_reducible refine wp_eq (c_Mo_shipRow (by omega) _ _ _) ?_; with_reducible refine wp_eq (b_Mo_shipRow_0 _ _ _ _) ?_)
      | (with_reducible apply wp_eq; (with_reducible apply lf_go; simp (disch := omega) only [not_false_eq_true, not_true_eq_false, w32_id, tLt, fLt, tLe, fEq, itE, and_true, true_and, and_self, and_false, false_and, ↓reduceIte, nat_add, nat_mul3, nat_mul4, nat_mul6, nat_mul15, nat_mul60, nat_cast, nc1, Int.reduceToNat, upE, upN, fill_ne, fill_in, i0, e1]; with_reducible exact rfl))
      | with_reducible apply wp_q1
    apply wp_nx ih
    · simp (disch := omega) only [not_false_eq_true, not_true_eq_false, w32_id, tLt, fLt, tLe, fEq, itE, and_true, true_and, and_self, and_false, false_and, ↓reduceIte, nat_add, nat_mul3, nat_mul4, nat_mul6, nat_mul15, nat_mul60, nat_cast, nc1, Int.reduceToNat, upE, upN, fill_ne, fill_in, i0]
      with_reducible rfl
    · refine ⟨fun w hw => ?_, fun b j q => by simp (disch := omega) only [not_false_eq_true, not_true_eq_false, w32_id, tLt, fLt, tLe, fEq, itE, and_true, true_and, and_self, and_false, false_and, ↓reduceIte, nat_add, nat_mul3, nat_mul4, nat_mul6, nat_mul15, nat_mul60, nat_cast, nc1, Int.reduceToNat, upE, upN, fill_ne, fill_in, i0]; exact f1 b j q⟩
      by_cases e : w = k
      · subst e; simp (disch := omega) only [not_false_eq_true, not_true_eq_false, w32_id, tLt, fLt, tLe, fEq, itE, and_true, true_and, and_self, and_false, false_and, ↓reduceIte, nat_add, nat_mul3, nat_mul4, nat_mul6, nat_mul15, nat_mul60, nat_cast, nc1, Int.reduceToNat, upE, upN, fill_ne, fill_in, i0, e1]
      · simp (disch := omega) only [not_false_eq_true, not_true_eq_false, w32_id, tLt, fLt, tLe, fEq, itE, and_true, true_and, and_self, and_false, false_and, ↓reduceIte, nat_add, nat_mul3, nat_mul4, nat_mul6, nat_mul15, nat_mul60, nat_cast, nc1, Int.reduceToNat, upE, upN, fill_ne, fill_in, i0]; exact r1 w (by omega)
  · intro M1 ⟨r1, f1⟩
    refine wp_eq (b_Mo_keepsShip_2 _ _ _ _ _ _ _) ?_
    repeat' first
      | (with_reducible apply wp_bR; (simp (disch := omega) only [rM L, rK L, rN L, rNf, rNv, rNp, rNd, rRow, rLeg, rMark, nat_cast, Int.reduceToNat]; with_reducible exact rfl))
      | with_reducible apply wp_bI
      | with_reducible apply wp_bV
      | with_reducible apply wp_bL
      | with_reducible apply wp_rI
      | with_reducible apply wp_rV
      | with_reducible apply wp_rL
      | (with_reducible apply wp_1; (first | omega | (simp (disch := omega) only [not_false_eq_true, not_true_eq_false, w32_id, tLt, fLt, tLe, fEq, itE, and_true, true_and, and_self, and_false, false_and, ↓reduceIte, nat_add, nat_mul3, nat_mul4, nat_mul6, nat_mul15, nat_mul60, nat_cast, nc1, Int.reduceToNat, upE, upN, fill_ne, fill_in, i0] <;> omega)))
      | (with_reducible apply wp_2; (first | omega | (simp (disch := omega) only [not_false_eq_true, not_true_eq_false, w32_id, tLt, fLt, tLe, fEq, itE, and_true, true_and, and_self, and_false, false_and, ↓reduceIte, nat_add, nat_mul3, nat_mul4, nat_mul6, nat_mul15, nat_mul60, nat_cast, nc1, Int.reduceToNat, upE, upN, fill_ne, fill_in, i0] <;> omega)))
      | (with_reducible apply wp_s; (first | (simp (disch := omega) only [not_false_eq_true, not_true_eq_false, w32_id, tLt, fLt, tLe, fEq, itE, and_true, true_and, and_self, and_false, false_and, ↓reduceIte, nat_add, nat_mul3, nat_mul4, nat_mul6, nat_mul15, nat_mul60, nat_cast, nc1, Int.reduceToNat, upE, upN, fill_ne, fill_in, i0]; with_reducible exact Iff.rfl) | with_reducible exact Iff.rfl); intro hc__; (try subst hc__); rotate_left; intro hc__; rotate_left)
      | (with_reducible apply wp_eq; (with_reducible apply cl_go; simp (disch := omega) only [not_false_eq_true, not_true_eq_false, w32_id, tLt, fLt, tLe, fEq, itE, and_true, true_and, and_self, and_false, false_and, ↓reduceIte, nat_add, nat_mul3, nat_mul4, nat_mul6, nat_mul15, nat_mul60, nat_cast, nc1, Int.reduceToNat, upE, upN, fill_ne, fill_in, i0]; with_reducible exact rfl))
      | (with_reducible apply wp_eq; (with_reducible apply lf_go; simp (disch := omega) only [not_false_eq_true, not_true_eq_false, w32_id, tLt, fLt, tLe, fEq, itE, and_true, true_and, and_self, and_false, false_and, ↓reduceIte, nat_add, nat_mul3, nat_mul4, nat_mul6, nat_mul15, nat_mul60, nat_cast, nc1, Int.reduceToNat, upE, upN, fill_ne, fill_in, i0]; with_reducible exact rfl))
      | with_reducible apply wp_q1
    exact ⟨_, _, _, rfl, rfl, rfl, r1, f1⟩
theorem q_gives (hd : 2 ≤ d) (hs : s < 4) {x : Nat} (hx : x < 4) : Wp (callD d m_Mo_givesBack [vR 12 0 271, vI (s : Int), vI (x : Int)] (SH L) M) (fun r S M' => r = none ∧ S = SH L ∧ (∀ w, w < 15 → M' 272 (146 + 15 * s + w) = M 282 (15 * x + w)) ∧ ∀ b j, ¬(b = 272 ∧ 146 + 15 * s ≤ j ∧ j < 161 + 15 * s) → M' b j = M b j) := by
  repeat' first
    | (with_reducible apply wp_bR; (simp (disch := omega) only [rM L, rK L, rN L, rNf, rNv, rNp, rNd, rRow, rLeg, rMark, nat_cast, Int.reduceToNat]; with_reducible exact rfl))
    | with_reducible apply wp_bI
    | with_reducible apply wp_bV
    | with_reducible apply wp_bL
    | with_reducible apply wp_rI
    | with_reducible apply wp_rV
    | with_reducible apply wp_rL
    | (with_reducible apply wp_1; (first | omega | (simp (disch := omega) only [not_false_eq_true, not_true_eq_false, w32_id, tLt, fLt, tLe, fEq, itE, and_true, true_and, and_self, and_false, false_and, ↓reduceIte, nat_add, nat_mul3, nat_mul4, nat_mul6, nat_mul15, nat_mul60, nat_cast, nc1, Int.reduceToNat, upE, upN, fill_ne, fill_in, i0] <;> omega)))
    | (with_reducible apply wp_2; (first | omega | (simp (disch := omega) only [not_false_eq_true, not_true_eq_false, w32_id, tLt, fLt, tLe, fEq, itE, and_true, true_and, and_self, and_false, false_and, ↓reduceIte, nat_add, nat_mul3, nat_mul4, nat_mul6, nat_mul15, nat_mul60, nat_cast, nc1, Int.reduceToNat, upE, upN, fill_ne, fill_in, i0] <;> omega)))
    | (with_reducible apply wp_s; (first | (simp (disch := omega) only [not_false_eq_true, not_true_eq_false, w32_id, tLt, fLt, tLe, fEq, itE, and_true, true_and, and_self, and_false, false_and, ↓reduceIte, nat_add, nat_mul3, nat_mul4, nat_mul6, nat_mul15, nat_mul60, nat_cast, nc1, Int.reduceToNat, upE, upN, fill_ne, fill_in, i0]; with_reducible exact Iff.rfl) | with_reducible exact Iff.rfl); intro hc__; (try subst hc__); rotate_left; intro hc__; rotate_left)
    | (with_reducible apply wp_eq; (with_reducible apply cl_go; simp (disch := omega) only [not_false_eq_true, not_true_eq_false, w32_id, tLt, fLt, tLe, fEq, itE, and_true, true_and, and_self, and_false, false_and, ↓reduceIte, nat_add, nat_mul3, nat_mul4, nat_mul6, nat_mul15, nat_mul60, nat_cast, nc1, Int.reduceToNat, upE, upN, fill_ne, fill_in, i0]; with_reducible exact rfl))
    | (with_reducible refine wp_eq (c_Mo_givesBack (by omega) _ _ _ _ _) ?_; with_reducible refine wp_eq (b_Mo_givesBack_0 _ _ _ _ _ _) ?_)
    | (with_reducible apply wp_eq; (with_reducible apply lf_go; simp (disch := omega) only [not_false_eq_true, not_true_eq_false, w32_id, tLt, fLt, tLe, fEq, itE, and_true, true_and, and_self, and_false, false_and, ↓reduceIte, nat_add, nat_mul3, nat_mul4, nat_mul6, nat_mul15, nat_mul60, nat_cast, nc1, Int.reduceToNat, upE, upN, fill_ne, fill_in, i0]; with_reducible exact rfl))
    | with_reducible apply wp_q1
  refine wp_loop (α := Mm) (G := fun k m => Run (callD (d - 1)) tb_Mo_givesBack 2 [vR 12 0 271, vI (s : Int), vI (x : Int), vI (k : Int)] [] (SH L) m) (I := fun k m => (∀ w, w < k → m 272 (146 + 15 * s + w) = M 282 (15 * x + w)) ∧ ∀ b j, ¬(b = 272 ∧ 146 + 15 * s ≤ j ∧ j < 161 + 15 * s) → m b j = M b j) 15 ?_ ?_ 0 M (by omega) ⟨fun _ h => by omega, fun _ _ _ => rfl⟩
  · intro k M1 hk ⟨r1, f1⟩ ih
    have e1 : M1 282 (15 * x + k) = M 282 (15 * x + k) := f1 _ _ (by omega)
    refine wp_eq (b_Mo_givesBack_2 _ _ _ _ _ _ _) ?_
    repeat' first
      | (with_reducible apply wp_bR; (simp (disch := omega) only [rM L, rK L, rN L, rNf, rNv, rNp, rNd, rRow, rLeg, rMark, nat_cast, Int.reduceToNat, e1]; with_reducible exact rfl))
      | with_reducible apply wp_bI
      | with_reducible apply wp_bV
      | with_reducible apply wp_bL
      | with_reducible apply wp_rI
      | with_reducible apply wp_rV
      | with_reducible apply wp_rL
      | (with_reducible apply wp_1; (first | omega | (simp (disch := omega) only [not_false_eq_true, not_true_eq_false, w32_id, tLt, fLt, tLe, fEq, itE, and_true, true_and, and_self, and_false, false_and, ↓reduceIte, nat_add, nat_mul3, nat_mul4, nat_mul6, nat_mul15, nat_mul60, nat_cast, nc1, Int.reduceToNat, upE, upN, fill_ne, fill_in, i0, e1] <;> omega)))
      | (with_reducible apply wp_2; (first | omega | (simp (disch := omega) only [not_false_eq_true, not_true_eq_false, w32_id, tLt, fLt, tLe, fEq, itE, and_true, true_and, and_self, and_false, false_and, ↓reduceIte, nat_add, nat_mul3, nat_mul4, nat_mul6, nat_mul15, nat_mul60, nat_cast, nc1, Int.reduceToNat, upE, upN, fill_ne, fill_in, i0, e1] <;> omega)))
      | (with_reducible apply wp_s; (first | (simp (disch := omega) only [not_false_eq_true, not_true_eq_false, w32_id, tLt, fLt, tLe, fEq, itE, and_true, true_and, and_self, and_false, false_and, ↓reduceIte, nat_add, nat_mul3, nat_mul4, nat_mul6, nat_mul15, nat_mul60, nat_cast, nc1, Int.reduceToNat, upE, upN, fill_ne, fill_in, i0, e1]; with_reducible exact Iff.rfl) | with_reducible exact Iff.rfl); intro hc__; (try subst hc__); rotate_left; intro hc__; rotate_left)
      | (with_reducible apply wp_eq; (with_reducible apply cl_go; simp (disch := omega) only [not_false_eq_true, not_true_eq_false, w32_id, tLt, fLt, tLe, fEq, itE, and_true, true_and, and_self, and_false, false_and, ↓reduceIte, nat_add, nat_mul3, nat_mul4, nat_mul6, nat_mul15, nat_mul60, nat_cast, nc1, Int.reduceToNat, upE, upN, fill_ne, fill_in, i0, e1]; with_reducible exact rfl))
      | (with_reducible refine wp_eq (c_Mo_shipRow (by omega) _ _ _) ?_; with_reducible refine wp_eq (b_Mo_shipRow_0 _ _ _ _) ?_)
      | (with_reducible apply wp_eq; (with_reducible apply lf_go; simp (disch := omega) only [not_false_eq_true, not_true_eq_false, w32_id, tLt, fLt, tLe, fEq, itE, and_true, true_and, and_self, and_false, false_and, ↓reduceIte, nat_add, nat_mul3, nat_mul4, nat_mul6, nat_mul15, nat_mul60, nat_cast, nc1, Int.reduceToNat, upE, upN, fill_ne, fill_in, i0, e1]; with_reducible exact rfl))
      | with_reducible apply wp_q1
    apply wp_nx ih
    · simp (disch := omega) only [not_false_eq_true, not_true_eq_false, w32_id, tLt, fLt, tLe, fEq, itE, and_true, true_and, and_self, and_false, false_and, ↓reduceIte, nat_add, nat_mul3, nat_mul4, nat_mul6, nat_mul15, nat_mul60, nat_cast, nc1, Int.reduceToNat, upE, upN, fill_ne, fill_in, i0]
      with_reducible rfl
    · refine ⟨fun w hw => ?_, fun b j q => by simp (disch := omega) only [not_false_eq_true, not_true_eq_false, w32_id, tLt, fLt, tLe, fEq, itE, and_true, true_and, and_self, and_false, false_and, ↓reduceIte, nat_add, nat_mul3, nat_mul4, nat_mul6, nat_mul15, nat_mul60, nat_cast, nc1, Int.reduceToNat, upE, upN, fill_ne, fill_in, i0]; exact f1 b j q⟩
      by_cases e : w = k
      · subst e; simp (disch := omega) only [not_false_eq_true, not_true_eq_false, w32_id, tLt, fLt, tLe, fEq, itE, and_true, true_and, and_self, and_false, false_and, ↓reduceIte, nat_add, nat_mul3, nat_mul4, nat_mul6, nat_mul15, nat_mul60, nat_cast, nc1, Int.reduceToNat, upE, upN, fill_ne, fill_in, i0, e1]
      · simp (disch := omega) only [not_false_eq_true, not_true_eq_false, w32_id, tLt, fLt, tLe, fEq, itE, and_true, true_and, and_self, and_false, false_and, ↓reduceIte, nat_add, nat_mul3, nat_mul4, nat_mul6, nat_mul15, nat_mul60, nat_cast, nc1, Int.reduceToNat, upE, upN, fill_ne, fill_in, i0]; exact r1 w (by omega)
  · intro M1 ⟨r1, f1⟩
    refine wp_eq (b_Mo_givesBack_2 _ _ _ _ _ _ _) ?_
    repeat' first
      | (with_reducible apply wp_bR; (simp (disch := omega) only [rM L, rK L, rN L, rNf, rNv, rNp, rNd, rRow, rLeg, rMark, nat_cast, Int.reduceToNat]; with_reducible exact rfl))
      | with_reducible apply wp_bI
      | with_reducible apply wp_bV
      | with_reducible apply wp_bL
      | with_reducible apply wp_rI
      | with_reducible apply wp_rV
      | with_reducible apply wp_rL
      | (with_reducible apply wp_1; (first | omega | (simp (disch := omega) only [not_false_eq_true, not_true_eq_false, w32_id, tLt, fLt, tLe, fEq, itE, and_true, true_and, and_self, and_false, false_and, ↓reduceIte, nat_add, nat_mul3, nat_mul4, nat_mul6, nat_mul15, nat_mul60, nat_cast, nc1, Int.reduceToNat, upE, upN, fill_ne, fill_in, i0] <;> omega)))
      | (with_reducible apply wp_2; (first | omega | (simp (disch := omega) only [not_false_eq_true, not_true_eq_false, w32_id, tLt, fLt, tLe, fEq, itE, and_true, true_and, and_self, and_false, false_and, ↓reduceIte, nat_add, nat_mul3, nat_mul4, nat_mul6, nat_mul15, nat_mul60, nat_cast, nc1, Int.reduceToNat, upE, upN, fill_ne, fill_in, i0] <;> omega)))
      | (with_reducible apply wp_s; (first | (simp (disch := omega) only [not_false_eq_true, not_true_eq_false, w32_id, tLt, fLt, tLe, fEq, itE, and_true, true_and, and_self, and_false, false_and, ↓reduceIte, nat_add, nat_mul3, nat_mul4, nat_mul6, nat_mul15, nat_mul60, nat_cast, nc1, Int.reduceToNat, upE, upN, fill_ne, fill_in, i0]; with_reducible exact Iff.rfl) | with_reducible exact Iff.rfl); intro hc__; (try subst hc__); rotate_left; intro hc__; rotate_left)
      | (with_reducible apply wp_eq; (with_reducible apply cl_go; simp (disch := omega) only [not_false_eq_true, not_true_eq_false, w32_id, tLt, fLt, tLe, fEq, itE, and_true, true_and, and_self, and_false, false_and, ↓reduceIte, nat_add, nat_mul3, nat_mul4, nat_mul6, nat_mul15, nat_mul60, nat_cast, nc1, Int.reduceToNat, upE, upN, fill_ne, fill_in, i0]; with_reducible exact rfl))
      | (with_reducible apply wp_eq; (with_reducible apply lf_go; simp (disch := omega) only [not_false_eq_true, not_true_eq_false, w32_id, tLt, fLt, tLe, fEq, itE, and_true, true_and, and_self, and_false, false_and, ↓reduceIte, nat_add, nat_mul3, nat_mul4, nat_mul6, nat_mul15, nat_mul60, nat_cast, nc1, Int.reduceToNat, upE, upN, fill_ne, fill_in, i0]; with_reducible exact rfl))
      | with_reducible apply wp_q1
    exact ⟨_, _, _, rfl, rfl, rfl, r1, f1⟩
/-- what is so while it searches at level x: K are the ships kept, c the choices made -/
def LvI (M0 : Mm) (s x : Nat) (K : Nat → Nat → Int) (c : Nat → Int) (M : Mm) : Prop :=
  (∀ b j, b ≠ 280 → b ≠ 281 → b ≠ 282 → ¬(b = 272 ∧ 146 + 15 * s ≤ j ∧ j < 161 + 15 * s) → ¬(b = 271 ∧ (j = 30 ∨ j = 31)) → M b j = M0 b j) ∧ (∀ i w, i ≤ x → w < 15 → M 282 (15 * i + w) = K i w) ∧ ∀ i, i < x → M 281 i = c i
theorem LvI.fr {M0 : Mm} {x : Nat} {K : Nat → Nat → Int} {c : Nat → Int} (h : LvI M0 s x K c M) : ∀ b j, b ≠ 280 → b ≠ 281 → b ≠ 282 → ¬(b = 272 ∧ 146 + 15 * s ≤ j ∧ j < 161 + 15 * s) → ¬(b = 271 ∧ (j = 30 ∨ j = 31)) → M b j = M0 b j := h.1
theorem LvI.kp {M0 : Mm} {x : Nat} {K : Nat → Nat → Int} {c : Nat → Int} (h : LvI M0 s x K c M) : ∀ i w, i ≤ x → w < 15 → M 282 (15 * i + w) = K i w := h.2.1
theorem LvI.ch {M0 : Mm} {x : Nat} {K : Nat → Nat → Int} {c : Nat → Int} (h : LvI M0 s x K c M) : ∀ i, i < x → M 281 i = c i := h.2.2
theorem LvI.fwd {M0 M1 M2 : Mm} {x : Nat} {K : Nat → Nat → Int} {c : Nat → Int} (h : LvI M0 s x K c M1) (f : ∀ b j, b ≠ 280 → ¬(b = 272 ∧ 146 + 15 * s ≤ j ∧ j < 161 + 15 * s) → M2 b j = M1 b j) : LvI M0 s x K c M2 :=
  ⟨fun b j q1 q2 q3 q4 q5 => (f b j q1 q4).trans (h.fr b j q1 q2 q3 q4 q5), fun i w hi hw => (f _ _ (by omega) (by omega)).trans (h.kp i w hi hw), fun i hi => (f _ _ (by omega) (by omega)).trans (h.ch i hi)⟩
/-- from level x on, all choices behind the one made -/
def LvP (M0 : Mm) (A : Nat → Int) (L d s legs : Nat) (Q : Option AV → Sp → Mm → Prop) (m : Nat) : Prop := ∀ (x : Nat) (K : Nat → Nat → Int) (c : Nat → Int) (b : Int × Int) (M : Mm), x + m + 1 = legs → Sh1 A (K x) → 0 ≤ K x 0 → LvI M0 s x K c M → M 281 x = -1 → (M 271 30, M 271 31) = b → -1 ≤ b.1 → (∀ M', LvI M0 s x K c M' → (M' 271 30, M' 271 31) = foC (voF A m (selB A (K x))) (fun k => if x = 0 then (k : Int) else c 0) b 54 → Wp (Run (callD (d - 1)) tb_Mo_laysVoyage 20 [vR 12 0 271, vI (s : Int), vI (legs : Int), vI ((x : Int) - 1)] [] (SH L) M') Q) → Wp (Run (callD (d - 1)) tb_Mo_laysVoyage 20 [vR 12 0 271, vI (s : Int), vI (legs : Int), vI (x : Int)] [] (SH L) M) Q
theorem q_lev {M0 : Mm} (hI : Inv A) (hs : (s : Int) < A 3) (h0 : ∀ k, k < 206 → k < 146 + 15 * s ∨ 161 + 15 * s ≤ k → M0 272 k = A k) {legs : Nat} (h3 : legs ≤ 3) (hd : 20 ≤ d) {Q : Option AV → Sp → Mm → Prop} (m : Nat) (IH : ∀ m', m = m' + 1 → LvP M0 A L d s legs Q m') : LvP M0 A L d s legs Q m := by
  have hC := hI.1
  unfold Cn at hC
  intro x K c b M hx hK hK0 hL h281 hb hb1 cont
  have hX := hK.sel hI hK0
  generalize hF : voF A m (selB A (K x)) = F at cont
  have hFk : ∀ k, F k = if ((k / 9 : Nat) : Int) < A 2 ∧ okLeg A (selB A (K x)) (k / 9) (k % 9) then vo A m (selB A (legB A (gdB A (selB A (K x)) (k % 9)) (k / 9))) else -1 := fun k => by rw [← hF]; rfl
  generalize hch : (fun k : Nat => if x = 0 then (k : Int) else c 0) = ch at cont
  have hch' : ∀ k, ch k = if x = 0 then (k : Int) else c 0 := fun k => by rw [← hch]
  refine wp_loop (α := Mm) (G := fun _ m => Run (callD (d - 1)) tb_Mo_laysVoyage 20 [vR 12 0 271, vI (s : Int), vI (legs : Int), vI (x : Int)] [] (SH L) m) (I := fun k m => LvI M0 s x K c m ∧ m 281 x = (k : Int) - 1 ∧ (m 271 30, m 271 31) = foC F ch b k) 54 ?_ ?_ 0 M (by omega) ⟨hL, h281, hb⟩
  · intro k M1 hk ⟨l1, c1, b1⟩ ih
    have bge := foC_ge (F := F) (ch := ch) hb1 k
    refine wp_eq (b_Mo_laysVoyage_20 _ _ _ _ _ _ _) ?_
    repeat' first
      | (with_reducible apply wp_bR; (simp (disch := omega) only [rM L, rK L, rN L, rNf, rNv, rNp, rNd, rRow, rLeg, rMark, nat_cast, Int.reduceToNat]; with_reducible exact rfl))
      | with_reducible apply wp_bI
      | with_reducible apply wp_bV
      | with_reducible apply wp_bL
      | with_reducible apply wp_rI
      | with_reducible apply wp_rV
      | with_reducible apply wp_rL
      | (with_reducible apply wp_1; (first | omega | (simp (disch := omega) only [not_false_eq_true, not_true_eq_false, w32_id, tLt, fLt, tLe, fEq, itE, and_true, true_and, and_self, and_false, false_and, ↓reduceIte, nat_add, nat_mul3, nat_mul4, nat_mul6, nat_mul15, nat_mul60, nat_cast, nc1, Int.reduceToNat, upE, upN, fill_ne, fill_in, i0] <;> omega)))
      | (with_reducible apply wp_2; (first | omega | (simp (disch := omega) only [not_false_eq_true, not_true_eq_false, w32_id, tLt, fLt, tLe, fEq, itE, and_true, true_and, and_self, and_false, false_and, ↓reduceIte, nat_add, nat_mul3, nat_mul4, nat_mul6, nat_mul15, nat_mul60, nat_cast, nc1, Int.reduceToNat, upE, upN, fill_ne, fill_in, i0] <;> omega)))
      | (with_reducible apply wp_s; (first | (simp (disch := omega) only [not_false_eq_true, not_true_eq_false, w32_id, tLt, fLt, tLe, fEq, itE, and_true, true_and, and_self, and_false, false_and, ↓reduceIte, nat_add, nat_mul3, nat_mul4, nat_mul6, nat_mul15, nat_mul60, nat_cast, nc1, Int.reduceToNat, upE, upN, fill_ne, fill_in, i0]; with_reducible exact Iff.rfl) | with_reducible exact Iff.rfl); intro hc__; (try subst hc__); rotate_left; intro hc__; rotate_left)
      | (with_reducible apply wp_eq; (with_reducible apply cl_go; simp (disch := omega) only [not_false_eq_true, not_true_eq_false, w32_id, tLt, fLt, tLe, fEq, itE, and_true, true_and, and_self, and_false, false_and, ↓reduceIte, nat_add, nat_mul3, nat_mul4, nat_mul6, nat_mul15, nat_mul60, nat_cast, nc1, Int.reduceToNat, upE, upN, fill_ne, fill_in, i0]; with_reducible exact rfl))
      | (with_reducible apply wp_eq; (with_reducible apply lf_go; simp (disch := omega) only [not_false_eq_true, not_true_eq_false, w32_id, tLt, fLt, tLe, fEq, itE, and_true, true_and, and_self, and_false, false_and, ↓reduceIte, nat_add, nat_mul3, nat_mul4, nat_mul6, nat_mul15, nat_mul60, nat_cast, nc1, Int.reduceToNat, upE, upN, fill_ne, fill_in, i0]; with_reducible exact rfl))
      | with_reducible apply wp_q1
    refine wp_mono (q_gives (by omega) (by omega) (x := x) (by omega)) ?_
    rintro r S M2 ⟨rfl, rfl, r2, f2⟩
    refine ⟨rfl, ?_⟩
    have l2 : LvI M0 s x K c M2 := l1.fwd fun b j _ q => f2 b j q
    have c2 : M2 281 x = (k : Int) - 1 := (f2 _ _ (by omega)).trans c1
    have b2 : (M2 271 30, M2 271 31) = foC F ch b k := by rw [f2 _ _ (by omega), f2 _ _ (by omega)]; exact b1
    have r2' : ∀ w, w < 15 → M2 272 (146 + 15 * s + w) = K x w := fun w hw => (r2 w hw).trans (l1.kp x w (by omega) hw)
    have dv : w32 (Int.tdiv (k : Int) 9) = ((k / 9 : Nat) : Int) := by rw [Int.tdiv_eq_ediv_of_nonneg (by omega), w32_id (by omega) (by omega)]; omega
    have md : Int.tmod (k : Int) 9 = ((k % 9 : Nat) : Int) := by rw [Int.tmod_eq_emod_of_nonneg (by omega)]; omega
    have c3 : w32 (M2 281 x + 1) = (k : Int) := by rw [c2, w32_id (by omega) (by omega)]; omega
    repeat' first
      | (with_reducible apply wp_bR; (simp (disch := omega) only [rM L, rK L, rN L, rNf, rNv, rNp, rNd, rRow, rLeg, rMark, nat_cast, Int.reduceToNat, c3, dv, md]; with_reducible exact rfl))
      | with_reducible apply wp_bI
      | with_reducible apply wp_bV
      | with_reducible apply wp_bL
      | with_reducible apply wp_rI
      | with_reducible apply wp_rV
      | with_reducible apply wp_rL
      | (with_reducible apply wp_1; (first | omega | (simp (disch := omega) only [not_false_eq_true, not_true_eq_false, w32_id, tLt, fLt, tLe, fEq, itE, and_true, true_and, and_self, and_false, false_and, ↓reduceIte, nat_add, nat_mul3, nat_mul4, nat_mul6, nat_mul15, nat_mul60, nat_cast, nc1, Int.reduceToNat, upE, upN, fill_ne, fill_in, i0, c3, dv, md] <;> omega)))
      | (with_reducible apply wp_2; (first | omega | (simp (disch := omega) only [not_false_eq_true, not_true_eq_false, w32_id, tLt, fLt, tLe, fEq, itE, and_true, true_and, and_self, and_false, false_and, ↓reduceIte, nat_add, nat_mul3, nat_mul4, nat_mul6, nat_mul15, nat_mul60, nat_cast, nc1, Int.reduceToNat, upE, upN, fill_ne, fill_in, i0, c3, dv, md] <;> omega)))
      | (with_reducible apply wp_s; (first | (simp (disch := omega) only [not_false_eq_true, not_true_eq_false, w32_id, tLt, fLt, tLe, fEq, itE, and_true, true_and, and_self, and_false, false_and, ↓reduceIte, nat_add, nat_mul3, nat_mul4, nat_mul6, nat_mul15, nat_mul60, nat_cast, nc1, Int.reduceToNat, upE, upN, fill_ne, fill_in, i0, c3, dv, md]; with_reducible exact Iff.rfl) | with_reducible exact Iff.rfl); intro hc__; (try subst hc__); rotate_left; intro hc__; rotate_left)
      | (with_reducible apply wp_eq; (with_reducible apply cl_go; simp (disch := omega) only [not_false_eq_true, not_true_eq_false, w32_id, tLt, fLt, tLe, fEq, itE, and_true, true_and, and_self, and_false, false_and, ↓reduceIte, nat_add, nat_mul3, nat_mul4, nat_mul6, nat_mul15, nat_mul60, nat_cast, nc1, Int.reduceToNat, upE, upN, fill_ne, fill_in, i0, c3, dv, md]; with_reducible exact rfl))
      | (with_reducible apply wp_eq; (with_reducible apply lf_go; simp (disch := omega) only [not_false_eq_true, not_true_eq_false, w32_id, tLt, fLt, tLe, fEq, itE, and_true, true_and, and_self, and_false, false_and, ↓reduceIte, nat_add, nat_mul3, nat_mul4, nat_mul6, nat_mul15, nat_mul60, nat_cast, nc1, Int.reduceToNat, upE, upN, fill_ne, fill_in, i0, c3, dv, md]; with_reducible exact rfl))
      | with_reducible apply wp_q1
    rw [show M2 281 x + 1 = (k : Int) by omega, dv, md]
    generalize hM3 : up M2 281 x (k : Int) = M3
    have f3 : ∀ b j, ¬(b = 281 ∧ j = x) → M3 b j = M2 b j := fun b j q => by rw [← hM3, upN (by omega)]
    have c3' : M3 281 x = (k : Int) := by rw [← hM3, upE rfl rfl]
    have l3 : LvI M0 s x K c M3 := ⟨fun b j q1 q2 q3 q4 q5 => (f3 b j (by omega)).trans (l2.fr b j q1 q2 q3 q4 q5), fun i w hi hw => (f3 _ _ (by omega)).trans (l2.kp i w hi hw), fun i hi => (f3 _ _ (by omega)).trans (l2.ch i hi)⟩
    have hR3 : RwM M3 A s (K x) := ⟨fun w hw => (f3 _ _ (by omega)).trans (r2' w hw), fun k hk hk' => (l3.fr _ _ (by omega) (by omega) (by omega) (by omega) (by omega)).trans (h0 k hk hk')⟩
    have b3 : (M3 271 30, M3 271 31) = foC F ch b k := by rw [f3 _ _ (by omega), f3 _ _ (by omega)]; exact b2
    refine wp_mono (q_goesLeg (by omega) hI hs hK hK0 hR3 (p := k / 9) (g := k % 9) (by omega) (by omega)) ?_
    rintro r S M4 ⟨rfl, f4, hr⟩
    have l4 : LvI M0 s x K c M4 := l3.fwd f4
    have c4 : M4 281 x = (k : Int) := (f4 _ _ (by omega) (by omega)).trans c3'
    have b4 : (M4 271 30, M4 271 31) = foC F ch b k := by rw [f4 _ _ (by omega) (by omega), f4 _ _ (by omega) (by omega)]; exact b3
    have b40 : M4 271 30 = (foC F ch b k).1 := congrArg Prod.fst b4
    rcases hr with ⟨ok, rfl, r4⟩ | ⟨no, rfl⟩
    · refine ⟨_, rfl, ?_⟩
      have hX0 : 0 ≤ selB A (K x) 0 := by rw [sel_0 _ _ (by omega)]; exact hK0
      have nx := hX.next hI hX0 ok.1 ok.2
      have fk := hFk k
      rw [if_pos ok] at fk
      generalize hY : legB A (gdB A (selB A (K x)) (k % 9)) (k / 9) = Y at nx r4 fk
      have hR4 : RwM M4 A s Y := ⟨r4, fun k hk hk' => (l4.fr _ _ (by omega) (by omega) (by omega) (by omega) (by omega)).trans (h0 k hk hk')⟩
      have hY0 : 0 ≤ Y 0 := by rw [nx.2]; omega
      rcases m with _ | m'
      · repeat' first
          | (with_reducible apply wp_bR; (simp (disch := omega) only [rM L, rK L, rN L, rNf, rNv, rNp, rNd, rRow, rLeg, rMark, nat_cast, Int.reduceToNat]; with_reducible exact rfl))
          | with_reducible apply wp_bI
          | with_reducible apply wp_bV
          | with_reducible apply wp_bL
          | with_reducible apply wp_rI
          | with_reducible apply wp_rV
          | with_reducible apply wp_rL
          | (with_reducible apply wp_1; (first | omega | (simp (disch := omega) only [not_false_eq_true, not_true_eq_false, w32_id, tLt, fLt, tLe, fEq, itE, and_true, true_and, and_self, and_false, false_and, ↓reduceIte, nat_add, nat_mul3, nat_mul4, nat_mul6, nat_mul15, nat_mul60, nat_cast, nc1, Int.reduceToNat, upE, upN, fill_ne, fill_in, i0] <;> omega)))
          | (with_reducible apply wp_2; (first | omega | (simp (disch := omega) only [not_false_eq_true, not_true_eq_false, w32_id, tLt, fLt, tLe, fEq, itE, and_true, true_and, and_self, and_false, false_and, ↓reduceIte, nat_add, nat_mul3, nat_mul4, nat_mul6, nat_mul15, nat_mul60, nat_cast, nc1, Int.reduceToNat, upE, upN, fill_ne, fill_in, i0] <;> omega)))
          | (with_reducible apply wp_s; (first | (simp (disch := omega) only [not_false_eq_true, not_true_eq_false, w32_id, tLt, fLt, tLe, fEq, itE, and_true, true_and, and_self, and_false, false_and, ↓reduceIte, nat_add, nat_mul3, nat_mul4, nat_mul6, nat_mul15, nat_mul60, nat_cast, nc1, Int.reduceToNat, upE, upN, fill_ne, fill_in, i0]; with_reducible exact Iff.rfl) | with_reducible exact Iff.rfl); intro hc__; (try subst hc__); rotate_left; intro hc__; rotate_left)
          | (with_reducible apply wp_eq; (with_reducible apply cl_go; simp (disch := omega) only [not_false_eq_true, not_true_eq_false, w32_id, tLt, fLt, tLe, fEq, itE, and_true, true_and, and_self, and_false, false_and, ↓reduceIte, nat_add, nat_mul3, nat_mul4, nat_mul6, nat_mul15, nat_mul60, nat_cast, nc1, Int.reduceToNat, upE, upN, fill_ne, fill_in, i0]; with_reducible exact rfl))
          | (with_reducible apply wp_eq; (with_reducible apply lf_go; simp (disch := omega) only [not_false_eq_true, not_true_eq_false, w32_id, tLt, fLt, tLe, fEq, itE, and_true, true_and, and_self, and_false, false_and, ↓reduceIte, nat_add, nat_mul3, nat_mul4, nat_mul6, nat_mul15, nat_mul60, nat_cast, nc1, Int.reduceToNat, upE, upN, fill_ne, fill_in, i0]; with_reducible exact rfl))
          | with_reducible apply wp_q1
        refine wp_qrow (q_sellsAll (by omega) hR4 hI hs nx.1 hY0) fun M5 r5 f5 => ?_
        have l5 : LvI M0 s x K c M5 := l4.fwd f5
        have c5 : M5 281 x = (k : Int) := (f5 _ _ (by omega) (by omega)).trans c4
        have b5 : (M5 271 30, M5 271 31) = foC F ch b k := by rw [f5 _ _ (by omega) (by omega), f5 _ _ (by omega) (by omega)]; exact b4
        have b50 : M5 271 30 = (foC F ch b k).1 := congrArg Prod.fst b5
        have k5 : M5 272 (150 + 15 * s) = F k := by rw [show 150 + 15 * s = 146 + 15 * s + 4 by omega, r5 4 (by omega), fk]; rfl
        by_cases lt : (foC F ch b k).1 < F k
        · have c50 : M5 281 0 = ch k := by
            rw [hch' k]
            by_cases e : x = 0
            · rw [if_pos e, ← c5, e]
            · rw [if_neg e]; exact l5.ch 0 (by omega)
          repeat' first
            | (with_reducible apply wp_bR; (simp (disch := omega) only [rM L, rK L, rN L, rNf, rNv, rNp, rNd, rRow, rLeg, rMark, nat_cast, Int.reduceToNat, k5, i150, b50, c50]; with_reducible exact rfl))
            | with_reducible apply wp_bI
            | with_reducible apply wp_bV
            | with_reducible apply wp_bL
            | with_reducible apply wp_rI
            | with_reducible apply wp_rV
            | with_reducible apply wp_rL
            | (with_reducible apply wp_1; (first | omega | (simp (disch := omega) only [not_false_eq_true, not_true_eq_false, w32_id, tLt, fLt, tLe, fEq, itE, and_true, true_and, and_self, and_false, false_and, ↓reduceIte, nat_add, nat_mul3, nat_mul4, nat_mul6, nat_mul15, nat_mul60, nat_cast, nc1, Int.reduceToNat, upE, upN, fill_ne, fill_in, i0, k5, i150, b50, c50] <;> omega)))
            | (with_reducible apply wp_2; (first | omega | (simp (disch := omega) only [not_false_eq_true, not_true_eq_false, w32_id, tLt, fLt, tLe, fEq, itE, and_true, true_and, and_self, and_false, false_and, ↓reduceIte, nat_add, nat_mul3, nat_mul4, nat_mul6, nat_mul15, nat_mul60, nat_cast, nc1, Int.reduceToNat, upE, upN, fill_ne, fill_in, i0, k5, i150, b50, c50] <;> omega)))
            | (with_reducible apply wp_s; (first | (simp (disch := omega) only [not_false_eq_true, not_true_eq_false, w32_id, tLt, fLt, tLe, fEq, itE, and_true, true_and, and_self, and_false, false_and, ↓reduceIte, nat_add, nat_mul3, nat_mul4, nat_mul6, nat_mul15, nat_mul60, nat_cast, nc1, Int.reduceToNat, upE, upN, fill_ne, fill_in, i0, k5, i150, b50, c50]; with_reducible exact Iff.rfl) | with_reducible exact Iff.rfl); intro hc__; (try subst hc__); rotate_left; intro hc__; rotate_left)
            | (with_reducible apply wp_eq; (with_reducible apply cl_go; simp (disch := omega) only [not_false_eq_true, not_true_eq_false, w32_id, tLt, fLt, tLe, fEq, itE, and_true, true_and, and_self, and_false, false_and, ↓reduceIte, nat_add, nat_mul3, nat_mul4, nat_mul6, nat_mul15, nat_mul60, nat_cast, nc1, Int.reduceToNat, upE, upN, fill_ne, fill_in, i0, k5, i150, b50, c50]; with_reducible exact rfl))
            | (with_reducible refine wp_eq (c_Mo_shipOf (by omega) _ _ _ _ _) ?_; with_reducible refine wp_eq (b_Mo_shipOf_0 _ _ _ _ _ _) ?_)
            | (with_reducible refine wp_eq (c_Mo_shipRow (by omega) _ _ _) ?_; with_reducible refine wp_eq (b_Mo_shipRow_0 _ _ _ _) ?_)
            | (with_reducible apply wp_eq; (with_reducible apply lf_go; simp (disch := omega) only [not_false_eq_true, not_true_eq_false, w32_id, tLt, fLt, tLe, fEq, itE, and_true, true_and, and_self, and_false, false_and, ↓reduceIte, nat_add, nat_mul3, nat_mul4, nat_mul6, nat_mul15, nat_mul60, nat_cast, nc1, Int.reduceToNat, upE, upN, fill_ne, fill_in, i0, k5, i150, b50, c50]; with_reducible exact rfl))
            | with_reducible apply wp_q1
          refine ih _ ⟨⟨fun b j q1 q2 q3 q4 q5 => ?_, fun i w hi hw => ?_, fun i hi => ?_⟩, ?_, ?_⟩
          · rw [upN (by omega), upN (by omega)]; exact l5.fr b j q1 q2 q3 q4 q5
          · rw [upN (by omega), upN (by omega)]; exact l5.kp i w hi hw
          · rw [upN (by omega), upN (by omega)]; exact l5.ch i hi
          · rw [upN (by omega), upN (by omega), c5]; omega
          · rw [upN (by omega), upE rfl rfl, upE rfl rfl, foC_s, st1_yes _ _ lt]
            simp (disch := omega) only [not_false_eq_true, not_true_eq_false, w32_id, tLt, fLt, tLe, fEq, itE, and_true, true_and, and_self, and_false, false_and, ↓reduceIte, nat_add, nat_mul3, nat_mul4, nat_mul6, nat_mul15, nat_mul60, nat_cast, nc1, Int.reduceToNat, upE, upN, fill_ne, fill_in, i0, i150, k5, c50]
        · repeat' first
            | (with_reducible apply wp_bR; (simp (disch := omega) only [rM L, rK L, rN L, rNf, rNv, rNp, rNd, rRow, rLeg, rMark, nat_cast, Int.reduceToNat, k5, i150, b50]; with_reducible exact rfl))
            | with_reducible apply wp_bI
            | with_reducible apply wp_bV
            | with_reducible apply wp_bL
            | with_reducible apply wp_rI
            | with_reducible apply wp_rV
            | with_reducible apply wp_rL
            | (with_reducible apply wp_1; (first | omega | (simp (disch := omega) only [not_false_eq_true, not_true_eq_false, w32_id, tLt, fLt, tLe, fEq, itE, and_true, true_and, and_self, and_false, false_and, ↓reduceIte, nat_add, nat_mul3, nat_mul4, nat_mul6, nat_mul15, nat_mul60, nat_cast, nc1, Int.reduceToNat, upE, upN, fill_ne, fill_in, i0, k5, i150, b50] <;> omega)))
            | (with_reducible apply wp_2; (first | omega | (simp (disch := omega) only [not_false_eq_true, not_true_eq_false, w32_id, tLt, fLt, tLe, fEq, itE, and_true, true_and, and_self, and_false, false_and, ↓reduceIte, nat_add, nat_mul3, nat_mul4, nat_mul6, nat_mul15, nat_mul60, nat_cast, nc1, Int.reduceToNat, upE, upN, fill_ne, fill_in, i0, k5, i150, b50] <;> omega)))
            | (with_reducible apply wp_s; (first | (simp (disch := omega) only [not_false_eq_true, not_true_eq_false, w32_id, tLt, fLt, tLe, fEq, itE, and_true, true_and, and_self, and_false, false_and, ↓reduceIte, nat_add, nat_mul3, nat_mul4, nat_mul6, nat_mul15, nat_mul60, nat_cast, nc1, Int.reduceToNat, upE, upN, fill_ne, fill_in, i0, k5, i150, b50]; with_reducible exact Iff.rfl) | with_reducible exact Iff.rfl); intro hc__; (try subst hc__); rotate_left; intro hc__; rotate_left)
            | (with_reducible apply wp_eq; (with_reducible apply cl_go; simp (disch := omega) only [not_false_eq_true, not_true_eq_false, w32_id, tLt, fLt, tLe, fEq, itE, and_true, true_and, and_self, and_false, false_and, ↓reduceIte, nat_add, nat_mul3, nat_mul4, nat_mul6, nat_mul15, nat_mul60, nat_cast, nc1, Int.reduceToNat, upE, upN, fill_ne, fill_in, i0, k5, i150, b50]; with_reducible exact rfl))
            | (with_reducible refine wp_eq (c_Mo_shipOf (by omega) _ _ _ _ _) ?_; with_reducible refine wp_eq (b_Mo_shipOf_0 _ _ _ _ _ _) ?_)
            | (with_reducible refine wp_eq (c_Mo_shipRow (by omega) _ _ _) ?_; with_reducible refine wp_eq (b_Mo_shipRow_0 _ _ _ _) ?_)
            | (with_reducible apply wp_eq; (with_reducible apply lf_go; simp (disch := omega) only [not_false_eq_true, not_true_eq_false, w32_id, tLt, fLt, tLe, fEq, itE, and_true, true_and, and_self, and_false, false_and, ↓reduceIte, nat_add, nat_mul3, nat_mul4, nat_mul6, nat_mul15, nat_mul60, nat_cast, nc1, Int.reduceToNat, upE, upN, fill_ne, fill_in, i0, k5, i150, b50]; with_reducible exact rfl))
            | with_reducible apply wp_q1
          exact ih _ ⟨l5, by rw [c5]; omega, by rw [foC_s, st1_no _ _ (by omega)]; exact b5⟩
      · repeat' first
          | (with_reducible apply wp_bR; (simp (disch := omega) only [rM L, rK L, rN L, rNf, rNv, rNp, rNd, rRow, rLeg, rMark, nat_cast, Int.reduceToNat]; with_reducible exact rfl))
          | with_reducible apply wp_bI
          | with_reducible apply wp_bV
          | with_reducible apply wp_bL
          | with_reducible apply wp_rI
          | with_reducible apply wp_rV
          | with_reducible apply wp_rL
          | (with_reducible apply wp_1; (first | omega | (simp (disch := omega) only [not_false_eq_true, not_true_eq_false, w32_id, tLt, fLt, tLe, fEq, itE, and_true, true_and, and_self, and_false, false_and, ↓reduceIte, nat_add, nat_mul3, nat_mul4, nat_mul6, nat_mul15, nat_mul60, nat_cast, nc1, Int.reduceToNat, upE, upN, fill_ne, fill_in, i0] <;> omega)))
          | (with_reducible apply wp_2; (first | omega | (simp (disch := omega) only [not_false_eq_true, not_true_eq_false, w32_id, tLt, fLt, tLe, fEq, itE, and_true, true_and, and_self, and_false, false_and, ↓reduceIte, nat_add, nat_mul3, nat_mul4, nat_mul6, nat_mul15, nat_mul60, nat_cast, nc1, Int.reduceToNat, upE, upN, fill_ne, fill_in, i0] <;> omega)))
          | (with_reducible apply wp_s; (first | (simp (disch := omega) only [not_false_eq_true, not_true_eq_false, w32_id, tLt, fLt, tLe, fEq, itE, and_true, true_and, and_self, and_false, false_and, ↓reduceIte, nat_add, nat_mul3, nat_mul4, nat_mul6, nat_mul15, nat_mul60, nat_cast, nc1, Int.reduceToNat, upE, upN, fill_ne, fill_in, i0]; with_reducible exact Iff.rfl) | with_reducible exact Iff.rfl); intro hc__; (try subst hc__); rotate_left; intro hc__; rotate_left)
          | (with_reducible apply wp_eq; (with_reducible apply cl_go; simp (disch := omega) only [not_false_eq_true, not_true_eq_false, w32_id, tLt, fLt, tLe, fEq, itE, and_true, true_and, and_self, and_false, false_and, ↓reduceIte, nat_add, nat_mul3, nat_mul4, nat_mul6, nat_mul15, nat_mul60, nat_cast, nc1, Int.reduceToNat, upE, upN, fill_ne, fill_in, i0]; with_reducible exact rfl))
          | (with_reducible apply wp_eq; (with_reducible apply lf_go; simp (disch := omega) only [not_false_eq_true, not_true_eq_false, w32_id, tLt, fLt, tLe, fEq, itE, and_true, true_and, and_self, and_false, false_and, ↓reduceIte, nat_add, nat_mul3, nat_mul4, nat_mul6, nat_mul15, nat_mul60, nat_cast, nc1, Int.reduceToNat, upE, upN, fill_ne, fill_in, i0]; with_reducible exact rfl))
          | with_reducible apply wp_q1
        refine wp_mono (q_keeps (by omega) (by omega) (x := x + 1) (by omega)) ?_
        rintro r S M5 ⟨rfl, rfl, r5, f5⟩
        refine ⟨rfl, ?_⟩
        have f5 : ∀ b j, ¬(b = 282 ∧ 15 * (x + 1) ≤ j ∧ j < 15 * (x + 1) + 15) → M5 b j = M4 b j := f5
        repeat' first
          | (with_reducible apply wp_bR; (simp (disch := omega) only [rM L, rK L, rN L, rNf, rNv, rNp, rNd, rRow, rLeg, rMark, nat_cast, Int.reduceToNat]; with_reducible exact rfl))
          | with_reducible apply wp_bI
          | with_reducible apply wp_bV
          | with_reducible apply wp_bL
          | with_reducible apply wp_rI
          | with_reducible apply wp_rV
          | with_reducible apply wp_rL
          | (with_reducible apply wp_1; (first | omega | (simp (disch := omega) only [not_false_eq_true, not_true_eq_false, w32_id, tLt, fLt, tLe, fEq, itE, and_true, true_and, and_self, and_false, false_and, ↓reduceIte, nat_add, nat_mul3, nat_mul4, nat_mul6, nat_mul15, nat_mul60, nat_cast, nc1, Int.reduceToNat, upE, upN, fill_ne, fill_in, i0] <;> omega)))
          | (with_reducible apply wp_2; (first | omega | (simp (disch := omega) only [not_false_eq_true, not_true_eq_false, w32_id, tLt, fLt, tLe, fEq, itE, and_true, true_and, and_self, and_false, false_and, ↓reduceIte, nat_add, nat_mul3, nat_mul4, nat_mul6, nat_mul15, nat_mul60, nat_cast, nc1, Int.reduceToNat, upE, upN, fill_ne, fill_in, i0] <;> omega)))
          | (with_reducible apply wp_s; (first | (simp (disch := omega) only [not_false_eq_true, not_true_eq_false, w32_id, tLt, fLt, tLe, fEq, itE, and_true, true_and, and_self, and_false, false_and, ↓reduceIte, nat_add, nat_mul3, nat_mul4, nat_mul6, nat_mul15, nat_mul60, nat_cast, nc1, Int.reduceToNat, upE, upN, fill_ne, fill_in, i0]; with_reducible exact Iff.rfl) | with_reducible exact Iff.rfl); intro hc__; (try subst hc__); rotate_left; intro hc__; rotate_left)
          | (with_reducible apply wp_eq; (with_reducible apply cl_go; simp (disch := omega) only [not_false_eq_true, not_true_eq_false, w32_id, tLt, fLt, tLe, fEq, itE, and_true, true_and, and_self, and_false, false_and, ↓reduceIte, nat_add, nat_mul3, nat_mul4, nat_mul6, nat_mul15, nat_mul60, nat_cast, nc1, Int.reduceToNat, upE, upN, fill_ne, fill_in, i0]; with_reducible exact rfl))
          | (with_reducible apply wp_eq; (with_reducible apply lf_go; simp (disch := omega) only [not_false_eq_true, not_true_eq_false, w32_id, tLt, fLt, tLe, fEq, itE, and_true, true_and, and_self, and_false, false_and, ↓reduceIte, nat_add, nat_mul3, nat_mul4, nat_mul6, nat_mul15, nat_mul60, nat_cast, nc1, Int.reduceToNat, upE, upN, fill_ne, fill_in, i0]; with_reducible exact rfl))
          | with_reducible apply wp_q1
        rw [show w32 ((x : Int) + 1) = ((x + 1 : Nat) : Int) by rw [w32_id (by omega) (by omega)]; rfl]
        rw [show (((x + 1 : Nat) : Int)).toNat = x + 1 from rfl]
        have sub := IH m' rfl (x + 1) (fun i => if i = x + 1 then Y else K i) (fun i => if i = x then (k : Int) else c i) (foC F ch b k) (up M5 281 (x + 1) (-1)) (by omega) (by rw [if_pos rfl]; exact nx.1) (by rw [if_pos rfl]; exact hY0)
          ⟨fun b j q1 q2 q3 q4 q5 => by rw [upN (by omega), f5 _ _ (by omega)]; exact l4.fr b j q1 q2 q3 q4 q5, fun i w hi hw => by
            rw [upN (by omega)]
            dsimp only
            by_cases e : i = x + 1
            · rw [if_pos e, e, r5 w hw]; exact r4 w hw
            · rw [if_neg e, f5 _ _ (by omega)]; exact l4.kp i w (by omega) hw, fun i hi => by
            rw [upN (by omega), f5 _ _ (by omega)]
            dsimp only
            by_cases e : i = x
            · rw [if_pos e, e]; exact c4
            · rw [if_neg e]; exact l4.ch i (by omega)⟩
          (upE rfl rfl) (by rw [upN (by omega), upN (by omega), f5 _ _ (by omega), f5 _ _ (by omega)]; exact b4) bge
        refine sub fun M6 l6 b6 => ?_
        rw [show ((x + 1 : Nat) : Int) - 1 = (x : Int) by omega]
        have c6 : M6 281 x = (k : Int) := by have := l6.ch x (by omega); rwa [if_pos rfl] at this
        refine ih M6 ⟨⟨l6.fr, fun i w hi hw => ?_, fun i hi => ?_⟩, by rw [c6]; omega, ?_⟩
        · have := l6.kp i w (by omega) hw
          rwa [if_neg (by omega)] at this
        · have := l6.ch i (by omega)
          rwa [if_neg (by omega)] at this
        · rw [b6, show foC F ch b (k + 1) = st1 (foC F ch b k) (F k) (ch k) from rfl]
          rw [if_pos rfl]
          have cc : (fun k_1 : Nat => if x + 1 = 0 then (k_1 : Int) else if 0 = x then (k : Int) else c 0) = fun _ => ch k := by
            funext j
            rw [if_neg (by omega), hch' k]
            by_cases e : x = 0
            · rw [if_pos e, if_pos e.symm]
            · rw [if_neg e, if_neg (fun q => e q.symm)]
          rw [cc, foC_const bge, fk, vo_s]
    · refine ⟨_, rfl, ?_⟩
      have fk := hFk k
      rw [if_neg no] at fk
      repeat' first
        | (with_reducible apply wp_bR; (simp (disch := omega) only [rM L, rK L, rN L, rNf, rNv, rNp, rNd, rRow, rLeg, rMark, nat_cast, Int.reduceToNat]; with_reducible exact rfl))
        | with_reducible apply wp_bI
        | with_reducible apply wp_bV
        | with_reducible apply wp_bL
        | with_reducible apply wp_rI
        | with_reducible apply wp_rV
        | with_reducible apply wp_rL
        | (with_reducible apply wp_1; (first | omega | (simp (disch := omega) only [not_false_eq_true, not_true_eq_false, w32_id, tLt, fLt, tLe, fEq, itE, and_true, true_and, and_self, and_false, false_and, ↓reduceIte, nat_add, nat_mul3, nat_mul4, nat_mul6, nat_mul15, nat_mul60, nat_cast, nc1, Int.reduceToNat, upE, upN, fill_ne, fill_in, i0] <;> omega)))
        | (with_reducible apply wp_2; (first | omega | (simp (disch := omega) only [not_false_eq_true, not_true_eq_false, w32_id, tLt, fLt, tLe, fEq, itE, and_true, true_and, and_self, and_false, false_and, ↓reduceIte, nat_add, nat_mul3, nat_mul4, nat_mul6, nat_mul15, nat_mul60, nat_cast, nc1, Int.reduceToNat, upE, upN, fill_ne, fill_in, i0] <;> omega)))
        | (with_reducible apply wp_s; (first | (simp (disch := omega) only [not_false_eq_true, not_true_eq_false, w32_id, tLt, fLt, tLe, fEq, itE, and_true, true_and, and_self, and_false, false_and, ↓reduceIte, nat_add, nat_mul3, nat_mul4, nat_mul6, nat_mul15, nat_mul60, nat_cast, nc1, Int.reduceToNat, upE, upN, fill_ne, fill_in, i0]; with_reducible exact Iff.rfl) | with_reducible exact Iff.rfl); intro hc__; (try subst hc__); rotate_left; intro hc__; rotate_left)
        | (with_reducible apply wp_eq; (with_reducible apply cl_go; simp (disch := omega) only [not_false_eq_true, not_true_eq_false, w32_id, tLt, fLt, tLe, fEq, itE, and_true, true_and, and_self, and_false, false_and, ↓reduceIte, nat_add, nat_mul3, nat_mul4, nat_mul6, nat_mul15, nat_mul60, nat_cast, nc1, Int.reduceToNat, upE, upN, fill_ne, fill_in, i0]; with_reducible exact rfl))
        | (with_reducible apply wp_eq; (with_reducible apply lf_go; simp (disch := omega) only [not_false_eq_true, not_true_eq_false, w32_id, tLt, fLt, tLe, fEq, itE, and_true, true_and, and_self, and_false, false_and, ↓reduceIte, nat_add, nat_mul3, nat_mul4, nat_mul6, nat_mul15, nat_mul60, nat_cast, nc1, Int.reduceToNat, upE, upN, fill_ne, fill_in, i0]; with_reducible exact rfl))
        | with_reducible apply wp_q1
      exact ih _ ⟨l4, by rw [c4]; omega, by rw [foC_s, st1_no _ _ (by omega)]; exact b4⟩
  · intro M1 ⟨l1, c1, b1⟩
    refine wp_eq (b_Mo_laysVoyage_20 _ _ _ _ _ _ _) ?_
    repeat' first
      | (with_reducible apply wp_bR; (simp (disch := omega) only [rM L, rK L, rN L, rNf, rNv, rNp, rNd, rRow, rLeg, rMark, nat_cast, Int.reduceToNat]; with_reducible exact rfl))
      | with_reducible apply wp_bI
      | with_reducible apply wp_bV
      | with_reducible apply wp_bL
      | with_reducible apply wp_rI
      | with_reducible apply wp_rV
      | with_reducible apply wp_rL
      | (with_reducible apply wp_1; (first | omega | (simp (disch := omega) only [not_false_eq_true, not_true_eq_false, w32_id, tLt, fLt, tLe, fEq, itE, and_true, true_and, and_self, and_false, false_and, ↓reduceIte, nat_add, nat_mul3, nat_mul4, nat_mul6, nat_mul15, nat_mul60, nat_cast, nc1, Int.reduceToNat, upE, upN, fill_ne, fill_in, i0] <;> omega)))
      | (with_reducible apply wp_2; (first | omega | (simp (disch := omega) only [not_false_eq_true, not_true_eq_false, w32_id, tLt, fLt, tLe, fEq, itE, and_true, true_and, and_self, and_false, false_and, ↓reduceIte, nat_add, nat_mul3, nat_mul4, nat_mul6, nat_mul15, nat_mul60, nat_cast, nc1, Int.reduceToNat, upE, upN, fill_ne, fill_in, i0] <;> omega)))
      | (with_reducible apply wp_s; (first | (simp (disch := omega) only [not_false_eq_true, not_true_eq_false, w32_id, tLt, fLt, tLe, fEq, itE, and_true, true_and, and_self, and_false, false_and, ↓reduceIte, nat_add, nat_mul3, nat_mul4, nat_mul6, nat_mul15, nat_mul60, nat_cast, nc1, Int.reduceToNat, upE, upN, fill_ne, fill_in, i0]; with_reducible exact Iff.rfl) | with_reducible exact Iff.rfl); intro hc__; (try subst hc__); rotate_left; intro hc__; rotate_left)
      | (with_reducible apply wp_eq; (with_reducible apply cl_go; simp (disch := omega) only [not_false_eq_true, not_true_eq_false, w32_id, tLt, fLt, tLe, fEq, itE, and_true, true_and, and_self, and_false, false_and, ↓reduceIte, nat_add, nat_mul3, nat_mul4, nat_mul6, nat_mul15, nat_mul60, nat_cast, nc1, Int.reduceToNat, upE, upN, fill_ne, fill_in, i0]; with_reducible exact rfl))
      | (with_reducible apply wp_eq; (with_reducible apply lf_go; simp (disch := omega) only [not_false_eq_true, not_true_eq_false, w32_id, tLt, fLt, tLe, fEq, itE, and_true, true_and, and_self, and_false, false_and, ↓reduceIte, nat_add, nat_mul3, nat_mul4, nat_mul6, nat_mul15, nat_mul60, nat_cast, nc1, Int.reduceToNat, upE, upN, fill_ne, fill_in, i0]; with_reducible exact rfl))
      | with_reducible apply wp_q1
    refine wp_mono (q_gives (by omega) (by omega) (x := x) (by omega)) ?_
    rintro r S M2 ⟨rfl, rfl, r2, f2⟩
    refine ⟨rfl, ?_⟩
    have l2 : LvI M0 s x K c M2 := l1.fwd fun b j _ q => f2 b j q
    have c2 : M2 281 x = 53 := (f2 _ _ (by omega)).trans (by rw [c1]; omega)
    have c3 : w32 (M2 281 x + 1) = 54 := by rw [c2, w32_id (by omega) (by omega)]; omega
    repeat' first
      | (with_reducible apply wp_bR; (simp (disch := omega) only [rM L, rK L, rN L, rNf, rNv, rNp, rNd, rRow, rLeg, rMark, nat_cast, Int.reduceToNat, c3]; with_reducible exact rfl))
      | with_reducible apply wp_bI
      | with_reducible apply wp_bV
      | with_reducible apply wp_bL
      | with_reducible apply wp_rI
      | with_reducible apply wp_rV
      | with_reducible apply wp_rL
      | (with_reducible apply wp_1; (first | omega | (simp (disch := omega) only [not_false_eq_true, not_true_eq_false, w32_id, tLt, fLt, tLe, fEq, itE, and_true, true_and, and_self, and_false, false_and, ↓reduceIte, nat_add, nat_mul3, nat_mul4, nat_mul6, nat_mul15, nat_mul60, nat_cast, nc1, Int.reduceToNat, upE, upN, fill_ne, fill_in, i0, c3] <;> omega)))
      | (with_reducible apply wp_2; (first | omega | (simp (disch := omega) only [not_false_eq_true, not_true_eq_false, w32_id, tLt, fLt, tLe, fEq, itE, and_true, true_and, and_self, and_false, false_and, ↓reduceIte, nat_add, nat_mul3, nat_mul4, nat_mul6, nat_mul15, nat_mul60, nat_cast, nc1, Int.reduceToNat, upE, upN, fill_ne, fill_in, i0, c3] <;> omega)))
      | (with_reducible apply wp_s; (first | (simp (disch := omega) only [not_false_eq_true, not_true_eq_false, w32_id, tLt, fLt, tLe, fEq, itE, and_true, true_and, and_self, and_false, false_and, ↓reduceIte, nat_add, nat_mul3, nat_mul4, nat_mul6, nat_mul15, nat_mul60, nat_cast, nc1, Int.reduceToNat, upE, upN, fill_ne, fill_in, i0, c3]; with_reducible exact Iff.rfl) | with_reducible exact Iff.rfl); intro hc__; (try subst hc__); rotate_left; intro hc__; rotate_left)
      | (with_reducible apply wp_eq; (with_reducible apply cl_go; simp (disch := omega) only [not_false_eq_true, not_true_eq_false, w32_id, tLt, fLt, tLe, fEq, itE, and_true, true_and, and_self, and_false, false_and, ↓reduceIte, nat_add, nat_mul3, nat_mul4, nat_mul6, nat_mul15, nat_mul60, nat_cast, nc1, Int.reduceToNat, upE, upN, fill_ne, fill_in, i0, c3]; with_reducible exact rfl))
      | (with_reducible apply wp_eq; (with_reducible apply lf_go; simp (disch := omega) only [not_false_eq_true, not_true_eq_false, w32_id, tLt, fLt, tLe, fEq, itE, and_true, true_and, and_self, and_false, false_and, ↓reduceIte, nat_add, nat_mul3, nat_mul4, nat_mul6, nat_mul15, nat_mul60, nat_cast, nc1, Int.reduceToNat, upE, upN, fill_ne, fill_in, i0, c3]; with_reducible exact rfl))
      | with_reducible apply wp_q1
    have nx := cont (up M2 281 x 54) ⟨fun b j q1 q2 q3 q4 q5 => by rw [upN (by omega)]; exact l2.fr b j q1 q2 q3 q4 q5, fun i w hi hw => by rw [upN (by omega)]; exact l2.kp i w hi hw, fun i hi => by rw [upN (by omega)]; exact l2.ch i hi⟩ (by rw [upN (by omega), upN (by omega), f2 _ _ (by omega), f2 _ _ (by omega)]; exact b1)
    rw [show ((x : Int)).toNat = x from rfl, c3, show w32 ((x : Int) + -1) = (x : Int) - 1 by rw [w32_id (by omega) (by omega)]; omega]
    exact nx
theorem q_level {M0 : Mm} (hI : Inv A) (hs : (s : Int) < A 3) (h0 : ∀ k, k < 206 → k < 146 + 15 * s ∨ 161 + 15 * s ≤ k → M0 272 k = A k) {legs : Nat} (h3 : legs ≤ 3) (hd : 20 ≤ d) {Q : Option AV → Sp → Mm → Prop} : ∀ m, LvP M0 A L d s legs Q m := by
  intro m
  induction m with
  | zero => exact q_lev hI hs h0 h3 hd 0 fun m' e => by omega
  | succ m IH => exact q_lev hI hs h0 h3 hd (m + 1) fun m' e => by cases e; exact IH
end

/-! CALLS THAT ONLY ASK, the first -/
section
variable {xs : Nat → Int} {M : Mm} {A N : Nat → Int} {B P : Nat → Nat → Int}
theorem Rel.hA (h : Rel xs M A N B P) : ∀ k, k < 572 → M 272 k = A k := h.2.2.2.2.2.2.2.1
theorem Rel.hA6 (h : Rel xs M A N B P) : ∀ k, k < 206 → M 272 k = A k := fun k hk => h.hA k (by omega)
theorem Rel.wd (h : Rel xs M A N B P) : World M 18 A N := h.2.2.2.2.2.2.2.2.2
theorem Rel.ch (h : Rel xs M A N B P) : ChW M 19 A := h.wd.1
theorem Rel.inv (h : Rel xs M A N B P) : Inv A := h.wd.2.2.2.2.2
theorem Rel.cn (h : Rel xs M A N B P) : Cn A := h.inv.1
theorem Rel.gd (h : Rel xs M A N B P) : Gd A := h.inv.2.1
theorem Rel.date (h : Rel xs M A N B P) : M 18 3 = A 5 := h.wd.2.1
theorem Rel.cnt (h : Rel xs M A N B P) : ∀ k, k < 4 → M 20 k = A k := h.ch.1
theorem Rel.law (h : Rel xs M A N B P) : M 19 12 = A 4 := h.ch.2.1
theorem Rel.nat (h : Rel xs M A N B P) : ∀ n : Nat, (n : Int) < A 0 → M 26 n = A (8 + 4 * n) ∧ M 27 n = A (9 + 4 * n) ∧ M 28 n = A (10 + 4 * n) ∧ M 29 n = A (11 + 4 * n) := h.ch.2.2.1
theorem Rel.good (h : Rel xs M A N B P) : ∀ g : Nat, (g : Int) < A 1 → M 30 g = A (32 + 3 * g) ∧ M 31 g = A (33 + 3 * g) ∧ M 32 g = A (34 + 3 * g) := h.ch.2.2.2.1
theorem Rel.own (h : Rel xs M A N B P) : ∀ p : Nat, (p : Int) < A 2 → M 33 p = A (56 + 15 * p) := h.ch.2.2.2.2.1
theorem Rel.price (h : Rel xs M A N B P) : ∀ p g : Nat, p < 6 → g < 8 → M (35 + p) g = A (57 + 15 * p + g) := h.ch.2.2.2.2.2.1
theorem Rel.days (h : Rel xs M A N B P) : ∀ p q : Nat, p < 6 → q < 6 → M (42 + p) q = A (65 + 15 * p + q) := h.ch.2.2.2.2.2.2
theorem Rel.shp (h : Rel xs M A N B P) : ∀ i w : Nat, (i : Int) < A 3 → w < 7 → M (57 + 2 * i) w = A (146 + 15 * i + w) := fun i w hi hw => (h.wd.2.2.1 i hi).1 w hw
theorem Rel.tons (h : Rel xs M A N B P) : ∀ i g : Nat, (i : Int) < A 3 → g < 8 → M (58 + 2 * i) g = A (153 + 15 * i + g) := fun i g hi hg => (h.wd.2.2.1 i hi).2 g hg
theorem sm_le {f : Nat → Int} : ∀ {n k : Nat}, (∀ g, g < n → 0 ≤ f g) → k < n → f k ≤ sm f n ∧ 0 ≤ sm f n
  | n + 1, k, h, hk => by
    have hn := h n (by omega)
    by_cases e : k = n
    · subst e
      have : 0 ≤ sm f k := by
        rcases Nat.eq_zero_or_pos k with r | r
        · subst r; simp [sm]
        · exact (sm_le (f := f) (n := k) (k := 0) (fun g hg => h g (by omega)) r).2
      unfold sm; omega
    · have := sm_le (f := f) (n := n) (k := k) (fun g hg => h g (by omega)) (by omega)
      unfold sm; omega
theorem Sh1.ld {B : Nat → Int} (h : Sh1 A B) : ∀ g, g < 8 → 0 ≤ B (7 + g) ∧ B (7 + g) ≤ 60 := fun g hg => by
  have a := sm_le (f := fun g => B (7 + g)) h.2.1 hg
  have := h.2.1 g hg
  have := h.2.2
  have := h.1
  exact ⟨by assumption, by omega⟩
theorem ld_nw (h : Rel xs M A N B P) {i : Nat} (hi : (i : Int) < A 3) : ∀ g, g < 8 → 0 ≤ ldF A i g ∧ ldF A i g ≤ 60 := fun g hg => by
  have := (h.inv.2.2.2.2.2.2.1 i hi).ld g hg
  unfold shp at this
  unfold ldF
  rw [show 153 + 15 * i + g = 146 + 15 * i + (7 + g) by omega]
  exact this
theorem Rel.ld (h : Rel xs M A N B P) {i : Nat} (hi : (i : Int) < A 3) : Ld (ldF A i) := fun g hg => by
  have := ld_nw h hi g hg
  omega
theorem i153 (i g : Nat) : 146 + 15 * i + 7 + g = 153 + 15 * i + g := by omega
theorem i153' (i g : Nat) : 146 + 15 * i + (7 + g) = 153 + 15 * i + g := by omega
theorem i57 (p g : Nat) : 56 + 15 * p + 1 + g = 57 + 15 * p + g := by omega
theorem i65 (p g : Nat) : 56 + 15 * p + 9 + g = 65 + 15 * p + g := by omega
theorem i33 (g : Nat) : 32 + 3 * g + 1 = 33 + 3 * g ∧ 32 + 3 * g + 2 = 34 + 3 * g := by omega
theorem i9 (n : Nat) : 8 + 4 * n + 1 = 9 + 4 * n ∧ 8 + 4 * n + 2 = 10 + 4 * n ∧ 8 + 4 * n + 3 = 11 + 4 * n := by omega
end
theorem case_status : Case m_Ca_status m_Mo_status [] := by
  intro L xs M A N B P h
  have hs := h.2.1
  repeat' first
    | (with_reducible apply wp_bR; (simp (disch := omega) only [rM L, rK L, rN L, rNf, rNv, rNp, rNd, rRow, rLeg, rMark, nat_cast, Int.reduceToNat, hs]; with_reducible exact rfl))
    | with_reducible apply wp_bI
    | with_reducible apply wp_bV
    | with_reducible apply wp_bL
    | with_reducible apply wp_rI
    | with_reducible apply wp_rV
    | with_reducible apply wp_rL
    | (with_reducible apply wp_1; (first | omega | (simp (disch := omega) only [not_false_eq_true, not_true_eq_false, w32_id, tLt, fLt, tLe, fEq, itE, and_true, true_and, and_self, and_false, false_and, ↓reduceIte, nat_add, nat_mul3, nat_mul4, nat_mul6, nat_mul15, nat_mul60, nat_cast, nc1, Int.reduceToNat, upE, upN, i0, hs] <;> omega)))
    | (with_reducible apply wp_2; (first | omega | (simp (disch := omega) only [not_false_eq_true, not_true_eq_false, w32_id, tLt, fLt, tLe, fEq, itE, and_true, true_and, and_self, and_false, false_and, ↓reduceIte, nat_add, nat_mul3, nat_mul4, nat_mul6, nat_mul15, nat_mul60, nat_cast, nc1, Int.reduceToNat, upE, upN, i0, hs] <;> omega)))
    | (with_reducible apply wp_s; (first | (simp (disch := omega) only [not_false_eq_true, not_true_eq_false, w32_id, tLt, fLt, tLe, fEq, itE, and_true, true_and, and_self, and_false, false_and, ↓reduceIte, nat_add, nat_mul3, nat_mul4, nat_mul6, nat_mul15, nat_mul60, nat_cast, nc1, Int.reduceToNat, upE, upN, i0, hs]; with_reducible exact Iff.rfl) | with_reducible exact Iff.rfl); intro hc__; rotate_left; intro hc__; rotate_left)
    | (with_reducible apply wp_eq; (with_reducible apply cl_go; simp (disch := omega) only [not_false_eq_true, not_true_eq_false, w32_id, tLt, fLt, tLe, fEq, itE, and_true, true_and, and_self, and_false, false_and, ↓reduceIte, nat_add, nat_mul3, nat_mul4, nat_mul6, nat_mul15, nat_mul60, nat_cast, nc1, Int.reduceToNat, upE, upN, i0, hs]; with_reducible exact rfl))
    | (with_reducible refine wp_eq (c_Ca_status (by omega) _ _ _) ?_; with_reducible refine wp_eq (b_Ca_status_0 _ _ _ _) ?_)
    | (with_reducible refine wp_eq (c_Mo_status (by omega) _ _ _) ?_; with_reducible refine wp_eq (b_Mo_status_0 _ _ _ _) ?_)
    | (with_reducible apply wp_eq; (with_reducible apply lf_go; simp (disch := omega) only [not_false_eq_true, not_true_eq_false, w32_id, tLt, fLt, tLe, fEq, itE, and_true, true_and, and_self, and_false, false_and, ↓reduceIte, nat_add, nat_mul3, nat_mul4, nat_mul6, nat_mul15, nat_mul60, nat_cast, nc1, Int.reduceToNat, upE, upN, i0, hs]; with_reducible exact rfl))
    | with_reducible apply wp_q1
  all_goals exact wp_ask h (fun b j hb => by unfold core at hb; first | rfl | simp (disch := omega) only [upN, fill_ne]) (by first | exact h.2.1 | simp (disch := omega) only [upE, upN, fill_ne])
theorem case_top : Case m_Ca_top m_Mo_top [] := by
  intro L xs M A N B P h
  have hs := h.2.2.1.1
  repeat' first
    | (with_reducible apply wp_bR; (simp (disch := omega) only [rM L, rK L, rN L, rNf, rNv, rNp, rNd, rRow, rLeg, rMark, nat_cast, Int.reduceToNat, hs]; with_reducible exact rfl))
    | with_reducible apply wp_bI
    | with_reducible apply wp_bV
    | with_reducible apply wp_bL
    | with_reducible apply wp_rI
    | with_reducible apply wp_rV
    | with_reducible apply wp_rL
    | (with_reducible apply wp_1; (first | omega | (simp (disch := omega) only [not_false_eq_true, not_true_eq_false, w32_id, tLt, fLt, tLe, fEq, itE, and_true, true_and, and_self, and_false, false_and, ↓reduceIte, nat_add, nat_mul3, nat_mul4, nat_mul6, nat_mul15, nat_mul60, nat_cast, nc1, Int.reduceToNat, upE, upN, i0, hs] <;> omega)))
    | (with_reducible apply wp_2; (first | omega | (simp (disch := omega) only [not_false_eq_true, not_true_eq_false, w32_id, tLt, fLt, tLe, fEq, itE, and_true, true_and, and_self, and_false, false_and, ↓reduceIte, nat_add, nat_mul3, nat_mul4, nat_mul6, nat_mul15, nat_mul60, nat_cast, nc1, Int.reduceToNat, upE, upN, i0, hs] <;> omega)))
    | (with_reducible apply wp_s; (first | (simp (disch := omega) only [not_false_eq_true, not_true_eq_false, w32_id, tLt, fLt, tLe, fEq, itE, and_true, true_and, and_self, and_false, false_and, ↓reduceIte, nat_add, nat_mul3, nat_mul4, nat_mul6, nat_mul15, nat_mul60, nat_cast, nc1, Int.reduceToNat, upE, upN, i0, hs]; with_reducible exact Iff.rfl) | with_reducible exact Iff.rfl); intro hc__; rotate_left; intro hc__; rotate_left)
    | (with_reducible apply wp_eq; (with_reducible apply cl_go; simp (disch := omega) only [not_false_eq_true, not_true_eq_false, w32_id, tLt, fLt, tLe, fEq, itE, and_true, true_and, and_self, and_false, false_and, ↓reduceIte, nat_add, nat_mul3, nat_mul4, nat_mul6, nat_mul15, nat_mul60, nat_cast, nc1, Int.reduceToNat, upE, upN, i0, hs]; with_reducible exact rfl))
    | (with_reducible refine wp_eq (c_Ca_top (by omega) _ _ _) ?_; with_reducible refine wp_eq (b_Ca_top_0 _ _ _ _) ?_)
    | (with_reducible refine wp_eq (c_Mo_top (by omega) _ _ _) ?_; with_reducible refine wp_eq (b_Mo_top_0 _ _ _ _) ?_)
    | (with_reducible apply wp_eq; (with_reducible apply lf_go; simp (disch := omega) only [not_false_eq_true, not_true_eq_false, w32_id, tLt, fLt, tLe, fEq, itE, and_true, true_and, and_self, and_false, false_and, ↓reduceIte, nat_add, nat_mul3, nat_mul4, nat_mul6, nat_mul15, nat_mul60, nat_cast, nc1, Int.reduceToNat, upE, upN, i0, hs]; with_reducible exact rfl))
    | with_reducible apply wp_q1
  all_goals exact wp_ask h (fun b j hb => by unfold core at hb; first | rfl | simp (disch := omega) only [upN, fill_ne]) (by first | exact h.2.1 | simp (disch := omega) only [upE, upN, fill_ne])
theorem case_bottom : Case m_Ca_bottom m_Mo_bottom [] := by
  intro L xs M A N B P h
  have hs := h.2.2.1.2.1
  repeat' first
    | (with_reducible apply wp_bR; (simp (disch := omega) only [rM L, rK L, rN L, rNf, rNv, rNp, rNd, rRow, rLeg, rMark, nat_cast, Int.reduceToNat, hs]; with_reducible exact rfl))
    | with_reducible apply wp_bI
    | with_reducible apply wp_bV
    | with_reducible apply wp_bL
    | with_reducible apply wp_rI
    | with_reducible apply wp_rV
    | with_reducible apply wp_rL
    | (with_reducible apply wp_1; (first | omega | (simp (disch := omega) only [not_false_eq_true, not_true_eq_false, w32_id, tLt, fLt, tLe, fEq, itE, and_true, true_and, and_self, and_false, false_and, ↓reduceIte, nat_add, nat_mul3, nat_mul4, nat_mul6, nat_mul15, nat_mul60, nat_cast, nc1, Int.reduceToNat, upE, upN, i0, hs] <;> omega)))
    | (with_reducible apply wp_2; (first | omega | (simp (disch := omega) only [not_false_eq_true, not_true_eq_false, w32_id, tLt, fLt, tLe, fEq, itE, and_true, true_and, and_self, and_false, false_and, ↓reduceIte, nat_add, nat_mul3, nat_mul4, nat_mul6, nat_mul15, nat_mul60, nat_cast, nc1, Int.reduceToNat, upE, upN, i0, hs] <;> omega)))
    | (with_reducible apply wp_s; (first | (simp (disch := omega) only [not_false_eq_true, not_true_eq_false, w32_id, tLt, fLt, tLe, fEq, itE, and_true, true_and, and_self, and_false, false_and, ↓reduceIte, nat_add, nat_mul3, nat_mul4, nat_mul6, nat_mul15, nat_mul60, nat_cast, nc1, Int.reduceToNat, upE, upN, i0, hs]; with_reducible exact Iff.rfl) | with_reducible exact Iff.rfl); intro hc__; rotate_left; intro hc__; rotate_left)
    | (with_reducible apply wp_eq; (with_reducible apply cl_go; simp (disch := omega) only [not_false_eq_true, not_true_eq_false, w32_id, tLt, fLt, tLe, fEq, itE, and_true, true_and, and_self, and_false, false_and, ↓reduceIte, nat_add, nat_mul3, nat_mul4, nat_mul6, nat_mul15, nat_mul60, nat_cast, nc1, Int.reduceToNat, upE, upN, i0, hs]; with_reducible exact rfl))
    | (with_reducible refine wp_eq (c_Ca_bottom (by omega) _ _ _) ?_; with_reducible refine wp_eq (b_Ca_bottom_0 _ _ _ _) ?_)
    | (with_reducible refine wp_eq (c_Mo_bottom (by omega) _ _ _) ?_; with_reducible refine wp_eq (b_Mo_bottom_0 _ _ _ _) ?_)
    | (with_reducible apply wp_eq; (with_reducible apply lf_go; simp (disch := omega) only [not_false_eq_true, not_true_eq_false, w32_id, tLt, fLt, tLe, fEq, itE, and_true, true_and, and_self, and_false, false_and, ↓reduceIte, nat_add, nat_mul3, nat_mul4, nat_mul6, nat_mul15, nat_mul60, nat_cast, nc1, Int.reduceToNat, upE, upN, i0, hs]; with_reducible exact rfl))
    | with_reducible apply wp_q1
  all_goals exact wp_ask h (fun b j hb => by unfold core at hb; first | rfl | simp (disch := omega) only [upN, fill_ne]) (by first | exact h.2.1 | simp (disch := omega) only [upE, upN, fill_ne])
theorem case_fault (x1 : Int) : Case m_Ca_fault m_Mo_fault [vI x1] := by
  intro L xs M A N B P h
  have hs := h.2.2.1.2.2
  repeat' first
    | (with_reducible apply wp_bR; (simp (disch := omega) only [rM L, rK L, rN L, rNf, rNv, rNp, rNd, rRow, rLeg, rMark, nat_cast, Int.reduceToNat, hs.1, hs.2]; with_reducible exact rfl))
    | with_reducible apply wp_bI
    | with_reducible apply wp_bV
    | with_reducible apply wp_bL
    | with_reducible apply wp_rI
    | with_reducible apply wp_rV
    | with_reducible apply wp_rL
    | (with_reducible apply wp_1; (first | omega | (simp (disch := omega) only [not_false_eq_true, not_true_eq_false, w32_id, tLt, fLt, tLe, fEq, itE, and_true, true_and, and_self, and_false, false_and, ↓reduceIte, nat_add, nat_mul3, nat_mul4, nat_mul6, nat_mul15, nat_mul60, nat_cast, nc1, Int.reduceToNat, upE, upN, i0, hs.1, hs.2] <;> omega)))
    | (with_reducible apply wp_2; (first | omega | (simp (disch := omega) only [not_false_eq_true, not_true_eq_false, w32_id, tLt, fLt, tLe, fEq, itE, and_true, true_and, and_self, and_false, false_and, ↓reduceIte, nat_add, nat_mul3, nat_mul4, nat_mul6, nat_mul15, nat_mul60, nat_cast, nc1, Int.reduceToNat, upE, upN, i0, hs.1, hs.2] <;> omega)))
    | (with_reducible apply wp_s; (first | (simp (disch := omega) only [not_false_eq_true, not_true_eq_false, w32_id, tLt, fLt, tLe, fEq, itE, and_true, true_and, and_self, and_false, false_and, ↓reduceIte, nat_add, nat_mul3, nat_mul4, nat_mul6, nat_mul15, nat_mul60, nat_cast, nc1, Int.reduceToNat, upE, upN, i0, hs.1, hs.2]; with_reducible exact Iff.rfl) | with_reducible exact Iff.rfl); intro hc__; rotate_left; intro hc__; rotate_left)
    | (with_reducible apply wp_eq; (with_reducible apply cl_go; simp (disch := omega) only [not_false_eq_true, not_true_eq_false, w32_id, tLt, fLt, tLe, fEq, itE, and_true, true_and, and_self, and_false, false_and, ↓reduceIte, nat_add, nat_mul3, nat_mul4, nat_mul6, nat_mul15, nat_mul60, nat_cast, nc1, Int.reduceToNat, upE, upN, i0, hs.1, hs.2]; with_reducible exact rfl))
    | (with_reducible refine wp_eq (c_Ca_fault (by omega) _ _ _ _) ?_; with_reducible refine wp_eq (b_Ca_fault_0 _ _ _ _ _) ?_)
    | (with_reducible refine wp_eq (c_Mo_fault (by omega) _ _ _ _) ?_; with_reducible refine wp_eq (b_Mo_fault_0 _ _ _ _ _) ?_)
    | (with_reducible apply wp_eq; (with_reducible apply lf_go; simp (disch := omega) only [not_false_eq_true, not_true_eq_false, w32_id, tLt, fLt, tLe, fEq, itE, and_true, true_and, and_self, and_false, false_and, ↓reduceIte, nat_add, nat_mul3, nat_mul4, nat_mul6, nat_mul15, nat_mul60, nat_cast, nc1, Int.reduceToNat, upE, upN, i0, hs.1, hs.2]; with_reducible exact rfl))
    | with_reducible apply wp_q1
  all_goals exact wp_ask h (fun b j hb => by unfold core at hb; first | rfl | simp (disch := omega) only [upN, fill_ne]) (by first | exact h.2.1 | simp (disch := omega) only [upE, upN, fill_ne])
theorem case_price (x1 x2 : Int) : Case m_Ca_price m_Mo_price [vI x1, vI x2] := by
  intro L xs M A N B P h
  have hC := h.cn
  unfold Cn at hC
  have hA := h.hA
  have hp := h.price
  have hct := h.cnt
  repeat' first
    | (with_reducible apply wp_bR; (simp (disch := omega) only [rM L, rK L, rN L, rNf, rNv, rNp, rNd, rRow, rLeg, rMark, nat_cast, Int.reduceToNat, hA, hp, hct, i57]; with_reducible exact rfl))
    | with_reducible apply wp_bI
    | with_reducible apply wp_bV
    | with_reducible apply wp_bL
    | with_reducible apply wp_rI
    | with_reducible apply wp_rV
    | with_reducible apply wp_rL
    | (with_reducible apply wp_1; (first | omega | (simp (disch := omega) only [not_false_eq_true, not_true_eq_false, w32_id, tLt, fLt, tLe, fEq, itE, and_true, true_and, and_self, and_false, false_and, ↓reduceIte, nat_add, nat_mul3, nat_mul4, nat_mul6, nat_mul15, nat_mul60, nat_cast, nc1, Int.reduceToNat, upE, upN, i0, hA, hp, hct, i57] <;> omega)))
    | (with_reducible apply wp_2; (first | omega | (simp (disch := omega) only [not_false_eq_true, not_true_eq_false, w32_id, tLt, fLt, tLe, fEq, itE, and_true, true_and, and_self, and_false, false_and, ↓reduceIte, nat_add, nat_mul3, nat_mul4, nat_mul6, nat_mul15, nat_mul60, nat_cast, nc1, Int.reduceToNat, upE, upN, i0, hA, hp, hct, i57] <;> omega)))
    | (with_reducible apply wp_s; (first | (simp (disch := omega) only [not_false_eq_true, not_true_eq_false, w32_id, tLt, fLt, tLe, fEq, itE, and_true, true_and, and_self, and_false, false_and, ↓reduceIte, nat_add, nat_mul3, nat_mul4, nat_mul6, nat_mul15, nat_mul60, nat_cast, nc1, Int.reduceToNat, upE, upN, i0, hA, hp, hct, i57]; with_reducible exact Iff.rfl) | with_reducible exact Iff.rfl); intro hc__; rotate_left; intro hc__; rotate_left)
    | (with_reducible apply wp_eq; (with_reducible apply cl_go; simp (disch := omega) only [not_false_eq_true, not_true_eq_false, w32_id, tLt, fLt, tLe, fEq, itE, and_true, true_and, and_self, and_false, false_and, ↓reduceIte, nat_add, nat_mul3, nat_mul4, nat_mul6, nat_mul15, nat_mul60, nat_cast, nc1, Int.reduceToNat, upE, upN, i0, hA, hp, hct, i57]; with_reducible exact rfl))
    | (with_reducible refine wp_eq (c_Ca_price (by omega) _ _ _ _ _) ?_; with_reducible refine wp_eq (b_Ca_price_0 _ _ _ _ _ _) ?_)
    | (with_reducible refine wp_eq (c_Ca_within (by omega) _ _ _ _ _) ?_; with_reducible refine wp_eq (b_Ca_within_0 _ _ _ _ _ _) ?_)
    | (with_reducible refine wp_eq (c_Ca_isShip (by omega) _ _ _ _) ?_; with_reducible refine wp_eq (b_Ca_isShip_0 _ _ _ _ _) ?_)
    | (with_reducible refine wp_eq (c_Ca_isNation (by omega) _ _ _ _) ?_; with_reducible refine wp_eq (b_Ca_isNation_0 _ _ _ _ _) ?_)
    | (with_reducible refine wp_eq (c_Ca_isGood (by omega) _ _ _ _) ?_; with_reducible refine wp_eq (b_Ca_isGood_0 _ _ _ _ _) ?_)
    | (with_reducible refine wp_eq (c_Ca_isPort (by omega) _ _ _ _) ?_; with_reducible refine wp_eq (b_Ca_isPort_0 _ _ _ _ _) ?_)
    | (with_reducible refine wp_eq (c_Ca_areTwo (by omega) _ _ _ _ _ _) ?_; with_reducible refine wp_eq (b_Ca_areTwo_0 _ _ _ _ _ _ _) ?_)
    | (with_reducible refine wp_eq (c_Ca_answer (by omega) _ _ _ _) ?_; with_reducible refine wp_eq (b_Ca_answer_0 _ _ _ _ _) ?_)
    | (with_reducible refine wp_eq (c_Ca_refuse (by omega) _ _ _ _) ?_; with_reducible refine wp_eq (b_Ca_refuse_0 _ _ _ _ _) ?_)
    | (with_reducible refine wp_eq (c_Ca_answerOr (by omega) _ _ _ _ _) ?_; with_reducible refine wp_eq (b_Ca_answerOr_0 _ _ _ _ _ _) ?_)
    | (with_reducible refine wp_eq (c_Ca_agree (by omega) _ _ _) ?_; with_reducible refine wp_eq (b_Ca_agree_0 _ _ _ _) ?_)
    | (with_reducible refine wp_eq (c_Ca_deny (by omega) _ _ _ _) ?_; with_reducible refine wp_eq (b_Ca_deny_0 _ _ _ _ _) ?_)
    | (with_reducible refine wp_eq (c_Mo_price (by omega) _ _ _ _ _) ?_; with_reducible refine wp_eq (b_Mo_price_0 _ _ _ _ _ _) ?_)
    | (with_reducible refine wp_eq (c_Mo_isShip (by omega) _ _ _ _) ?_; with_reducible refine wp_eq (b_Mo_isShip_0 _ _ _ _ _) ?_)
    | (with_reducible refine wp_eq (c_Mo_isNation (by omega) _ _ _ _) ?_; with_reducible refine wp_eq (b_Mo_isNation_0 _ _ _ _ _) ?_)
    | (with_reducible refine wp_eq (c_Mo_isGood (by omega) _ _ _ _) ?_; with_reducible refine wp_eq (b_Mo_isGood_0 _ _ _ _ _) ?_)
    | (with_reducible refine wp_eq (c_Mo_isPort (by omega) _ _ _ _) ?_; with_reducible refine wp_eq (b_Mo_isPort_0 _ _ _ _ _) ?_)
    | (with_reducible refine wp_eq (c_Mo_areTwo (by omega) _ _ _ _ _) ?_; with_reducible refine wp_eq (b_Mo_areTwo_0 _ _ _ _ _ _) ?_)
    | (with_reducible refine wp_eq (c_Mo_gives (by omega) _ _ _ _) ?_; with_reducible refine wp_eq (b_Mo_gives_0 _ _ _ _ _) ?_)
    | (with_reducible refine wp_eq (c_Mo_refuse (by omega) _ _ _ _) ?_; with_reducible refine wp_eq (b_Mo_refuse_0 _ _ _ _ _) ?_)
    | (with_reducible refine wp_eq (c_Mo_orNone (by omega) _ _ _ _) ?_; with_reducible refine wp_eq (b_Mo_orNone_0 _ _ _ _ _) ?_)
    | (with_reducible refine wp_eq (c_Mo_orNothing (by omega) _ _ _ _) ?_; with_reducible refine wp_eq (b_Mo_orNothing_0 _ _ _ _ _) ?_)
    | (with_reducible refine wp_eq (c_Mo_is (by omega) _ _ _ _) ?_; with_reducible refine wp_eq (b_Mo_is_0 _ _ _ _ _) ?_)
    | (with_reducible refine wp_eq (c_Mo_isRule (by omega) _ _ _) ?_; with_reducible refine wp_eq (b_Mo_isRule_0 _ _ _ _) ?_)
    | (with_reducible refine wp_eq (c_Mo_isTons (by omega) _ _ _) ?_; with_reducible refine wp_eq (b_Mo_isTons_0 _ _ _ _) ?_)
    | (with_reducible refine wp_eq (c_Mo_isFrom (by omega) _ _ _ _ _) ?_; with_reducible refine wp_eq (b_Mo_isFrom_0 _ _ _ _ _ _) ?_)
    | (with_reducible refine wp_eq (c_Mo_priceOf (by omega) _ _ _ _ _) ?_; with_reducible refine wp_eq (b_Mo_priceOf_0 _ _ _ _ _ _) ?_)
    | (with_reducible refine wp_eq (c_Mo_portRow (by omega) _ _ _) ?_; with_reducible refine wp_eq (b_Mo_portRow_0 _ _ _ _) ?_)
    | (with_reducible apply wp_eq; (with_reducible apply lf_go; simp (disch := omega) only [not_false_eq_true, not_true_eq_false, w32_id, tLt, fLt, tLe, fEq, itE, and_true, true_and, and_self, and_false, false_and, ↓reduceIte, nat_add, nat_mul3, nat_mul4, nat_mul6, nat_mul15, nat_mul60, nat_cast, nc1, Int.reduceToNat, upE, upN, i0, hA, hp, hct, i57]; with_reducible exact rfl))
    | with_reducible apply wp_q1
  all_goals exact wp_ask h (fun b j hb => by unfold core at hb; first | rfl | simp (disch := omega) only [upN, fill_ne]) (by first | exact h.2.1 | simp (disch := omega) only [upE, upN, fill_ne])

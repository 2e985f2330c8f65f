/-! THE PLAN AS IT GROWS -/
theorem StR.cg {M M' : Mm} {A A' : Nat → Int} {j k o : Nat} (h : StR M 98 A j) (hj : j < k) (hjo : j ≠ o) (ho : o < k → A (210 + 6 * o) = 0) (hm : ∀ b, 99 ≤ b → b ≤ 103 → M' b j = M b j) (h4 : ∀ i, i < 4 → A' i = A i) (h6 : A 6 ≤ A' 6) (hr : ∀ i, 206 ≤ i → i < 206 + 6 * k → i ≠ 210 + 6 * o → A' i = A i) : StR M' 98 A' j := by
  have e0 := hr (206 + 6 * j) (by omega) (by omega) (by omega)
  have e1 := hr (207 + 6 * j) (by omega) (by omega) (by omega)
  have e2 := hr (208 + 6 * j) (by omega) (by omega) (by omega)
  have e3 := hr (209 + 6 * j) (by omega) (by omega) (by omega)
  have e4 := hr (210 + 6 * j) (by omega) (by omega) (by omega)
  have e5 := hr (211 + 6 * j) (by omega) (by omega) (by omega)
  unfold StR at h ⊢
  rw [hm (98 + 1) (by omega) (by omega), hm (98 + 2) (by omega) (by omega), hm (98 + 3) (by omega) (by omega), hm (98 + 4) (by omega) (by omega), hm (98 + 5) (by omega) (by omega), h4 0 (by omega), h4 1 (by omega), h4 2 (by omega), h4 3 (by omega), e0, e1, e2, e3, e4, e5]
  rcases h with h | h | h | h | h | h | h | h | h | ⟨p1, p2, p3, p4, p5, p6, p7, p8⟩
  · exact Or.inl h
  · exact Or.inr (Or.inl h)
  · exact Or.inr (Or.inr (Or.inl h))
  · exact Or.inr (Or.inr (Or.inr (Or.inl h)))
  · obtain ⟨h1, h2, h3, h4, h5, h6, h7, h8, h9, ha, hb⟩ := h
    exact Or.inr (Or.inr (Or.inr (Or.inr (Or.inl ⟨h1, h2, h3, h4, h5, h6, h7, h8, h9, ha, by omega⟩))))
  · obtain ⟨h1, h2, h3, h4, h5, h6, h7, h8, h9, ha, hb⟩ := h
    exact Or.inr (Or.inr (Or.inr (Or.inr (Or.inr (Or.inl ⟨h1, h2, h3, h4, h5, h6, h7, h8, h9, ha, by omega⟩)))))
  · obtain ⟨h1, h2, h3, h4, h5, h6, h7, h8, h9⟩ := h
    exact Or.inr (Or.inr (Or.inr (Or.inr (Or.inr (Or.inr (Or.inl ⟨h1, h2, h3, h4, h5, h6, h7, h8, by omega⟩))))))
  · obtain ⟨h1, h2, h3, h4, h5, h6, h7, h8⟩ := h
    exact Or.inr (Or.inr (Or.inr (Or.inr (Or.inr (Or.inr (Or.inr (Or.inl ⟨h1, h2, h3, h4, h5, h6, h7, by omega⟩)))))))
  · exact Or.inr (Or.inr (Or.inr (Or.inr (Or.inr (Or.inr (Or.inr (Or.inr (Or.inl h))))))))
  · have hlt : (A (210 + 6 * j)).toNat < j := by omega
    have hne : (A (210 + 6 * j)).toNat ≠ o := fun y => by
      rw [y, ho (by omega)] at p6
      omega
    generalize (A (210 + 6 * j)).toNat = t at *
    refine Or.inr (Or.inr (Or.inr (Or.inr (Or.inr (Or.inr (Or.inr (Or.inr (Or.inr ⟨p1, p2, p3, p4, p5, ?_, ?_, ?_⟩))))))))
    · rw [hr _ (by omega) (by omega) (by omega)]; exact p6
    · rw [hr _ (by omega) (by omega) (by omega)]; exact p7
    · rw [hr _ (by omega) (by omega) (by omega)]; exact p8
theorem StB.cg {M M' : Mm} {A A' : Nat → Int} {j : Nat} (h : StB M A j) (hm : ∀ b, 99 ≤ b → b ≤ 102 → M' b j = M b j) (h4 : ∀ i, i < 4 → A' i = A i) (hr : ∀ i, 206 + 6 * j ≤ i → i < 212 + 6 * j → i ≠ 210 + 6 * j → A' i = A i) : StB M' A' j := by
  unfold StB at h ⊢
  rw [hm 99 (by omega) (by omega), hm 100 (by omega) (by omega), hm 101 (by omega) (by omega), hm 102 (by omega) (by omega), h4 0 (by omega), h4 2 (by omega), h4 3 (by omega), hr (206 + 6 * j) (by omega) (by omega) (by omega), hr (207 + 6 * j) (by omega) (by omega) (by omega), hr (208 + 6 * j) (by omega) (by omega) (by omega), hr (211 + 6 * j) (by omega) (by omega) (by omega)]
  exact h
theorem StB.op {M : Mm} {A : Nat → Int} {j : Nat} (h : StB M A j) : A (206 + 6 * j) = 26 ∨ 2500 ≤ A (206 + 6 * j) := by
  unfold StB at h
  omega
theorem StN.op {M : Mm} {A : Nat → Int} {j : Nat} (h : StN M A j) : A (206 + 6 * j) ≠ 26 := by
  unfold StN at h
  omega
/-- k entries, c steps, dp blocks open, their openers s -/
def VI (M1 M2 : Mm) (k c dp : Nat) (s : Nat → Nat) : Prop :=
  (M1 98 5 = (k : Int) ∧ M1 98 6 = (c : Int) ∧ M1 16 1 = (dp : Int)) ∧ (M2 272 2294 = (k : Int) ∧ M2 271 23 = (c : Int) ∧ M2 271 22 = (dp : Int)) ∧ (dp ≤ 3 ∧ c ≤ 30 ∧ k + dp ≤ 2 * c) ∧
  (∀ i, i < dp → M1 17 i = (s i : Int) ∧ M2 279 i = (s i : Int) ∧ s i < k ∧ StB M1 (vA M2) (s i) ∧ M2 272 (2498 + 6 * s i) = 0) ∧ (∀ i j, i < j → j < dp → s i < s j) ∧
  (∀ j, j < k → (∀ i, i < dp → s i ≠ j) → StR M1 98 (vA M2) j) ∧ (1 ≤ k → M2 272 (2494 + 6 * (k - 1)) = 26 → 1 ≤ dp ∧ s (dp - 1) = k - 1)
def zr (M : Mm) (k : Nat) : Mm := up (up (up (up (up M 272 (2494 + 6 * k + 1) 0) 272 (2494 + 6 * k + 2) 0) 272 (2494 + 6 * k + 3) 0) 272 (2494 + 6 * k + 4) 0) 272 (2494 + 6 * k + 5) 0
def stp (M : Mm) (k : Nat) (c w : Int) : Mm := up (zr (up (up M 271 23 c) 272 (2494 + 6 * k) w) k) 272 2294 ((k : Int) + 1)
section
variable {M M1 M2 : Mm} {L d d1 d2 k : Nat} {c w : Int}
theorem zr_ne {b j : Nat} (h : ¬(b = 272 ∧ 2495 + 6 * k ≤ j ∧ j < 2500 + 6 * k)) : zr M k b j = M b j := by
  unfold zr
  rw [upN (by omega), upN (by omega), upN (by omega), upN (by omega), upN (by omega)]
theorem zr_in {j : Nat} (h1 : 2495 + 6 * k ≤ j) (h2 : j < 2500 + 6 * k) : zr M k 272 j = 0 := by
  unfold zr
  have z : j = 2494 + 6 * k + 1 ∨ j = 2494 + 6 * k + 2 ∨ j = 2494 + 6 * k + 3 ∨ j = 2494 + 6 * k + 4 ∨ j = 2494 + 6 * k + 5 := by omega
  rcases z with rfl | rfl | rfl | rfl | rfl
  · rw [upN (by omega), upN (by omega), upN (by omega), upN (by omega), upE rfl rfl]
  · rw [upN (by omega), upN (by omega), upN (by omega), upE rfl rfl]
  · rw [upN (by omega), upN (by omega), upE rfl rfl]
  · rw [upN (by omega), upE rfl rfl]
  · rw [upE rfl rfl]
theorem stp_ne {b j : Nat} (h1 : ¬(b = 271 ∧ j = 23)) (h2 : ¬(b = 272 ∧ (j = 2294 ∨ 2494 + 6 * k ≤ j ∧ j < 2500 + 6 * k))) : stp M k c w b j = M b j := by
  unfold stp
  rw [upN (by omega), zr_ne (by omega), upN (by omega), upN (by omega)]
theorem stp_at : stp M k c w 271 23 = c ∧ stp M k c w 272 2294 = (k : Int) + 1 ∧ stp M k c w 272 (2494 + 6 * k) = w ∧ stp M k c w 272 (2498 + 6 * k) = 0 := by
  unfold stp
  refine ⟨?_, ?_, ?_, ?_⟩
  · rw [upN (by omega), zr_ne (by omega), upN (by omega), upE rfl rfl]
  · rw [upE rfl rfl]
  · rw [upN (by omega), zr_ne (by omega), upE rfl rfl]
  · rw [upN (by omega), zr_in (by omega) (by omega)]
theorem s_zr (hk : k < 60) (x1 x2 x4 : Int) : Run (callD d) tb_Mo_voyageStep 147 [vR 12 0 271, vI x1, vI x2, vI (2494 + 6 * (k : Int)), vI x4, vI 1] [] (SH L) M = Run (callD d) tb_Mo_voyageStep 147 [vR 12 0 271, vI x1, vI x2, vI (2494 + 6 * (k : Int)), vI x4, vI 6] [] (SH L) (zr M k) := by
  have st : ∀ (i : Nat) (M : Mm), i < 6 → Run (callD d) tb_Mo_voyageStep 147 [vR 12 0 271, vI x1, vI x2, vI (2494 + 6 * (k : Int)), vI x4, vI (i : Int)] [] (SH L) M = Run (callD d) tb_Mo_voyageStep 147 [vR 12 0 271, vI x1, vI x2, vI (2494 + 6 * (k : Int)), vI x4, vI ((i + 1 : Nat) : Int)] [] (SH L) (up M 272 (2494 + 6 * k + i) 0) := by
    intro i M hi
    rw [b_Mo_voyageStep_147]
    repeat' first
      | (with_reducible apply bR_go; (simp (disch := omega) only [rM L, rK L, rN L, rNf, rNv, rNp, rNd, rRow, rLeg, rMark, nat_cast, Int.reduceToNat]; with_reducible exact rfl))
      | with_reducible apply bI_go
      | with_reducible apply bV_go
      | with_reducible apply bL_go
      | (with_reducible apply it_1; (first | omega | (simp (disch := omega) only [not_false_eq_true, not_true_eq_false, w32_id, tLt, fLt, tLe, fEq, itE, and_true, true_and, and_self, and_false, false_and, ↓reduceIte, nat_add, nat_mul3, nat_mul4, nat_mul6, nat_mul15, nat_mul60, nat_cast, nc1, Int.reduceToNat, upE, upN, fill_ne, fill_in, i0] <;> omega)))
      | (with_reducible apply it_2; (first | omega | (simp (disch := omega) only [not_false_eq_true, not_true_eq_false, w32_id, tLt, fLt, tLe, fEq, itE, and_true, true_and, and_self, and_false, false_and, ↓reduceIte, nat_add, nat_mul3, nat_mul4, nat_mul6, nat_mul15, nat_mul60, nat_cast, nc1, Int.reduceToNat, upE, upN, fill_ne, fill_in, i0] <;> omega)))
      | (with_reducible refine cl_go ?_; simp (disch := omega) only [not_false_eq_true, not_true_eq_false, w32_id, tLt, fLt, tLe, fEq, itE, and_true, true_and, and_self, and_false, false_and, ↓reduceIte, nat_add, nat_mul3, nat_mul4, nat_mul6, nat_mul15, nat_mul60, nat_cast, nc1, Int.reduceToNat, upE, upN, fill_ne, fill_in, i0])
      | (with_reducible refine rn_go ?_; simp (disch := omega) only [not_false_eq_true, not_true_eq_false, w32_id, tLt, fLt, tLe, fEq, itE, and_true, true_and, and_self, and_false, false_and, ↓reduceIte, nat_add, nat_mul3, nat_mul4, nat_mul6, nat_mul15, nat_mul60, nat_cast, nc1, Int.reduceToNat, upE, upN, fill_ne, fill_in, i0])
      | (with_reducible refine lf_go ?_; simp (disch := omega) only [not_false_eq_true, not_true_eq_false, w32_id, tLt, fLt, tLe, fEq, itE, and_true, true_and, and_self, and_false, false_and, ↓reduceIte, nat_add, nat_mul3, nat_mul4, nat_mul6, nat_mul15, nat_mul60, nat_cast, nc1, Int.reduceToNat, upE, upN, fill_ne, fill_in, i0])
      | with_reducible exact rfl
  exact (st 1 _ (by omega)).trans ((st 2 _ (by omega)).trans ((st 3 _ (by omega)).trans ((st 4 _ (by omega)).trans (st 5 _ (by omega)))))
/-- the model begins a step -/
theorem m_head (hd : 1 ≤ d2) {kw bl c' : Int} (iw : callD (d2 - 1) m_Mo_inWords [vR 12 0 271, vR 13 1 2] (SH L) M2 = some (some (vI kw), SH L, M2)) (hk : k < 60) (h94 : M2 272 2294 = (k : Int)) (h23 : M2 271 23 = c) (hc : 0 ≤ c ∧ c ≤ 30) (hw : kw = 25 ∧ bl = 1 ∧ c ≠ 30 ∧ M2 271 22 ≠ 3 ∧ c' = c + 1 ∨ kw = 26 ∧ bl = 1 ∧ c ≠ 30 ∧ M2 271 22 ≠ 3 ∧ c' = c + 1 ∨ kw = 27 ∧ bl = 0 ∧ M2 271 22 ≠ 0 ∧ c' = c ∨ (19 ≤ kw ∧ kw ≤ 24 ∨ kw = 28) ∧ bl = 0 ∧ c ≠ 30 ∧ c' = c + 1) : callD d2 m_Mo_voyageStep [vR 12 0 271] (SH L) M2 = Run (callD (d2 - 1)) tb_Mo_voyageStep 147 [vR 12 0 271, vI kw, vI (k : Int), vI (2494 + 6 * (k : Int)), vI bl, vI 6] [] (SH L) (zr (up (up M2 271 23 c') 272 (2494 + 6 * k) kw) k) := by
  have s1 : callD d2 m_Mo_voyageStep [vR 12 0 271] (SH L) M2 = Run (callD (d2 - 1)) tb_Mo_voyageStep 75 [vR 12 0 271, vI kw, vI (k : Int), vI (2494 + 6 * (k : Int)), vI bl, vU] [] (SH L) M2 := by
    rcases hw with ⟨rfl, rfl, hw⟩ | ⟨rfl, rfl, hw⟩ | ⟨rfl, rfl, hw⟩ | ⟨hw, rfl, hw'⟩
    · repeat' first
        | (with_reducible apply bR_go; (simp (disch := omega) only [rM L, rK L, rN L, rNf, rNv, rNp, rNd, rRow, rLeg, rMark, nat_cast, Int.reduceToNat, h94]; with_reducible exact rfl))
        | with_reducible apply bI_go
        | with_reducible apply bV_go
        | with_reducible apply bL_go
        | (with_reducible apply it_1; (first | omega | (simp (disch := omega) only [not_false_eq_true, not_true_eq_false, w32_id, tLt, fLt, tLe, fEq, itE, and_true, true_and, and_self, and_false, false_and, ↓reduceIte, nat_add, nat_mul3, nat_mul4, nat_mul6, nat_mul15, nat_mul60, nat_cast, nc1, Int.reduceToNat, upE, upN, fill_ne, fill_in, i0, h94] <;> omega)))
        | (with_reducible apply it_2; (first | omega | (simp (disch := omega) only [not_false_eq_true, not_true_eq_false, w32_id, tLt, fLt, tLe, fEq, itE, and_true, true_and, and_self, and_false, false_and, ↓reduceIte, nat_add, nat_mul3, nat_mul4, nat_mul6, nat_mul15, nat_mul60, nat_cast, nc1, Int.reduceToNat, upE, upN, fill_ne, fill_in, i0, h94] <;> omega)))
        | (with_reducible refine cl_go ?_; simp (disch := omega) only [not_false_eq_true, not_true_eq_false, w32_id, tLt, fLt, tLe, fEq, itE, and_true, true_and, and_self, and_false, false_and, ↓reduceIte, nat_add, nat_mul3, nat_mul4, nat_mul6, nat_mul15, nat_mul60, nat_cast, nc1, Int.reduceToNat, upE, upN, fill_ne, fill_in, i0, h94])
        | rw [c_Mo_voyageStep (by omega), b_Mo_voyageStep_0]
        | with_reducible exact iw
        | (with_reducible refine rn_go ?_; simp (disch := omega) only [not_false_eq_true, not_true_eq_false, w32_id, tLt, fLt, tLe, fEq, itE, and_true, true_and, and_self, and_false, false_and, ↓reduceIte, nat_add, nat_mul3, nat_mul4, nat_mul6, nat_mul15, nat_mul60, nat_cast, nc1, Int.reduceToNat, upE, upN, fill_ne, fill_in, i0, h94])
        | (with_reducible refine lf_go ?_; simp (disch := omega) only [not_false_eq_true, not_true_eq_false, w32_id, tLt, fLt, tLe, fEq, itE, and_true, true_and, and_self, and_false, false_and, ↓reduceIte, nat_add, nat_mul3, nat_mul4, nat_mul6, nat_mul15, nat_mul60, nat_cast, nc1, Int.reduceToNat, upE, upN, fill_ne, fill_in, i0, h94])
        | with_reducible exact rfl
    · repeat' first
        | (with_reducible apply bR_go; (simp (disch := omega) only [rM L, rK L, rN L, rNf, rNv, rNp, rNd, rRow, rLeg, rMark, nat_cast, Int.reduceToNat, h94]; with_reducible exact rfl))
        | with_reducible apply bI_go
        | with_reducible apply bV_go
        | with_reducible apply bL_go
        | (with_reducible apply it_1; (first | omega | (simp (disch := omega) only [not_false_eq_true, not_true_eq_false, w32_id, tLt, fLt, tLe, fEq, itE, and_true, true_and, and_self, and_false, false_and, ↓reduceIte, nat_add, nat_mul3, nat_mul4, nat_mul6, nat_mul15, nat_mul60, nat_cast, nc1, Int.reduceToNat, upE, upN, fill_ne, fill_in, i0, h94] <;> omega)))
        | (with_reducible apply it_2; (first | omega | (simp (disch := omega) only [not_false_eq_true, not_true_eq_false, w32_id, tLt, fLt, tLe, fEq, itE, and_true, true_and, and_self, and_false, false_and, ↓reduceIte, nat_add, nat_mul3, nat_mul4, nat_mul6, nat_mul15, nat_mul60, nat_cast, nc1, Int.reduceToNat, upE, upN, fill_ne, fill_in, i0, h94] <;> omega)))
        | (with_reducible refine cl_go ?_; simp (disch := omega) only [not_false_eq_true, not_true_eq_false, w32_id, tLt, fLt, tLe, fEq, itE, and_true, true_and, and_self, and_false, false_and, ↓reduceIte, nat_add, nat_mul3, nat_mul4, nat_mul6, nat_mul15, nat_mul60, nat_cast, nc1, Int.reduceToNat, upE, upN, fill_ne, fill_in, i0, h94])
        | rw [c_Mo_voyageStep (by omega), b_Mo_voyageStep_0]
        | with_reducible exact iw
        | (with_reducible refine rn_go ?_; simp (disch := omega) only [not_false_eq_true, not_true_eq_false, w32_id, tLt, fLt, tLe, fEq, itE, and_true, true_and, and_self, and_false, false_and, ↓reduceIte, nat_add, nat_mul3, nat_mul4, nat_mul6, nat_mul15, nat_mul60, nat_cast, nc1, Int.reduceToNat, upE, upN, fill_ne, fill_in, i0, h94])
        | (with_reducible refine lf_go ?_; simp (disch := omega) only [not_false_eq_true, not_true_eq_false, w32_id, tLt, fLt, tLe, fEq, itE, and_true, true_and, and_self, and_false, false_and, ↓reduceIte, nat_add, nat_mul3, nat_mul4, nat_mul6, nat_mul15, nat_mul60, nat_cast, nc1, Int.reduceToNat, upE, upN, fill_ne, fill_in, i0, h94])
        | with_reducible exact rfl
    · repeat' first
        | (with_reducible apply bR_go; (simp (disch := omega) only [rM L, rK L, rN L, rNf, rNv, rNp, rNd, rRow, rLeg, rMark, nat_cast, Int.reduceToNat, h94]; with_reducible exact rfl))
        | with_reducible apply bI_go
        | with_reducible apply bV_go
        | with_reducible apply bL_go
        | (with_reducible apply it_1; (first | omega | (simp (disch := omega) only [not_false_eq_true, not_true_eq_false, w32_id, tLt, fLt, tLe, fEq, itE, and_true, true_and, and_self, and_false, false_and, ↓reduceIte, nat_add, nat_mul3, nat_mul4, nat_mul6, nat_mul15, nat_mul60, nat_cast, nc1, Int.reduceToNat, upE, upN, fill_ne, fill_in, i0, h94] <;> omega)))
        | (with_reducible apply it_2; (first | omega | (simp (disch := omega) only [not_false_eq_true, not_true_eq_false, w32_id, tLt, fLt, tLe, fEq, itE, and_true, true_and, and_self, and_false, false_and, ↓reduceIte, nat_add, nat_mul3, nat_mul4, nat_mul6, nat_mul15, nat_mul60, nat_cast, nc1, Int.reduceToNat, upE, upN, fill_ne, fill_in, i0, h94] <;> omega)))
        | (with_reducible refine cl_go ?_; simp (disch := omega) only [not_false_eq_true, not_true_eq_false, w32_id, tLt, fLt, tLe, fEq, itE, and_true, true_and, and_self, and_false, false_and, ↓reduceIte, nat_add, nat_mul3, nat_mul4, nat_mul6, nat_mul15, nat_mul60, nat_cast, nc1, Int.reduceToNat, upE, upN, fill_ne, fill_in, i0, h94])
        | rw [c_Mo_voyageStep (by omega), b_Mo_voyageStep_0]
        | with_reducible exact iw
        | (with_reducible refine rn_go ?_; simp (disch := omega) only [not_false_eq_true, not_true_eq_false, w32_id, tLt, fLt, tLe, fEq, itE, and_true, true_and, and_self, and_false, false_and, ↓reduceIte, nat_add, nat_mul3, nat_mul4, nat_mul6, nat_mul15, nat_mul60, nat_cast, nc1, Int.reduceToNat, upE, upN, fill_ne, fill_in, i0, h94])
        | (with_reducible refine lf_go ?_; simp (disch := omega) only [not_false_eq_true, not_true_eq_false, w32_id, tLt, fLt, tLe, fEq, itE, and_true, true_and, and_self, and_false, false_and, ↓reduceIte, nat_add, nat_mul3, nat_mul4, nat_mul6, nat_mul15, nat_mul60, nat_cast, nc1, Int.reduceToNat, upE, upN, fill_ne, fill_in, i0, h94])
        | with_reducible exact rfl
    · repeat' first
        | (with_reducible apply bR_go; (simp (disch := omega) only [rM L, rK L, rN L, rNf, rNv, rNp, rNd, rRow, rLeg, rMark, nat_cast, Int.reduceToNat, h94]; with_reducible exact rfl))
        | with_reducible apply bI_go
        | with_reducible apply bV_go
        | with_reducible apply bL_go
        | (with_reducible apply it_1; (first | omega | (simp (disch := omega) only [not_false_eq_true, not_true_eq_false, w32_id, tLt, fLt, tLe, fEq, itE, and_true, true_and, and_self, and_false, false_and, ↓reduceIte, nat_add, nat_mul3, nat_mul4, nat_mul6, nat_mul15, nat_mul60, nat_cast, nc1, Int.reduceToNat, upE, upN, fill_ne, fill_in, i0, h94] <;> omega)))
        | (with_reducible apply it_2; (first | omega | (simp (disch := omega) only [not_false_eq_true, not_true_eq_false, w32_id, tLt, fLt, tLe, fEq, itE, and_true, true_and, and_self, and_false, false_and, ↓reduceIte, nat_add, nat_mul3, nat_mul4, nat_mul6, nat_mul15, nat_mul60, nat_cast, nc1, Int.reduceToNat, upE, upN, fill_ne, fill_in, i0, h94] <;> omega)))
        | (with_reducible refine cl_go ?_; simp (disch := omega) only [not_false_eq_true, not_true_eq_false, w32_id, tLt, fLt, tLe, fEq, itE, and_true, true_and, and_self, and_false, false_and, ↓reduceIte, nat_add, nat_mul3, nat_mul4, nat_mul6, nat_mul15, nat_mul60, nat_cast, nc1, Int.reduceToNat, upE, upN, fill_ne, fill_in, i0, h94])
        | rw [c_Mo_voyageStep (by omega), b_Mo_voyageStep_0]
        | with_reducible exact iw
        | (with_reducible refine rn_go ?_; simp (disch := omega) only [not_false_eq_true, not_true_eq_false, w32_id, tLt, fLt, tLe, fEq, itE, and_true, true_and, and_self, and_false, false_and, ↓reduceIte, nat_add, nat_mul3, nat_mul4, nat_mul6, nat_mul15, nat_mul60, nat_cast, nc1, Int.reduceToNat, upE, upN, fill_ne, fill_in, i0, h94])
        | (with_reducible refine lf_go ?_; simp (disch := omega) only [not_false_eq_true, not_true_eq_false, w32_id, tLt, fLt, tLe, fEq, itE, and_true, true_and, and_self, and_false, false_and, ↓reduceIte, nat_add, nat_mul3, nat_mul4, nat_mul6, nat_mul15, nat_mul60, nat_cast, nc1, Int.reduceToNat, upE, upN, fill_ne, fill_in, i0, h94])
        | with_reducible exact rfl
  have s2 : Run (callD (d2 - 1)) tb_Mo_voyageStep 75 [vR 12 0 271, vI kw, vI (k : Int), vI (2494 + 6 * (k : Int)), vI bl, vU] [] (SH L) M2 = Run (callD (d2 - 1)) tb_Mo_voyageStep 147 [vR 12 0 271, vI kw, vI (k : Int), vI (2494 + 6 * (k : Int)), vI bl, vI 1] [] (SH L) (up (up M2 271 23 c') 272 (2494 + 6 * k) kw) := by
    rw [b_Mo_voyageStep_75]
    rcases hw with ⟨rfl, rfl, hw1, hw2, rfl⟩ | ⟨rfl, rfl, hw1, hw2, rfl⟩ | ⟨rfl, rfl, hw, rfl⟩ | ⟨hw, rfl, hw', rfl⟩
    · repeat' first
        | (with_reducible apply bR_go; (simp (disch := omega) only [rM L, rK L, rN L, rNf, rNv, rNp, rNd, rRow, rLeg, rMark, nat_cast, Int.reduceToNat, h23]; with_reducible exact rfl))
        | with_reducible apply bI_go
        | with_reducible apply bV_go
        | with_reducible apply bL_go
        | (with_reducible apply it_1; (first | omega | (simp (disch := omega) only [not_false_eq_true, not_true_eq_false, w32_id, tLt, fLt, tLe, fEq, itE, and_true, true_and, and_self, and_false, false_and, ↓reduceIte, nat_add, nat_mul3, nat_mul4, nat_mul6, nat_mul15, nat_mul60, nat_cast, nc1, Int.reduceToNat, upE, upN, fill_ne, fill_in, i0, h23] <;> omega)))
        | (with_reducible apply it_2; (first | omega | (simp (disch := omega) only [not_false_eq_true, not_true_eq_false, w32_id, tLt, fLt, tLe, fEq, itE, and_true, true_and, and_self, and_false, false_and, ↓reduceIte, nat_add, nat_mul3, nat_mul4, nat_mul6, nat_mul15, nat_mul60, nat_cast, nc1, Int.reduceToNat, upE, upN, fill_ne, fill_in, i0, h23] <;> omega)))
        | (with_reducible refine cl_go ?_; simp (disch := omega) only [not_false_eq_true, not_true_eq_false, w32_id, tLt, fLt, tLe, fEq, itE, and_true, true_and, and_self, and_false, false_and, ↓reduceIte, nat_add, nat_mul3, nat_mul4, nat_mul6, nat_mul15, nat_mul60, nat_cast, nc1, Int.reduceToNat, upE, upN, fill_ne, fill_in, i0, h23])
        | (with_reducible refine rn_go ?_; simp (disch := omega) only [not_false_eq_true, not_true_eq_false, w32_id, tLt, fLt, tLe, fEq, itE, and_true, true_and, and_self, and_false, false_and, ↓reduceIte, nat_add, nat_mul3, nat_mul4, nat_mul6, nat_mul15, nat_mul60, nat_cast, nc1, Int.reduceToNat, upE, upN, fill_ne, fill_in, i0, h23])
        | (with_reducible refine lf_go ?_; simp (disch := omega) only [not_false_eq_true, not_true_eq_false, w32_id, tLt, fLt, tLe, fEq, itE, and_true, true_and, and_self, and_false, false_and, ↓reduceIte, nat_add, nat_mul3, nat_mul4, nat_mul6, nat_mul15, nat_mul60, nat_cast, nc1, Int.reduceToNat, upE, upN, fill_ne, fill_in, i0, h23])
        | with_reducible exact rfl
    · repeat' first
        | (with_reducible apply bR_go; (simp (disch := omega) only [rM L, rK L, rN L, rNf, rNv, rNp, rNd, rRow, rLeg, rMark, nat_cast, Int.reduceToNat, h23]; with_reducible exact rfl))
        | with_reducible apply bI_go
        | with_reducible apply bV_go
        | with_reducible apply bL_go
        | (with_reducible apply it_1; (first | omega | (simp (disch := omega) only [not_false_eq_true, not_true_eq_false, w32_id, tLt, fLt, tLe, fEq, itE, and_true, true_and, and_self, and_false, false_and, ↓reduceIte, nat_add, nat_mul3, nat_mul4, nat_mul6, nat_mul15, nat_mul60, nat_cast, nc1, Int.reduceToNat, upE, upN, fill_ne, fill_in, i0, h23] <;> omega)))
        | (with_reducible apply it_2; (first | omega | (simp (disch := omega) only [not_false_eq_true, not_true_eq_false, w32_id, tLt, fLt, tLe, fEq, itE, and_true, true_and, and_self, and_false, false_and, ↓reduceIte, nat_add, nat_mul3, nat_mul4, nat_mul6, nat_mul15, nat_mul60, nat_cast, nc1, Int.reduceToNat, upE, upN, fill_ne, fill_in, i0, h23] <;> omega)))
        | (with_reducible refine cl_go ?_; simp (disch := omega) only [not_false_eq_true, not_true_eq_false, w32_id, tLt, fLt, tLe, fEq, itE, and_true, true_and, and_self, and_false, false_and, ↓reduceIte, nat_add, nat_mul3, nat_mul4, nat_mul6, nat_mul15, nat_mul60, nat_cast, nc1, Int.reduceToNat, upE, upN, fill_ne, fill_in, i0, h23])
        | (with_reducible refine rn_go ?_; simp (disch := omega) only [not_false_eq_true, not_true_eq_false, w32_id, tLt, fLt, tLe, fEq, itE, and_true, true_and, and_self, and_false, false_and, ↓reduceIte, nat_add, nat_mul3, nat_mul4, nat_mul6, nat_mul15, nat_mul60, nat_cast, nc1, Int.reduceToNat, upE, upN, fill_ne, fill_in, i0, h23])
        | (with_reducible refine lf_go ?_; simp (disch := omega) only [not_false_eq_true, not_true_eq_false, w32_id, tLt, fLt, tLe, fEq, itE, and_true, true_and, and_self, and_false, false_and, ↓reduceIte, nat_add, nat_mul3, nat_mul4, nat_mul6, nat_mul15, nat_mul60, nat_cast, nc1, Int.reduceToNat, upE, upN, fill_ne, fill_in, i0, h23])
        | with_reducible exact rfl
    · repeat' first
        | (with_reducible apply bR_go; (simp (disch := omega) only [rM L, rK L, rN L, rNf, rNv, rNp, rNd, rRow, rLeg, rMark, nat_cast, Int.reduceToNat, h23, Int.add_zero]; with_reducible exact rfl))
        | with_reducible apply bI_go
        | with_reducible apply bV_go
        | with_reducible apply bL_go
        | (with_reducible apply it_1; (first | omega | (simp (disch := omega) only [not_false_eq_true, not_true_eq_false, w32_id, tLt, fLt, tLe, fEq, itE, and_true, true_and, and_self, and_false, false_and, ↓reduceIte, nat_add, nat_mul3, nat_mul4, nat_mul6, nat_mul15, nat_mul60, nat_cast, nc1, Int.reduceToNat, upE, upN, fill_ne, fill_in, i0, h23, Int.add_zero] <;> omega)))
        | (with_reducible apply it_2; (first | omega | (simp (disch := omega) only [not_false_eq_true, not_true_eq_false, w32_id, tLt, fLt, tLe, fEq, itE, and_true, true_and, and_self, and_false, false_and, ↓reduceIte, nat_add, nat_mul3, nat_mul4, nat_mul6, nat_mul15, nat_mul60, nat_cast, nc1, Int.reduceToNat, upE, upN, fill_ne, fill_in, i0, h23, Int.add_zero] <;> omega)))
        | (with_reducible refine cl_go ?_; simp (disch := omega) only [not_false_eq_true, not_true_eq_false, w32_id, tLt, fLt, tLe, fEq, itE, and_true, true_and, and_self, and_false, false_and, ↓reduceIte, nat_add, nat_mul3, nat_mul4, nat_mul6, nat_mul15, nat_mul60, nat_cast, nc1, Int.reduceToNat, upE, upN, fill_ne, fill_in, i0, h23, Int.add_zero])
        | (with_reducible refine rn_go ?_; simp (disch := omega) only [not_false_eq_true, not_true_eq_false, w32_id, tLt, fLt, tLe, fEq, itE, and_true, true_and, and_self, and_false, false_and, ↓reduceIte, nat_add, nat_mul3, nat_mul4, nat_mul6, nat_mul15, nat_mul60, nat_cast, nc1, Int.reduceToNat, upE, upN, fill_ne, fill_in, i0, h23, Int.add_zero])
        | (with_reducible refine lf_go ?_; simp (disch := omega) only [not_false_eq_true, not_true_eq_false, w32_id, tLt, fLt, tLe, fEq, itE, and_true, true_and, and_self, and_false, false_and, ↓reduceIte, nat_add, nat_mul3, nat_mul4, nat_mul6, nat_mul15, nat_mul60, nat_cast, nc1, Int.reduceToNat, upE, upN, fill_ne, fill_in, i0, h23, Int.add_zero])
        | with_reducible exact rfl
    · repeat' first
        | (with_reducible apply bR_go; (simp (disch := omega) only [rM L, rK L, rN L, rNf, rNv, rNp, rNd, rRow, rLeg, rMark, nat_cast, Int.reduceToNat, h23]; with_reducible exact rfl))
        | with_reducible apply bI_go
        | with_reducible apply bV_go
        | with_reducible apply bL_go
        | (with_reducible apply it_1; (first | omega | (simp (disch := omega) only [not_false_eq_true, not_true_eq_false, w32_id, tLt, fLt, tLe, fEq, itE, and_true, true_and, and_self, and_false, false_and, ↓reduceIte, nat_add, nat_mul3, nat_mul4, nat_mul6, nat_mul15, nat_mul60, nat_cast, nc1, Int.reduceToNat, upE, upN, fill_ne, fill_in, i0, h23] <;> omega)))
        | (with_reducible apply it_2; (first | omega | (simp (disch := omega) only [not_false_eq_true, not_true_eq_false, w32_id, tLt, fLt, tLe, fEq, itE, and_true, true_and, and_self, and_false, false_and, ↓reduceIte, nat_add, nat_mul3, nat_mul4, nat_mul6, nat_mul15, nat_mul60, nat_cast, nc1, Int.reduceToNat, upE, upN, fill_ne, fill_in, i0, h23] <;> omega)))
        | (with_reducible refine cl_go ?_; simp (disch := omega) only [not_false_eq_true, not_true_eq_false, w32_id, tLt, fLt, tLe, fEq, itE, and_true, true_and, and_self, and_false, false_and, ↓reduceIte, nat_add, nat_mul3, nat_mul4, nat_mul6, nat_mul15, nat_mul60, nat_cast, nc1, Int.reduceToNat, upE, upN, fill_ne, fill_in, i0, h23])
        | (with_reducible refine rn_go ?_; simp (disch := omega) only [not_false_eq_true, not_true_eq_false, w32_id, tLt, fLt, tLe, fEq, itE, and_true, true_and, and_self, and_false, false_and, ↓reduceIte, nat_add, nat_mul3, nat_mul4, nat_mul6, nat_mul15, nat_mul60, nat_cast, nc1, Int.reduceToNat, upE, upN, fill_ne, fill_in, i0, h23])
        | (with_reducible refine lf_go ?_; simp (disch := omega) only [not_false_eq_true, not_true_eq_false, w32_id, tLt, fLt, tLe, fEq, itE, and_true, true_and, and_self, and_false, false_and, ↓reduceIte, nat_add, nat_mul3, nat_mul4, nat_mul6, nat_mul15, nat_mul60, nat_cast, nc1, Int.reduceToNat, upE, upN, fill_ne, fill_in, i0, h23])
        | with_reducible exact rfl
  exact s1.trans (s2.trans (s_zr hk kw (k : Int) bl))
end

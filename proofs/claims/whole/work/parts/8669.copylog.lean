/-! copyLog -/
def cutF (s v : Int) : Int := if s = 0 then w8 (w32 v) else if s = 1 then w16 (w32 v) else if s = 2 then w32 v else v
theorem n_cut {d : Nat} {S : Sp} {M : Mm} {s v : Int} (hd : 1 ≤ d) : callD d m_Trays_cut [vL v, vI s] S M = some (some (vL (cutF s v)), S, M) ∧ callD d m_Mo_cut [vL v, vI s] S M = some (some (vL (cutF s v)), S, M) := by
  unfold cutF
  refine ⟨?_, ?_⟩
  · rw [c_Trays_cut hd, b_Trays_cut_0]
    split
    · rfl
    · split
      · rfl
      · split <;> rfl
  · rw [c_Mo_cut hd, b_Mo_cut_0]
    split
    · rfl
    · split
      · rfl
      · split <;> rfl
theorem case_copyLog (x1 x2 x3 : Int) : Case m_Ca_copyLog m_Mo_copyLog [vI x1, vI x2, vI x3] := by
  intro L xs M A N B P ⟨hs0, h⟩
  have hC := h.cn
  unfold Cn at hC
  have hA := h.hA
  have hct := h.cnt
  have hlw := h.law
  by_cases hv : (0 ≤ x1 ∧ x1 < A 3) ∧ (0 ≤ x2 ∧ x2 < 4) ∧ 1 ≤ x3 ∧ x3 ≤ 20
  · obtain ⟨s, rfl⟩ := Int.eq_ofNat_of_zero_le hv.1.1
    obtain ⟨t, rfl⟩ := Int.eq_ofNat_of_zero_le hv.2.1.1
    obtain ⟨n, rfl⟩ := Int.eq_ofNat_of_zero_le (show 0 ≤ x3 by omega)
    obtain ⟨t1, t2, t3, t4, t5, t6, t7⟩ := h.tr2 (t := t) (by omega)
    by_cases ok : (n : Int) ≤ M 275 t
    · repeat' first
        | (with_reducible apply wp_bR; (simp (disch := omega) only [rM L, rK L, rN L, rNf, rNv, rNp, rNd, rRow, rLeg, rMark, nat_cast, Int.reduceToNat, hct, t4]; with_reducible exact rfl))
        | with_reducible apply wp_bI
        | with_reducible apply wp_bV
        | with_reducible apply wp_bL
        | with_reducible apply wp_rI
        | with_reducible apply wp_rV
        | with_reducible apply wp_rL
        | (with_reducible apply wp_1; (first | omega | (simp (disch := omega) only [not_false_eq_true, not_true_eq_false, w32_id, tLt, fLt, tLe, fEq, itE, and_true, true_and, and_self, and_false, false_and, ↓reduceIte, nat_add, nat_mul3, nat_mul4, nat_mul6, nat_mul15, nat_mul60, nat_cast, nc1, Int.reduceToNat, upE, upN, fill_ne, fill_in, i0, hct, t4] <;> omega)))
        | (with_reducible apply wp_2; (first | omega | (simp (disch := omega) only [not_false_eq_true, not_true_eq_false, w32_id, tLt, fLt, tLe, fEq, itE, and_true, true_and, and_self, and_false, false_and, ↓reduceIte, nat_add, nat_mul3, nat_mul4, nat_mul6, nat_mul15, nat_mul60, nat_cast, nc1, Int.reduceToNat, upE, upN, fill_ne, fill_in, i0, hct, t4] <;> omega)))
        | (with_reducible apply wp_s; (first | (simp (disch := omega) only [not_false_eq_true, not_true_eq_false, w32_id, tLt, fLt, tLe, fEq, itE, and_true, true_and, and_self, and_false, false_and, ↓reduceIte, nat_add, nat_mul3, nat_mul4, nat_mul6, nat_mul15, nat_mul60, nat_cast, nc1, Int.reduceToNat, upE, upN, fill_ne, fill_in, i0, hct, t4]; with_reducible exact Iff.rfl) | with_reducible exact Iff.rfl); intro hc__; (try subst hc__); rotate_left; intro hc__; rotate_left)
        | (with_reducible apply wp_eq; (with_reducible apply cl_go; simp (disch := omega) only [not_false_eq_true, not_true_eq_false, w32_id, tLt, fLt, tLe, fEq, itE, and_true, true_and, and_self, and_false, false_and, ↓reduceIte, nat_add, nat_mul3, nat_mul4, nat_mul6, nat_mul15, nat_mul60, nat_cast, nc1, Int.reduceToNat, upE, upN, fill_ne, fill_in, i0, hct, t4]; with_reducible exact rfl))
        | (with_reducible refine wp_eq (c_Ca_copyLog (by omega) _ _ _ _ _ _) ?_; with_reducible refine wp_eq (b_Ca_copyLog_0 _ _ _ _ _ _ _) ?_)
        | (with_reducible refine wp_eq (c_Trays_isTray (by omega) _ _ _) ?_; with_reducible refine wp_eq (b_Trays_isTray_0 _ _ _ _) ?_)
        | (with_reducible refine wp_eq (c_Trays_troubleFirst (by omega) _ _ _ _ _) ?_; with_reducible refine wp_eq (b_Trays_troubleFirst_0 _ _ _ _ _ _) ?_)
        | (with_reducible refine wp_eq (c_Trays_troubleAt (by omega) _ _ _ _ _) ?_; with_reducible refine wp_eq (b_Trays_troubleAt_0 _ _ _ _ _ _) ?_)
        | (with_reducible refine wp_eq (c_Trays_isMissing (by omega) _ _ _ _) ?_; with_reducible refine wp_eq (b_Trays_isMissing_0 _ _ _ _ _) ?_)
        | (with_reducible refine wp_eq (c_Ca_within (by omega) _ _ _ _ _) ?_; with_reducible refine wp_eq (b_Ca_within_0 _ _ _ _ _ _) ?_)
        | (with_reducible refine wp_eq (c_Ca_isShip (by omega) _ _ _ _) ?_; with_reducible refine wp_eq (b_Ca_isShip_0 _ _ _ _ _) ?_)
        | (with_reducible refine wp_eq (c_Ca_isNation (by omega) _ _ _ _) ?_; with_reducible refine wp_eq (b_Ca_isNation_0 _ _ _ _ _) ?_)
        | (with_reducible refine wp_eq (c_Ca_isGood (by omega) _ _ _ _) ?_; with_reducible refine wp_eq (b_Ca_isGood_0 _ _ _ _ _) ?_)
        | (with_reducible refine wp_eq (c_Ca_isPort (by omega) _ _ _ _) ?_; with_reducible refine wp_eq (b_Ca_isPort_0 _ _ _ _ _) ?_)
        | (with_reducible refine wp_eq (c_Ca_areTwo (by omega) _ _ _ _ _ _) ?_; with_reducible refine wp_eq (b_Ca_areTwo_0 _ _ _ _ _ _ _) ?_)
        | (with_reducible refine wp_eq (c_Ca_answer (by omega) _ _ _ _) ?_; with_reducible refine wp_eq (b_Ca_answer_0 _ _ _ _ _) ?_)
        | (with_reducible refine wp_eq (c_Ca_refuse (by omega) _ _ _ _) ?_; with_reducible refine wp_eq (b_Ca_refuse_0 _ _ _ _ _) ?_)
        | (with_reducible refine wp_eq (c_Ca_answerOr (by omega) _ _ _ _ _) ?_; with_reducible refine wp_eq (b_Ca_answerOr_0 _ _ _ _ _ _) ?_)
        | (with_reducible refine wp_eq (c_Ca_agree (by omega) _ _ _) ?_; with_reducible refine wp_eq (b_Ca_agree_0 _ _ _ _) ?_)
        | (with_reducible refine wp_eq (c_Ca_deny (by omega) _ _ _ _) ?_; with_reducible refine wp_eq (b_Ca_deny_0 _ _ _ _ _) ?_)
        | (with_reducible apply wp_eq; (with_reducible apply lf_go; simp (disch := omega) only [not_false_eq_true, not_true_eq_false, w32_id, tLt, fLt, tLe, fEq, itE, and_true, true_and, and_self, and_false, false_and, ↓reduceIte, nat_add, nat_mul3, nat_mul4, nat_mul6, nat_mul15, nat_mul60, nat_cast, nc1, Int.reduceToNat, upE, upN, fill_ne, fill_in, i0, hct, t4]; with_reducible exact rfl))
        | with_reducible apply wp_q1
      have rc0 := h.rc
      refine wp_loop (α := Mm) (G := fun k a => Run (callD (100 - 1)) tb_Ca_copyLog 57 [vR 11 0 3, vI (s : Int), vI (t : Int), vI (n : Int), vI 0, vI (k : Int)] [] (SH L) a) (I := fun k a => (∀ j, j < k → a (6 + t) j = cutF (M 274 t) (flIn A s j)) ∧ ∀ b j, b ≠ 48 → b ≠ 114 → ¬(b = 6 + t ∧ j < k) → a b j = M b j) n ?_ ?_ 0 M (by omega) ⟨fun _ hj => by omega, fun _ _ _ _ _ => rfl⟩
      · intro k M1 hk ⟨i1, i2⟩ ih
        have rc1 : RelC M1 A := by
          refine ⟨rc0.1.frame rc0.2.2.2.1 fun b j q1 q2 => i2 b j (by omega) (by omega) (by omega), by rw [i2 18 3 (by omega) (by omega) (by omega)]; exact rc0.2.1, fun i hi => ?_, rc0.2.2.2⟩
          exact ⟨fun w hw => by rw [i2 _ _ (by omega) (by omega) (by omega)]; exact (rc0.2.2.1 i hi).1 w hw, fun g hg => by rw [i2 _ _ (by omega) (by omega) (by omega)]; exact (rc0.2.2.1 i hi).2 g hg⟩
        have ef := c_flagAfter (L := L) (d := 100 - 1) (by omega) rc1 (i := s) (days := (k : Int)) (by omega) (by omega) (by omega)
        generalize hM2 : fillP (thn M1 A s k) 48 (fun n => wts A (lkF A (ldF A s) k) (A 4) n) (A 0).toNat = M2 at ef
        have f2 : ∀ b j, b ≠ 48 → b ≠ 114 → M2 b j = M1 b j := fun b j q1 q2 => by rw [← hM2, fill_ne (by omega), thn_rd q2]
        have so : M2 10 t = M 274 t := by rw [f2 10 t (by omega) (by omega), i2 10 t (by omega) (by omega) (by omega)]; exact t1
        have nx : (∀ j, j < k + 1 → up M2 (6 + t) k (cutF (M 274 t) (flIn A s k)) (6 + t) j = cutF (M 274 t) (flIn A s j)) ∧ ∀ b j, b ≠ 48 → b ≠ 114 → ¬(b = 6 + t ∧ j < k + 1) → up M2 (6 + t) k (cutF (M 274 t) (flIn A s k)) b j = M b j := by
          refine ⟨fun j hj => ?_, fun b j q1 q2 q3 => ?_⟩
          · by_cases e : j = k
            · subst e; exact upE rfl rfl
            · rw [upN (by omega), f2 _ _ (by omega) (by omega)]; exact i1 j (by omega)
          · rw [upN (by omega), f2 b j q1 q2]; exact i2 b j q1 q2 (by omega)
        refine wp_eq (b_Ca_copyLog_57 _ _ _ _ _ _ _ _ _) ?_
        repeat' first
          | (with_reducible apply wp_bR; (simp (disch := omega) only [rM L, rK L, rN L, rNf, rNv, rNp, rNd, rRow, rLeg, rMark, nat_cast, Int.reduceToNat, so]; with_reducible exact rfl))
          | with_reducible apply wp_bI
          | with_reducible apply wp_bV
          | with_reducible apply wp_bL
          | with_reducible apply wp_rI
          | with_reducible apply wp_rV
          | with_reducible apply wp_rL
          | (with_reducible apply wp_1; (first | omega | (simp (disch := omega) only [not_false_eq_true, not_true_eq_false, w32_id, tLt, fLt, tLe, fEq, itE, and_true, true_and, and_self, and_false, false_and, ↓reduceIte, nat_add, nat_mul3, nat_mul4, nat_mul6, nat_mul15, nat_mul60, nat_cast, nc1, Int.reduceToNat, upE, upN, fill_ne, fill_in, i0, so] <;> omega)))
          | (with_reducible apply wp_2; (first | omega | (simp (disch := omega) only [not_false_eq_true, not_true_eq_false, w32_id, tLt, fLt, tLe, fEq, itE, and_true, true_and, and_self, and_false, false_and, ↓reduceIte, nat_add, nat_mul3, nat_mul4, nat_mul6, nat_mul15, nat_mul60, nat_cast, nc1, Int.reduceToNat, upE, upN, fill_ne, fill_in, i0, so] <;> omega)))
          | (with_reducible apply wp_s; (first | (simp (disch := omega) only [not_false_eq_true, not_true_eq_false, w32_id, tLt, fLt, tLe, fEq, itE, and_true, true_and, and_self, and_false, false_and, ↓reduceIte, nat_add, nat_mul3, nat_mul4, nat_mul6, nat_mul15, nat_mul60, nat_cast, nc1, Int.reduceToNat, upE, upN, fill_ne, fill_in, i0, so]; with_reducible exact Iff.rfl) | with_reducible exact Iff.rfl); intro hc__; (try subst hc__); rotate_left; intro hc__; rotate_left)
          | (with_reducible apply wp_eq; (with_reducible apply cl_go; simp (disch := omega) only [not_false_eq_true, not_true_eq_false, w32_id, tLt, fLt, tLe, fEq, itE, and_true, true_and, and_self, and_false, false_and, ↓reduceIte, nat_add, nat_mul3, nat_mul4, nat_mul6, nat_mul15, nat_mul60, nat_cast, nc1, Int.reduceToNat, upE, upN, fill_ne, fill_in, i0, so]; with_reducible exact rfl))
          | (with_reducible refine wp_eq (c_Trays_put (by omega) _ _ _ _ _ _) ?_; with_reducible refine wp_eq (b_Trays_put_0 _ _ _ _ _ _ _) ?_)
          | with_reducible refine wp_eq (ef) ?_
          | with_reducible refine wp_eq ((n_cut (by omega)).1) ?_
          | (with_reducible apply wp_eq; (with_reducible apply lf_go; simp (disch := omega) only [not_false_eq_true, not_true_eq_false, w32_id, tLt, fLt, tLe, fEq, itE, and_true, true_and, and_self, and_false, false_and, ↓reduceIte, nat_add, nat_mul3, nat_mul4, nat_mul6, nat_mul15, nat_mul60, nat_cast, nc1, Int.reduceToNat, upE, upN, fill_ne, fill_in, i0, so]; with_reducible exact rfl))
          | with_reducible apply wp_q1
        all_goals (apply wp_nx ih; (first | with_reducible rfl | (simp (disch := omega) only [not_false_eq_true, not_true_eq_false, w32_id, tLt, fLt, tLe, fEq, itE, and_true, true_and, and_self, and_false, false_and, ↓reduceIte, nat_add, nat_mul3, nat_mul4, nat_mul6, nat_mul15, nat_mul60, nat_cast, nc1, Int.reduceToNat, upE, upN, fill_ne, fill_in, i0]; (try with_reducible rfl))); exact nx)
      · intro M1 ⟨i1, i2⟩
        refine wp_eq (b_Ca_copyLog_57 _ _ _ _ _ _ _ _ _) ?_
        repeat' first
          | (with_reducible apply wp_bR; (simp (disch := omega) only [rM L, rK L, rN L, rNf, rNv, rNp, rNd, rRow, rLeg, rMark, nat_cast, Int.reduceToNat]; with_reducible exact rfl))
          | with_reducible apply wp_bI
          | with_reducible apply wp_bV
          | with_reducible apply wp_bL
          | with_reducible apply wp_rI
          | with_reducible apply wp_rV
          | with_reducible apply wp_rL
          | (with_reducible apply wp_1; (first | omega | (simp (disch := omega) only [not_false_eq_true, not_true_eq_false, w32_id, tLt, fLt, tLe, fEq, itE, and_true, true_and, and_self, and_false, false_and, ↓reduceIte, nat_add, nat_mul3, nat_mul4, nat_mul6, nat_mul15, nat_mul60, nat_cast, nc1, Int.reduceToNat, upE, upN, fill_ne, fill_in, i0] <;> omega)))
          | (with_reducible apply wp_2; (first | omega | (simp (disch := omega) only [not_false_eq_true, not_true_eq_false, w32_id, tLt, fLt, tLe, fEq, itE, and_true, true_and, and_self, and_false, false_and, ↓reduceIte, nat_add, nat_mul3, nat_mul4, nat_mul6, nat_mul15, nat_mul60, nat_cast, nc1, Int.reduceToNat, upE, upN, fill_ne, fill_in, i0] <;> omega)))
          | (with_reducible apply wp_s; (first | (simp (disch := omega) only [not_false_eq_true, not_true_eq_false, w32_id, tLt, fLt, tLe, fEq, itE, and_true, true_and, and_self, and_false, false_and, ↓reduceIte, nat_add, nat_mul3, nat_mul4, nat_mul6, nat_mul15, nat_mul60, nat_cast, nc1, Int.reduceToNat, upE, upN, fill_ne, fill_in, i0]; with_reducible exact Iff.rfl) | with_reducible exact Iff.rfl); intro hc__; (try subst hc__); rotate_left; intro hc__; rotate_left)
          | (with_reducible apply wp_eq; (with_reducible apply cl_go; simp (disch := omega) only [not_false_eq_true, not_true_eq_false, w32_id, tLt, fLt, tLe, fEq, itE, and_true, true_and, and_self, and_false, false_and, ↓reduceIte, nat_add, nat_mul3, nat_mul4, nat_mul6, nat_mul15, nat_mul60, nat_cast, nc1, Int.reduceToNat, upE, upN, fill_ne, fill_in, i0]; with_reducible exact rfl))
          | (with_reducible refine wp_eq (c_Ca_within (by omega) _ _ _ _ _) ?_; with_reducible refine wp_eq (b_Ca_within_0 _ _ _ _ _ _) ?_)
          | (with_reducible refine wp_eq (c_Ca_isShip (by omega) _ _ _ _) ?_; with_reducible refine wp_eq (b_Ca_isShip_0 _ _ _ _ _) ?_)
          | (with_reducible refine wp_eq (c_Ca_isNation (by omega) _ _ _ _) ?_; with_reducible refine wp_eq (b_Ca_isNation_0 _ _ _ _ _) ?_)
          | (with_reducible refine wp_eq (c_Ca_isGood (by omega) _ _ _ _) ?_; with_reducible refine wp_eq (b_Ca_isGood_0 _ _ _ _ _) ?_)
          | (with_reducible refine wp_eq (c_Ca_isPort (by omega) _ _ _ _) ?_; with_reducible refine wp_eq (b_Ca_isPort_0 _ _ _ _ _) ?_)
          | (with_reducible refine wp_eq (c_Ca_areTwo (by omega) _ _ _ _ _ _) ?_; with_reducible refine wp_eq (b_Ca_areTwo_0 _ _ _ _ _ _ _) ?_)
          | (with_reducible refine wp_eq (c_Ca_answer (by omega) _ _ _ _) ?_; with_reducible refine wp_eq (b_Ca_answer_0 _ _ _ _ _) ?_)
          | (with_reducible refine wp_eq (c_Ca_refuse (by omega) _ _ _ _) ?_; with_reducible refine wp_eq (b_Ca_refuse_0 _ _ _ _ _) ?_)
          | (with_reducible refine wp_eq (c_Ca_answerOr (by omega) _ _ _ _ _) ?_; with_reducible refine wp_eq (b_Ca_answerOr_0 _ _ _ _ _ _) ?_)
          | (with_reducible refine wp_eq (c_Ca_agree (by omega) _ _ _) ?_; with_reducible refine wp_eq (b_Ca_agree_0 _ _ _ _) ?_)
          | (with_reducible refine wp_eq (c_Ca_deny (by omega) _ _ _ _) ?_; with_reducible refine wp_eq (b_Ca_deny_0 _ _ _ _ _) ?_)
          | (with_reducible apply wp_eq; (with_reducible apply lf_go; simp (disch := omega) only [not_false_eq_true, not_true_eq_false, w32_id, tLt, fLt, tLe, fEq, itE, and_true, true_and, and_self, and_false, false_and, ↓reduceIte, nat_add, nat_mul3, nat_mul4, nat_mul6, nat_mul15, nat_mul60, nat_cast, nc1, Int.reduceToNat, upE, upN, fill_ne, fill_in, i0]; with_reducible exact rfl))
          | with_reducible apply wp_q1
        have rm1 : RelM (up M1 3 15 0) A := ⟨fun k hk => by rw [upN (by omega), i2 272 k (by omega) (by omega) (by omega)]; exact h.hA k (by omega), h.inv⟩
        have c3 : M1 272 3 = A 3 := by have := rm1.1 3 (by omega); rwa [upN (by omega)] at this
        have c5 : M1 275 t = M 275 t := i2 _ _ (by omega) (by omega) (by omega)
        repeat' first
          | (with_reducible apply wp_bR; (simp (disch := omega) only [rM L, rK L, rN L, rNf, rNv, rNp, rNd, rRow, rLeg, rMark, nat_cast, Int.reduceToNat, c3, c5, cmp_neg, cmp_pos]; with_reducible exact rfl))
          | with_reducible apply wp_bI
          | with_reducible apply wp_bV
          | with_reducible apply wp_bL
          | with_reducible apply wp_rI
          | with_reducible apply wp_rV
          | with_reducible apply wp_rL
          | (with_reducible apply wp_1; (first | omega | (simp (disch := omega) only [not_false_eq_true, not_true_eq_false, w32_id, tLt, fLt, tLe, fEq, itE, and_true, true_and, and_self, and_false, false_and, ↓reduceIte, nat_add, nat_mul3, nat_mul4, nat_mul6, nat_mul15, nat_mul60, nat_cast, nc1, Int.reduceToNat, upE, upN, fill_ne, fill_in, i0, c3, c5, cmp_neg, cmp_pos] <;> omega)))
          | (with_reducible apply wp_2; (first | omega | (simp (disch := omega) only [not_false_eq_true, not_true_eq_false, w32_id, tLt, fLt, tLe, fEq, itE, and_true, true_and, and_self, and_false, false_and, ↓reduceIte, nat_add, nat_mul3, nat_mul4, nat_mul6, nat_mul15, nat_mul60, nat_cast, nc1, Int.reduceToNat, upE, upN, fill_ne, fill_in, i0, c3, c5, cmp_neg, cmp_pos] <;> omega)))
          | (with_reducible apply wp_s; (first | (simp (disch := omega) only [not_false_eq_true, not_true_eq_false, w32_id, tLt, fLt, tLe, fEq, itE, and_true, true_and, and_self, and_false, false_and, ↓reduceIte, nat_add, nat_mul3, nat_mul4, nat_mul6, nat_mul15, nat_mul60, nat_cast, nc1, Int.reduceToNat, upE, upN, fill_ne, fill_in, i0, c3, c5, cmp_neg, cmp_pos]; with_reducible exact Iff.rfl) | with_reducible exact Iff.rfl); intro hc__; (try subst hc__); rotate_left; intro hc__; rotate_left)
          | (with_reducible apply wp_eq; (with_reducible apply cl_go; simp (disch := omega) only [not_false_eq_true, not_true_eq_false, w32_id, tLt, fLt, tLe, fEq, itE, and_true, true_and, and_self, and_false, false_and, ↓reduceIte, nat_add, nat_mul3, nat_mul4, nat_mul6, nat_mul15, nat_mul60, nat_cast, nc1, Int.reduceToNat, upE, upN, fill_ne, fill_in, i0, c3, c5, cmp_neg, cmp_pos]; with_reducible exact rfl))
          | (with_reducible refine wp_eq (c_Mo_copyLog (by omega) _ _ _ _ _ _) ?_; with_reducible refine wp_eq (b_Mo_copyLog_0 _ _ _ _ _ _ _) ?_)
          | (with_reducible refine wp_eq (c_Mo_isShip (by omega) _ _ _ _) ?_; with_reducible refine wp_eq (b_Mo_isShip_0 _ _ _ _ _) ?_)
          | (with_reducible refine wp_eq (c_Mo_isNation (by omega) _ _ _ _) ?_; with_reducible refine wp_eq (b_Mo_isNation_0 _ _ _ _ _) ?_)
          | (with_reducible refine wp_eq (c_Mo_isGood (by omega) _ _ _ _) ?_; with_reducible refine wp_eq (b_Mo_isGood_0 _ _ _ _ _) ?_)
          | (with_reducible refine wp_eq (c_Mo_isPort (by omega) _ _ _ _) ?_; with_reducible refine wp_eq (b_Mo_isPort_0 _ _ _ _ _) ?_)
          | (with_reducible refine wp_eq (c_Mo_areTwo (by omega) _ _ _ _ _) ?_; with_reducible refine wp_eq (b_Mo_areTwo_0 _ _ _ _ _ _) ?_)
          | (with_reducible refine wp_eq (c_Mo_gives (by omega) _ _ _ _) ?_; with_reducible refine wp_eq (b_Mo_gives_0 _ _ _ _ _) ?_)
          | (with_reducible refine wp_eq (c_Mo_refuse (by omega) _ _ _ _) ?_; with_reducible refine wp_eq (b_Mo_refuse_0 _ _ _ _ _) ?_)
          | (with_reducible refine wp_eq (c_Mo_orNone (by omega) _ _ _ _) ?_; with_reducible refine wp_eq (b_Mo_orNone_0 _ _ _ _ _) ?_)
          | (with_reducible refine wp_eq (c_Mo_orNothing (by omega) _ _ _ _) ?_; with_reducible refine wp_eq (b_Mo_orNothing_0 _ _ _ _ _) ?_)
          | (with_reducible refine wp_eq (c_Mo_is (by omega) _ _ _ _) ?_; with_reducible refine wp_eq (b_Mo_is_0 _ _ _ _ _) ?_)
          | (with_reducible refine wp_eq (c_Mo_isRule (by omega) _ _ _) ?_; with_reducible refine wp_eq (b_Mo_isRule_0 _ _ _ _) ?_)
          | (with_reducible refine wp_eq (c_Mo_isTons (by omega) _ _ _) ?_; with_reducible refine wp_eq (b_Mo_isTons_0 _ _ _ _) ?_)
          | (with_reducible refine wp_eq (c_Mo_isFrom (by omega) _ _ _ _ _) ?_; with_reducible refine wp_eq (b_Mo_isFrom_0 _ _ _ _ _ _) ?_)
          | (with_reducible refine wp_eq (c_Mo_isTray (by omega) _ _ _) ?_; with_reducible refine wp_eq (b_Mo_isTray_0 _ _ _ _) ?_)
          | (with_reducible apply wp_eq; (with_reducible apply lf_go; simp (disch := omega) only [not_false_eq_true, not_true_eq_false, w32_id, tLt, fLt, tLe, fEq, itE, and_true, true_and, and_self, and_false, false_and, ↓reduceIte, nat_add, nat_mul3, nat_mul4, nat_mul6, nat_mul15, nat_mul60, nat_cast, nc1, Int.reduceToNat, upE, upN, fill_ne, fill_in, i0, c3, c5, cmp_neg, cmp_pos]; with_reducible exact rfl))
          | with_reducible apply wp_q1
        refine wp_loop (α := Mm) (G := fun k a => Run (callD (100 - 1)) tb_Mo_copyLog 68 [vR 12 0 271, vI (s : Int), vI (t : Int), vI (n : Int), vI (k : Int)] [] (SH L) a) (I := fun k a => (∀ j, j < k → a 276 (60 * t + j) = cutF (M 274 t) (flIn A s j)) ∧ ∀ b j, b ≠ 280 → ¬(b = 276 ∧ 60 * t ≤ j ∧ j < 60 * t + k) → a b j = up M1 3 15 0 b j) n ?_ ?_ 0 (up M1 3 15 0) (by omega) ⟨fun _ hj => by omega, fun _ _ _ _ => rfl⟩
        · intro k M2 hk ⟨j1', j2⟩ ih
          have rm2 : RelM M2 A := ⟨fun q hq => by rw [j2 272 q (by omega) (by omega)]; exact rm1.1 q hq, h.inv⟩
          have ef := q_flagBy (L := L) (d := 100 - 1) (by omega) rm2 (s := (s : Int)) (days := (k : Int)) (by omega) (by omega) (by omega) (by omega)
          rw [show ((s : Int)).toNat = s from rfl] at ef
          have so : M2 274 t = M 274 t := by rw [j2 274 t (by omega) (by omega), upN (by omega), i2 274 t (by omega) (by omega) (by omega)]
          have nx : (∀ j, j < k + 1 → up (fillP M2 280 (lkF A (ldF A s) k) 8) 276 (60 * t + k) (cutF (M 274 t) (flIn A s k)) 276 (60 * t + j) = cutF (M 274 t) (flIn A s j)) ∧ ∀ b j, b ≠ 280 → ¬(b = 276 ∧ 60 * t ≤ j ∧ j < 60 * t + (k + 1)) → up (fillP M2 280 (lkF A (ldF A s) k) 8) 276 (60 * t + k) (cutF (M 274 t) (flIn A s k)) b j = up M1 3 15 0 b j := by
            refine ⟨fun j hj => ?_, fun b j q1 q2 => ?_⟩
            · by_cases e : j = k
              · subst e; exact upE rfl rfl
              · rw [upN (by omega), fill_ne (by omega)]; exact j1' j (by omega)
            · rw [upN (by omega), fill_ne (by omega)]; exact j2 b j q1 (by omega)
          refine wp_eq (b_Mo_copyLog_68 _ _ _ _ _ _ _ _) ?_
          repeat' first
            | (with_reducible apply wp_bR; (simp (disch := omega) only [rM L, rK L, rN L, rNf, rNv, rNp, rNd, rRow, rLeg, rMark, nat_cast, Int.reduceToNat, so]; with_reducible exact rfl))
            | with_reducible apply wp_bI
            | with_reducible apply wp_bV
            | with_reducible apply wp_bL
            | with_reducible apply wp_rI
            | with_reducible apply wp_rV
            | with_reducible apply wp_rL
            | (with_reducible apply wp_1; (first | omega | (simp (disch := omega) only [not_false_eq_true, not_true_eq_false, w32_id, tLt, fLt, tLe, fEq, itE, and_true, true_and, and_self, and_false, false_and, ↓reduceIte, nat_add, nat_mul3, nat_mul4, nat_mul6, nat_mul15, nat_mul60, nat_cast, nc1, Int.reduceToNat, upE, upN, fill_ne, fill_in, i0, so] <;> omega)))
            | (with_reducible apply wp_2; (first | omega | (simp (disch := omega) only [not_false_eq_true, not_true_eq_false, w32_id, tLt, fLt, tLe, fEq, itE, and_true, true_and, and_self, and_false, false_and, ↓reduceIte, nat_add, nat_mul3, nat_mul4, nat_mul6, nat_mul15, nat_mul60, nat_cast, nc1, Int.reduceToNat, upE, upN, fill_ne, fill_in, i0, so] <;> omega)))
            | (with_reducible apply wp_s; (first | (simp (disch := omega) only [not_false_eq_true, not_true_eq_false, w32_id, tLt, fLt, tLe, fEq, itE, and_true, true_and, and_self, and_false, false_and, ↓reduceIte, nat_add, nat_mul3, nat_mul4, nat_mul6, nat_mul15, nat_mul60, nat_cast, nc1, Int.reduceToNat, upE, upN, fill_ne, fill_in, i0, so]; with_reducible exact Iff.rfl) | with_reducible exact Iff.rfl); intro hc__; (try subst hc__); rotate_left; intro hc__; rotate_left)
            | (with_reducible apply wp_eq; (with_reducible apply cl_go; simp (disch := omega) only [not_false_eq_true, not_true_eq_false, w32_id, tLt, fLt, tLe, fEq, itE, and_true, true_and, and_self, and_false, false_and, ↓reduceIte, nat_add, nat_mul3, nat_mul4, nat_mul6, nat_mul15, nat_mul60, nat_cast, nc1, Int.reduceToNat, upE, upN, fill_ne, fill_in, i0, so]; with_reducible exact rfl))
            | with_reducible refine wp_eq (ef) ?_
            | with_reducible refine wp_eq ((n_cut (by omega)).2) ?_
            | (with_reducible apply wp_eq; (with_reducible apply lf_go; simp (disch := omega) only [not_false_eq_true, not_true_eq_false, w32_id, tLt, fLt, tLe, fEq, itE, and_true, true_and, and_self, and_false, false_and, ↓reduceIte, nat_add, nat_mul3, nat_mul4, nat_mul6, nat_mul15, nat_mul60, nat_cast, nc1, Int.reduceToNat, upE, upN, fill_ne, fill_in, i0, so]; with_reducible exact rfl))
            | with_reducible apply wp_q1
          all_goals (apply wp_nx ih; (first | with_reducible rfl | (simp (disch := omega) only [not_false_eq_true, not_true_eq_false, w32_id, tLt, fLt, tLe, fEq, itE, and_true, true_and, and_self, and_false, false_and, ↓reduceIte, nat_add, nat_mul3, nat_mul4, nat_mul6, nat_mul15, nat_mul60, nat_cast, nc1, Int.reduceToNat, upE, upN, fill_ne, fill_in, i0]; (try with_reducible rfl))); exact nx)
        · intro M2 ⟨j1', j2⟩
          refine wp_eq (b_Mo_copyLog_68 _ _ _ _ _ _ _ _) ?_
          repeat' first
            | (with_reducible apply wp_bR; (simp (disch := omega) only [rM L, rK L, rN L, rNf, rNv, rNp, rNd, rRow, rLeg, rMark, nat_cast, Int.reduceToNat]; with_reducible exact rfl))
            | with_reducible apply wp_bI
            | with_reducible apply wp_bV
            | with_reducible apply wp_bL
            | with_reducible apply wp_rI
            | with_reducible apply wp_rV
            | with_reducible apply wp_rL
            | (with_reducible apply wp_1; (first | omega | (simp (disch := omega) only [not_false_eq_true, not_true_eq_false, w32_id, tLt, fLt, tLe, fEq, itE, and_true, true_and, and_self, and_false, false_and, ↓reduceIte, nat_add, nat_mul3, nat_mul4, nat_mul6, nat_mul15, nat_mul60, nat_cast, nc1, Int.reduceToNat, upE, upN, fill_ne, fill_in, i0] <;> omega)))
            | (with_reducible apply wp_2; (first | omega | (simp (disch := omega) only [not_false_eq_true, not_true_eq_false, w32_id, tLt, fLt, tLe, fEq, itE, and_true, true_and, and_self, and_false, false_and, ↓reduceIte, nat_add, nat_mul3, nat_mul4, nat_mul6, nat_mul15, nat_mul60, nat_cast, nc1, Int.reduceToNat, upE, upN, fill_ne, fill_in, i0] <;> omega)))
            | (with_reducible apply wp_s; (first | (simp (disch := omega) only [not_false_eq_true, not_true_eq_false, w32_id, tLt, fLt, tLe, fEq, itE, and_true, true_and, and_self, and_false, false_and, ↓reduceIte, nat_add, nat_mul3, nat_mul4, nat_mul6, nat_mul15, nat_mul60, nat_cast, nc1, Int.reduceToNat, upE, upN, fill_ne, fill_in, i0]; with_reducible exact Iff.rfl) | with_reducible exact Iff.rfl); intro hc__; (try subst hc__); rotate_left; intro hc__; rotate_left)
            | (with_reducible apply wp_eq; (with_reducible apply cl_go; simp (disch := omega) only [not_false_eq_true, not_true_eq_false, w32_id, tLt, fLt, tLe, fEq, itE, and_true, true_and, and_self, and_false, false_and, ↓reduceIte, nat_add, nat_mul3, nat_mul4, nat_mul6, nat_mul15, nat_mul60, nat_cast, nc1, Int.reduceToNat, upE, upN, fill_ne, fill_in, i0]; with_reducible exact rfl))
            | (with_reducible refine wp_eq (c_Mo_isShip (by omega) _ _ _ _) ?_; with_reducible refine wp_eq (b_Mo_isShip_0 _ _ _ _ _) ?_)
            | (with_reducible refine wp_eq (c_Mo_isNation (by omega) _ _ _ _) ?_; with_reducible refine wp_eq (b_Mo_isNation_0 _ _ _ _ _) ?_)
            | (with_reducible refine wp_eq (c_Mo_isGood (by omega) _ _ _ _) ?_; with_reducible refine wp_eq (b_Mo_isGood_0 _ _ _ _ _) ?_)
            | (with_reducible refine wp_eq (c_Mo_isPort (by omega) _ _ _ _) ?_; with_reducible refine wp_eq (b_Mo_isPort_0 _ _ _ _ _) ?_)
            | (with_reducible refine wp_eq (c_Mo_areTwo (by omega) _ _ _ _ _) ?_; with_reducible refine wp_eq (b_Mo_areTwo_0 _ _ _ _ _ _) ?_)
            | (with_reducible refine wp_eq (c_Mo_gives (by omega) _ _ _ _) ?_; with_reducible refine wp_eq (b_Mo_gives_0 _ _ _ _ _) ?_)
            | (with_reducible refine wp_eq (c_Mo_refuse (by omega) _ _ _ _) ?_; with_reducible refine wp_eq (b_Mo_refuse_0 _ _ _ _ _) ?_)
            | (with_reducible refine wp_eq (c_Mo_orNone (by omega) _ _ _ _) ?_; with_reducible refine wp_eq (b_Mo_orNone_0 _ _ _ _ _) ?_)
            | (with_reducible refine wp_eq (c_Mo_orNothing (by omega) _ _ _ _) ?_; with_reducible refine wp_eq (b_Mo_orNothing_0 _ _ _ _ _) ?_)
            | (with_reducible refine wp_eq (c_Mo_is (by omega) _ _ _ _) ?_; with_reducible refine wp_eq (b_Mo_is_0 _ _ _ _ _) ?_)
            | (with_reducible refine wp_eq (c_Mo_isRule (by omega) _ _ _) ?_; with_reducible refine wp_eq (b_Mo_isRule_0 _ _ _ _) ?_)
            | (with_reducible refine wp_eq (c_Mo_isTons (by omega) _ _ _) ?_; with_reducible refine wp_eq (b_Mo_isTons_0 _ _ _ _) ?_)
            | (with_reducible refine wp_eq (c_Mo_isFrom (by omega) _ _ _ _ _) ?_; with_reducible refine wp_eq (b_Mo_isFrom_0 _ _ _ _ _ _) ?_)
            | (with_reducible refine wp_eq (c_Mo_isTray (by omega) _ _ _) ?_; with_reducible refine wp_eq (b_Mo_isTray_0 _ _ _ _) ?_)
            | (with_reducible apply wp_eq; (with_reducible apply lf_go; simp (disch := omega) only [not_false_eq_true, not_true_eq_false, w32_id, tLt, fLt, tLe, fEq, itE, and_true, true_and, and_self, and_false, false_and, ↓reduceIte, nat_add, nat_mul3, nat_mul4, nat_mul6, nat_mul15, nat_mul60, nat_cast, nc1, Int.reduceToNat, upE, upN, fill_ne, fill_in, i0]; with_reducible exact rfl))
            | with_reducible apply wp_q1
          have off : ∀ b j, b ≠ 280 → b ≠ 48 → b ≠ 114 → ¬(b = 276 ∧ 60 * t ≤ j ∧ j < 60 * t + n) → ¬(b = 6 + t ∧ j < n) → ¬(b = 3 ∧ j = 15) → ¬(b = 271 ∧ j = 2) → up M2 271 2 0 b j = M b j := fun b j q1 q2 q3 q4 q5 q6 q7 => by rw [upN (by omega), j2 b j q1 q4, upN (by omega)]; exact i2 b j q2 q3 q5
          refine wp_q2 (A := A) (N := N) (B := B) (P := P) ⟨?_, h.tr (fun b j hb hk => ?_) fun t' ht' => ?_⟩
          · rw [upN (by omega), upE rfl rfl, j2 3 15 (by omega) (by omega)]
            exact upE rfl rfl
          · unfold kTr at hk
            unfold core k1 kTr kTp kLv kLp kMk kNw at hb
            exact off b j (by omega) (by omega) (by omega) (by omega) (by omega) (by omega) (by omega)
          · obtain ⟨w1, w2, w3, w4, w5, w6, w7⟩ := h.tr2 (t := t') ht'
            rw [off 10 t' (by omega) (by omega) (by omega) (by omega) (by omega) (by omega) (by omega), off 274 t' (by omega) (by omega) (by omega) (by omega) (by omega) (by omega) (by omega), off 11 t' (by omega) (by omega) (by omega) (by omega) (by omega) (by omega) (by omega), off 275 t' (by omega) (by omega) (by omega) (by omega) (by omega) (by omega) (by omega)]
            refine ⟨w1, w2, w3, w4, w5, w6, fun k hk => ?_⟩
            by_cases q : t' = t ∧ k < n
            · obtain ⟨rfl, q1⟩ := q
              rw [upN (by omega), upN (by omega), j1' k q1, j2 (6 + t') k (by omega) (by omega), upN (by omega)]
              exact i1 k q1
            · rw [off (6 + t') k (by omega) (by omega) (by omega) (by omega) (by omega) (by omega) (by omega), off 276 _ (by omega) (by omega) (by omega) (by omega) (by omega) (by omega) (by omega)]
              exact w7 k hk
    · repeat' first
        | (with_reducible apply wp_bR; (simp (disch := omega) only [rM L, rK L, rN L, rNf, rNv, rNp, rNd, rRow, rLeg, rMark, nat_cast, Int.reduceToNat, hct, hA, t4, cmp_neg, cmp_pos]; with_reducible exact rfl))
        | with_reducible apply wp_bI
        | with_reducible apply wp_bV
        | with_reducible apply wp_bL
        | with_reducible apply wp_rI
        | with_reducible apply wp_rV
        | with_reducible apply wp_rL
        | (with_reducible apply wp_1; (first | omega | (simp (disch := omega) only [not_false_eq_true, not_true_eq_false, w32_id, tLt, fLt, tLe, fEq, itE, and_true, true_and, and_self, and_false, false_and, ↓reduceIte, nat_add, nat_mul3, nat_mul4, nat_mul6, nat_mul15, nat_mul60, nat_cast, nc1, Int.reduceToNat, upE, upN, fill_ne, fill_in, i0, hct, hA, t4, cmp_neg, cmp_pos] <;> omega)))
        | (with_reducible apply wp_2; (first | omega | (simp (disch := omega) only [not_false_eq_true, not_true_eq_false, w32_id, tLt, fLt, tLe, fEq, itE, and_true, true_and, and_self, and_false, false_and, ↓reduceIte, nat_add, nat_mul3, nat_mul4, nat_mul6, nat_mul15, nat_mul60, nat_cast, nc1, Int.reduceToNat, upE, upN, fill_ne, fill_in, i0, hct, hA, t4, cmp_neg, cmp_pos] <;> omega)))
        | (with_reducible apply wp_s; (first | (simp (disch := omega) only [not_false_eq_true, not_true_eq_false, w32_id, tLt, fLt, tLe, fEq, itE, and_true, true_and, and_self, and_false, false_and, ↓reduceIte, nat_add, nat_mul3, nat_mul4, nat_mul6, nat_mul15, nat_mul60, nat_cast, nc1, Int.reduceToNat, upE, upN, fill_ne, fill_in, i0, hct, hA, t4, cmp_neg, cmp_pos]; with_reducible exact Iff.rfl) | with_reducible exact Iff.rfl); intro hc__; (try subst hc__); rotate_left; intro hc__; rotate_left)
        | (with_reducible apply wp_eq; (with_reducible apply cl_go; simp (disch := omega) only [not_false_eq_true, not_true_eq_false, w32_id, tLt, fLt, tLe, fEq, itE, and_true, true_and, and_self, and_false, false_and, ↓reduceIte, nat_add, nat_mul3, nat_mul4, nat_mul6, nat_mul15, nat_mul60, nat_cast, nc1, Int.reduceToNat, upE, upN, fill_ne, fill_in, i0, hct, hA, t4, cmp_neg, cmp_pos]; with_reducible exact rfl))
        | (with_reducible refine wp_eq (c_Ca_copyLog (by omega) _ _ _ _ _ _) ?_; with_reducible refine wp_eq (b_Ca_copyLog_0 _ _ _ _ _ _ _) ?_)
        | (with_reducible refine wp_eq (c_Trays_isTray (by omega) _ _ _) ?_; with_reducible refine wp_eq (b_Trays_isTray_0 _ _ _ _) ?_)
        | (with_reducible refine wp_eq (c_Trays_troubleFirst (by omega) _ _ _ _ _) ?_; with_reducible refine wp_eq (b_Trays_troubleFirst_0 _ _ _ _ _ _) ?_)
        | (with_reducible refine wp_eq (c_Trays_troubleAt (by omega) _ _ _ _ _) ?_; with_reducible refine wp_eq (b_Trays_troubleAt_0 _ _ _ _ _ _) ?_)
        | (with_reducible refine wp_eq (c_Trays_isMissing (by omega) _ _ _ _) ?_; with_reducible refine wp_eq (b_Trays_isMissing_0 _ _ _ _ _) ?_)
        | (with_reducible refine wp_eq (c_Ca_within (by omega) _ _ _ _ _) ?_; with_reducible refine wp_eq (b_Ca_within_0 _ _ _ _ _ _) ?_)
        | (with_reducible refine wp_eq (c_Ca_isShip (by omega) _ _ _ _) ?_; with_reducible refine wp_eq (b_Ca_isShip_0 _ _ _ _ _) ?_)
        | (with_reducible refine wp_eq (c_Ca_isNation (by omega) _ _ _ _) ?_; with_reducible refine wp_eq (b_Ca_isNation_0 _ _ _ _ _) ?_)
        | (with_reducible refine wp_eq (c_Ca_isGood (by omega) _ _ _ _) ?_; with_reducible refine wp_eq (b_Ca_isGood_0 _ _ _ _ _) ?_)
        | (with_reducible refine wp_eq (c_Ca_isPort (by omega) _ _ _ _) ?_; with_reducible refine wp_eq (b_Ca_isPort_0 _ _ _ _ _) ?_)
        | (with_reducible refine wp_eq (c_Ca_areTwo (by omega) _ _ _ _ _ _) ?_; with_reducible refine wp_eq (b_Ca_areTwo_0 _ _ _ _ _ _ _) ?_)
        | (with_reducible refine wp_eq (c_Ca_answer (by omega) _ _ _ _) ?_; with_reducible refine wp_eq (b_Ca_answer_0 _ _ _ _ _) ?_)
        | (with_reducible refine wp_eq (c_Ca_refuse (by omega) _ _ _ _) ?_; with_reducible refine wp_eq (b_Ca_refuse_0 _ _ _ _ _) ?_)
        | (with_reducible refine wp_eq (c_Ca_answerOr (by omega) _ _ _ _ _) ?_; with_reducible refine wp_eq (b_Ca_answerOr_0 _ _ _ _ _ _) ?_)
        | (with_reducible refine wp_eq (c_Ca_agree (by omega) _ _ _) ?_; with_reducible refine wp_eq (b_Ca_agree_0 _ _ _ _) ?_)
        | (with_reducible refine wp_eq (c_Ca_deny (by omega) _ _ _ _) ?_; with_reducible refine wp_eq (b_Ca_deny_0 _ _ _ _ _) ?_)
        | (with_reducible refine wp_eq (c_Mo_copyLog (by omega) _ _ _ _ _ _) ?_; with_reducible refine wp_eq (b_Mo_copyLog_0 _ _ _ _ _ _ _) ?_)
        | (with_reducible refine wp_eq (c_Mo_isShip (by omega) _ _ _ _) ?_; with_reducible refine wp_eq (b_Mo_isShip_0 _ _ _ _ _) ?_)
        | (with_reducible refine wp_eq (c_Mo_isNation (by omega) _ _ _ _) ?_; with_reducible refine wp_eq (b_Mo_isNation_0 _ _ _ _ _) ?_)
        | (with_reducible refine wp_eq (c_Mo_isGood (by omega) _ _ _ _) ?_; with_reducible refine wp_eq (b_Mo_isGood_0 _ _ _ _ _) ?_)
        | (with_reducible refine wp_eq (c_Mo_isPort (by omega) _ _ _ _) ?_; with_reducible refine wp_eq (b_Mo_isPort_0 _ _ _ _ _) ?_)
        | (with_reducible refine wp_eq (c_Mo_areTwo (by omega) _ _ _ _ _) ?_; with_reducible refine wp_eq (b_Mo_areTwo_0 _ _ _ _ _ _) ?_)
        | (with_reducible refine wp_eq (c_Mo_gives (by omega) _ _ _ _) ?_; with_reducible refine wp_eq (b_Mo_gives_0 _ _ _ _ _) ?_)
        | (with_reducible refine wp_eq (c_Mo_refuse (by omega) _ _ _ _) ?_; with_reducible refine wp_eq (b_Mo_refuse_0 _ _ _ _ _) ?_)
        | (with_reducible refine wp_eq (c_Mo_orNone (by omega) _ _ _ _) ?_; with_reducible refine wp_eq (b_Mo_orNone_0 _ _ _ _ _) ?_)
        | (with_reducible refine wp_eq (c_Mo_orNothing (by omega) _ _ _ _) ?_; with_reducible refine wp_eq (b_Mo_orNothing_0 _ _ _ _ _) ?_)
        | (with_reducible refine wp_eq (c_Mo_is (by omega) _ _ _ _) ?_; with_reducible refine wp_eq (b_Mo_is_0 _ _ _ _ _) ?_)
        | (with_reducible refine wp_eq (c_Mo_isRule (by omega) _ _ _) ?_; with_reducible refine wp_eq (b_Mo_isRule_0 _ _ _ _) ?_)
        | (with_reducible refine wp_eq (c_Mo_isTons (by omega) _ _ _) ?_; with_reducible refine wp_eq (b_Mo_isTons_0 _ _ _ _) ?_)
        | (with_reducible refine wp_eq (c_Mo_isFrom (by omega) _ _ _ _ _) ?_; with_reducible refine wp_eq (b_Mo_isFrom_0 _ _ _ _ _ _) ?_)
        | (with_reducible refine wp_eq (c_Mo_isTray (by omega) _ _ _) ?_; with_reducible refine wp_eq (b_Mo_isTray_0 _ _ _ _) ?_)
        | (with_reducible apply wp_eq; (with_reducible apply lf_go; simp (disch := omega) only [not_false_eq_true, not_true_eq_false, w32_id, tLt, fLt, tLe, fEq, itE, and_true, true_and, and_self, and_false, false_and, ↓reduceIte, nat_add, nat_mul3, nat_mul4, nat_mul6, nat_mul15, nat_mul60, nat_cast, nc1, Int.reduceToNat, upE, upN, fill_ne, fill_in, i0, hct, hA, t4, cmp_neg, cmp_pos]; with_reducible exact rfl))
        | with_reducible apply wp_q1
      all_goals exact wp_ask (by first | rfl | exact congrArg (fun z => some (vI z)) (by omega) | simp (disch := omega) only [not_false_eq_true, not_true_eq_false, w32_id, tLt, fLt, tLe, fEq, itE, and_true, true_and, and_self, and_false, false_and, ↓reduceIte, nat_add, nat_mul3, nat_mul4, nat_mul6, nat_mul15, nat_mul60, nat_cast, nc1, Int.reduceToNat, upE, upN, fill_ne, fill_in, i0]) (by repeat' first | assumption | apply RelS.up | apply RelS.fill | (intros; unfold core k1 kTr kTp kLv kLp kMk kNw; omega)) (by first | assumption | simp (disch := omega) only [upE, upN, fill_ne])
  · repeat' first
      | (with_reducible apply wp_bR; (simp (disch := omega) only [rM L, rK L, rN L, rNf, rNv, rNp, rNd, rRow, rLeg, rMark, nat_cast, Int.reduceToNat, hct, hA, cmp_neg, cmp_pos]; with_reducible exact rfl))
      | with_reducible apply wp_bI
      | with_reducible apply wp_bV
      | with_reducible apply wp_bL
      | with_reducible apply wp_rI
      | with_reducible apply wp_rV
      | with_reducible apply wp_rL
      | (with_reducible apply wp_1; (first | omega | (simp (disch := omega) only [not_false_eq_true, not_true_eq_false, w32_id, tLt, fLt, tLe, fEq, itE, and_true, true_and, and_self, and_false, false_and, ↓reduceIte, nat_add, nat_mul3, nat_mul4, nat_mul6, nat_mul15, nat_mul60, nat_cast, nc1, Int.reduceToNat, upE, upN, fill_ne, fill_in, i0, hct, hA, cmp_neg, cmp_pos] <;> omega)))
      | (with_reducible apply wp_2; (first | omega | (simp (disch := omega) only [not_false_eq_true, not_true_eq_false, w32_id, tLt, fLt, tLe, fEq, itE, and_true, true_and, and_self, and_false, false_and, ↓reduceIte, nat_add, nat_mul3, nat_mul4, nat_mul6, nat_mul15, nat_mul60, nat_cast, nc1, Int.reduceToNat, upE, upN, fill_ne, fill_in, i0, hct, hA, cmp_neg, cmp_pos] <;> omega)))
      | (with_reducible apply wp_s; (first | (simp (disch := omega) only [not_false_eq_true, not_true_eq_false, w32_id, tLt, fLt, tLe, fEq, itE, and_true, true_and, and_self, and_false, false_and, ↓reduceIte, nat_add, nat_mul3, nat_mul4, nat_mul6, nat_mul15, nat_mul60, nat_cast, nc1, Int.reduceToNat, upE, upN, fill_ne, fill_in, i0, hct, hA, cmp_neg, cmp_pos]; with_reducible exact Iff.rfl) | with_reducible exact Iff.rfl); intro hc__; (try subst hc__); rotate_left; intro hc__; rotate_left)
      | (with_reducible apply wp_eq; (with_reducible apply cl_go; simp (disch := omega) only [not_false_eq_true, not_true_eq_false, w32_id, tLt, fLt, tLe, fEq, itE, and_true, true_and, and_self, and_false, false_and, ↓reduceIte, nat_add, nat_mul3, nat_mul4, nat_mul6, nat_mul15, nat_mul60, nat_cast, nc1, Int.reduceToNat, upE, upN, fill_ne, fill_in, i0, hct, hA, cmp_neg, cmp_pos]; with_reducible exact rfl))
      | (with_reducible refine wp_eq (c_Ca_copyLog (by omega) _ _ _ _ _ _) ?_; with_reducible refine wp_eq (b_Ca_copyLog_0 _ _ _ _ _ _ _) ?_)
      | (with_reducible refine wp_eq (c_Trays_isTray (by omega) _ _ _) ?_; with_reducible refine wp_eq (b_Trays_isTray_0 _ _ _ _) ?_)
      | (with_reducible refine wp_eq (c_Ca_within (by omega) _ _ _ _ _) ?_; with_reducible refine wp_eq (b_Ca_within_0 _ _ _ _ _ _) ?_)
      | (with_reducible refine wp_eq (c_Ca_isShip (by omega) _ _ _ _) ?_; with_reducible refine wp_eq (b_Ca_isShip_0 _ _ _ _ _) ?_)
      | (with_reducible refine wp_eq (c_Ca_isNation (by omega) _ _ _ _) ?_; with_reducible refine wp_eq (b_Ca_isNation_0 _ _ _ _ _) ?_)
      | (with_reducible refine wp_eq (c_Ca_isGood (by omega) _ _ _ _) ?_; with_reducible refine wp_eq (b_Ca_isGood_0 _ _ _ _ _) ?_)
      | (with_reducible refine wp_eq (c_Ca_isPort (by omega) _ _ _ _) ?_; with_reducible refine wp_eq (b_Ca_isPort_0 _ _ _ _ _) ?_)
      | (with_reducible refine wp_eq (c_Ca_areTwo (by omega) _ _ _ _ _ _) ?_; with_reducible refine wp_eq (b_Ca_areTwo_0 _ _ _ _ _ _ _) ?_)
      | (with_reducible refine wp_eq (c_Ca_answer (by omega) _ _ _ _) ?_; with_reducible refine wp_eq (b_Ca_answer_0 _ _ _ _ _) ?_)
      | (with_reducible refine wp_eq (c_Ca_refuse (by omega) _ _ _ _) ?_; with_reducible refine wp_eq (b_Ca_refuse_0 _ _ _ _ _) ?_)
      | (with_reducible refine wp_eq (c_Ca_answerOr (by omega) _ _ _ _ _) ?_; with_reducible refine wp_eq (b_Ca_answerOr_0 _ _ _ _ _ _) ?_)
      | (with_reducible refine wp_eq (c_Ca_agree (by omega) _ _ _) ?_; with_reducible refine wp_eq (b_Ca_agree_0 _ _ _ _) ?_)
      | (with_reducible refine wp_eq (c_Ca_deny (by omega) _ _ _ _) ?_; with_reducible refine wp_eq (b_Ca_deny_0 _ _ _ _ _) ?_)
      | (with_reducible refine wp_eq (c_Mo_copyLog (by omega) _ _ _ _ _ _) ?_; with_reducible refine wp_eq (b_Mo_copyLog_0 _ _ _ _ _ _ _) ?_)
      | (with_reducible refine wp_eq (c_Mo_isShip (by omega) _ _ _ _) ?_; with_reducible refine wp_eq (b_Mo_isShip_0 _ _ _ _ _) ?_)
      | (with_reducible refine wp_eq (c_Mo_isNation (by omega) _ _ _ _) ?_; with_reducible refine wp_eq (b_Mo_isNation_0 _ _ _ _ _) ?_)
      | (with_reducible refine wp_eq (c_Mo_isGood (by omega) _ _ _ _) ?_; with_reducible refine wp_eq (b_Mo_isGood_0 _ _ _ _ _) ?_)
      | (with_reducible refine wp_eq (c_Mo_isPort (by omega) _ _ _ _) ?_; with_reducible refine wp_eq (b_Mo_isPort_0 _ _ _ _ _) ?_)
      | (with_reducible refine wp_eq (c_Mo_areTwo (by omega) _ _ _ _ _) ?_; with_reducible refine wp_eq (b_Mo_areTwo_0 _ _ _ _ _ _) ?_)
      | (with_reducible refine wp_eq (c_Mo_gives (by omega) _ _ _ _) ?_; with_reducible refine wp_eq (b_Mo_gives_0 _ _ _ _ _) ?_)
      | (with_reducible refine wp_eq (c_Mo_refuse (by omega) _ _ _ _) ?_; with_reducible refine wp_eq (b_Mo_refuse_0 _ _ _ _ _) ?_)
      | (with_reducible refine wp_eq (c_Mo_orNone (by omega) _ _ _ _) ?_; with_reducible refine wp_eq (b_Mo_orNone_0 _ _ _ _ _) ?_)
      | (with_reducible refine wp_eq (c_Mo_orNothing (by omega) _ _ _ _) ?_; with_reducible refine wp_eq (b_Mo_orNothing_0 _ _ _ _ _) ?_)
      | (with_reducible refine wp_eq (c_Mo_is (by omega) _ _ _ _) ?_; with_reducible refine wp_eq (b_Mo_is_0 _ _ _ _ _) ?_)
      | (with_reducible refine wp_eq (c_Mo_isRule (by omega) _ _ _) ?_; with_reducible refine wp_eq (b_Mo_isRule_0 _ _ _ _) ?_)
      | (with_reducible refine wp_eq (c_Mo_isTons (by omega) _ _ _) ?_; with_reducible refine wp_eq (b_Mo_isTons_0 _ _ _ _) ?_)
      | (with_reducible refine wp_eq (c_Mo_isFrom (by omega) _ _ _ _ _) ?_; with_reducible refine wp_eq (b_Mo_isFrom_0 _ _ _ _ _ _) ?_)
      | (with_reducible refine wp_eq (c_Mo_isTray (by omega) _ _ _) ?_; with_reducible refine wp_eq (b_Mo_isTray_0 _ _ _ _) ?_)
      | (with_reducible apply wp_eq; (with_reducible apply lf_go; simp (disch := omega) only [not_false_eq_true, not_true_eq_false, w32_id, tLt, fLt, tLe, fEq, itE, and_true, true_and, and_self, and_false, false_and, ↓reduceIte, nat_add, nat_mul3, nat_mul4, nat_mul6, nat_mul15, nat_mul60, nat_cast, nc1, Int.reduceToNat, upE, upN, fill_ne, fill_in, i0, hct, hA, cmp_neg, cmp_pos]; with_reducible exact rfl))
      | with_reducible apply wp_q1
    all_goals exact wp_ask (by first | rfl | exact congrArg (fun z => some (vI z)) (by omega) | simp (disch := omega) only [not_false_eq_true, not_true_eq_false, w32_id, tLt, fLt, tLe, fEq, itE, and_true, true_and, and_self, and_false, false_and, ↓reduceIte, nat_add, nat_mul3, nat_mul4, nat_mul6, nat_mul15, nat_mul60, nat_cast, nc1, Int.reduceToNat, upE, upN, fill_ne, fill_in, i0]) (by repeat' first | assumption | apply RelS.up | apply RelS.fill | (intros; unfold core k1 kTr kTp kLv kLp kMk kNw; omega)) (by first | assumption | simp (disch := omega) only [upE, upN, fill_ne])

/-! a copy of a plan, a fleet, a state -/
def CpP (M M' : Mm) (c e : Nat) : Prop := (∀ o j, 1 ≤ o → o ≤ 5 → j < 60 → M' (c + o) j = M (e + o) j) ∧ M' c 5 = M e 5 ∧ M' c 6 = M e 6 ∧ M' c 7 = M e 7 ∧ ∀ b j, ¬(c ≤ b ∧ b ≤ c + 5) → M' b j = M b j
theorem isV_of {s k : Nat} (hs : isSt s) (hk : k < 4) : isV (s + 39 + 2 * k) := by
  unfold isSt at hs
  unfold isV
  omega
theorem isCh_of {s : Nat} (hs : isSt s) : isCh (s + 1) := by
  unfold isSt at hs
  unfold isCh
  omega
section
variable {M : Mm} {L d s e : Nat} {A N : Nat → Int}
theorem p_copy (hd : 1 ≤ d) (hs : isSt s) (he : isSt e) (hse : s + 47 ≤ e ∨ e + 47 ≤ s) (h7 : M (e + 33) 7 = 0 ∨ M (e + 33) 7 = 1) : Wp (callD d m_Plan_copyFrom [vR 3 0 (s + 33), vR 3 0 (e + 33)] (SH L) M) (fun r S M' => r = none ∧ S = SH L ∧ CpP M M' (s + 33) (e + 33)) := by
  rw [c_Plan_copyFrom hd, b_Plan_copyFrom_0]
  obtain ⟨_, _, _, r1, r2, r3, r4, r5⟩ := rS (L := L) hs
  obtain ⟨_, _, _, q1, q2, q3, q4, q5⟩ := rS (L := L) he
  simp only [r1, r2, r3, r4, r5, q1, q2, q3, q4, q5, bR_some]
  generalize hM2 : cpy (cpy (cpy (cpy (cpy M (e + 34) 0 (s + 34) 0 60) (e + 35) 0 (s + 35) 0 60) (e + 36) 0 (s + 36) 0 60) (e + 37) 0 (s + 37) 0 60) (e + 38) 0 (s + 38) 0 60 = M2
  have a1 : ∀ b j, ¬(s + 34 ≤ b ∧ b ≤ s + 38) → M2 b j = M b j := fun b j q => by
    rw [← hM2]
    simp (disch := omega) only [cpN]
  have a2 : ∀ o j, 1 ≤ o → o ≤ 5 → j < 60 → M2 (s + 33 + o) j = M (e + 33 + o) j := fun o j q1 q2 q3 => by
    have : o = 1 ∨ o = 2 ∨ o = 3 ∨ o = 4 ∨ o = 5 := by omega
    rw [← hM2]
    rcases this with rfl | rfl | rfl | rfl | rfl
    all_goals (simp (disch := omega) only [cpN, cpI, Nat.zero_add, Nat.sub_zero])
  have b5 := a1 (e + 33) 5 (by omega)
  have b6 := a1 (e + 33) 6 (by omega)
  have b7 := a1 (e + 33) 7 (by omega)
  simp (disch := omega) only [upN, b5, b6, b7]
  rw [if_pos h7]
  refine ⟨_, _, _, rfl, rfl, rfl, fun o j o1 o2 o3 => ?_, ?_, ?_, ?_, fun b j q => ?_⟩
  · simp (disch := omega) only [upN]
    exact a2 o j o1 o2 o3
  · simp (disch := omega) only [upN, upE]
  · simp (disch := omega) only [upN, upE]
  · simp (disch := omega) only [upN, upE]
  · simp (disch := omega) only [upN]
    exact a1 b j (by omega)
theorem f_copy (hd : 2 ≤ d) (hs : isSt s) (he : isSt e) (hse : s + 47 ≤ e ∨ e + 47 ≤ s) (h3 : M (e + 2) 3 = A 3) (hA3 : 0 ≤ A 3 ∧ A 3 ≤ 4) (hS : Sps M e A) : Wp (callD d m_State_copyFleet [vR 5 0 s, vR 5 0 e] (SH L) M) (fun r S M' => r = none ∧ S = SH L ∧ Sps M' s A ∧ M' s 3 = M e 3 ∧ ∀ b j, ¬(s + 39 ≤ b ∧ b ≤ s + 46) → ¬(b = s ∧ j = 3) → M' b j = M b j) := by
  obtain ⟨n, hn⟩ := Int.eq_ofNat_of_zero_le hA3.1
  have rs := rS (L := L) hs
  have re := rS (L := L) he
  have rc := rC (L := L) (isCh_of he)
  repeat' first
    | (with_reducible apply wp_bR; (simp (disch := omega) only [rM L, rK L, rN L, rNf, rNv, rNp, rNd, rRow, rLeg, rMark, nat_cast, Int.reduceToNat]; with_reducible exact rfl))
    | with_reducible apply wp_bI
    | with_reducible apply wp_bV
    | with_reducible apply wp_bL
    | with_reducible apply wp_rI
    | with_reducible apply wp_rV
    | with_reducible apply wp_rL
    | (with_reducible apply wp_1; (first | omega | (simp (disch := omega) only [not_false_eq_true, not_true_eq_false, w32_id, tLt, fLt, tLe, fEq, itE, and_true, true_and, and_self, and_false, false_and, ↓reduceIte, nat_add, nat_mul3, nat_mul4, nat_mul6, nat_mul15, nat_mul60, nat_cast, nc1, Int.reduceToNat, upE, upN, fill_ne, fill_in, i0] <;> omega)))
    | (with_reducible apply wp_2; (first | omega | (simp (disch := omega) only [not_false_eq_true, not_true_eq_false, w32_id, tLt, fLt, tLe, fEq, itE, and_true, true_and, and_self, and_false, false_and, ↓reduceIte, nat_add, nat_mul3, nat_mul4, nat_mul6, nat_mul15, nat_mul60, nat_cast, nc1, Int.reduceToNat, upE, upN, fill_ne, fill_in, i0] <;> omega)))
    | (with_reducible apply wp_s; (first | (simp (disch := omega) only [not_false_eq_true, not_true_eq_false, w32_id, tLt, fLt, tLe, fEq, itE, and_true, true_and, and_self, and_false, false_and, ↓reduceIte, nat_add, nat_mul3, nat_mul4, nat_mul6, nat_mul15, nat_mul60, nat_cast, nc1, Int.reduceToNat, upE, upN, fill_ne, fill_in, i0]; with_reducible exact Iff.rfl) | with_reducible exact Iff.rfl); intro hc__; (try subst hc__); rotate_left; intro hc__; rotate_left)
    | (with_reducible apply wp_eq; (with_reducible apply cl_go; simp (disch := omega) only [not_false_eq_true, not_true_eq_false, w32_id, tLt, fLt, tLe, fEq, itE, and_true, true_and, and_self, and_false, false_and, ↓reduceIte, nat_add, nat_mul3, nat_mul4, nat_mul6, nat_mul15, nat_mul60, nat_cast, nc1, Int.reduceToNat, upE, upN, fill_ne, fill_in, i0]; with_reducible exact rfl))
    | (with_reducible refine wp_eq (c_State_copyFleet (by omega) _ _ _ _) ?_; with_reducible refine wp_eq (b_State_copyFleet_0 _ _ _ _ _) ?_)
    | (with_reducible apply wp_eq; (with_reducible apply lf_go; simp (disch := omega) only [not_false_eq_true, not_true_eq_false, w32_id, tLt, fLt, tLe, fEq, itE, and_true, true_and, and_self, and_false, false_and, ↓reduceIte, nat_add, nat_mul3, nat_mul4, nat_mul6, nat_mul15, nat_mul60, nat_cast, nc1, Int.reduceToNat, upE, upN, fill_ne, fill_in, i0]; with_reducible exact rfl))
    | with_reducible apply wp_q1
  refine wp_loop (α := Mm) (G := fun k a => Run (callD (d - 1)) tb_State_copyFleet 2 [vR 5 0 s, vR 5 0 e, vI (k : Int)] [] (SH L) a) (I := fun k a => (∀ i, i < k → VsW a (s + 39 + 2 * i) (shp A i)) ∧ ∀ b j, ¬(s + 39 ≤ b ∧ b ≤ s + 46) → a b j = M b j) n ?_ ?_ 0 _ (by omega) ⟨fun i hi => by omega, fun b j _ => rfl⟩
  · intro k M1 hk ⟨i1, i2⟩ ih
    have f1 := rF (L := L) hs (k := k) (by omega)
    have f2 := rF (L := L) he (k := k) (by omega)
    have b3 : M1 (e + 1 + 1) 3 = A 3 := by rw [i2 _ _ (by omega)]; exact h3
    have hW : VsW M1 (e + 39 + 2 * k) (shp A k) := by
      obtain ⟨u1, u2⟩ := hS k (by omega)
      refine ⟨fun w hw => by rw [i2 _ _ (by omega)]; exact u1 w hw, fun g hg => ?_⟩
      rw [i2 _ _ (by omega), show e + 39 + 2 * k + 1 = e + 40 + 2 * k by omega, u2 g hg]
      show _ = A _
      congr 1
      omega
    refine wp_eq (b_State_copyFleet_2 _ _ _ _ _ _) ?_
    repeat' first
      | (with_reducible apply wp_bR; (simp (disch := omega) only [rM L, rK L, rN L, rNf, rNv, rNp, rNd, rRow, rLeg, rMark, nat_cast, Int.reduceToNat, rs, re, rc, b3, f1, f2]; with_reducible exact rfl))
      | with_reducible apply wp_bI
      | with_reducible apply wp_bV
      | with_reducible apply wp_bL
      | with_reducible apply wp_rI
      | with_reducible apply wp_rV
      | with_reducible apply wp_rL
      | (with_reducible apply wp_1; (first | omega | (simp (disch := omega) only [not_false_eq_true, not_true_eq_false, w32_id, tLt, fLt, tLe, fEq, itE, and_true, true_and, and_self, and_false, false_and, ↓reduceIte, nat_add, nat_mul3, nat_mul4, nat_mul6, nat_mul15, nat_mul60, nat_cast, nc1, Int.reduceToNat, upE, upN, fill_ne, fill_in, i0, rs, re, rc, b3, f1, f2] <;> omega)))
      | (with_reducible apply wp_2; (first | omega | (simp (disch := omega) only [not_false_eq_true, not_true_eq_false, w32_id, tLt, fLt, tLe, fEq, itE, and_true, true_and, and_self, and_false, false_and, ↓reduceIte, nat_add, nat_mul3, nat_mul4, nat_mul6, nat_mul15, nat_mul60, nat_cast, nc1, Int.reduceToNat, upE, upN, fill_ne, fill_in, i0, rs, re, rc, b3, f1, f2] <;> omega)))
      | (with_reducible apply wp_s; (first | (simp (disch := omega) only [not_false_eq_true, not_true_eq_false, w32_id, tLt, fLt, tLe, fEq, itE, and_true, true_and, and_self, and_false, false_and, ↓reduceIte, nat_add, nat_mul3, nat_mul4, nat_mul6, nat_mul15, nat_mul60, nat_cast, nc1, Int.reduceToNat, upE, upN, fill_ne, fill_in, i0, rs, re, rc, b3, f1, f2]; with_reducible exact Iff.rfl) | with_reducible exact Iff.rfl); intro hc__; (try subst hc__); rotate_left; intro hc__; rotate_left)
      | (with_reducible apply wp_eq; (with_reducible apply cl_go; simp (disch := omega) only [not_false_eq_true, not_true_eq_false, w32_id, tLt, fLt, tLe, fEq, itE, and_true, true_and, and_self, and_false, false_and, ↓reduceIte, nat_add, nat_mul3, nat_mul4, nat_mul6, nat_mul15, nat_mul60, nat_cast, nc1, Int.reduceToNat, upE, upN, fill_ne, fill_in, i0, rs, re, rc, b3, f1, f2]; with_reducible exact rfl))
      | (with_reducible apply wp_eq; (with_reducible apply lf_go; simp (disch := omega) only [not_false_eq_true, not_true_eq_false, w32_id, tLt, fLt, tLe, fEq, itE, and_true, true_and, and_self, and_false, false_and, ↓reduceIte, nat_add, nat_mul3, nat_mul4, nat_mul6, nat_mul15, nat_mul60, nat_cast, nc1, Int.reduceToNat, upE, upN, fill_ne, fill_in, i0, rs, re, rc, b3, f1, f2]; with_reducible exact rfl))
      | with_reducible apply wp_q1
    refine wp_qv (v_copy (c := s + 10 + 2 * k) (by omega) (isV_of hs (by omega)) (isV_of he (by omega)) (by omega) hW) fun M2 g1 g2 => ?_
    have g3 : ∀ b j, b ≠ s + 39 + 2 * k → b ≠ s + 39 + 2 * k + 1 → M2 b j = M1 b j := fun b j q1 q2 => g2 b j q1 q2 (by omega)
    have nx : (∀ i, i < k + 1 → VsW M2 (s + 39 + 2 * i) (shp A i)) ∧ ∀ b j, ¬(s + 39 ≤ b ∧ b ≤ s + 46) → M2 b j = M b j := by
      refine ⟨fun i hi => ?_, fun b j q => by rw [g3 _ _ (by omega) (by omega)]; exact i2 b j q⟩
      by_cases q : i = k
      · subst q; exact g1
      · obtain ⟨v1, v2⟩ := i1 i (by omega)
        exact ⟨fun w hw => by rw [g3 _ _ (by omega) (by omega)]; exact v1 w hw, fun g hg => by rw [g3 _ _ (by omega) (by omega)]; exact v2 g hg⟩
    repeat' first
      | (with_reducible apply wp_bR; (simp (disch := omega) only [rM L, rK L, rN L, rNf, rNv, rNp, rNd, rRow, rLeg, rMark, nat_cast, Int.reduceToNat]; with_reducible exact rfl))
      | with_reducible apply wp_bI
      | with_reducible apply wp_bV
      | with_reducible apply wp_bL
      | with_reducible apply wp_rI
      | with_reducible apply wp_rV
      | with_reducible apply wp_rL
      | (with_reducible apply wp_1; (first | omega | (simp (disch := omega) only [not_false_eq_true, not_true_eq_false, w32_id, tLt, fLt, tLe, fEq, itE, and_true, true_and, and_self, and_false, false_and, ↓reduceIte, nat_add, nat_mul3, nat_mul4, nat_mul6, nat_mul15, nat_mul60, nat_cast, nc1, Int.reduceToNat, upE, upN, fill_ne, fill_in, i0] <;> omega)))
      | (with_reducible apply wp_2; (first | omega | (simp (disch := omega) only [not_false_eq_true, not_true_eq_false, w32_id, tLt, fLt, tLe, fEq, itE, and_true, true_and, and_self, and_false, false_and, ↓reduceIte, nat_add, nat_mul3, nat_mul4, nat_mul6, nat_mul15, nat_mul60, nat_cast, nc1, Int.reduceToNat, upE, upN, fill_ne, fill_in, i0] <;> omega)))
      | (with_reducible apply wp_s; (first | (simp (disch := omega) only [not_false_eq_true, not_true_eq_false, w32_id, tLt, fLt, tLe, fEq, itE, and_true, true_and, and_self, and_false, false_and, ↓reduceIte, nat_add, nat_mul3, nat_mul4, nat_mul6, nat_mul15, nat_mul60, nat_cast, nc1, Int.reduceToNat, upE, upN, fill_ne, fill_in, i0]; with_reducible exact Iff.rfl) | with_reducible exact Iff.rfl); intro hc__; (try subst hc__); rotate_left; intro hc__; rotate_left)
      | (with_reducible apply wp_eq; (with_reducible apply cl_go; simp (disch := omega) only [not_false_eq_true, not_true_eq_false, w32_id, tLt, fLt, tLe, fEq, itE, and_true, true_and, and_self, and_false, false_and, ↓reduceIte, nat_add, nat_mul3, nat_mul4, nat_mul6, nat_mul15, nat_mul60, nat_cast, nc1, Int.reduceToNat, upE, upN, fill_ne, fill_in, i0]; with_reducible exact rfl))
      | (with_reducible apply wp_eq; (with_reducible apply lf_go; simp (disch := omega) only [not_false_eq_true, not_true_eq_false, w32_id, tLt, fLt, tLe, fEq, itE, and_true, true_and, and_self, and_false, false_and, ↓reduceIte, nat_add, nat_mul3, nat_mul4, nat_mul6, nat_mul15, nat_mul60, nat_cast, nc1, Int.reduceToNat, upE, upN, fill_ne, fill_in, i0]; with_reducible exact rfl))
      | with_reducible apply wp_q1
    all_goals (apply wp_nx ih; (first | with_reducible rfl | (simp (disch := omega) only [not_false_eq_true, not_true_eq_false, w32_id, tLt, fLt, tLe, fEq, itE, and_true, true_and, and_self, and_false, false_and, ↓reduceIte, nat_add, nat_mul3, nat_mul4, nat_mul6, nat_mul15, nat_mul60, nat_cast, nc1, Int.reduceToNat, upE, upN, fill_ne, fill_in, i0]; (try with_reducible rfl))); exact nx)
  · intro M1 ⟨i1, i2⟩
    have b3 : M1 (e + 1 + 1) 3 = A 3 := by rw [i2 _ _ (by omega)]; exact h3
    refine wp_eq (b_State_copyFleet_2 _ _ _ _ _ _) ?_
    repeat' first
      | (with_reducible apply wp_bR; (simp (disch := omega) only [rM L, rK L, rN L, rNf, rNv, rNp, rNd, rRow, rLeg, rMark, nat_cast, Int.reduceToNat, rs, re, rc, b3]; with_reducible exact rfl))
      | with_reducible apply wp_bI
      | with_reducible apply wp_bV
      | with_reducible apply wp_bL
      | with_reducible apply wp_rI
      | with_reducible apply wp_rV
      | with_reducible apply wp_rL
      | (with_reducible apply wp_1; (first | omega | (simp (disch := omega) only [not_false_eq_true, not_true_eq_false, w32_id, tLt, fLt, tLe, fEq, itE, and_true, true_and, and_self, and_false, false_and, ↓reduceIte, nat_add, nat_mul3, nat_mul4, nat_mul6, nat_mul15, nat_mul60, nat_cast, nc1, Int.reduceToNat, upE, upN, fill_ne, fill_in, i0, rs, re, rc, b3] <;> omega)))
      | (with_reducible apply wp_2; (first | omega | (simp (disch := omega) only [not_false_eq_true, not_true_eq_false, w32_id, tLt, fLt, tLe, fEq, itE, and_true, true_and, and_self, and_false, false_and, ↓reduceIte, nat_add, nat_mul3, nat_mul4, nat_mul6, nat_mul15, nat_mul60, nat_cast, nc1, Int.reduceToNat, upE, upN, fill_ne, fill_in, i0, rs, re, rc, b3] <;> omega)))
      | (with_reducible apply wp_s; (first | (simp (disch := omega) only [not_false_eq_true, not_true_eq_false, w32_id, tLt, fLt, tLe, fEq, itE, and_true, true_and, and_self, and_false, false_and, ↓reduceIte, nat_add, nat_mul3, nat_mul4, nat_mul6, nat_mul15, nat_mul60, nat_cast, nc1, Int.reduceToNat, upE, upN, fill_ne, fill_in, i0, rs, re, rc, b3]; with_reducible exact Iff.rfl) | with_reducible exact Iff.rfl); intro hc__; (try subst hc__); rotate_left; intro hc__; rotate_left)
      | (with_reducible apply wp_eq; (with_reducible apply cl_go; simp (disch := omega) only [not_false_eq_true, not_true_eq_false, w32_id, tLt, fLt, tLe, fEq, itE, and_true, true_and, and_self, and_false, false_and, ↓reduceIte, nat_add, nat_mul3, nat_mul4, nat_mul6, nat_mul15, nat_mul60, nat_cast, nc1, Int.reduceToNat, upE, upN, fill_ne, fill_in, i0, rs, re, rc, b3]; with_reducible exact rfl))
      | (with_reducible apply wp_eq; (with_reducible apply lf_go; simp (disch := omega) only [not_false_eq_true, not_true_eq_false, w32_id, tLt, fLt, tLe, fEq, itE, and_true, true_and, and_self, and_false, false_and, ↓reduceIte, nat_add, nat_mul3, nat_mul4, nat_mul6, nat_mul15, nat_mul60, nat_cast, nc1, Int.reduceToNat, upE, upN, fill_ne, fill_in, i0, rs, re, rc, b3]; with_reducible exact rfl))
      | with_reducible apply wp_q1
    refine wp_ret ⟨rfl, rfl, fun i hi => ?_, ?_, fun b j q1 q2 => ?_⟩
    · obtain ⟨v1, v2⟩ := i1 i (by omega)
      refine ⟨fun w hw => by rw [upN (by omega)]; exact v1 w hw, fun g hg => ?_⟩
      rw [upN (by omega), show s + 40 + 2 * i = s + 39 + 2 * i + 1 by omega, v2 g hg]
      show A _ = _
      congr 1
      omega
    · rw [upE rfl rfl, i2 _ _ (by omega)]
    · rw [upN (by omega)]; exact i2 b j q1
theorem s_copy (hd : 3 ≤ d) (hs : isSt s) (he : isSt e) (hse : s + 47 ≤ e ∨ e + 47 ≤ s) (hW : World M e A N) : Wp (callD d m_State_copyFrom [vR 5 0 s, vR 5 0 e] (SH L) M) (fun r S M' => r = none ∧ S = SH L ∧ World M' s A N ∧ ∀ b j, ¬(s ≤ b ∧ b ≤ s + 46) → M' b j = M b j) := by
  have rs := rS (L := L) hs
  have re := rS (L := L) he
  obtain ⟨⟨h1, h2, h3, h4, h5, h6, h7⟩, hdt, hsp, hp, ⟨n1, n2, n3, n4⟩, hI⟩ := hW
  have hC := hI.1
  unfold Cn at hC
  repeat' first
    | (with_reducible apply wp_bR; (simp (disch := omega) only [rM L, rK L, rN L, rNf, rNv, rNp, rNd, rRow, rLeg, rMark, nat_cast, Int.reduceToNat, rs, re]; with_reducible exact rfl))
    | with_reducible apply wp_bI
    | with_reducible apply wp_bV
    | with_reducible apply wp_bL
    | with_reducible apply wp_rI
    | with_reducible apply wp_rV
    | with_reducible apply wp_rL
    | (with_reducible apply wp_1; (first | omega | (simp (disch := omega) only [not_false_eq_true, not_true_eq_false, w32_id, tLt, fLt, tLe, fEq, itE, and_true, true_and, and_self, and_false, false_and, ↓reduceIte, nat_add, nat_mul3, nat_mul4, nat_mul6, nat_mul15, nat_mul60, nat_cast, nc1, Int.reduceToNat, upE, upN, fill_ne, fill_in, i0, rs, re] <;> omega)))
    | (with_reducible apply wp_2; (first | omega | (simp (disch := omega) only [not_false_eq_true, not_true_eq_false, w32_id, tLt, fLt, tLe, fEq, itE, and_true, true_and, and_self, and_false, false_and, ↓reduceIte, nat_add, nat_mul3, nat_mul4, nat_mul6, nat_mul15, nat_mul60, nat_cast, nc1, Int.reduceToNat, upE, upN, fill_ne, fill_in, i0, rs, re] <;> omega)))
    | (with_reducible apply wp_s; (first | (simp (disch := omega) only [not_false_eq_true, not_true_eq_false, w32_id, tLt, fLt, tLe, fEq, itE, and_true, true_and, and_self, and_false, false_and, ↓reduceIte, nat_add, nat_mul3, nat_mul4, nat_mul6, nat_mul15, nat_mul60, nat_cast, nc1, Int.reduceToNat, upE, upN, fill_ne, fill_in, i0, rs, re]; with_reducible exact Iff.rfl) | with_reducible exact Iff.rfl); intro hc__; (try subst hc__); rotate_left; intro hc__; rotate_left)
    | (with_reducible apply wp_eq; (with_reducible apply cl_go; simp (disch := omega) only [not_false_eq_true, not_true_eq_false, w32_id, tLt, fLt, tLe, fEq, itE, and_true, true_and, and_self, and_false, false_and, ↓reduceIte, nat_add, nat_mul3, nat_mul4, nat_mul6, nat_mul15, nat_mul60, nat_cast, nc1, Int.reduceToNat, upE, upN, fill_ne, fill_in, i0, rs, re]; with_reducible exact rfl))
    | (with_reducible refine wp_eq (c_State_copyFrom (by omega) _ _ _ _) ?_; with_reducible refine wp_eq (b_State_copyFrom_0 _ _ _ _ _) ?_)
    | (with_reducible apply wp_eq; (with_reducible apply lf_go; simp (disch := omega) only [not_false_eq_true, not_true_eq_false, w32_id, tLt, fLt, tLe, fEq, itE, and_true, true_and, and_self, and_false, false_and, ↓reduceIte, nat_add, nat_mul3, nat_mul4, nat_mul6, nat_mul15, nat_mul60, nat_cast, nc1, Int.reduceToNat, upE, upN, fill_ne, fill_in, i0, rs, re]; with_reducible exact rfl))
    | with_reducible apply wp_q1
  refine wp_mono (c_copy (by omega) (isCh_of hs) (isCh_of he) (by omega)) ?_
  rintro r S M1 ⟨rfl, rfl, c1, c2, c3, c4, c5, c6, c7, c8, c9⟩
  refine ⟨rfl, ?_⟩
  have h7' : M1 (e + 33) 7 = 0 ∨ M1 (e + 33) 7 = 1 := by
    rw [c9 _ _ (by omega)]
    rcases hp with hp | hp
    · exact Or.inl hp.1
    · exact Or.inr hp.1
  repeat' first
    | (with_reducible apply wp_bR; (simp (disch := omega) only [rM L, rK L, rN L, rNf, rNv, rNp, rNd, rRow, rLeg, rMark, nat_cast, Int.reduceToNat, rs, re]; with_reducible exact rfl))
    | with_reducible apply wp_bI
    | with_reducible apply wp_bV
    | with_reducible apply wp_bL
    | with_reducible apply wp_rI
    | with_reducible apply wp_rV
    | with_reducible apply wp_rL
    | (with_reducible apply wp_1; (first | omega | (simp (disch := omega) only [not_false_eq_true, not_true_eq_false, w32_id, tLt, fLt, tLe, fEq, itE, and_true, true_and, and_self, and_false, false_and, ↓reduceIte, nat_add, nat_mul3, nat_mul4, nat_mul6, nat_mul15, nat_mul60, nat_cast, nc1, Int.reduceToNat, upE, upN, fill_ne, fill_in, i0, rs, re] <;> omega)))
    | (with_reducible apply wp_2; (first | omega | (simp (disch := omega) only [not_false_eq_true, not_true_eq_false, w32_id, tLt, fLt, tLe, fEq, itE, and_true, true_and, and_self, and_false, false_and, ↓reduceIte, nat_add, nat_mul3, nat_mul4, nat_mul6, nat_mul15, nat_mul60, nat_cast, nc1, Int.reduceToNat, upE, upN, fill_ne, fill_in, i0, rs, re] <;> omega)))
    | (with_reducible apply wp_s; (first | (simp (disch := omega) only [not_false_eq_true, not_true_eq_false, w32_id, tLt, fLt, tLe, fEq, itE, and_true, true_and, and_self, and_false, false_and, ↓reduceIte, nat_add, nat_mul3, nat_mul4, nat_mul6, nat_mul15, nat_mul60, nat_cast, nc1, Int.reduceToNat, upE, upN, fill_ne, fill_in, i0, rs, re]; with_reducible exact Iff.rfl) | with_reducible exact Iff.rfl); intro hc__; (try subst hc__); rotate_left; intro hc__; rotate_left)
    | (with_reducible apply wp_eq; (with_reducible apply cl_go; simp (disch := omega) only [not_false_eq_true, not_true_eq_false, w32_id, tLt, fLt, tLe, fEq, itE, and_true, true_and, and_self, and_false, false_and, ↓reduceIte, nat_add, nat_mul3, nat_mul4, nat_mul6, nat_mul15, nat_mul60, nat_cast, nc1, Int.reduceToNat, upE, upN, fill_ne, fill_in, i0, rs, re]; with_reducible exact rfl))
    | (with_reducible apply wp_eq; (with_reducible apply lf_go; simp (disch := omega) only [not_false_eq_true, not_true_eq_false, w32_id, tLt, fLt, tLe, fEq, itE, and_true, true_and, and_self, and_false, false_and, ↓reduceIte, nat_add, nat_mul3, nat_mul4, nat_mul6, nat_mul15, nat_mul60, nat_cast, nc1, Int.reduceToNat, upE, upN, fill_ne, fill_in, i0, rs, re]; with_reducible exact rfl))
    | with_reducible apply wp_q1
  refine wp_mono (p_copy (by omega) hs he (by omega) h7') ?_
  rintro r S M2 ⟨rfl, rfl, p1, p2, p3, p4, p5⟩
  refine ⟨rfl, ?_⟩
  have e3 : M2 (e + 2) 3 = A 3 := by
    rw [p5 _ _ (by omega), c9 _ _ (by omega)]
    exact h1 3 (by omega)
  have hsp' : Sps M2 e A := fun i hi => by
    obtain ⟨u1, u2⟩ := hsp i hi
    exact ⟨fun w hw => by rw [p5 _ _ (by omega), c9 _ _ (by omega)]; exact u1 w hw, fun g hg => by rw [p5 _ _ (by omega), c9 _ _ (by omega)]; exact u2 g hg⟩
  repeat' first
    | (with_reducible apply wp_bR; (simp (disch := omega) only [rM L, rK L, rN L, rNf, rNv, rNp, rNd, rRow, rLeg, rMark, nat_cast, Int.reduceToNat]; with_reducible exact rfl))
    | with_reducible apply wp_bI
    | with_reducible apply wp_bV
    | with_reducible apply wp_bL
    | with_reducible apply wp_rI
    | with_reducible apply wp_rV
    | with_reducible apply wp_rL
    | (with_reducible apply wp_1; (first | omega | (simp (disch := omega) only [not_false_eq_true, not_true_eq_false, w32_id, tLt, fLt, tLe, fEq, itE, and_true, true_and, and_self, and_false, false_and, ↓reduceIte, nat_add, nat_mul3, nat_mul4, nat_mul6, nat_mul15, nat_mul60, nat_cast, nc1, Int.reduceToNat, upE, upN, fill_ne, fill_in, i0] <;> omega)))
    | (with_reducible apply wp_2; (first | omega | (simp (disch := omega) only [not_false_eq_true, not_true_eq_false, w32_id, tLt, fLt, tLe, fEq, itE, and_true, true_and, and_self, and_false, false_and, ↓reduceIte, nat_add, nat_mul3, nat_mul4, nat_mul6, nat_mul15, nat_mul60, nat_cast, nc1, Int.reduceToNat, upE, upN, fill_ne, fill_in, i0] <;> omega)))
    | (with_reducible apply wp_s; (first | (simp (disch := omega) only [not_false_eq_true, not_true_eq_false, w32_id, tLt, fLt, tLe, fEq, itE, and_true, true_and, and_self, and_false, false_and, ↓reduceIte, nat_add, nat_mul3, nat_mul4, nat_mul6, nat_mul15, nat_mul60, nat_cast, nc1, Int.reduceToNat, upE, upN, fill_ne, fill_in, i0]; with_reducible exact Iff.rfl) | with_reducible exact Iff.rfl); intro hc__; (try subst hc__); rotate_left; intro hc__; rotate_left)
    | (with_reducible apply wp_eq; (with_reducible apply cl_go; simp (disch := omega) only [not_false_eq_true, not_true_eq_false, w32_id, tLt, fLt, tLe, fEq, itE, and_true, true_and, and_self, and_false, false_and, ↓reduceIte, nat_add, nat_mul3, nat_mul4, nat_mul6, nat_mul15, nat_mul60, nat_cast, nc1, Int.reduceToNat, upE, upN, fill_ne, fill_in, i0]; with_reducible exact rfl))
    | (with_reducible apply wp_eq; (with_reducible apply lf_go; simp (disch := omega) only [not_false_eq_true, not_true_eq_false, w32_id, tLt, fLt, tLe, fEq, itE, and_true, true_and, and_self, and_false, false_and, ↓reduceIte, nat_add, nat_mul3, nat_mul4, nat_mul6, nat_mul15, nat_mul60, nat_cast, nc1, Int.reduceToNat, upE, upN, fill_ne, fill_in, i0]; with_reducible exact rfl))
    | with_reducible apply wp_q1
  refine wp_mono (f_copy (A := A) (by omega) hs he (by omega) e3 (by omega) hsp') ?_
  rintro r S M3 ⟨rfl, rfl, s1, s2, s3⟩
  refine ⟨rfl, ?_⟩
  repeat' first
    | (with_reducible apply wp_bR; (simp (disch := omega) only [rM L, rK L, rN L, rNf, rNv, rNp, rNd, rRow, rLeg, rMark, nat_cast, Int.reduceToNat]; with_reducible exact rfl))
    | with_reducible apply wp_bI
    | with_reducible apply wp_bV
    | with_reducible apply wp_bL
    | with_reducible apply wp_rI
    | with_reducible apply wp_rV
    | with_reducible apply wp_rL
    | (with_reducible apply wp_1; (first | omega | (simp (disch := omega) only [not_false_eq_true, not_true_eq_false, w32_id, tLt, fLt, tLe, fEq, itE, and_true, true_and, and_self, and_false, false_and, ↓reduceIte, nat_add, nat_mul3, nat_mul4, nat_mul6, nat_mul15, nat_mul60, nat_cast, nc1, Int.reduceToNat, upE, upN, fill_ne, fill_in, i0] <;> omega)))
    | (with_reducible apply wp_2; (first | omega | (simp (disch := omega) only [not_false_eq_true, not_true_eq_false, w32_id, tLt, fLt, tLe, fEq, itE, and_true, true_and, and_self, and_false, false_and, ↓reduceIte, nat_add, nat_mul3, nat_mul4, nat_mul6, nat_mul15, nat_mul60, nat_cast, nc1, Int.reduceToNat, upE, upN, fill_ne, fill_in, i0] <;> omega)))
    | (with_reducible apply wp_s; (first | (simp (disch := omega) only [not_false_eq_true, not_true_eq_false, w32_id, tLt, fLt, tLe, fEq, itE, and_true, true_and, and_self, and_false, false_and, ↓reduceIte, nat_add, nat_mul3, nat_mul4, nat_mul6, nat_mul15, nat_mul60, nat_cast, nc1, Int.reduceToNat, upE, upN, fill_ne, fill_in, i0]; with_reducible exact Iff.rfl) | with_reducible exact Iff.rfl); intro hc__; (try subst hc__); rotate_left; intro hc__; rotate_left)
    | (with_reducible apply wp_eq; (with_reducible apply cl_go; simp (disch := omega) only [not_false_eq_true, not_true_eq_false, w32_id, tLt, fLt, tLe, fEq, itE, and_true, true_and, and_self, and_false, false_and, ↓reduceIte, nat_add, nat_mul3, nat_mul4, nat_mul6, nat_mul15, nat_mul60, nat_cast, nc1, Int.reduceToNat, upE, upN, fill_ne, fill_in, i0]; with_reducible exact rfl))
    | (with_reducible apply wp_eq; (with_reducible apply lf_go; simp (disch := omega) only [not_false_eq_true, not_true_eq_false, w32_id, tLt, fLt, tLe, fEq, itE, and_true, true_and, and_self, and_false, false_and, ↓reduceIte, nat_add, nat_mul3, nat_mul4, nat_mul6, nat_mul15, nat_mul60, nat_cast, nc1, Int.reduceToNat, upE, upN, fill_ne, fill_in, i0]; with_reducible exact rfl))
    | with_reducible apply wp_q1
  have F : ∀ b j, s + 1 ≤ b → b ≤ s + 29 → M3 b j = M1 b j := fun b j q1 q2 => by rw [s3 _ _ (by omega) (by omega), p5 _ _ (by omega)]
  refine wp_ret ⟨rfl, rfl, ⟨⟨fun k hk => ?_, ?_, fun n hn => ?_, fun g hg => ?_, fun p hp => ?_, fun p g hp hg => ?_, fun p q hp hq => ?_⟩, ?_, s1, ?_, ⟨fun i hi => ?_, fun i hi => ?_, fun i hi => ?_, fun i hi => ?_⟩, hI⟩, fun b j q => ?_⟩
  · rw [F _ _ (by omega) (by omega), c1 k hk]; exact h1 k hk
  · rw [F _ _ (by omega) (by omega), c8]; exact h2
  · rw [F _ _ (by omega) (by omega), F _ _ (by omega) (by omega), F _ _ (by omega) (by omega), F _ _ (by omega) (by omega), c3 7 n (by omega) (by omega) (by omega), c3 8 n (by omega) (by omega) (by omega), c3 9 n (by omega) (by omega) (by omega), c3 10 n (by omega) (by omega) (by omega)]; exact h3 n hn
  · rw [F _ _ (by omega) (by omega), F _ _ (by omega) (by omega), F _ _ (by omega) (by omega), c4 11 g (by omega) (by omega) (by omega), c4 12 g (by omega) (by omega) (by omega), c4 13 g (by omega) (by omega) (by omega)]; exact h4 g hg
  · rw [F _ _ (by omega) (by omega), c5 p (by omega)]; exact h5 p hp
  · rw [F _ _ (by omega) (by omega), c6 p g hp hg]; exact h6 p g hp hg
  · rw [F _ _ (by omega) (by omega), c7 p q hp hq]; exact h7 p q hp hq
  · rw [s2, p5 _ _ (by omega), c9 _ _ (by omega)]; exact hdt
  · unfold Pl at *
    have G : ∀ j, j = 5 ∨ j = 7 → M3 (s + 33) j = M (e + 33) j := fun j hj => by
      rw [s3 _ _ (by omega) (by omega)]
      rcases hj with rfl | rfl
      · rw [p2, c9 _ _ (by omega)]
      · rw [p4, c9 _ _ (by omega)]
    rw [G 5 (by omega), G 7 (by omega)]
    rcases hp with hp | ⟨a, b, c, d, f⟩
    · exact Or.inl hp
    · refine Or.inr ⟨a, b, c, d, fun k hk => ?_⟩
      have H : ∀ o, 1 ≤ o → o ≤ 5 → M3 (s + 33 + o) k = M (e + 33 + o) k := fun o o1 o2 => by rw [s3 _ _ (by omega) (by omega), p1 o k o1 o2 (by omega), c9 _ _ (by omega)]
      have q := f k hk
      unfold StR at *
      rw [H 1 (by omega) (by omega), H 2 (by omega) (by omega), H 3 (by omega) (by omega), H 4 (by omega) (by omega), H 5 (by omega) (by omega)]
      exact q
  · have t := c2 0 i (by omega) (by omega)
    rw [F _ _ (by omega) (by omega)]; exact (show M1 (s + 4) i = M (e + 4) i from t) ▸ n1 i hi
  · have t := c2 1 i (by omega) (by omega)
    rw [F _ _ (by omega) (by omega)]; exact (show M1 (s + 5) i = M (e + 5) i from t) ▸ n2 i hi
  · have t := c2 2 i (by omega) (by omega)
    rw [F _ _ (by omega) (by omega)]; exact (show M1 (s + 6) i = M (e + 6) i from t) ▸ n3 i hi
  · have t := c2 3 i (by omega) (by omega)
    rw [F _ _ (by omega) (by omega)]; exact (show M1 (s + 7) i = M (e + 7) i from t) ▸ n4 i hi
  · rw [s3 _ _ (by omega) (by omega), p5 _ _ (by omega), c9 _ _ (by omega)]
end

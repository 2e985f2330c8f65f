/-! THE CALL world -/
theorem RelS.tpe {xs : Nat → Int} {M : Mm} {A N : Nat → Int} {B P : Nat → Nat → Int} (h : RelS xs M A N B P) : RTp M := h.2.2.2.1
/-- the tape is empty, faults are noted; the world as it is now may be another one -/
theorem RelS.txt {xs : Nat → Int} {M M' : Mm} {A N A' N' : Nat → Int} {B P : Nat → Nat → Int} (h : RelS xs M A N B P) (e : ∀ b j, core b j → ¬k1 b j → ¬(b = 12 ∧ j = 2) → ¬(b = 271 ∧ j = 10) → ¬kNw b j → M' b j = M b j) (t1 : M' 12 2 = 0) (t2 : M' 271 10 = 0) (hr : R1 M') (hn : RNw M' A' N') : RelS xs M' A' N' B P := by
  obtain ⟨h0, h1, h2, h3, h4, h5, -⟩ := h
  refine ⟨fun j => ?_, hr, h2.frame fun b j hb => ?_, ⟨by rw [t1, t2], by omega, by omega, fun k hk => by omega, fun w hw => ?_⟩, ⟨h4.1.frame fun b j hb => ?_, h4.2.frame fun b j hb => ?_⟩, h5.frame fun b j hb => ?_, hn⟩
  · rw [e 0 j (in0 rfl) (by unfold k1; omega) (by omega) (by omega) (by unfold kNw; omega)]; exact h0 j
  · exact e b j (inTr hb) (by unfold kTr at hb; unfold k1; omega) (by unfold kTr at hb; omega) (by unfold kTr at hb; omega) (by unfold kTr at hb; unfold kNw; omega)
  · rw [e 14 w (inTp (by unfold kTp; omega)) (by unfold k1; omega) (by omega) (by omega) (by unfold kNw; omega)]; exact h3.2.2.2.2 w hw
  · exact e b j (inLv hb) (by unfold kLv at hb; unfold k1; omega) (by unfold kLv at hb; omega) (by unfold kLv at hb; omega) (by unfold kLv at hb; unfold kNw; omega)
  · exact e b j (inLp hb) (by unfold kLp at hb; unfold k1; omega) (by unfold kLp at hb; omega) (by unfold kLp at hb; omega) (by unfold kLp at hb; unfold kNw; omega)
  · exact e b j (inMk hb) (by unfold kMk at hb; unfold k1; omega) (by unfold kMk at hb; omega) (by unfold kMk at hb; omega) (by unfold kMk at hb; unfold kNw; omega)
theorem core_no {b j : Nat} (hb : core b j) : (b ≠ 278 ∧ b ≠ 15 ∧ ¬(65 ≤ b ∧ b ≤ 111) ∧ ¬(b = 12 ∧ 3 ≤ j) ∧ ¬(b = 3 ∧ j = 15)) ∧ ¬(b = 271 ∧ j = 2) ∧ ¬(b = 272 ∧ 2288 ≤ j) ∧ ¬(b = 273 ∧ 96 ≤ j) := by
  rcases hb with hb | hb | hb | hb | hb | hb | hb | hb
  · omega
  · unfold k1 at hb; omega
  · unfold kTr at hb; omega
  · unfold kTp at hb; omega
  · unfold kLv at hb; omega
  · unfold kLp at hb; omega
  · unfold kMk at hb; omega
  · unfold kNw at hb; omega
theorem core_no1 {b j : Nat} (hb : core b j) (q1 : ¬k1 b j) (q3 : ¬(b = 271 ∧ j = 10)) : ¬(b = 271 ∧ 10 ≤ j ∧ j ≤ 20) ∧ ¬(b = 3 ∧ (j = 13 ∨ j = 14)) := by
  rcases hb with hb | hb | hb | hb | hb | hb | hb | hb
  · omega
  · exact absurd hb q1
  · unfold kTr at hb; omega
  · unfold kTp at hb; omega
  · unfold kLv at hb; omega
  · unfold kLp at hb; omega
  · unfold kMk at hb; omega
  · unfold kNw at hb; omega
theorem core_no2 {b j : Nat} (hb : core b j) (q4 : ¬kNw b j) : ¬(b = 272 ∧ j < 572) ∧ ¬(b = 273 ∧ j < 24) ∧ ¬(18 ≤ b ∧ b ≤ 64) := by
  rcases hb with hb | hb | hb | hb | hb | hb | hb | hb
  · omega
  · unfold k1 at hb; omega
  · unfold kTr at hb; omega
  · unfold kTp at hb; omega
  · unfold kLv at hb; omega
  · unfold kLp at hb; omega
  · unfold kMk at hb; omega
  · exact absurd hb q4
set_option maxHeartbeats 8000000 in
set_option maxRecDepth 16384 in
theorem case_world (x1 : Int) : Case m_Ca_world m_Mo_world [vI x1] := by
  intro L xs M A N B P ⟨hs0, h⟩
  obtain ⟨t1, t2, t3, t4, t5⟩ := h.tpe
  by_cases hv : 0 ≤ x1 ∧ x1 ≤ M 271 10
  · obtain ⟨n, rfl⟩ := Int.eq_ofNat_of_zero_le hv.1
    have hb : ∀ k, k < n → M 13 k = M 13 k ∧ -128 ≤ M 13 k ∧ M 13 k ≤ 127 := fun k hk => by have := t4 k (by omega); omega
    have hb2 : ∀ (M2 : Mm), (∀ k, M2 277 k = M 277 k) → ∀ k, k < n → M2 277 k = M 13 k ∧ -128 ≤ M 13 k ∧ M 13 k ≤ 127 := fun M2 e k hk => by
      have := t4 k (by omega)
      rw [e k]
      omega
    have kw := fun (M2 : Mm) (e : ∀ k, M2 277 k = M 277 k) (e' : M2 271 10 = M 271 10) => k_world (L := L) (d1 := 100 - 1) (d2 := 100) (bt := M 13) (n := n) (M1 := M) (M2 := M2) (by omega) (by omega) (by omega) hb (hb2 M2 e) t5 (by rw [e']; exact hv.2)
    obtain ⟨Ma, cb, kk⟩ := kw M (fun _ => rfl) rfl
    rcases kk with ⟨M1', M2', ct, -, dd1, ⟨z5, -⟩, fc, -⟩ | ⟨M1', M2', ct, -, ⟨z1, z2, z3⟩, -, fc, -⟩
    · -- taken
      have nf : callD (100 - 1) m_Ca_noteFault [vR 11 0 3] (SH L) M1' = some (none, SH L, up (up (up M1' 12 2 0) 3 13 0) 3 14 (-1)) := by
        repeat' first
          | (with_reducible apply bR_go; (simp (disch := omega) only [rM L, rK L, rN L, rNf, rNv, rNp, rNd, rRow, rLeg, rMark, nat_cast, Int.reduceToNat, z5]; with_reducible exact rfl))
          | with_reducible apply bI_go
          | with_reducible apply bV_go
          | with_reducible apply bL_go
          | (with_reducible apply it_1; (first | omega | (simp (disch := omega) only [not_false_eq_true, not_true_eq_false, w32_id, tLt, fLt, tLe, fEq, itE, and_true, true_and, and_self, and_false, false_and, ↓reduceIte, nat_add, nat_mul3, nat_mul4, nat_mul6, nat_mul15, nat_mul60, nat_cast, nc1, Int.reduceToNat, upE, upN, fill_ne, fill_in, i0, z5] <;> omega)))
          | (with_reducible apply it_2; (first | omega | (simp (disch := omega) only [not_false_eq_true, not_true_eq_false, w32_id, tLt, fLt, tLe, fEq, itE, and_true, true_and, and_self, and_false, false_and, ↓reduceIte, nat_add, nat_mul3, nat_mul4, nat_mul6, nat_mul15, nat_mul60, nat_cast, nc1, Int.reduceToNat, upE, upN, fill_ne, fill_in, i0, z5] <;> omega)))
          | (with_reducible refine cl_go ?_; simp (disch := omega) only [not_false_eq_true, not_true_eq_false, w32_id, tLt, fLt, tLe, fEq, itE, and_true, true_and, and_self, and_false, false_and, ↓reduceIte, nat_add, nat_mul3, nat_mul4, nat_mul6, nat_mul15, nat_mul60, nat_cast, nc1, Int.reduceToNat, upE, upN, fill_ne, fill_in, i0, z5])
          | rw [c_Ca_noteFault (by omega), b_Ca_noteFault_0]
          | (with_reducible refine rn_go ?_; simp (disch := omega) only [not_false_eq_true, not_true_eq_false, w32_id, tLt, fLt, tLe, fEq, itE, and_true, true_and, and_self, and_false, false_and, ↓reduceIte, nat_add, nat_mul3, nat_mul4, nat_mul6, nat_mul15, nat_mul60, nat_cast, nc1, Int.reduceToNat, upE, upN, fill_ne, fill_in, i0, z5])
          | (with_reducible refine lf_go ?_; simp (disch := omega) only [not_false_eq_true, not_true_eq_false, w32_id, tLt, fLt, tLe, fEq, itE, and_true, true_and, and_self, and_false, false_and, ↓reduceIte, nat_add, nat_mul3, nat_mul4, nat_mul6, nat_mul15, nat_mul60, nat_cast, nc1, Int.reduceToNat, upE, upN, fill_ne, fill_in, i0, z5])
          | with_reducible exact rfl
      generalize hY : up (up (up M1' 12 2 0) 3 13 0) 3 14 (-1) = Y at nf
      have fY : ∀ b j, ¬(b = 12 ∧ j = 2) → ¬(b = 3 ∧ (j = 13 ∨ j = 14)) → Y b j = M1' b j := fun b j y1 y2 => by rw [← hY, upN (by omega), upN (by omega), upN (by omega)]
      have v1 : Y 12 2 = 0 ∧ Y 3 13 = 0 ∧ Y 3 14 = -1 := by
        rw [← hY]
        exact ⟨by rw [upN (by omega), upN (by omega), upE rfl rfl], by rw [upN (by omega), upE rfl rfl], upE rfl rfl⟩
      have wY : ∀ M2', DD M1' M2' → World Y 65 (dA M2') (dN M2') := fun M2' dd => (dd.1.world dd.2.1 (Or.inl ⟨dd.2.2.2.2.2.1.1, dd.2.2.2.2.2.1.2⟩) dd.2.2.2.2.2.2.1).frame fun b j y1 y2 y3 y4 => fY b j (by omega) (by omega)
      have cp := fun (M2' : Mm) (dd : DD M1' M2') => s_copy (L := L) (d := 100 - 1) (s := 18) (e := 65) (by omega) (show isSt 18 by unfold isSt; omega) (show isSt 65 by unfold isSt; omega) (by omega) (wY M2' dd)
      obtain ⟨_, _, M3, c3, rfl, rfl, w3, f3⟩ := cp M2' dd1
      have m3 : M3 20 3 = dA M2' 3 := w3.1.1 3 (by omega)
      have l2 := t1
      repeat' first
        | (with_reducible apply wp_bR; (simp (disch := omega) only [rM L, rK L, rN L, rNf, rNv, rNp, rNd, rRow, rLeg, rMark, nat_cast, Int.reduceToNat, l2, m3]; with_reducible exact rfl))
        | with_reducible apply wp_bI
        | with_reducible apply wp_bV
        | with_reducible apply wp_bL
        | with_reducible apply wp_rI
        | with_reducible apply wp_rV
        | with_reducible apply wp_rL
        | (with_reducible apply wp_1; (first | omega | (simp (disch := omega) only [not_false_eq_true, not_true_eq_false, w32_id, tLt, fLt, tLe, fEq, itE, and_true, true_and, and_self, and_false, false_and, ↓reduceIte, nat_add, nat_mul3, nat_mul4, nat_mul6, nat_mul15, nat_mul60, nat_cast, nc1, Int.reduceToNat, upE, upN, fill_ne, fill_in, i0, l2, m3] <;> omega)))
        | (with_reducible apply wp_2; (first | omega | (simp (disch := omega) only [not_false_eq_true, not_true_eq_false, w32_id, tLt, fLt, tLe, fEq, itE, and_true, true_and, and_self, and_false, false_and, ↓reduceIte, nat_add, nat_mul3, nat_mul4, nat_mul6, nat_mul15, nat_mul60, nat_cast, nc1, Int.reduceToNat, upE, upN, fill_ne, fill_in, i0, l2, m3] <;> omega)))
        | (with_reducible apply wp_s; (first | (simp (disch := omega) only [not_false_eq_true, not_true_eq_false, w32_id, tLt, fLt, tLe, fEq, itE, and_true, true_and, and_self, and_false, false_and, ↓reduceIte, nat_add, nat_mul3, nat_mul4, nat_mul6, nat_mul15, nat_mul60, nat_cast, nc1, Int.reduceToNat, upE, upN, fill_ne, fill_in, i0, l2, m3]; with_reducible exact Iff.rfl) | with_reducible exact Iff.rfl); intro hc__; (try subst hc__); rotate_left; intro hc__; rotate_left)
        | (with_reducible apply wp_eq; (with_reducible apply cl_go; simp (disch := omega) only [not_false_eq_true, not_true_eq_false, w32_id, tLt, fLt, tLe, fEq, itE, and_true, true_and, and_self, and_false, false_and, ↓reduceIte, nat_add, nat_mul3, nat_mul4, nat_mul6, nat_mul15, nat_mul60, nat_cast, nc1, Int.reduceToNat, upE, upN, fill_ne, fill_in, i0, l2, m3]; with_reducible exact rfl))
        | (with_reducible refine wp_eq (c_Ca_world (by omega) _ _ _ _) ?_; with_reducible refine wp_eq (b_Ca_world_0 _ _ _ _ _) ?_)
        | (with_reducible refine wp_eq (c_Ca_within (by omega) _ _ _ _ _) ?_; with_reducible refine wp_eq (b_Ca_within_0 _ _ _ _ _ _) ?_)
        | (with_reducible refine wp_eq (c_Ca_isShip (by omega) _ _ _ _) ?_; with_reducible refine wp_eq (b_Ca_isShip_0 _ _ _ _ _) ?_)
        | (with_reducible refine wp_eq (c_Ca_isNation (by omega) _ _ _ _) ?_; with_reducible refine wp_eq (b_Ca_isNation_0 _ _ _ _ _) ?_)
        | (with_reducible refine wp_eq (c_Ca_isGood (by omega) _ _ _ _) ?_; with_reducible refine wp_eq (b_Ca_isGood_0 _ _ _ _ _) ?_)
        | (with_reducible refine wp_eq (c_Ca_isPort (by omega) _ _ _ _) ?_; with_reducible refine wp_eq (b_Ca_isPort_0 _ _ _ _ _) ?_)
        | (with_reducible refine wp_eq (c_Ca_areTwo (by omega) _ _ _ _ _ _) ?_; with_reducible refine wp_eq (b_Ca_areTwo_0 _ _ _ _ _ _ _) ?_)
        | (with_reducible refine wp_eq (c_Ca_answer (by omega) _ _ _ _) ?_; with_reducible refine wp_eq (b_Ca_answer_0 _ _ _ _ _) ?_)
        | (with_reducible refine wp_eq (c_Ca_refuse (by omega) _ _ _ _) ?_; with_reducible refine wp_eq (b_Ca_refuse_0 _ _ _ _ _) ?_)
        | (with_reducible refine wp_eq (c_Ca_answerOr (by omega) _ _ _ _ _) ?_; with_reducible refine wp_eq (b_Ca_answerOr_0 _ _ _ _ _ _) ?_)
        | (with_reducible refine wp_eq (c_Ca_agree (by omega) _ _ _) ?_; with_reducible refine wp_eq (b_Ca_agree_0 _ _ _ _) ?_)
        | (with_reducible refine wp_eq (c_Ca_deny (by omega) _ _ _ _) ?_; with_reducible refine wp_eq (b_Ca_deny_0 _ _ _ _ _) ?_)
        | with_reducible refine wp_eq (cb) ?_
        | with_reducible refine wp_eq (ct) ?_
        | with_reducible refine wp_eq (nf) ?_
        | with_reducible refine wp_eq (c3) ?_
        | (with_reducible apply wp_eq; (with_reducible apply lf_go; simp (disch := omega) only [not_false_eq_true, not_true_eq_false, w32_id, tLt, fLt, tLe, fEq, itE, and_true, true_and, and_self, and_false, false_and, ↓reduceIte, nat_add, nat_mul3, nat_mul4, nat_mul6, nat_mul15, nat_mul60, nat_cast, nc1, Int.reduceToNat, upE, upN, fill_ne, fill_in, i0, l2, m3]; with_reducible exact rfl))
        | with_reducible apply wp_q1
      -- the model
      obtain ⟨Ma2, cb2, kk2⟩ := kw (up M3 3 15 0) (fun k => by rw [upN (by omega), f3 _ _ (by omega), fY _ _ (by omega) (by omega), fc _ _ (by omega) (by omega) (by omega)]) (by rw [upN (by omega), f3 _ _ (by omega), fY _ _ (by omega) (by omega), fc _ _ (by omega) (by omega) (by omega)])
      rw [cb] at cb2
      have ea : Ma2 = Ma := by simpa using cb2.symm
      subst ea
      rcases kk2 with ⟨M1b, M2b, ct2, cm, dd2, ⟨-, y18, y17, y10⟩, -, fm⟩ | ⟨M1b, M2b, ct2, -⟩
      rotate_left
      · rw [ct] at ct2
        simp at ct2
      rw [ct] at ct2
      have eb : M1b = M1' := by simpa using ct2.symm
      subst eb
      obtain ⟨_, _, M4, c4, rfl, rfl, w4, -⟩ := cp M2b dd2
      rw [c3] at c4
      have e4 : M4 = M3 := by simpa using c4.symm
      subst e4
      have m3b : M4 20 3 = dA M2b 3 := w4.1.1 3 (by omega)
      refine wp_eq cm ?_
      refine wp_loop (α := Mm) (G := fun i a => Run (callD (100 - 1)) tb_Mo_world 59 [vR 12 0 271, vI (n : Int), vI 1, vI (i : Int)] [] (SH L) a) (I := fun i a => (∀ k, k < i → a 272 k = dA M2b k) ∧ ∀ b j, ¬(b = 272 ∧ j < 572) → a b j = M2b b j) 572 ?_ ?_ 0 M2b (by omega) ⟨fun _ h => by omega, fun _ _ _ => rfl⟩
      · intro i Mi hi ⟨i1, i2⟩ ih
        have ei : Mi 272 (2288 + i) = dA M2b i := i2 _ _ (by omega)
        refine wp_eq (b_Mo_world_59 _ _ _ _ _ _ _) ?_
        repeat' first
          | (with_reducible apply wp_bR; (simp (disch := omega) only [rM L, rK L, rN L, rNf, rNv, rNp, rNd, rRow, rLeg, rMark, nat_cast, Int.reduceToNat]; with_reducible exact rfl))
          | with_reducible apply wp_bI
          | with_reducible apply wp_bV
          | with_reducible apply wp_bL
          | with_reducible apply wp_rI
          | with_reducible apply wp_rV
          | with_reducible apply wp_rL
          | (with_reducible apply wp_1; (first | omega | (simp (disch := omega) only [not_false_eq_true, not_true_eq_false, w32_id, tLt, fLt, tLe, fEq, itE, and_true, true_and, and_self, and_false, false_and, ↓reduceIte, nat_add, nat_mul3, nat_mul4, nat_mul6, nat_mul15, nat_mul60, nat_cast, nc1, Int.reduceToNat, upE, upN, fill_ne, fill_in, i0] <;> omega)))
          | (with_reducible apply wp_2; (first | omega | (simp (disch := omega) only [not_false_eq_true, not_true_eq_false, w32_id, tLt, fLt, tLe, fEq, itE, and_true, true_and, and_self, and_false, false_and, ↓reduceIte, nat_add, nat_mul3, nat_mul4, nat_mul6, nat_mul15, nat_mul60, nat_cast, nc1, Int.reduceToNat, upE, upN, fill_ne, fill_in, i0] <;> omega)))
          | (with_reducible apply wp_s; (first | (simp (disch := omega) only [not_false_eq_true, not_true_eq_false, w32_id, tLt, fLt, tLe, fEq, itE, and_true, true_and, and_self, and_false, false_and, ↓reduceIte, nat_add, nat_mul3, nat_mul4, nat_mul6, nat_mul15, nat_mul60, nat_cast, nc1, Int.reduceToNat, upE, upN, fill_ne, fill_in, i0]; with_reducible exact Iff.rfl) | with_reducible exact Iff.rfl); intro hc__; (try subst hc__); rotate_left; intro hc__; rotate_left)
          | (with_reducible apply wp_eq; (with_reducible apply cl_go; simp (disch := omega) only [not_false_eq_true, not_true_eq_false, w32_id, tLt, fLt, tLe, fEq, itE, and_true, true_and, and_self, and_false, false_and, ↓reduceIte, nat_add, nat_mul3, nat_mul4, nat_mul6, nat_mul15, nat_mul60, nat_cast, nc1, Int.reduceToNat, upE, upN, fill_ne, fill_in, i0]; with_reducible exact rfl))
          | (with_reducible apply wp_eq; (with_reducible apply lf_go; simp (disch := omega) only [not_false_eq_true, not_true_eq_false, w32_id, tLt, fLt, tLe, fEq, itE, and_true, true_and, and_self, and_false, false_and, ↓reduceIte, nat_add, nat_mul3, nat_mul4, nat_mul6, nat_mul15, nat_mul60, nat_cast, nc1, Int.reduceToNat, upE, upN, fill_ne, fill_in, i0]; with_reducible exact rfl))
          | with_reducible apply wp_q1
        apply wp_nx ih
        · simp (disch := omega) only [not_false_eq_true, not_true_eq_false, w32_id, tLt, fLt, tLe, fEq, itE, and_true, true_and, and_self, and_false, false_and, ↓reduceIte, nat_add, nat_mul3, nat_mul4, nat_mul6, nat_mul15, nat_mul60, nat_cast, nc1, Int.reduceToNat, upE, upN, fill_ne, fill_in, i0, ei]
          with_reducible rfl
        · refine ⟨fun k hk => ?_, fun b j y => ?_⟩
          · by_cases z : k = i
            · subst z; simp (disch := omega) only [not_false_eq_true, not_true_eq_false, w32_id, tLt, fLt, tLe, fEq, itE, and_true, true_and, and_self, and_false, false_and, ↓reduceIte, nat_add, nat_mul3, nat_mul4, nat_mul6, nat_mul15, nat_mul60, nat_cast, nc1, Int.reduceToNat, upE, upN, fill_ne, fill_in, i0]
            · simp (disch := omega) only [not_false_eq_true, not_true_eq_false, w32_id, tLt, fLt, tLe, fEq, itE, and_true, true_and, and_self, and_false, false_and, ↓reduceIte, nat_add, nat_mul3, nat_mul4, nat_mul6, nat_mul15, nat_mul60, nat_cast, nc1, Int.reduceToNat, upE, upN, fill_ne, fill_in, i0]; exact i1 k (by omega)
          · simp (disch := omega) only [not_false_eq_true, not_true_eq_false, w32_id, tLt, fLt, tLe, fEq, itE, and_true, true_and, and_self, and_false, false_and, ↓reduceIte, nat_add, nat_mul3, nat_mul4, nat_mul6, nat_mul15, nat_mul60, nat_cast, nc1, Int.reduceToNat, upE, upN, fill_ne, fill_in, i0]; exact i2 b j y
      · intro M5 ⟨i1, i2⟩
        refine wp_eq (b_Mo_world_59 _ _ _ _ _ _ _) ?_
        repeat' first
          | (with_reducible apply wp_bR; (simp (disch := omega) only [rM L, rK L, rN L, rNf, rNv, rNp, rNd, rRow, rLeg, rMark, nat_cast, Int.reduceToNat]; with_reducible exact rfl))
          | with_reducible apply wp_bI
          | with_reducible apply wp_bV
          | with_reducible apply wp_bL
          | with_reducible apply wp_rI
          | with_reducible apply wp_rV
          | with_reducible apply wp_rL
          | (with_reducible apply wp_1; (first | omega | (simp (disch := omega) only [not_false_eq_true, not_true_eq_false, w32_id, tLt, fLt, tLe, fEq, itE, and_true, true_and, and_self, and_false, false_and, ↓reduceIte, nat_add, nat_mul3, nat_mul4, nat_mul6, nat_mul15, nat_mul60, nat_cast, nc1, Int.reduceToNat, upE, upN, fill_ne, fill_in, i0] <;> omega)))
          | (with_reducible apply wp_2; (first | omega | (simp (disch := omega) only [not_false_eq_true, not_true_eq_false, w32_id, tLt, fLt, tLe, fEq, itE, and_true, true_and, and_self, and_false, false_and, ↓reduceIte, nat_add, nat_mul3, nat_mul4, nat_mul6, nat_mul15, nat_mul60, nat_cast, nc1, Int.reduceToNat, upE, upN, fill_ne, fill_in, i0] <;> omega)))
          | (with_reducible apply wp_s; (first | (simp (disch := omega) only [not_false_eq_true, not_true_eq_false, w32_id, tLt, fLt, tLe, fEq, itE, and_true, true_and, and_self, and_false, false_and, ↓reduceIte, nat_add, nat_mul3, nat_mul4, nat_mul6, nat_mul15, nat_mul60, nat_cast, nc1, Int.reduceToNat, upE, upN, fill_ne, fill_in, i0]; with_reducible exact Iff.rfl) | with_reducible exact Iff.rfl); intro hc__; (try subst hc__); rotate_left; intro hc__; rotate_left)
          | (with_reducible apply wp_eq; (with_reducible apply cl_go; simp (disch := omega) only [not_false_eq_true, not_true_eq_false, w32_id, tLt, fLt, tLe, fEq, itE, and_true, true_and, and_self, and_false, false_and, ↓reduceIte, nat_add, nat_mul3, nat_mul4, nat_mul6, nat_mul15, nat_mul60, nat_cast, nc1, Int.reduceToNat, upE, upN, fill_ne, fill_in, i0]; with_reducible exact rfl))
          | (with_reducible apply wp_eq; (with_reducible apply lf_go; simp (disch := omega) only [not_false_eq_true, not_true_eq_false, w32_id, tLt, fLt, tLe, fEq, itE, and_true, true_and, and_self, and_false, false_and, ↓reduceIte, nat_add, nat_mul3, nat_mul4, nat_mul6, nat_mul15, nat_mul60, nat_cast, nc1, Int.reduceToNat, upE, upN, fill_ne, fill_in, i0]; with_reducible exact rfl))
          | with_reducible apply wp_q1
        refine wp_loop (α := Mm) (G := fun i a => Run (callD (100 - 1)) tb_Mo_world 90 [vR 12 0 271, vI (n : Int), vI 1, vI (i : Int)] [] (SH L) a) (I := fun i a => (∀ k, k < i → a 273 k = dN M2b k) ∧ ∀ b j, ¬(b = 273 ∧ j < 24) → a b j = M5 b j) 24 ?_ ?_ 0 M5 (by omega) ⟨fun _ h => by omega, fun _ _ _ => rfl⟩
        · intro i Mi hi ⟨j1', j2⟩ ih
          have ei : Mi 273 (96 + i) = dN M2b i := by rw [j2 _ _ (by omega)]; exact i2 _ _ (by omega)
          refine wp_eq (b_Mo_world_90 _ _ _ _ _ _ _) ?_
          repeat' first
            | (with_reducible apply wp_bR; (simp (disch := omega) only [rM L, rK L, rN L, rNf, rNv, rNp, rNd, rRow, rLeg, rMark, nat_cast, Int.reduceToNat]; with_reducible exact rfl))
            | with_reducible apply wp_bI
            | with_reducible apply wp_bV
            | with_reducible apply wp_bL
            | with_reducible apply wp_rI
            | with_reducible apply wp_rV
            | with_reducible apply wp_rL
            | (with_reducible apply wp_1; (first | omega | (simp (disch := omega) only [not_false_eq_true, not_true_eq_false, w32_id, tLt, fLt, tLe, fEq, itE, and_true, true_and, and_self, and_false, false_and, ↓reduceIte, nat_add, nat_mul3, nat_mul4, nat_mul6, nat_mul15, nat_mul60, nat_cast, nc1, Int.reduceToNat, upE, upN, fill_ne, fill_in, i0] <;> omega)))
            | (with_reducible apply wp_2; (first | omega | (simp (disch := omega) only [not_false_eq_true, not_true_eq_false, w32_id, tLt, fLt, tLe, fEq, itE, and_true, true_and, and_self, and_false, false_and, ↓reduceIte, nat_add, nat_mul3, nat_mul4, nat_mul6, nat_mul15, nat_mul60, nat_cast, nc1, Int.reduceToNat, upE, upN, fill_ne, fill_in, i0] <;> omega)))
            | (with_reducible apply wp_s; (first | (simp (disch := omega) only [not_false_eq_true, not_true_eq_false, w32_id, tLt, fLt, tLe, fEq, itE, and_true, true_and, and_self, and_false, false_and, ↓reduceIte, nat_add, nat_mul3, nat_mul4, nat_mul6, nat_mul15, nat_mul60, nat_cast, nc1, Int.reduceToNat, upE, upN, fill_ne, fill_in, i0]; with_reducible exact Iff.rfl) | with_reducible exact Iff.rfl); intro hc__; (try subst hc__); rotate_left; intro hc__; rotate_left)
            | (with_reducible apply wp_eq; (with_reducible apply cl_go; simp (disch := omega) only [not_false_eq_true, not_true_eq_false, w32_id, tLt, fLt, tLe, fEq, itE, and_true, true_and, and_self, and_false, false_and, ↓reduceIte, nat_add, nat_mul3, nat_mul4, nat_mul6, nat_mul15, nat_mul60, nat_cast, nc1, Int.reduceToNat, upE, upN, fill_ne, fill_in, i0]; with_reducible exact rfl))
            | (with_reducible apply wp_eq; (with_reducible apply lf_go; simp (disch := omega) only [not_false_eq_true, not_true_eq_false, w32_id, tLt, fLt, tLe, fEq, itE, and_true, true_and, and_self, and_false, false_and, ↓reduceIte, nat_add, nat_mul3, nat_mul4, nat_mul6, nat_mul15, nat_mul60, nat_cast, nc1, Int.reduceToNat, upE, upN, fill_ne, fill_in, i0]; with_reducible exact rfl))
            | with_reducible apply wp_q1
          apply wp_nx ih
          · simp (disch := omega) only [not_false_eq_true, not_true_eq_false, w32_id, tLt, fLt, tLe, fEq, itE, and_true, true_and, and_self, and_false, false_and, ↓reduceIte, nat_add, nat_mul3, nat_mul4, nat_mul6, nat_mul15, nat_mul60, nat_cast, nc1, Int.reduceToNat, upE, upN, fill_ne, fill_in, i0, ei]
            with_reducible rfl
          · refine ⟨fun k hk => ?_, fun b j y => ?_⟩
            · by_cases z : k = i
              · subst z; simp (disch := omega) only [not_false_eq_true, not_true_eq_false, w32_id, tLt, fLt, tLe, fEq, itE, and_true, true_and, and_self, and_false, false_and, ↓reduceIte, nat_add, nat_mul3, nat_mul4, nat_mul6, nat_mul15, nat_mul60, nat_cast, nc1, Int.reduceToNat, upE, upN, fill_ne, fill_in, i0]
              · simp (disch := omega) only [not_false_eq_true, not_true_eq_false, w32_id, tLt, fLt, tLe, fEq, itE, and_true, true_and, and_self, and_false, false_and, ↓reduceIte, nat_add, nat_mul3, nat_mul4, nat_mul6, nat_mul15, nat_mul60, nat_cast, nc1, Int.reduceToNat, upE, upN, fill_ne, fill_in, i0]; exact j1' k (by omega)
            · simp (disch := omega) only [not_false_eq_true, not_true_eq_false, w32_id, tLt, fLt, tLe, fEq, itE, and_true, true_and, and_self, and_false, false_and, ↓reduceIte, nat_add, nat_mul3, nat_mul4, nat_mul6, nat_mul15, nat_mul60, nat_cast, nc1, Int.reduceToNat, upE, upN, fill_ne, fill_in, i0]; exact j2 b j y
        · intro M6 ⟨j1', j2⟩
          have n3 : M6 272 3 = dA M2b 3 := by rw [j2 _ _ (by omega)]; exact i1 3 (by omega)
          have n18 : M6 271 18 = 0 := by rw [j2 _ _ (by omega), i2 _ _ (by omega)]; exact y18
          refine wp_eq (b_Mo_world_90 _ _ _ _ _ _ _) ?_
          repeat' first
            | (with_reducible apply wp_bR; (simp (disch := omega) only [rM L, rK L, rN L, rNf, rNv, rNp, rNd, rRow, rLeg, rMark, nat_cast, Int.reduceToNat, n3, n18]; with_reducible exact rfl))
            | with_reducible apply wp_bI
            | with_reducible apply wp_bV
            | with_reducible apply wp_bL
            | with_reducible apply wp_rI
            | with_reducible apply wp_rV
            | with_reducible apply wp_rL
            | (with_reducible apply wp_1; (first | omega | (simp (disch := omega) only [not_false_eq_true, not_true_eq_false, w32_id, tLt, fLt, tLe, fEq, itE, and_true, true_and, and_self, and_false, false_and, ↓reduceIte, nat_add, nat_mul3, nat_mul4, nat_mul6, nat_mul15, nat_mul60, nat_cast, nc1, Int.reduceToNat, upE, upN, fill_ne, fill_in, i0, n3, n18] <;> omega)))
            | (with_reducible apply wp_2; (first | omega | (simp (disch := omega) only [not_false_eq_true, not_true_eq_false, w32_id, tLt, fLt, tLe, fEq, itE, and_true, true_and, and_self, and_false, false_and, ↓reduceIte, nat_add, nat_mul3, nat_mul4, nat_mul6, nat_mul15, nat_mul60, nat_cast, nc1, Int.reduceToNat, upE, upN, fill_ne, fill_in, i0, n3, n18] <;> omega)))
            | (with_reducible apply wp_s; (first | (simp (disch := omega) only [not_false_eq_true, not_true_eq_false, w32_id, tLt, fLt, tLe, fEq, itE, and_true, true_and, and_self, and_false, false_and, ↓reduceIte, nat_add, nat_mul3, nat_mul4, nat_mul6, nat_mul15, nat_mul60, nat_cast, nc1, Int.reduceToNat, upE, upN, fill_ne, fill_in, i0, n3, n18]; with_reducible exact Iff.rfl) | with_reducible exact Iff.rfl); intro hc__; (try subst hc__); rotate_left; intro hc__; rotate_left)
            | (with_reducible apply wp_eq; (with_reducible apply cl_go; simp (disch := omega) only [not_false_eq_true, not_true_eq_false, w32_id, tLt, fLt, tLe, fEq, itE, and_true, true_and, and_self, and_false, false_and, ↓reduceIte, nat_add, nat_mul3, nat_mul4, nat_mul6, nat_mul15, nat_mul60, nat_cast, nc1, Int.reduceToNat, upE, upN, fill_ne, fill_in, i0, n3, n18]; with_reducible exact rfl))
            | (with_reducible refine wp_eq (c_Mo_taken (by omega) _ _ _ _) ?_; with_reducible refine wp_eq (b_Mo_taken_0 _ _ _ _ _) ?_)
            | (with_reducible refine wp_eq (c_Mo_isShip (by omega) _ _ _ _) ?_; with_reducible refine wp_eq (b_Mo_isShip_0 _ _ _ _ _) ?_)
            | (with_reducible refine wp_eq (c_Mo_isNation (by omega) _ _ _ _) ?_; with_reducible refine wp_eq (b_Mo_isNation_0 _ _ _ _ _) ?_)
            | (with_reducible refine wp_eq (c_Mo_isGood (by omega) _ _ _ _) ?_; with_reducible refine wp_eq (b_Mo_isGood_0 _ _ _ _ _) ?_)
            | (with_reducible refine wp_eq (c_Mo_isPort (by omega) _ _ _ _) ?_; with_reducible refine wp_eq (b_Mo_isPort_0 _ _ _ _ _) ?_)
            | (with_reducible refine wp_eq (c_Mo_areTwo (by omega) _ _ _ _ _) ?_; with_reducible refine wp_eq (b_Mo_areTwo_0 _ _ _ _ _ _) ?_)
            | (with_reducible refine wp_eq (c_Mo_gives (by omega) _ _ _ _) ?_; with_reducible refine wp_eq (b_Mo_gives_0 _ _ _ _ _) ?_)
            | (with_reducible refine wp_eq (c_Mo_refuse (by omega) _ _ _ _) ?_; with_reducible refine wp_eq (b_Mo_refuse_0 _ _ _ _ _) ?_)
            | (with_reducible refine wp_eq (c_Mo_orNone (by omega) _ _ _ _) ?_; with_reducible refine wp_eq (b_Mo_orNone_0 _ _ _ _ _) ?_)
            | (with_reducible refine wp_eq (c_Mo_orNothing (by omega) _ _ _ _) ?_; with_reducible refine wp_eq (b_Mo_orNothing_0 _ _ _ _ _) ?_)
            | (with_reducible refine wp_eq (c_Mo_is (by omega) _ _ _ _) ?_; with_reducible refine wp_eq (b_Mo_is_0 _ _ _ _ _) ?_)
            | (with_reducible refine wp_eq (c_Mo_isRule (by omega) _ _ _) ?_; with_reducible refine wp_eq (b_Mo_isRule_0 _ _ _ _) ?_)
            | (with_reducible refine wp_eq (c_Mo_isTons (by omega) _ _ _) ?_; with_reducible refine wp_eq (b_Mo_isTons_0 _ _ _ _) ?_)
            | (with_reducible refine wp_eq (c_Mo_isFrom (by omega) _ _ _ _ _) ?_; with_reducible refine wp_eq (b_Mo_isFrom_0 _ _ _ _ _ _) ?_)
            | (with_reducible refine wp_eq (c_Mo_isTray (by omega) _ _ _) ?_; with_reducible refine wp_eq (b_Mo_isTray_0 _ _ _ _) ?_)
            | (with_reducible apply wp_eq; (with_reducible apply lf_go; simp (disch := omega) only [not_false_eq_true, not_true_eq_false, w32_id, tLt, fLt, tLe, fEq, itE, and_true, true_and, and_self, and_false, false_and, ↓reduceIte, nat_add, nat_mul3, nat_mul4, nat_mul6, nat_mul15, nat_mul60, nat_cast, nc1, Int.reduceToNat, upE, upN, fill_ne, fill_in, i0, n3, n18]; with_reducible exact rfl))
            | with_reducible apply wp_q1
          have ans : dA M2b 3 = dA M2' 3 := by rw [← m3b, m3]
          rw [ans]
          generalize hF : up (up M6 271 16 0) 271 2 0 = F
          have fF : ∀ b j, ¬(b = 271 ∧ (j = 16 ∨ j = 2)) → F b j = M6 b j := fun b j y => by rw [← hF, upN (by omega), upN (by omega)]
          have g6 : ∀ b j, ¬(b = 271 ∧ 10 ≤ j ∧ j ≤ 20) → ¬(b = 271 ∧ j = 2) → ¬(b = 272 ∧ (j < 572 ∨ 2288 ≤ j ∧ j < 2860)) → ¬(b = 273 ∧ (j < 24 ∨ 96 ≤ j ∧ j < 120)) → b ≠ 278 → F b j = up M4 3 15 0 b j := fun b j y1 y2 y3 y4 y5 => by
            rw [fF _ _ (by omega), j2 _ _ (by omega), i2 _ _ (by omega)]
            exact fm b j (by omega) (by omega) (by omega) y5
          have gC : ∀ b j, b ≤ 270 → ¬(b = 3 ∧ j = 15) → F b j = M4 b j := fun b j y1 y2 => by
            rw [g6 _ _ (by omega) (by omega) (by omega) (by omega) (by omega), upN (by omega)]
          refine ⟨_, _, _, rfl, rfl, rfl, dA M2b, dN M2b, B, P, ?_, h.txt (fun b j hb q1 q2 q3 q4 => ?_) ?_ ?_ ?_ ⟨fun k hk => ?_, fun k hk => ?_, w4.frame fun b j y1 y2 y3 y4 => gC b j (by omega) (by omega)⟩⟩
          · rw [g6 _ _ (by omega) (by omega) (by omega) (by omega) (by omega), upE rfl rfl, ← hF, upE rfl rfl]
          · obtain ⟨⟨n1, n2, n3, n4, n5⟩, n6, n7, n8⟩ := core_no hb
            obtain ⟨o1, o2⟩ := core_no1 hb q1 q3
            obtain ⟨o3, o4, o5⟩ := core_no2 hb q4
            rw [g6 b j o1 n6 (by omega) (by omega) n1, upN (by omega), f3 _ _ o5, fY _ _ q2 o2]
            exact fc b j n4 n2 n3
          · rw [gC _ _ (by omega) (by omega), f3 _ _ (by omega)]; exact v1.1
          · rw [fF _ _ (by omega), j2 _ _ (by omega), i2 _ _ (by omega)]; exact y10
          · have r1 := h.2.1
            unfold R1 at r1 ⊢
            have o : ∀ b j, b = 3 ∧ (j = 16 ∨ j = 17) ∨ b = 271 ∧ (j = 3 ∨ j = 4) → F b j = M b j := fun b j hb => by
              rw [g6 _ _ (by omega) (by omega) (by omega) (by omega) (by omega), upN (by omega), f3 _ _ (by omega), fY _ _ (by omega) (by omega)]
              exact fc b j (by omega) (by omega) (by omega)
            refine ⟨by rw [o _ _ (by omega), o _ _ (by omega)]; exact r1.1, by rw [o _ _ (by omega), o _ _ (by omega)]; exact r1.2.1, ?_, ?_⟩
            · rw [gC _ _ (by omega) (by omega), f3 _ _ (by omega), v1.2.1, ← hF, upN (by omega), upE rfl rfl]
            · rw [gC _ _ (by omega) (by omega), f3 _ _ (by omega), v1.2.2, fF _ _ (by omega), j2 _ _ (by omega), i2 _ _ (by omega), y17]
          · rw [fF _ _ (by omega), j2 _ _ (by omega)]; exact i1 k hk
          · rw [fF _ _ (by omega)]; exact j1' k hk
    · -- refused
      have z5 : ¬ M1' 12 5 = 0 := by omega
      have nf : callD (100 - 1) m_Ca_noteFault [vR 11 0 3] (SH L) M1' = some (none, SH L, up (up (up M1' 12 2 0) 3 13 (M1' 12 5)) 3 14 (M1' 12 6)) := by
        repeat' first
          | (with_reducible apply bR_go; (simp (disch := omega) only [rM L, rK L, rN L, rNf, rNv, rNp, rNd, rRow, rLeg, rMark, nat_cast, Int.reduceToNat]; with_reducible exact rfl))
          | with_reducible apply bI_go
          | with_reducible apply bV_go
          | with_reducible apply bL_go
          | (with_reducible apply it_1; (first | omega | (simp (disch := omega) only [not_false_eq_true, not_true_eq_false, w32_id, tLt, fLt, tLe, fEq, itE, and_true, true_and, and_self, and_false, false_and, ↓reduceIte, nat_add, nat_mul3, nat_mul4, nat_mul6, nat_mul15, nat_mul60, nat_cast, nc1, Int.reduceToNat, upE, upN, fill_ne, fill_in, i0] <;> omega)))
          | (with_reducible apply it_2; (first | omega | (simp (disch := omega) only [not_false_eq_true, not_true_eq_false, w32_id, tLt, fLt, tLe, fEq, itE, and_true, true_and, and_self, and_false, false_and, ↓reduceIte, nat_add, nat_mul3, nat_mul4, nat_mul6, nat_mul15, nat_mul60, nat_cast, nc1, Int.reduceToNat, upE, upN, fill_ne, fill_in, i0] <;> omega)))
          | (with_reducible refine cl_go ?_; simp (disch := omega) only [not_false_eq_true, not_true_eq_false, w32_id, tLt, fLt, tLe, fEq, itE, and_true, true_and, and_self, and_false, false_and, ↓reduceIte, nat_add, nat_mul3, nat_mul4, nat_mul6, nat_mul15, nat_mul60, nat_cast, nc1, Int.reduceToNat, upE, upN, fill_ne, fill_in, i0])
          | rw [c_Ca_noteFault (by omega), b_Ca_noteFault_0]
          | (with_reducible refine rn_go ?_; simp (disch := omega) only [not_false_eq_true, not_true_eq_false, w32_id, tLt, fLt, tLe, fEq, itE, and_true, true_and, and_self, and_false, false_and, ↓reduceIte, nat_add, nat_mul3, nat_mul4, nat_mul6, nat_mul15, nat_mul60, nat_cast, nc1, Int.reduceToNat, upE, upN, fill_ne, fill_in, i0])
          | (with_reducible refine lf_go ?_; simp (disch := omega) only [not_false_eq_true, not_true_eq_false, w32_id, tLt, fLt, tLe, fEq, itE, and_true, true_and, and_self, and_false, false_and, ↓reduceIte, nat_add, nat_mul3, nat_mul4, nat_mul6, nat_mul15, nat_mul60, nat_cast, nc1, Int.reduceToNat, upE, upN, fill_ne, fill_in, i0])
          | with_reducible exact rfl
      generalize hY : up (up (up M1' 12 2 0) 3 13 (M1' 12 5)) 3 14 (M1' 12 6) = Y at nf
      have fY : ∀ b j, ¬(b = 12 ∧ j = 2) → ¬(b = 3 ∧ (j = 13 ∨ j = 14)) → Y b j = M1' b j := fun b j y1 y2 => by rw [← hY, upN (by omega), upN (by omega), upN (by omega)]
      have v1 : Y 12 2 = 0 ∧ Y 3 13 = M1' 12 5 ∧ Y 3 14 = M1' 12 6 := by
        rw [← hY]
        exact ⟨by rw [upN (by omega), upN (by omega), upE rfl rfl], by rw [upN (by omega), upE rfl rfl], upE rfl rfl⟩
      have l2 := t1
      repeat' first
        | (with_reducible apply wp_bR; (simp (disch := omega) only [rM L, rK L, rN L, rNf, rNv, rNp, rNd, rRow, rLeg, rMark, nat_cast, Int.reduceToNat, l2]; with_reducible exact rfl))
        | with_reducible apply wp_bI
        | with_reducible apply wp_bV
        | with_reducible apply wp_bL
        | with_reducible apply wp_rI
        | with_reducible apply wp_rV
        | with_reducible apply wp_rL
        | (with_reducible apply wp_1; (first | omega | (simp (disch := omega) only [not_false_eq_true, not_true_eq_false, w32_id, tLt, fLt, tLe, fEq, itE, and_true, true_and, and_self, and_false, false_and, ↓reduceIte, nat_add, nat_mul3, nat_mul4, nat_mul6, nat_mul15, nat_mul60, nat_cast, nc1, Int.reduceToNat, upE, upN, fill_ne, fill_in, i0, l2] <;> omega)))
        | (with_reducible apply wp_2; (first | omega | (simp (disch := omega) only [not_false_eq_true, not_true_eq_false, w32_id, tLt, fLt, tLe, fEq, itE, and_true, true_and, and_self, and_false, false_and, ↓reduceIte, nat_add, nat_mul3, nat_mul4, nat_mul6, nat_mul15, nat_mul60, nat_cast, nc1, Int.reduceToNat, upE, upN, fill_ne, fill_in, i0, l2] <;> omega)))
        | (with_reducible apply wp_s; (first | (simp (disch := omega) only [not_false_eq_true, not_true_eq_false, w32_id, tLt, fLt, tLe, fEq, itE, and_true, true_and, and_self, and_false, false_and, ↓reduceIte, nat_add, nat_mul3, nat_mul4, nat_mul6, nat_mul15, nat_mul60, nat_cast, nc1, Int.reduceToNat, upE, upN, fill_ne, fill_in, i0, l2]; with_reducible exact Iff.rfl) | with_reducible exact Iff.rfl); intro hc__; (try subst hc__); rotate_left; intro hc__; rotate_left)
        | (with_reducible apply wp_eq; (with_reducible apply cl_go; simp (disch := omega) only [not_false_eq_true, not_true_eq_false, w32_id, tLt, fLt, tLe, fEq, itE, and_true, true_and, and_self, and_false, false_and, ↓reduceIte, nat_add, nat_mul3, nat_mul4, nat_mul6, nat_mul15, nat_mul60, nat_cast, nc1, Int.reduceToNat, upE, upN, fill_ne, fill_in, i0, l2]; with_reducible exact rfl))
        | (with_reducible refine wp_eq (c_Ca_world (by omega) _ _ _ _) ?_; with_reducible refine wp_eq (b_Ca_world_0 _ _ _ _ _) ?_)
        | (with_reducible refine wp_eq (c_Ca_within (by omega) _ _ _ _ _) ?_; with_reducible refine wp_eq (b_Ca_within_0 _ _ _ _ _ _) ?_)
        | (with_reducible refine wp_eq (c_Ca_isShip (by omega) _ _ _ _) ?_; with_reducible refine wp_eq (b_Ca_isShip_0 _ _ _ _ _) ?_)
        | (with_reducible refine wp_eq (c_Ca_isNation (by omega) _ _ _ _) ?_; with_reducible refine wp_eq (b_Ca_isNation_0 _ _ _ _ _) ?_)
        | (with_reducible refine wp_eq (c_Ca_isGood (by omega) _ _ _ _) ?_; with_reducible refine wp_eq (b_Ca_isGood_0 _ _ _ _ _) ?_)
        | (with_reducible refine wp_eq (c_Ca_isPort (by omega) _ _ _ _) ?_; with_reducible refine wp_eq (b_Ca_isPort_0 _ _ _ _ _) ?_)
        | (with_reducible refine wp_eq (c_Ca_areTwo (by omega) _ _ _ _ _ _) ?_; with_reducible refine wp_eq (b_Ca_areTwo_0 _ _ _ _ _ _ _) ?_)
        | (with_reducible refine wp_eq (c_Ca_answer (by omega) _ _ _ _) ?_; with_reducible refine wp_eq (b_Ca_answer_0 _ _ _ _ _) ?_)
        | (with_reducible refine wp_eq (c_Ca_refuse (by omega) _ _ _ _) ?_; with_reducible refine wp_eq (b_Ca_refuse_0 _ _ _ _ _) ?_)
        | (with_reducible refine wp_eq (c_Ca_answerOr (by omega) _ _ _ _ _) ?_; with_reducible refine wp_eq (b_Ca_answerOr_0 _ _ _ _ _ _) ?_)
        | (with_reducible refine wp_eq (c_Ca_agree (by omega) _ _ _) ?_; with_reducible refine wp_eq (b_Ca_agree_0 _ _ _ _) ?_)
        | (with_reducible refine wp_eq (c_Ca_deny (by omega) _ _ _ _) ?_; with_reducible refine wp_eq (b_Ca_deny_0 _ _ _ _ _) ?_)
        | with_reducible refine wp_eq (cb) ?_
        | with_reducible refine wp_eq (ct) ?_
        | with_reducible refine wp_eq (nf) ?_
        | (with_reducible apply wp_eq; (with_reducible apply lf_go; simp (disch := omega) only [not_false_eq_true, not_true_eq_false, w32_id, tLt, fLt, tLe, fEq, itE, and_true, true_and, and_self, and_false, false_and, ↓reduceIte, nat_add, nat_mul3, nat_mul4, nat_mul6, nat_mul15, nat_mul60, nat_cast, nc1, Int.reduceToNat, upE, upN, fill_ne, fill_in, i0, l2]; with_reducible exact rfl))
        | with_reducible apply wp_q1
      obtain ⟨Ma2, cb2, kk2⟩ := kw (up Y 3 15 9) (fun k => by rw [upN (by omega), fY _ _ (by omega) (by omega), fc _ _ (by omega) (by omega) (by omega)]) (by rw [upN (by omega), fY _ _ (by omega) (by omega), fc _ _ (by omega) (by omega) (by omega)])
      rw [cb] at cb2
      have ea : Ma2 = Ma := by simpa using cb2.symm
      subst ea
      rcases kk2 with ⟨M1b, M2b, ct2, -⟩ | ⟨M1b, M2b, ct2, cm, ⟨y1, y2, y3⟩, y10, -, fm⟩
      · rw [ct] at ct2
        simp at ct2
      rw [ct] at ct2
      have eb : M1b = M1' := by simpa using ct2.symm
      subst eb
      have n18 : ¬ M2b 271 18 = 0 := by omega
      have p18 : 0 < M2b 271 18 := by omega
      refine wp_eq cm ?_
      refine wp_eq (b_Mo_world_31 _ _ _ _ _ _ _) ?_
      repeat' first
        | (with_reducible apply wp_bR; (simp (disch := omega) only [rM L, rK L, rN L, rNf, rNv, rNp, rNd, rRow, rLeg, rMark, nat_cast, Int.reduceToNat]; with_reducible exact rfl))
        | with_reducible apply wp_bI
        | with_reducible apply wp_bV
        | with_reducible apply wp_bL
        | with_reducible apply wp_rI
        | with_reducible apply wp_rV
        | with_reducible apply wp_rL
        | (with_reducible apply wp_1; (first | omega | (simp (disch := omega) only [not_false_eq_true, not_true_eq_false, w32_id, tLt, fLt, tLe, fEq, itE, and_true, true_and, and_self, and_false, false_and, ↓reduceIte, nat_add, nat_mul3, nat_mul4, nat_mul6, nat_mul15, nat_mul60, nat_cast, nc1, Int.reduceToNat, upE, upN, fill_ne, fill_in, i0] <;> omega)))
        | (with_reducible apply wp_2; (first | omega | (simp (disch := omega) only [not_false_eq_true, not_true_eq_false, w32_id, tLt, fLt, tLe, fEq, itE, and_true, true_and, and_self, and_false, false_and, ↓reduceIte, nat_add, nat_mul3, nat_mul4, nat_mul6, nat_mul15, nat_mul60, nat_cast, nc1, Int.reduceToNat, upE, upN, fill_ne, fill_in, i0] <;> omega)))
        | (with_reducible apply wp_s; (first | (simp (disch := omega) only [not_false_eq_true, not_true_eq_false, w32_id, tLt, fLt, tLe, fEq, itE, and_true, true_and, and_self, and_false, false_and, ↓reduceIte, nat_add, nat_mul3, nat_mul4, nat_mul6, nat_mul15, nat_mul60, nat_cast, nc1, Int.reduceToNat, upE, upN, fill_ne, fill_in, i0]; with_reducible exact Iff.rfl) | with_reducible exact Iff.rfl); intro hc__; (try subst hc__); rotate_left; intro hc__; rotate_left)
        | (with_reducible apply wp_eq; (with_reducible apply cl_go; simp (disch := omega) only [not_false_eq_true, not_true_eq_false, w32_id, tLt, fLt, tLe, fEq, itE, and_true, true_and, and_self, and_false, false_and, ↓reduceIte, nat_add, nat_mul3, nat_mul4, nat_mul6, nat_mul15, nat_mul60, nat_cast, nc1, Int.reduceToNat, upE, upN, fill_ne, fill_in, i0]; with_reducible exact rfl))
        | (with_reducible refine wp_eq (c_Mo_taken (by omega) _ _ _ _) ?_; with_reducible refine wp_eq (b_Mo_taken_0 _ _ _ _ _) ?_)
        | (with_reducible refine wp_eq (c_Mo_isShip (by omega) _ _ _ _) ?_; with_reducible refine wp_eq (b_Mo_isShip_0 _ _ _ _ _) ?_)
        | (with_reducible refine wp_eq (c_Mo_isNation (by omega) _ _ _ _) ?_; with_reducible refine wp_eq (b_Mo_isNation_0 _ _ _ _ _) ?_)
        | (with_reducible refine wp_eq (c_Mo_isGood (by omega) _ _ _ _) ?_; with_reducible refine wp_eq (b_Mo_isGood_0 _ _ _ _ _) ?_)
        | (with_reducible refine wp_eq (c_Mo_isPort (by omega) _ _ _ _) ?_; with_reducible refine wp_eq (b_Mo_isPort_0 _ _ _ _ _) ?_)
        | (with_reducible refine wp_eq (c_Mo_areTwo (by omega) _ _ _ _ _) ?_; with_reducible refine wp_eq (b_Mo_areTwo_0 _ _ _ _ _ _) ?_)
        | (with_reducible refine wp_eq (c_Mo_gives (by omega) _ _ _ _) ?_; with_reducible refine wp_eq (b_Mo_gives_0 _ _ _ _ _) ?_)
        | (with_reducible refine wp_eq (c_Mo_refuse (by omega) _ _ _ _) ?_; with_reducible refine wp_eq (b_Mo_refuse_0 _ _ _ _ _) ?_)
        | (with_reducible refine wp_eq (c_Mo_orNone (by omega) _ _ _ _) ?_; with_reducible refine wp_eq (b_Mo_orNone_0 _ _ _ _ _) ?_)
        | (with_reducible refine wp_eq (c_Mo_orNothing (by omega) _ _ _ _) ?_; with_reducible refine wp_eq (b_Mo_orNothing_0 _ _ _ _ _) ?_)
        | (with_reducible refine wp_eq (c_Mo_is (by omega) _ _ _ _) ?_; with_reducible refine wp_eq (b_Mo_is_0 _ _ _ _ _) ?_)
        | (with_reducible refine wp_eq (c_Mo_isRule (by omega) _ _ _) ?_; with_reducible refine wp_eq (b_Mo_isRule_0 _ _ _ _) ?_)
        | (with_reducible refine wp_eq (c_Mo_isTons (by omega) _ _ _) ?_; with_reducible refine wp_eq (b_Mo_isTons_0 _ _ _ _) ?_)
        | (with_reducible refine wp_eq (c_Mo_isFrom (by omega) _ _ _ _ _) ?_; with_reducible refine wp_eq (b_Mo_isFrom_0 _ _ _ _ _ _) ?_)
        | (with_reducible refine wp_eq (c_Mo_isTray (by omega) _ _ _) ?_; with_reducible refine wp_eq (b_Mo_isTray_0 _ _ _ _) ?_)
        | (with_reducible apply wp_eq; (with_reducible apply lf_go; simp (disch := omega) only [not_false_eq_true, not_true_eq_false, w32_id, tLt, fLt, tLe, fEq, itE, and_true, true_and, and_self, and_false, false_and, ↓reduceIte, nat_add, nat_mul3, nat_mul4, nat_mul6, nat_mul15, nat_mul60, nat_cast, nc1, Int.reduceToNat, upE, upN, fill_ne, fill_in, i0]; with_reducible exact rfl))
        | with_reducible apply wp_q1
      generalize hF : up (up M2b 271 16 (M2b 271 18)) 271 2 9 = F
      have fF : ∀ b j, ¬(b = 271 ∧ (j = 16 ∨ j = 2)) → F b j = M2b b j := fun b j y => by rw [← hF, upN (by omega), upN (by omega)]
      have g6 : ∀ b j, ¬(b = 271 ∧ 10 ≤ j ∧ j ≤ 20) → ¬(b = 271 ∧ j = 2) → ¬(b = 272 ∧ 2288 ≤ j ∧ j < 2860) → ¬(b = 273 ∧ 96 ≤ j ∧ j < 120) → b ≠ 278 → F b j = up Y 3 15 9 b j := fun b j y1 y2 y3 y4 y5 => by
        rw [fF _ _ (by omega)]
        exact fm b j (by omega) y3 y4 y5
      have gM : ∀ b j, core b j → ¬k1 b j → ¬(b = 12 ∧ j = 2) → ¬(b = 271 ∧ j = 10) → F b j = M b j := fun b j hb q1 q2 q3 => by
        obtain ⟨⟨n1, n2, n3, n4, n5⟩, n6, n7, n8⟩ := core_no hb
        obtain ⟨o1, o2⟩ := core_no1 hb q1 q3
        rw [g6 b j o1 n6 (by omega) (by omega) n1, upN (by omega), fY _ _ q2 o2]
        exact fc b j n4 n2 n3
      refine ⟨_, _, _, rfl, rfl, rfl, A, N, B, P, ?_, h.txt (fun b j hb q1 q2 q3 _ => gM b j hb q1 q2 q3) ?_ ?_ ?_ (h.2.2.2.2.2.2.frame fun b j hb => gM b j (inNw hb) (by unfold kNw at hb; unfold k1; omega) (by unfold kNw at hb; omega) (by unfold kNw at hb; omega))⟩
      · rw [g6 _ _ (by omega) (by omega) (by omega) (by omega) (by omega), upE rfl rfl, ← hF, upE rfl rfl]
      · rw [g6 _ _ (by omega) (by omega) (by omega) (by omega) (by omega), upN (by omega)]; exact v1.1
      · rw [fF _ _ (by omega)]; exact y10
      · have r1 := h.2.1
        unfold R1 at r1 ⊢
        have o : ∀ b j, b = 3 ∧ (j = 16 ∨ j = 17) ∨ b = 271 ∧ (j = 3 ∨ j = 4) → F b j = M b j := fun b j hb => by
          rw [g6 _ _ (by omega) (by omega) (by omega) (by omega) (by omega), upN (by omega), fY _ _ (by omega) (by omega)]
          exact fc b j (by omega) (by omega) (by omega)
        refine ⟨by rw [o _ _ (by omega), o _ _ (by omega)]; exact r1.1, by rw [o _ _ (by omega), o _ _ (by omega)]; exact r1.2.1, ?_, ?_⟩
        · rw [g6 _ _ (by omega) (by omega) (by omega) (by omega) (by omega), upN (by omega), v1.2.1, ← hF, upN (by omega), upE rfl rfl]
          exact y1
        · rw [g6 _ _ (by omega) (by omega) (by omega) (by omega) (by omega), upN (by omega), v1.2.2, fF _ _ (by omega)]
          exact y3
  · have l2 := t1
    by_cases w : 0 ≤ x1
    · repeat' first
        | (with_reducible apply wp_bR; (simp (disch := omega) only [rM L, rK L, rN L, rNf, rNv, rNp, rNd, rRow, rLeg, rMark, nat_cast, Int.reduceToNat, l2]; with_reducible exact rfl))
        | with_reducible apply wp_bI
        | with_reducible apply wp_bV
        | with_reducible apply wp_bL
        | with_reducible apply wp_rI
        | with_reducible apply wp_rV
        | with_reducible apply wp_rL
        | (with_reducible apply wp_1; (first | omega | (simp (disch := omega) only [not_false_eq_true, not_true_eq_false, w32_id, tLt, fLt, tLe, fEq, itE, and_true, true_and, and_self, and_false, false_and, ↓reduceIte, nat_add, nat_mul3, nat_mul4, nat_mul6, nat_mul15, nat_mul60, nat_cast, nc1, Int.reduceToNat, upE, upN, fill_ne, fill_in, i0, l2] <;> omega)))
        | (with_reducible apply wp_2; (first | omega | (simp (disch := omega) only [not_false_eq_true, not_true_eq_false, w32_id, tLt, fLt, tLe, fEq, itE, and_true, true_and, and_self, and_false, false_and, ↓reduceIte, nat_add, nat_mul3, nat_mul4, nat_mul6, nat_mul15, nat_mul60, nat_cast, nc1, Int.reduceToNat, upE, upN, fill_ne, fill_in, i0, l2] <;> omega)))
        | (with_reducible apply wp_s; (first | (simp (disch := omega) only [not_false_eq_true, not_true_eq_false, w32_id, tLt, fLt, tLe, fEq, itE, and_true, true_and, and_self, and_false, false_and, ↓reduceIte, nat_add, nat_mul3, nat_mul4, nat_mul6, nat_mul15, nat_mul60, nat_cast, nc1, Int.reduceToNat, upE, upN, fill_ne, fill_in, i0, l2]; with_reducible exact Iff.rfl) | with_reducible exact Iff.rfl); intro hc__; (try subst hc__); rotate_left; intro hc__; rotate_left)
        | (with_reducible apply wp_eq; (with_reducible apply cl_go; simp (disch := omega) only [not_false_eq_true, not_true_eq_false, w32_id, tLt, fLt, tLe, fEq, itE, and_true, true_and, and_self, and_false, false_and, ↓reduceIte, nat_add, nat_mul3, nat_mul4, nat_mul6, nat_mul15, nat_mul60, nat_cast, nc1, Int.reduceToNat, upE, upN, fill_ne, fill_in, i0, l2]; with_reducible exact rfl))
        | (with_reducible refine wp_eq (c_Ca_world (by omega) _ _ _ _) ?_; with_reducible refine wp_eq (b_Ca_world_0 _ _ _ _ _) ?_)
        | (with_reducible refine wp_eq (c_Ca_within (by omega) _ _ _ _ _) ?_; with_reducible refine wp_eq (b_Ca_within_0 _ _ _ _ _ _) ?_)
        | (with_reducible refine wp_eq (c_Ca_isShip (by omega) _ _ _ _) ?_; with_reducible refine wp_eq (b_Ca_isShip_0 _ _ _ _ _) ?_)
        | (with_reducible refine wp_eq (c_Ca_isNation (by omega) _ _ _ _) ?_; with_reducible refine wp_eq (b_Ca_isNation_0 _ _ _ _ _) ?_)
        | (with_reducible refine wp_eq (c_Ca_isGood (by omega) _ _ _ _) ?_; with_reducible refine wp_eq (b_Ca_isGood_0 _ _ _ _ _) ?_)
        | (with_reducible refine wp_eq (c_Ca_isPort (by omega) _ _ _ _) ?_; with_reducible refine wp_eq (b_Ca_isPort_0 _ _ _ _ _) ?_)
        | (with_reducible refine wp_eq (c_Ca_areTwo (by omega) _ _ _ _ _ _) ?_; with_reducible refine wp_eq (b_Ca_areTwo_0 _ _ _ _ _ _ _) ?_)
        | (with_reducible refine wp_eq (c_Ca_answer (by omega) _ _ _ _) ?_; with_reducible refine wp_eq (b_Ca_answer_0 _ _ _ _ _) ?_)
        | (with_reducible refine wp_eq (c_Ca_refuse (by omega) _ _ _ _) ?_; with_reducible refine wp_eq (b_Ca_refuse_0 _ _ _ _ _) ?_)
        | (with_reducible refine wp_eq (c_Ca_answerOr (by omega) _ _ _ _ _) ?_; with_reducible refine wp_eq (b_Ca_answerOr_0 _ _ _ _ _ _) ?_)
        | (with_reducible refine wp_eq (c_Ca_agree (by omega) _ _ _) ?_; with_reducible refine wp_eq (b_Ca_agree_0 _ _ _ _) ?_)
        | (with_reducible refine wp_eq (c_Ca_deny (by omega) _ _ _ _) ?_; with_reducible refine wp_eq (b_Ca_deny_0 _ _ _ _ _) ?_)
        | (with_reducible refine wp_eq (c_Mo_world (by omega) _ _ _ _) ?_; with_reducible refine wp_eq (b_Mo_world_0 _ _ _ _ _) ?_)
        | (with_reducible refine wp_eq (c_Mo_begins (by omega) _ _ _ _ _) ?_; with_reducible refine wp_eq (b_Mo_begins_0 _ _ _ _ _ _) ?_)
        | (with_reducible refine wp_eq (c_Mo_isShip (by omega) _ _ _ _) ?_; with_reducible refine wp_eq (b_Mo_isShip_0 _ _ _ _ _) ?_)
        | (with_reducible refine wp_eq (c_Mo_isNation (by omega) _ _ _ _) ?_; with_reducible refine wp_eq (b_Mo_isNation_0 _ _ _ _ _) ?_)
        | (with_reducible refine wp_eq (c_Mo_isGood (by omega) _ _ _ _) ?_; with_reducible refine wp_eq (b_Mo_isGood_0 _ _ _ _ _) ?_)
        | (with_reducible refine wp_eq (c_Mo_isPort (by omega) _ _ _ _) ?_; with_reducible refine wp_eq (b_Mo_isPort_0 _ _ _ _ _) ?_)
        | (with_reducible refine wp_eq (c_Mo_areTwo (by omega) _ _ _ _ _) ?_; with_reducible refine wp_eq (b_Mo_areTwo_0 _ _ _ _ _ _) ?_)
        | (with_reducible refine wp_eq (c_Mo_gives (by omega) _ _ _ _) ?_; with_reducible refine wp_eq (b_Mo_gives_0 _ _ _ _ _) ?_)
        | (with_reducible refine wp_eq (c_Mo_refuse (by omega) _ _ _ _) ?_; with_reducible refine wp_eq (b_Mo_refuse_0 _ _ _ _ _) ?_)
        | (with_reducible refine wp_eq (c_Mo_orNone (by omega) _ _ _ _) ?_; with_reducible refine wp_eq (b_Mo_orNone_0 _ _ _ _ _) ?_)
        | (with_reducible refine wp_eq (c_Mo_orNothing (by omega) _ _ _ _) ?_; with_reducible refine wp_eq (b_Mo_orNothing_0 _ _ _ _ _) ?_)
        | (with_reducible refine wp_eq (c_Mo_is (by omega) _ _ _ _) ?_; with_reducible refine wp_eq (b_Mo_is_0 _ _ _ _ _) ?_)
        | (with_reducible refine wp_eq (c_Mo_isRule (by omega) _ _ _) ?_; with_reducible refine wp_eq (b_Mo_isRule_0 _ _ _ _) ?_)
        | (with_reducible refine wp_eq (c_Mo_isTons (by omega) _ _ _) ?_; with_reducible refine wp_eq (b_Mo_isTons_0 _ _ _ _) ?_)
        | (with_reducible refine wp_eq (c_Mo_isFrom (by omega) _ _ _ _ _) ?_; with_reducible refine wp_eq (b_Mo_isFrom_0 _ _ _ _ _ _) ?_)
        | (with_reducible refine wp_eq (c_Mo_isTray (by omega) _ _ _) ?_; with_reducible refine wp_eq (b_Mo_isTray_0 _ _ _ _) ?_)
        | (with_reducible apply wp_eq; (with_reducible apply lf_go; simp (disch := omega) only [not_false_eq_true, not_true_eq_false, w32_id, tLt, fLt, tLe, fEq, itE, and_true, true_and, and_self, and_false, false_and, ↓reduceIte, nat_add, nat_mul3, nat_mul4, nat_mul6, nat_mul15, nat_mul60, nat_cast, nc1, Int.reduceToNat, upE, upN, fill_ne, fill_in, i0, l2]; with_reducible exact rfl))
        | with_reducible apply wp_q1
      all_goals exact wp_ask (by first | rfl | exact congrArg (fun z => some (vI z)) (by omega) | simp (disch := omega) only [not_false_eq_true, not_true_eq_false, w32_id, tLt, fLt, tLe, fEq, itE, and_true, true_and, and_self, and_false, false_and, ↓reduceIte, nat_add, nat_mul3, nat_mul4, nat_mul6, nat_mul15, nat_mul60, nat_cast, nc1, Int.reduceToNat, upE, upN, fill_ne, fill_in, i0]) (by repeat' first | assumption | apply RelS.up | apply RelS.fill | (intros; unfold core k1 kTr kTp kLv kLp kMk kNw; omega)) (by first | assumption | simp (disch := omega) only [upE, upN, fill_ne])
    · repeat' first
        | (with_reducible apply wp_bR; (simp (disch := omega) only [rM L, rK L, rN L, rNf, rNv, rNp, rNd, rRow, rLeg, rMark, nat_cast, Int.reduceToNat, l2]; with_reducible exact rfl))
        | with_reducible apply wp_bI
        | with_reducible apply wp_bV
        | with_reducible apply wp_bL
        | with_reducible apply wp_rI
        | with_reducible apply wp_rV
        | with_reducible apply wp_rL
        | (with_reducible apply wp_1; (first | omega | (simp (disch := omega) only [not_false_eq_true, not_true_eq_false, w32_id, tLt, fLt, tLe, fEq, itE, and_true, true_and, and_self, and_false, false_and, ↓reduceIte, nat_add, nat_mul3, nat_mul4, nat_mul6, nat_mul15, nat_mul60, nat_cast, nc1, Int.reduceToNat, upE, upN, fill_ne, fill_in, i0, l2] <;> omega)))
        | (with_reducible apply wp_2; (first | omega | (simp (disch := omega) only [not_false_eq_true, not_true_eq_false, w32_id, tLt, fLt, tLe, fEq, itE, and_true, true_and, and_self, and_false, false_and, ↓reduceIte, nat_add, nat_mul3, nat_mul4, nat_mul6, nat_mul15, nat_mul60, nat_cast, nc1, Int.reduceToNat, upE, upN, fill_ne, fill_in, i0, l2] <;> omega)))
        | (with_reducible apply wp_s; (first | (simp (disch := omega) only [not_false_eq_true, not_true_eq_false, w32_id, tLt, fLt, tLe, fEq, itE, and_true, true_and, and_self, and_false, false_and, ↓reduceIte, nat_add, nat_mul3, nat_mul4, nat_mul6, nat_mul15, nat_mul60, nat_cast, nc1, Int.reduceToNat, upE, upN, fill_ne, fill_in, i0, l2]; with_reducible exact Iff.rfl) | with_reducible exact Iff.rfl); intro hc__; (try subst hc__); rotate_left; intro hc__; rotate_left)
        | (with_reducible apply wp_eq; (with_reducible apply cl_go; simp (disch := omega) only [not_false_eq_true, not_true_eq_false, w32_id, tLt, fLt, tLe, fEq, itE, and_true, true_and, and_self, and_false, false_and, ↓reduceIte, nat_add, nat_mul3, nat_mul4, nat_mul6, nat_mul15, nat_mul60, nat_cast, nc1, Int.reduceToNat, upE, upN, fill_ne, fill_in, i0, l2]; with_reducible exact rfl))
        | (with_reducible refine wp_eq (c_Ca_world (by omega) _ _ _ _) ?_; with_reducible refine wp_eq (b_Ca_world_0 _ _ _ _ _) ?_)
        | (with_reducible refine wp_eq (c_Ca_within (by omega) _ _ _ _ _) ?_; with_reducible refine wp_eq (b_Ca_within_0 _ _ _ _ _ _) ?_)
        | (with_reducible refine wp_eq (c_Ca_isShip (by omega) _ _ _ _) ?_; with_reducible refine wp_eq (b_Ca_isShip_0 _ _ _ _ _) ?_)
        | (with_reducible refine wp_eq (c_Ca_isNation (by omega) _ _ _ _) ?_; with_reducible refine wp_eq (b_Ca_isNation_0 _ _ _ _ _) ?_)
        | (with_reducible refine wp_eq (c_Ca_isGood (by omega) _ _ _ _) ?_; with_reducible refine wp_eq (b_Ca_isGood_0 _ _ _ _ _) ?_)
        | (with_reducible refine wp_eq (c_Ca_isPort (by omega) _ _ _ _) ?_; with_reducible refine wp_eq (b_Ca_isPort_0 _ _ _ _ _) ?_)
        | (with_reducible refine wp_eq (c_Ca_areTwo (by omega) _ _ _ _ _ _) ?_; with_reducible refine wp_eq (b_Ca_areTwo_0 _ _ _ _ _ _ _) ?_)
        | (with_reducible refine wp_eq (c_Ca_answer (by omega) _ _ _ _) ?_; with_reducible refine wp_eq (b_Ca_answer_0 _ _ _ _ _) ?_)
        | (with_reducible refine wp_eq (c_Ca_refuse (by omega) _ _ _ _) ?_; with_reducible refine wp_eq (b_Ca_refuse_0 _ _ _ _ _) ?_)
        | (with_reducible refine wp_eq (c_Ca_answerOr (by omega) _ _ _ _ _) ?_; with_reducible refine wp_eq (b_Ca_answerOr_0 _ _ _ _ _ _) ?_)
        | (with_reducible refine wp_eq (c_Ca_agree (by omega) _ _ _) ?_; with_reducible refine wp_eq (b_Ca_agree_0 _ _ _ _) ?_)
        | (with_reducible refine wp_eq (c_Ca_deny (by omega) _ _ _ _) ?_; with_reducible refine wp_eq (b_Ca_deny_0 _ _ _ _ _) ?_)
        | (with_reducible refine wp_eq (c_Mo_world (by omega) _ _ _ _) ?_; with_reducible refine wp_eq (b_Mo_world_0 _ _ _ _ _) ?_)
        | (with_reducible refine wp_eq (c_Mo_begins (by omega) _ _ _ _ _) ?_; with_reducible refine wp_eq (b_Mo_begins_0 _ _ _ _ _ _) ?_)
        | (with_reducible refine wp_eq (c_Mo_isShip (by omega) _ _ _ _) ?_; with_reducible refine wp_eq (b_Mo_isShip_0 _ _ _ _ _) ?_)
        | (with_reducible refine wp_eq (c_Mo_isNation (by omega) _ _ _ _) ?_; with_reducible refine wp_eq (b_Mo_isNation_0 _ _ _ _ _) ?_)
        | (with_reducible refine wp_eq (c_Mo_isGood (by omega) _ _ _ _) ?_; with_reducible refine wp_eq (b_Mo_isGood_0 _ _ _ _ _) ?_)
        | (with_reducible refine wp_eq (c_Mo_isPort (by omega) _ _ _ _) ?_; with_reducible refine wp_eq (b_Mo_isPort_0 _ _ _ _ _) ?_)
        | (with_reducible refine wp_eq (c_Mo_areTwo (by omega) _ _ _ _ _) ?_; with_reducible refine wp_eq (b_Mo_areTwo_0 _ _ _ _ _ _) ?_)
        | (with_reducible refine wp_eq (c_Mo_gives (by omega) _ _ _ _) ?_; with_reducible refine wp_eq (b_Mo_gives_0 _ _ _ _ _) ?_)
        | (with_reducible refine wp_eq (c_Mo_refuse (by omega) _ _ _ _) ?_; with_reducible refine wp_eq (b_Mo_refuse_0 _ _ _ _ _) ?_)
        | (with_reducible refine wp_eq (c_Mo_orNone (by omega) _ _ _ _) ?_; with_reducible refine wp_eq (b_Mo_orNone_0 _ _ _ _ _) ?_)
        | (with_reducible refine wp_eq (c_Mo_orNothing (by omega) _ _ _ _) ?_; with_reducible refine wp_eq (b_Mo_orNothing_0 _ _ _ _ _) ?_)
        | (with_reducible refine wp_eq (c_Mo_is (by omega) _ _ _ _) ?_; with_reducible refine wp_eq (b_Mo_is_0 _ _ _ _ _) ?_)
        | (with_reducible refine wp_eq (c_Mo_isRule (by omega) _ _ _) ?_; with_reducible refine wp_eq (b_Mo_isRule_0 _ _ _ _) ?_)
        | (with_reducible refine wp_eq (c_Mo_isTons (by omega) _ _ _) ?_; with_reducible refine wp_eq (b_Mo_isTons_0 _ _ _ _) ?_)
        | (with_reducible refine wp_eq (c_Mo_isFrom (by omega) _ _ _ _ _) ?_; with_reducible refine wp_eq (b_Mo_isFrom_0 _ _ _ _ _ _) ?_)
        | (with_reducible refine wp_eq (c_Mo_isTray (by omega) _ _ _) ?_; with_reducible refine wp_eq (b_Mo_isTray_0 _ _ _ _) ?_)
        | (with_reducible apply wp_eq; (with_reducible apply lf_go; simp (disch := omega) only [not_false_eq_true, not_true_eq_false, w32_id, tLt, fLt, tLe, fEq, itE, and_true, true_and, and_self, and_false, false_and, ↓reduceIte, nat_add, nat_mul3, nat_mul4, nat_mul6, nat_mul15, nat_mul60, nat_cast, nc1, Int.reduceToNat, upE, upN, fill_ne, fill_in, i0, l2]; with_reducible exact rfl))
        | with_reducible apply wp_q1
      all_goals exact wp_ask (by first | rfl | exact congrArg (fun z => some (vI z)) (by omega) | simp (disch := omega) only [not_false_eq_true, not_true_eq_false, w32_id, tLt, fLt, tLe, fEq, itE, and_true, true_and, and_self, and_false, false_and, ↓reduceIte, nat_add, nat_mul3, nat_mul4, nat_mul6, nat_mul15, nat_mul60, nat_cast, nc1, Int.reduceToNat, upE, upN, fill_ne, fill_in, i0]) (by repeat' first | assumption | apply RelS.up | apply RelS.fill | (intros; unfold core k1 kTr kTp kLv kLp kMk kNw; omega)) (by first | assumption | simp (disch := omega) only [upE, upN, fill_ne])

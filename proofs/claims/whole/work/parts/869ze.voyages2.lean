/-! THE CALL voyages -/
theorem Inv.cg6 {A A' : Nat → Int} (h : Inv A) (e : ∀ k, k < 206 → k ≠ 6 → A' k = A k) : Inv A' := by
  obtain ⟨i1, i2, i3, i4, i5, i6, i7, i8, i9⟩ := h
  have a0 := e 0 (by omega) (by omega)
  have a1 := e 1 (by omega) (by omega)
  have a2 := e 2 (by omega) (by omega)
  have a3 := e 3 (by omega) (by omega)
  exact ⟨by unfold Cn at *; rw [a0, a1, a2, a3, e 4 (by omega) (by omega)]; exact i1, i2.cg (by omega) a1 (fun k _ _ => e k (by omega) (by omega)) i1, i3.cg a0 (fun k _ _ => e k (by omega) (by omega)) i1, i4.cg (by omega) a2 (fun p _ => e _ (by omega) (by omega)) i1, i5.cg fun k _ _ _ => e k (by omega) (by omega), i6.cg fun k _ _ _ => e k (by omega) (by omega), i7.cg (by omega) (by omega) a3 (fun k _ _ => e k (by omega) (by omega)) i1, by rw [e 5 (by omega) (by omega)]; exact i8, i9.cg a0 (fun k _ => e _ (by omega) (by omega)) i1⟩
/-- another plan -/
theorem World.pl {M M' : Mm} {s : Nat} {A A' N : Nat → Int} (h : World M s A N) (e : ∀ k, k < 206 → k ≠ 6 → A' k = A k) (f : ∀ b j, s ≤ b → b ≤ s + 46 → ¬(s + 33 ≤ b ∧ b ≤ s + 38) → M' b j = M b j) (hpl : Pl M' s A') : World M' s A' N := by
  obtain ⟨⟨h1, h2, h3, h4, h5, h6, h7⟩, hd, hs, -, ⟨n1, n2, n3, n4⟩, hI⟩ := h
  have hC := hI.1
  unfold Cn at hC
  have a0 := e 0 (by omega) (by omega)
  have a1 := e 1 (by omega) (by omega)
  have a2 := e 2 (by omega) (by omega)
  have a3 := e 3 (by omega) (by omega)
  refine ⟨⟨fun k hk => ?_, ?_, fun n hn => ?_, fun g hg => ?_, fun p hp => ?_, fun p g hp hg => ?_, fun p q hp hq => ?_⟩, ?_, fun i hi => ⟨fun w hw => ?_, fun g hg => ?_⟩, hpl, ⟨fun i hi => ?_, fun i hi => ?_, fun i hi => ?_, fun i hi => ?_⟩, hI.cg6 e⟩
  · rw [f _ _ (by omega) (by omega) (by omega), e _ (by omega) (by omega)]; exact h1 k hk
  · rw [f _ _ (by omega) (by omega) (by omega), e _ (by omega) (by omega)]; exact h2
  · rw [a0] at hn
    rw [f _ _ (by omega) (by omega) (by omega), f _ _ (by omega) (by omega) (by omega), f _ _ (by omega) (by omega) (by omega), f _ _ (by omega) (by omega) (by omega), e _ (by omega) (by omega), e (9 + 4 * n) (by omega) (by omega), e (10 + 4 * n) (by omega) (by omega), e (11 + 4 * n) (by omega) (by omega)]
    exact h3 n hn
  · rw [a1] at hg
    rw [f _ _ (by omega) (by omega) (by omega), f _ _ (by omega) (by omega) (by omega), f _ _ (by omega) (by omega) (by omega), e _ (by omega) (by omega), e (33 + 3 * g) (by omega) (by omega), e (34 + 3 * g) (by omega) (by omega)]
    exact h4 g hg
  · rw [a2] at hp
    rw [f _ _ (by omega) (by omega) (by omega), e _ (by omega) (by omega)]; exact h5 p hp
  · rw [f _ _ (by omega) (by omega) (by omega), e _ (by omega) (by omega)]; exact h6 p g hp hg
  · rw [f _ _ (by omega) (by omega) (by omega), e _ (by omega) (by omega)]; exact h7 p q hp hq
  · rw [f _ _ (by omega) (by omega) (by omega), e _ (by omega) (by omega)]; exact hd
  · rw [a3] at hi
    rw [f _ _ (by omega) (by omega) (by omega), e _ (by omega) (by omega)]; exact (hs i hi).1 w hw
  · rw [a3] at hi
    rw [f _ _ (by omega) (by omega) (by omega), e _ (by omega) (by omega)]; exact (hs i hi).2 g hg
  · rw [a0] at hi
    rw [f _ _ (by omega) (by omega) (by omega)]; exact n1 i hi
  · rw [a1] at hi
    rw [f _ _ (by omega) (by omega) (by omega)]; exact n2 i hi
  · rw [a2] at hi
    rw [f _ _ (by omega) (by omega) (by omega)]; exact n3 i hi
  · rw [a3] at hi
    rw [f _ _ (by omega) (by omega) (by omega)]; exact n4 i hi
theorem StR.mv2 {M M' : Mm} {p p' k : Nat} {A : Nat → Int} (h : StR M p A k) (e : ∀ o, 1 ≤ o → o ≤ 5 → M' (p' + o) k = M (p + o) k) : StR M' p' A k := by
  unfold StR at *
  rw [e 1 (by omega) (by omega), e 2 (by omega) (by omega), e 3 (by omega) (by omega), e 4 (by omega) (by omega), e 5 (by omega) (by omega)]
  exact h
theorem core_nv {b j : Nat} (hb : core b j) : b ≠ 16 ∧ b ≠ 17 ∧ b ≠ 279 ∧ ¬(b = 271 ∧ 18 ≤ j ∧ j ≤ 39) := by
  rcases hb with hb | hb | hb | hb | hb | hb | hb | hb
  · omega
  · unfold k1 at hb; omega
  · unfold kTr at hb; omega
  · unfold kTp at hb; omega
  · unfold kLv at hb; omega
  · unfold kLp at hb; omega
  · unfold kMk at hb; omega
  · unfold kNw at hb; omega
theorem RNw.nv {M M2 : Mm} {A N : Nat → Int} (h : RNw M A N) (e2 : ∀ j, M2 273 j = M 273 j) (e3 : ∀ j, j < 4 → M2 272 j = M 272 j) : NV M M2 (A 0).toNat (A 1).toNat (A 2).toNat (A 3).toNat := by
  obtain ⟨hA, hN, ⟨c1, -⟩, -, -, -, ⟨n1, n2, n3, n4⟩, hI⟩ := h
  have hC := hI.1
  unfold Cn at hC
  have k0 : M 20 0 = A 0 := c1 0 (by omega)
  have k1' : M 20 1 = A 1 := c1 1 (by omega)
  have k2 : M 20 2 = A 2 := c1 2 (by omega)
  have k3 : M 20 3 = A 3 := c1 3 (by omega)
  refine ⟨⟨?_, by omega, by omega, fun i hi => ?_⟩, ⟨?_, by omega, by omega, fun i hi => ?_⟩, ⟨?_, by omega, by omega, fun i hi => ?_⟩, ⟨?_, by omega, by omega, fun i hi => ?_⟩, ?_, ?_, ?_, ?_⟩
  · show M 20 0 = _
    omega
  · rw [e2, hN _ (by omega), Nat.zero_add]; exact n1 i (by omega)
  · show M 20 1 = _
    omega
  · rw [e2, hN _ (by omega)]; exact n2 i (by omega)
  · show M 20 2 = _
    omega
  · rw [e2, hN _ (by omega)]; exact n3 i (by omega)
  · show M 20 3 = _
    omega
  · rw [e2, hN _ (by omega)]; exact n4 i (by omega)
  · rw [e3 _ (by omega), hA _ (by omega)]; omega
  · rw [e3 _ (by omega), hA _ (by omega)]; omega
  · rw [e3 _ (by omega), hA _ (by omega)]; omega
  · rw [e3 _ (by omega), hA _ (by omega)]; omega
set_option maxHeartbeats 8000000 in
set_option maxRecDepth 16384 in
theorem case_voyages (x1 : Int) : Case m_Ca_voyages m_Mo_voyages [vI x1] := by
  intro L xs M A N B P ⟨hs0, h⟩
  obtain ⟨t1, t2, t3, t4, t5⟩ := h.tpe
  have hnw := h.2.2.2.2.2.2
  by_cases hv : 0 ≤ x1 ∧ x1 ≤ M 271 10 ∧ x1 ≤ 300
  · obtain ⟨n, rfl⟩ := Int.eq_ofNat_of_zero_le hv.1
    have hb : ∀ k, k < n → M 13 k = M 13 k ∧ -128 ≤ M 13 k ∧ M 13 k ≤ 127 := fun k hk => by have := t4 k (by omega); omega
    have hb2 : ∀ (M2 : Mm), (∀ k, M2 277 k = M 277 k) → ∀ k, k < n → M2 277 k = M 13 k ∧ -128 ≤ M 13 k ∧ M 13 k ≤ 127 := fun M2 e k hk => by
      have := t4 k (by omega)
      rw [e k]
      omega
    have kw := fun (M2 : Mm) (e : ∀ k, M2 277 k = M 277 k) (e' : M2 271 10 = M 271 10) (e2 : ∀ j, M2 273 j = M 273 j) (e3 : ∀ j, j < 4 → M2 272 j = M 272 j) => k_voyages (L := L) (d1 := 100 - 1) (d2 := 100) (bt := M 13) (n := n) (M1 := M) (M2 := M2) (by omega) (by omega) (by omega) hb (hb2 M2 e) t5 (by rw [e']; exact hv.2.1) (hnw.nv e2 e3)
    obtain ⟨Ma, cb, kk⟩ := kw M (fun _ => rfl) rfl (fun _ => rfl) (fun _ _ => rfl)
    rcases kk with ⟨M1', M2', k0, c0, s0, ct, -, v0, ⟨z5, -⟩, fc, -⟩ | ⟨M1', M2', ct, -, ⟨z1, z2, z3⟩, -, fc, -⟩
    · -- taken
      have nf : callD (100 - 1) m_Ca_noteFault [vR 11 0 3] (SH L) (up M1' 98 7 1) = some (none, SH L, up (up (up (up M1' 98 7 1) 12 2 0) 3 13 0) 3 14 (-1)) := by
        repeat' first
          | (with_reducible apply bR_go; (simp (disch := omega) only [rM L, rK L, rN L, rNf, rNv, rNp, rNd, rRow, rLeg, rMark, nat_cast, Int.reduceToNat, z5]; with_reducible exact rfl))
          | with_reducible apply bI_go
          | with_reducible apply bV_go
          | with_reducible apply bL_go
          | (with_reducible apply it_1; (first | omega | (simp (disch := omega) only [not_false_eq_true, not_true_eq_false, w32_id, tLt, fLt, tLe, fEq, itE, and_true, true_and, and_self, and_false, false_and, ↓reduceIte, nat_add, nat_mul3, nat_mul4, nat_mul6, nat_mul15, nat_mul60, nat_cast, nc1, Int.reduceToNat, upE, upN, fill_ne, fill_in, i0, z5] <;> omega)))
          | (with_reducible apply it_2; (first | omega | (simp (disch := omega) only [not_false_eq_true, not_true_eq_false, w32_id, tLt, fLt, tLe, fEq, itE, and_true, true_and, and_self, and_false, false_and, ↓reduceIte, nat_add, nat_mul3, nat_mul4, nat_mul6, nat_mul15, nat_mul60, nat_cast, nc1, Int.reduceToNat, upE, upN, fill_ne, fill_in, i0, z5] <;> omega)))
          | (with_reducible refine cl_go ?_; simp (disch := omega) only [not_false_eq_true, not_true_eq_false, w32_id, tLt, fLt, tLe, fEq, itE, and_true, true_and, and_self, and_false, false_and, ↓reduceIte, nat_add, nat_mul3, nat_mul4, nat_mul6, nat_mul15, nat_mul60, nat_cast, nc1, Int.reduceToNat, upE, upN, fill_ne, fill_in, i0, z5])
          | rw [c_Ca_noteFault (by omega), b_Ca_noteFault_0]
          | (with_reducible refine rn_go ?_; simp (disch := omega) only [not_false_eq_true, not_true_eq_false, w32_id, tLt, fLt, tLe, fEq, itE, and_true, true_and, and_self, and_false, false_and, ↓reduceIte, nat_add, nat_mul3, nat_mul4, nat_mul6, nat_mul15, nat_mul60, nat_cast, nc1, Int.reduceToNat, upE, upN, fill_ne, fill_in, i0, z5])
          | (with_reducible refine lf_go ?_; simp (disch := omega) only [not_false_eq_true, not_true_eq_false, w32_id, tLt, fLt, tLe, fEq, itE, and_true, true_and, and_self, and_false, false_and, ↓reduceIte, nat_add, nat_mul3, nat_mul4, nat_mul6, nat_mul15, nat_mul60, nat_cast, nc1, Int.reduceToNat, upE, upN, fill_ne, fill_in, i0, z5])
          | with_reducible exact rfl
      generalize hY : up (up (up (up M1' 98 7 1) 12 2 0) 3 13 0) 3 14 (-1) = Y at nf
      have fY : ∀ b j, ¬(b = 98 ∧ j = 7) → ¬(b = 12 ∧ j = 2) → ¬(b = 3 ∧ (j = 13 ∨ j = 14)) → Y b j = M1' b j := fun b j y1 y2 y3 => by rw [← hY, upN (by omega), upN (by omega), upN (by omega), upN (by omega)]
      have v1 : Y 12 2 = 0 ∧ Y 3 13 = 0 ∧ Y 3 14 = -1 ∧ Y 98 7 = 1 := by
        rw [← hY]
        exact ⟨by rw [upN (by omega), upN (by omega), upE rfl rfl], by rw [upN (by omega), upE rfl rfl], upE rfl rfl, by rw [upN (by omega), upN (by omega), upN (by omega), upE rfl rfl]⟩
      obtain ⟨_, _, M3, c3, rfl, rfl, cpA, cp5, cp6, cp7, cpF⟩ := p_copy (L := L) (d := 100 - 1) (M := Y) (s := 18) (e := 65) (by omega) (show isSt 18 by unfold isSt; omega) (show isSt 65 by unfold isSt; omega) (by omega) (Or.inr v1.2.2.2)
      have c3 : callD (100 - 1) m_Plan_copyFrom [vR 3 0 51, vR 3 0 98] (SH L) Y = some (none, SH L, M3) := c3
      have m3 : M3 51 6 = (c0 : Int) := by
        have e : M3 51 6 = Y 98 6 := cp6
        rw [e, fY _ _ (by omega) (by omega) (by omega)]
        exact v0.1.2.1
      have m5 : M3 51 5 = (k0 : Int) := by
        have e : M3 51 5 = Y 98 5 := cp5
        rw [e, fY _ _ (by omega) (by omega) (by omega)]
        exact v0.1.1
      have m7 : M3 51 7 = 1 := by
        have e : M3 51 7 = Y 98 7 := cp7
        rw [e]
        exact v1.2.2.2
      have cpF : ∀ b j, ¬(51 ≤ b ∧ b ≤ 56) → M3 b j = Y b j := cpF
      have cpA : ∀ o j, 1 ≤ o → o ≤ 5 → j < 60 → M3 (51 + o) j = Y (98 + o) j := cpA
      have l2 := t1
      have r65 : refOf (SH L) 65 2 = some 98 := rfl
      repeat' first
        | (with_reducible apply wp_bR; (simp (disch := omega) only [rM L, rK L, rN L, rNf, rNv, rNp, rNd, rRow, rLeg, rMark, nat_cast, Int.reduceToNat, l2, m3, r65]; with_reducible exact rfl))
        | with_reducible apply wp_bI
        | with_reducible apply wp_bV
        | with_reducible apply wp_bL
        | with_reducible apply wp_rI
        | with_reducible apply wp_rV
        | with_reducible apply wp_rL
        | (with_reducible apply wp_1; (first | omega | (simp (disch := omega) only [not_false_eq_true, not_true_eq_false, w32_id, tLt, fLt, tLe, fEq, itE, and_true, true_and, and_self, and_false, false_and, ↓reduceIte, nat_add, nat_mul3, nat_mul4, nat_mul6, nat_mul15, nat_mul60, nat_cast, nc1, Int.reduceToNat, upE, upN, fill_ne, fill_in, i0, l2, m3, r65] <;> omega)))
        | (with_reducible apply wp_2; (first | omega | (simp (disch := omega) only [not_false_eq_true, not_true_eq_false, w32_id, tLt, fLt, tLe, fEq, itE, and_true, true_and, and_self, and_false, false_and, ↓reduceIte, nat_add, nat_mul3, nat_mul4, nat_mul6, nat_mul15, nat_mul60, nat_cast, nc1, Int.reduceToNat, upE, upN, fill_ne, fill_in, i0, l2, m3, r65] <;> omega)))
        | (with_reducible apply wp_s; (first | (simp (disch := omega) only [not_false_eq_true, not_true_eq_false, w32_id, tLt, fLt, tLe, fEq, itE, and_true, true_and, and_self, and_false, false_and, ↓reduceIte, nat_add, nat_mul3, nat_mul4, nat_mul6, nat_mul15, nat_mul60, nat_cast, nc1, Int.reduceToNat, upE, upN, fill_ne, fill_in, i0, l2, m3, r65]; with_reducible exact Iff.rfl) | with_reducible exact Iff.rfl); intro hc__; (try subst hc__); rotate_left; intro hc__; rotate_left)
        | (with_reducible apply wp_eq; (with_reducible apply cl_go; simp (disch := omega) only [not_false_eq_true, not_true_eq_false, w32_id, tLt, fLt, tLe, fEq, itE, and_true, true_and, and_self, and_false, false_and, ↓reduceIte, nat_add, nat_mul3, nat_mul4, nat_mul6, nat_mul15, nat_mul60, nat_cast, nc1, Int.reduceToNat, upE, upN, fill_ne, fill_in, i0, l2, m3, r65]; with_reducible exact rfl))
        | (with_reducible refine wp_eq (c_Ca_voyages (by omega) _ _ _ _) ?_; with_reducible refine wp_eq (b_Ca_voyages_0 _ _ _ _ _) ?_)
        | (with_reducible refine wp_eq (c_Ca_within (by omega) _ _ _ _ _) ?_; with_reducible refine wp_eq (b_Ca_within_0 _ _ _ _ _ _) ?_)
        | (with_reducible refine wp_eq (c_Ca_isShip (by omega) _ _ _ _) ?_; with_reducible refine wp_eq (b_Ca_isShip_0 _ _ _ _ _) ?_)
        | (with_reducible refine wp_eq (c_Ca_isNation (by omega) _ _ _ _) ?_; with_reducible refine wp_eq (b_Ca_isNation_0 _ _ _ _ _) ?_)
        | (with_reducible refine wp_eq (c_Ca_isGood (by omega) _ _ _ _) ?_; with_reducible refine wp_eq (b_Ca_isGood_0 _ _ _ _ _) ?_)
        | (with_reducible refine wp_eq (c_Ca_isPort (by omega) _ _ _ _) ?_; with_reducible refine wp_eq (b_Ca_isPort_0 _ _ _ _ _) ?_)
        | (with_reducible refine wp_eq (c_Ca_areTwo (by omega) _ _ _ _ _ _) ?_; with_reducible refine wp_eq (b_Ca_areTwo_0 _ _ _ _ _ _ _) ?_)
        | (with_reducible refine wp_eq (c_Ca_answer (by omega) _ _ _ _) ?_; with_reducible refine wp_eq (b_Ca_answer_0 _ _ _ _ _) ?_)
        | (with_reducible refine wp_eq (c_Ca_refuse (by omega) _ _ _ _) ?_; with_reducible refine wp_eq (b_Ca_refuse_0 _ _ _ _ _) ?_)
        | (with_reducible refine wp_eq (c_Ca_answerOr (by omega) _ _ _ _ _) ?_; with_reducible refine wp_eq (b_Ca_answerOr_0 _ _ _ _ _ _) ?_)
        | (with_reducible refine wp_eq (c_Ca_agree (by omega) _ _ _) ?_; with_reducible refine wp_eq (b_Ca_agree_0 _ _ _ _) ?_)
        | (with_reducible refine wp_eq (c_Ca_deny (by omega) _ _ _ _) ?_; with_reducible refine wp_eq (b_Ca_deny_0 _ _ _ _ _) ?_)
        | with_reducible refine wp_eq (cb) ?_
        | with_reducible refine wp_eq (ct) ?_
        | with_reducible refine wp_eq (nf) ?_
        | with_reducible refine wp_eq (c3) ?_
        | (with_reducible apply wp_eq; (with_reducible apply lf_go; simp (disch := omega) only [not_false_eq_true, not_true_eq_false, w32_id, tLt, fLt, tLe, fEq, itE, and_true, true_and, and_self, and_false, false_and, ↓reduceIte, nat_add, nat_mul3, nat_mul4, nat_mul6, nat_mul15, nat_mul60, nat_cast, nc1, Int.reduceToNat, upE, upN, fill_ne, fill_in, i0, l2, m3, r65]; with_reducible exact rfl))
        | with_reducible apply wp_q1
      have g3 : ∀ b j, 271 ≤ b → up M3 3 15 0 b j = M b j := fun b j hb => by rw [upN (by omega), cpF _ _ (by omega), fY _ _ (by omega) (by omega) (by omega), fc _ _ (by omega) (by omega) (by omega) (by omega)]
      obtain ⟨Ma2, cb2, kk2⟩ := kw (up M3 3 15 0) (fun k => g3 _ _ (by omega)) (g3 _ _ (by omega)) (fun j => g3 _ _ (by omega)) (fun j _ => g3 _ _ (by omega))
      rw [cb] at cb2
      have ea : Ma2 = Ma := by simpa using cb2.symm
      subst ea
      rcases kk2 with ⟨M1b, M2b, k, c, s, ct2, cm, vi, ⟨-, y18, y17, y10⟩, -, fm⟩ | ⟨M1b, M2b, ct2, -⟩
      rotate_left
      · rw [ct] at ct2
        simp at ct2
      rw [ct] at ct2
      have eb : up M1b 98 7 1 = up M1' 98 7 1 := by simpa using ct2.symm
      have eb' : ∀ b j, ¬(b = 98 ∧ j = 7) → M1b b j = M1' b j := fun b j y => by
        have z := congrFun (congrFun eb b) j
        rwa [upN (by omega), upN (by omega)] at z
      have ekc : (c : Int) = (c0 : Int) ∧ (k : Int) = (k0 : Int) := by
        have q1 := vi.1.1
        have q2 := vi.1.2.1
        rw [eb' _ _ (by omega)] at q1 q2
        have q3 := v0.1.1
        have q4 := v0.1.2.1
        omega
      refine wp_eq cm ?_
      refine wp_loop (α := Mm) (G := fun i a => Run (callD (100 - 1)) tb_Mo_voyages 103 [vR 12 0 271, vI (n : Int), vI 1, vI (i : Int)] [] (SH L) a) (I := fun i a => 206 ≤ i ∧ (∀ k, 206 ≤ k → k < i → a 272 k = M2b 272 (2288 + k)) ∧ ∀ b j, ¬(b = 272 ∧ 206 ≤ j ∧ j < 566) → a b j = up M2b 272 6 (k : Int) b j) 566 ?_ ?_ 206 _ (by omega) ⟨by omega, fun _ _ h => by omega, fun _ _ _ => rfl⟩
      · intro i Mi hi ⟨j0, i1, i2⟩ ih
        have ei : Mi 272 (2288 + i) = M2b 272 (2288 + i) := by rw [i2 _ _ (by omega), upN (by omega)]
        refine wp_eq (b_Mo_voyages_103 _ _ _ _ _ _ _) ?_
        repeat' first
          | (with_reducible apply wp_bR; (simp (disch := omega) only [rM L, rK L, rN L, rNf, rNv, rNp, rNd, rRow, rLeg, rMark, nat_cast, Int.reduceToNat]; with_reducible exact rfl))
          | with_reducible apply wp_bI
          | with_reducible apply wp_bV
          | with_reducible apply wp_bL
          | with_reducible apply wp_rI
          | with_reducible apply wp_rV
          | with_reducible apply wp_rL
          | (with_reducible apply wp_1; (first | omega | (simp (disch := omega) only [not_false_eq_true, not_true_eq_false, w32_id, tLt, fLt, tLe, fEq, itE, and_true, true_and, and_self, and_false, false_and, ↓reduceIte, nat_add, nat_mul3, nat_mul4, nat_mul6, nat_mul15, nat_mul60, nat_cast, nc1, Int.reduceToNat, upE, upN, fill_ne, fill_in, i0] <;> omega)))
          | (with_reducible apply wp_2; (first | omega | (simp (disch := omega) only [not_false_eq_true, not_true_eq_false, w32_id, tLt, fLt, tLe, fEq, itE, and_true, true_and, and_self, and_false, false_and, ↓reduceIte, nat_add, nat_mul3, nat_mul4, nat_mul6, nat_mul15, nat_mul60, nat_cast, nc1, Int.reduceToNat, upE, upN, fill_ne, fill_in, i0] <;> omega)))
          | (with_reducible apply wp_s; (first | (simp (disch := omega) only [not_false_eq_true, not_true_eq_false, w32_id, tLt, fLt, tLe, fEq, itE, and_true, true_and, and_self, and_false, false_and, ↓reduceIte, nat_add, nat_mul3, nat_mul4, nat_mul6, nat_mul15, nat_mul60, nat_cast, nc1, Int.reduceToNat, upE, upN, fill_ne, fill_in, i0]; with_reducible exact Iff.rfl) | with_reducible exact Iff.rfl); intro hc__; (try subst hc__); rotate_left; intro hc__; rotate_left)
          | (with_reducible apply wp_eq; (with_reducible apply cl_go; simp (disch := omega) only [not_false_eq_true, not_true_eq_false, w32_id, tLt, fLt, tLe, fEq, itE, and_true, true_and, and_self, and_false, false_and, ↓reduceIte, nat_add, nat_mul3, nat_mul4, nat_mul6, nat_mul15, nat_mul60, nat_cast, nc1, Int.reduceToNat, upE, upN, fill_ne, fill_in, i0]; with_reducible exact rfl))
          | (with_reducible apply wp_eq; (with_reducible apply lf_go; simp (disch := omega) only [not_false_eq_true, not_true_eq_false, w32_id, tLt, fLt, tLe, fEq, itE, and_true, true_and, and_self, and_false, false_and, ↓reduceIte, nat_add, nat_mul3, nat_mul4, nat_mul6, nat_mul15, nat_mul60, nat_cast, nc1, Int.reduceToNat, upE, upN, fill_ne, fill_in, i0]; with_reducible exact rfl))
          | with_reducible apply wp_q1
        apply wp_nx ih
        · simp (disch := omega) only [not_false_eq_true, not_true_eq_false, w32_id, tLt, fLt, tLe, fEq, itE, and_true, true_and, and_self, and_false, false_and, ↓reduceIte, nat_add, nat_mul3, nat_mul4, nat_mul6, nat_mul15, nat_mul60, nat_cast, nc1, Int.reduceToNat, upE, upN, fill_ne, fill_in, i0, ei]
          with_reducible rfl
        · refine ⟨by omega, fun k y1 hk => ?_, fun b j y => ?_⟩
          · by_cases z : k = i
            · subst z; simp (disch := omega) only [not_false_eq_true, not_true_eq_false, w32_id, tLt, fLt, tLe, fEq, itE, and_true, true_and, and_self, and_false, false_and, ↓reduceIte, nat_add, nat_mul3, nat_mul4, nat_mul6, nat_mul15, nat_mul60, nat_cast, nc1, Int.reduceToNat, upE, upN, fill_ne, fill_in, i0]
            · simp (disch := omega) only [not_false_eq_true, not_true_eq_false, w32_id, tLt, fLt, tLe, fEq, itE, and_true, true_and, and_self, and_false, false_and, ↓reduceIte, nat_add, nat_mul3, nat_mul4, nat_mul6, nat_mul15, nat_mul60, nat_cast, nc1, Int.reduceToNat, upE, upN, fill_ne, fill_in, i0]; exact i1 k y1 (by omega)
          · rw [upN (by omega)]; exact i2 b j y
      · intro M6 ⟨_, i1, i2⟩
        have n18 : M6 271 18 = 0 := by rw [i2 _ _ (by omega), upN (by omega)]; exact y18
        have n23 : M6 271 23 = (c : Int) := by rw [i2 _ _ (by omega), upN (by omega)]; exact vi.2.1.2.1
        refine wp_eq (b_Mo_voyages_103 _ _ _ _ _ _ _) ?_
        repeat' first
          | (with_reducible apply wp_bR; (simp (disch := omega) only [rM L, rK L, rN L, rNf, rNv, rNp, rNd, rRow, rLeg, rMark, nat_cast, Int.reduceToNat, n18, n23]; with_reducible exact rfl))
          | with_reducible apply wp_bI
          | with_reducible apply wp_bV
          | with_reducible apply wp_bL
          | with_reducible apply wp_rI
          | with_reducible apply wp_rV
          | with_reducible apply wp_rL
          | (with_reducible apply wp_1; (first | omega | (simp (disch := omega) only [not_false_eq_true, not_true_eq_false, w32_id, tLt, fLt, tLe, fEq, itE, and_true, true_and, and_self, and_false, false_and, ↓reduceIte, nat_add, nat_mul3, nat_mul4, nat_mul6, nat_mul15, nat_mul60, nat_cast, nc1, Int.reduceToNat, upE, upN, fill_ne, fill_in, i0, n18, n23] <;> omega)))
          | (with_reducible apply wp_2; (first | omega | (simp (disch := omega) only [not_false_eq_true, not_true_eq_false, w32_id, tLt, fLt, tLe, fEq, itE, and_true, true_and, and_self, and_false, false_and, ↓reduceIte, nat_add, nat_mul3, nat_mul4, nat_mul6, nat_mul15, nat_mul60, nat_cast, nc1, Int.reduceToNat, upE, upN, fill_ne, fill_in, i0, n18, n23] <;> omega)))
          | (with_reducible apply wp_s; (first | (simp (disch := omega) only [not_false_eq_true, not_true_eq_false, w32_id, tLt, fLt, tLe, fEq, itE, and_true, true_and, and_self, and_false, false_and, ↓reduceIte, nat_add, nat_mul3, nat_mul4, nat_mul6, nat_mul15, nat_mul60, nat_cast, nc1, Int.reduceToNat, upE, upN, fill_ne, fill_in, i0, n18, n23]; with_reducible exact Iff.rfl) | with_reducible exact Iff.rfl); intro hc__; (try subst hc__); rotate_left; intro hc__; rotate_left)
          | (with_reducible apply wp_eq; (with_reducible apply cl_go; simp (disch := omega) only [not_false_eq_true, not_true_eq_false, w32_id, tLt, fLt, tLe, fEq, itE, and_true, true_and, and_self, and_false, false_and, ↓reduceIte, nat_add, nat_mul3, nat_mul4, nat_mul6, nat_mul15, nat_mul60, nat_cast, nc1, Int.reduceToNat, upE, upN, fill_ne, fill_in, i0, n18, n23]; with_reducible exact rfl))
          | (with_reducible refine wp_eq (c_Mo_taken (by omega) _ _ _ _) ?_; with_reducible refine wp_eq (b_Mo_taken_0 _ _ _ _ _) ?_)
          | (with_reducible refine wp_eq (c_Mo_isShip (by omega) _ _ _ _) ?_; with_reducible refine wp_eq (b_Mo_isShip_0 _ _ _ _ _) ?_)
          | (with_reducible refine wp_eq (c_Mo_isNation (by omega) _ _ _ _) ?_; with_reducible refine wp_eq (b_Mo_isNation_0 _ _ _ _ _) ?_)
          | (with_reducible refine wp_eq (c_Mo_isGood (by omega) _ _ _ _) ?_; with_reducible refine wp_eq (b_Mo_isGood_0 _ _ _ _ _) ?_)
          | (with_reducible refine wp_eq (c_Mo_isPort (by omega) _ _ _ _) ?_; with_reducible refine wp_eq (b_Mo_isPort_0 _ _ _ _ _) ?_)
          | (with_reducible refine wp_eq (c_Mo_areTwo (by omega) _ _ _ _ _) ?_; with_reducible refine wp_eq (b_Mo_areTwo_0 _ _ _ _ _ _) ?_)
          | (with_reducible refine wp_eq (c_Mo_gives (by omega) _ _ _ _) ?_; with_reducible refine wp_eq (b_Mo_gives_0 _ _ _ _ _) ?_)
          | (with_reducible refine wp_eq (c_Mo_refuse (by omega) _ _ _ _) ?_; with_reducible refine wp_eq (b_Mo_refuse_0 _ _ _ _ _) ?_)
          | (with_reducible refine wp_eq (c_Mo_orNone (by omega) _ _ _ _) ?_; with_reducible refine wp_eq (b_Mo_orNone_0 _ _ _ _ _) ?_)
          | (with_reducible refine wp_eq (c_Mo_orNothing (by omega) _ _ _ _) ?_; with_reducible refine wp_eq (b_Mo_orNothing_0 _ _ _ _ _) ?_)
          | (with_reducible refine wp_eq (c_Mo_is (by omega) _ _ _ _) ?_; with_reducible refine wp_eq (b_Mo_is_0 _ _ _ _ _) ?_)
          | (with_reducible refine wp_eq (c_Mo_isRule (by omega) _ _ _) ?_; with_reducible refine wp_eq (b_Mo_isRule_0 _ _ _ _) ?_)
          | (with_reducible refine wp_eq (c_Mo_isTons (by omega) _ _ _) ?_; with_reducible refine wp_eq (b_Mo_isTons_0 _ _ _ _) ?_)
          | (with_reducible refine wp_eq (c_Mo_isFrom (by omega) _ _ _ _ _) ?_; with_reducible refine wp_eq (b_Mo_isFrom_0 _ _ _ _ _ _) ?_)
          | (with_reducible refine wp_eq (c_Mo_isTray (by omega) _ _ _) ?_; with_reducible refine wp_eq (b_Mo_isTray_0 _ _ _ _) ?_)
          | (with_reducible apply wp_eq; (with_reducible apply lf_go; simp (disch := omega) only [not_false_eq_true, not_true_eq_false, w32_id, tLt, fLt, tLe, fEq, itE, and_true, true_and, and_self, and_false, false_and, ↓reduceIte, nat_add, nat_mul3, nat_mul4, nat_mul6, nat_mul15, nat_mul60, nat_cast, nc1, Int.reduceToNat, upE, upN, fill_ne, fill_in, i0, n18, n23]; with_reducible exact rfl))
          | with_reducible apply wp_q1
        rw [ekc.1]
        generalize hF : up (up M6 271 16 0) 271 2 0 = F
        have fF : ∀ b j, ¬(b = 271 ∧ (j = 16 ∨ j = 2)) → F b j = M6 b j := fun b j y => by rw [← hF, upN (by omega), upN (by omega)]
        have g6 : ∀ b j, ¬(b = 271 ∧ 10 ≤ j ∧ j ≤ 23) → ¬(b = 271 ∧ j = 2) → ¬(b = 272 ∧ (j = 6 ∨ 206 ≤ j ∧ j < 566 ∨ 2294 ≤ j ∧ j < 2860)) → b ≠ 278 → b ≠ 279 → F b j = up M3 3 15 0 b j := fun b j y1 y2 y3 y4 y5 => by
          rw [fF _ _ (by omega), i2 _ _ (by omega), upN (by omega)]
          exact fm b j (by omega) (by omega) y4 y5
        have gC : ∀ b j, b ≤ 270 → ¬(b = 3 ∧ j = 15) → F b j = M3 b j := fun b j y1 y2 => by
          rw [g6 _ _ (by omega) (by omega) (by omega) (by omega) (by omega), upN (by omega)]
        have gN : ∀ b j, 18 ≤ b → b ≤ 64 → ¬(51 ≤ b ∧ b ≤ 56) → F b j = M b j := fun b j y1 y2 y3 => by
          rw [gC _ _ (by omega) (by omega), cpF _ _ y3, fY _ _ (by omega) (by omega) (by omega)]
          exact fc b j (by omega) (by omega) (by omega) (by omega)
        have gD : ∀ b j, b = 272 ∧ j < 572 ∧ j ≠ 6 ∧ ¬(206 ≤ j ∧ j < 566) ∨ b = 273 → F b j = M b j := fun b j y => by
          rw [g6 _ _ (by omega) (by omega) (by omega) (by omega) (by omega)]
          exact g3 b j (by omega)
        generalize hA' : (fun i : Nat => if i = 6 then (k : Int) else if 206 ≤ i ∧ i < 566 then M2b 272 (2288 + i) else A i) = A'
        have a6 : A' 6 = (k : Int) := by rw [← hA']; rfl
        have aR : ∀ i, 206 ≤ i → i < 566 → A' i = M2b 272 (2288 + i) := fun i y1 y2 => by rw [← hA']; dsimp only; rw [if_neg (by omega), if_pos ⟨y1, y2⟩]
        have aE : ∀ i, i ≠ 6 → ¬(206 ≤ i ∧ i < 566) → A' i = A i := fun i y1 y2 => by rw [← hA']; dsimp only; rw [if_neg y1, if_neg y2]
        clear hA'
        have pl := vi.pl (A := A') (fun i hi => by
          rw [aE i (by omega) (by omega), ← hnw.1 i (by omega), fm _ _ (by omega) (by omega) (by omega) (by omega)]
          exact (g3 _ _ (by omega)).symm) a6 aR
        have hpl : Pl F 18 A' := by
          refine Or.inr ⟨?_, ?_, by omega, by omega, fun j hj => ?_⟩
          · rw [gC _ _ (by omega) (by omega)]; exact m7
          · rw [gC _ _ (by omega) (by omega), a6, ekc.2]; exact m5
          · have hj' : j < 60 := by omega
            refine (pl.2 j hj).mv2 (p' := 18 + 33) fun o y1 y2 => ?_
            rw [gC _ _ (by omega) (by omega), eb' _ _ (by omega)]
            have e : M3 (51 + o) j = Y (98 + o) j := cpA o j y1 y2 hj'
            rw [fY _ _ (by omega) (by omega) (by omega)] at e
            exact e
        refine ⟨_, _, _, rfl, rfl, rfl, A', N, B, P, ?_, h.txt (fun b j hb q1 q2 q3 q4 => ?_) ?_ ?_ ?_ ⟨fun i hi => ?_, fun i hi => ?_, hnw.2.2.pl (fun i y1 y2 => aE i y2 (by omega)) (fun b j y1 y2 y3 => gN b j (by omega) (by omega) (by omega)) hpl⟩⟩
        · rw [g6 _ _ (by omega) (by omega) (by omega) (by omega) (by omega), upE rfl rfl, ← hF, upE rfl rfl]
        · obtain ⟨⟨n1, n2, n3, n4, n5⟩, n6, n7, n8⟩ := core_no hb
          obtain ⟨o1, o2⟩ := core_no1 hb q1 q3
          obtain ⟨o3, o4, o5⟩ := core_no2 hb q4
          obtain ⟨w1, w2, w3, w4⟩ := core_nv hb
          rw [g6 b j (by omega) n6 (by omega) n1 w3, upN (by omega), cpF _ _ (by omega), fY _ _ (by omega) q2 o2]
          exact fc b j n4 w1 w2 (by omega)
        · rw [gC _ _ (by omega) (by omega), cpF _ _ (by omega)]; exact v1.1
        · rw [fF _ _ (by omega), i2 _ _ (by omega), upN (by omega)]; exact y10
        · have r1 := h.2.1
          unfold R1 at r1 ⊢
          have o : ∀ b j, b = 3 ∧ (j = 16 ∨ j = 17) ∨ b = 271 ∧ (j = 3 ∨ j = 4) → F b j = M b j := fun b j hb => by
            rw [g6 _ _ (by omega) (by omega) (by omega) (by omega) (by omega), upN (by omega), cpF _ _ (by omega), fY _ _ (by omega) (by omega) (by omega)]
            exact fc b j (by omega) (by omega) (by omega) (by omega)
          refine ⟨by rw [o _ _ (by omega), o _ _ (by omega)]; exact r1.1, by rw [o _ _ (by omega), o _ _ (by omega)]; exact r1.2.1, ?_, ?_⟩
          · rw [gC _ _ (by omega) (by omega), cpF _ _ (by omega), v1.2.1, ← hF, upN (by omega), upE rfl rfl]
          · rw [gC _ _ (by omega) (by omega), cpF _ _ (by omega), v1.2.2.1, fF _ _ (by omega), i2 _ _ (by omega), upN (by omega), y17]
        · by_cases z : i = 6
          · subst z
            rw [fF _ _ (by omega), i2 _ _ (by omega), upE rfl rfl, a6]
          by_cases z' : 206 ≤ i ∧ i < 566
          · rw [fF _ _ (by omega), i1 i z'.1 z'.2, aR i z'.1 z'.2]
          · rw [gD _ _ (by omega), hnw.1 i hi, aE i z z']
        · rw [gD _ _ (by omega)]; exact hnw.2.1 i hi
    · -- refused
      have z5 : ¬ M1' 12 5 = 0 := by omega
      have nf : callD (100 - 1) m_Ca_noteFault [vR 11 0 3] (SH L) M1' = some (none, SH L, up (up (up M1' 12 2 0) 3 13 (M1' 12 5)) 3 14 (M1' 12 6)) := by
        repeat' first
          | (with_reducible apply bR_go; (simp (disch := omega) only [rM L, rK L, rN L, rNf, rNv, rNp, rNd, rRow, rLeg, rMark, nat_cast, Int.reduceToNat]; with_reducible exact rfl))
          | with_reducible apply bI_go
          | with_reducible apply bV_go
          | with_reducible apply bL_go
          | (with_reducible apply it_1; (first | omega | (simp (disch := omega) only [not_false_eq_true, not_true_eq_false, w32_id, tLt, fLt, tLe, fEq, itE, and_true, true_and, and_self, and_false, false_and, ↓reduceIte, nat_add, nat_mul3, nat_mul4, nat_mul6, nat_mul15, nat_mul60, nat_cast, nc1, Int.reduceToNat, upE, upN, fill_ne, fill_in, i0] <;> omega)))
          | (with_reducible apply it_2; (first | omega | (simp (disch := omega) only [not_false_eq_true, not_true_eq_false, w32_id, tLt, fLt, tLe, fEq, itE, and_true, true_and, and_self, and_false, false_and, ↓reduceIte, nat_add, nat_mul3, nat_mul4, nat_mul6, nat_mul15, nat_mul60, nat_cast, nc1, Int.reduceToNat, upE, upN, fill_ne, fill_in, i0] <;> omega)))
          | (with_reducible refine cl_go ?_; simp (disch := omega) only [not_false_eq_true, not_true_eq_false, w32_id, tLt, fLt, tLe, fEq, itE, and_true, true_and, and_self, and_false, false_and, ↓reduceIte, nat_add, nat_mul3, nat_mul4, nat_mul6, nat_mul15, nat_mul60, nat_cast, nc1, Int.reduceToNat, upE, upN, fill_ne, fill_in, i0])
          | rw [c_Ca_noteFault (by omega), b_Ca_noteFault_0]
          | (with_reducible refine rn_go ?_; simp (disch := omega) only [not_false_eq_true, not_true_eq_false, w32_id, tLt, fLt, tLe, fEq, itE, and_true, true_and, and_self, and_false, false_and, ↓reduceIte, nat_add, nat_mul3, nat_mul4, nat_mul6, nat_mul15, nat_mul60, nat_cast, nc1, Int.reduceToNat, upE, upN, fill_ne, fill_in, i0])
          | (with_reducible refine lf_go ?_; simp (disch := omega) only [not_false_eq_true, not_true_eq_false, w32_id, tLt, fLt, tLe, fEq, itE, and_true, true_and, and_self, and_false, false_and, ↓reduceIte, nat_add, nat_mul3, nat_mul4, nat_mul6, nat_mul15, nat_mul60, nat_cast, nc1, Int.reduceToNat, upE, upN, fill_ne, fill_in, i0])
          | with_reducible exact rfl
      generalize hY : up (up (up M1' 12 2 0) 3 13 (M1' 12 5)) 3 14 (M1' 12 6) = Y at nf
      have fY : ∀ b j, ¬(b = 12 ∧ j = 2) → ¬(b = 3 ∧ (j = 13 ∨ j = 14)) → Y b j = M1' b j := fun b j y1 y2 => by rw [← hY, upN (by omega), upN (by omega), upN (by omega)]
      have v1 : Y 12 2 = 0 ∧ Y 3 13 = M1' 12 5 ∧ Y 3 14 = M1' 12 6 := by
        rw [← hY]
        exact ⟨by rw [upN (by omega), upN (by omega), upE rfl rfl], by rw [upN (by omega), upE rfl rfl], upE rfl rfl⟩
      have l2 := t1
      have r65 : refOf (SH L) 65 2 = some 98 := rfl
      repeat' first
        | (with_reducible apply wp_bR; (simp (disch := omega) only [rM L, rK L, rN L, rNf, rNv, rNp, rNd, rRow, rLeg, rMark, nat_cast, Int.reduceToNat, l2, r65]; with_reducible exact rfl))
        | with_reducible apply wp_bI
        | with_reducible apply wp_bV
        | with_reducible apply wp_bL
        | with_reducible apply wp_rI
        | with_reducible apply wp_rV
        | with_reducible apply wp_rL
        | (with_reducible apply wp_1; (first | omega | (simp (disch := omega) only [not_false_eq_true, not_true_eq_false, w32_id, tLt, fLt, tLe, fEq, itE, and_true, true_and, and_self, and_false, false_and, ↓reduceIte, nat_add, nat_mul3, nat_mul4, nat_mul6, nat_mul15, nat_mul60, nat_cast, nc1, Int.reduceToNat, upE, upN, fill_ne, fill_in, i0, l2, r65] <;> omega)))
        | (with_reducible apply wp_2; (first | omega | (simp (disch := omega) only [not_false_eq_true, not_true_eq_false, w32_id, tLt, fLt, tLe, fEq, itE, and_true, true_and, and_self, and_false, false_and, ↓reduceIte, nat_add, nat_mul3, nat_mul4, nat_mul6, nat_mul15, nat_mul60, nat_cast, nc1, Int.reduceToNat, upE, upN, fill_ne, fill_in, i0, l2, r65] <;> omega)))
        | (with_reducible apply wp_s; (first | (simp (disch := omega) only [not_false_eq_true, not_true_eq_false, w32_id, tLt, fLt, tLe, fEq, itE, and_true, true_and, and_self, and_false, false_and, ↓reduceIte, nat_add, nat_mul3, nat_mul4, nat_mul6, nat_mul15, nat_mul60, nat_cast, nc1, Int.reduceToNat, upE, upN, fill_ne, fill_in, i0, l2, r65]; with_reducible exact Iff.rfl) | with_reducible exact Iff.rfl); intro hc__; (try subst hc__); rotate_left; intro hc__; rotate_left)
        | (with_reducible apply wp_eq; (with_reducible apply cl_go; simp (disch := omega) only [not_false_eq_true, not_true_eq_false, w32_id, tLt, fLt, tLe, fEq, itE, and_true, true_and, and_self, and_false, false_and, ↓reduceIte, nat_add, nat_mul3, nat_mul4, nat_mul6, nat_mul15, nat_mul60, nat_cast, nc1, Int.reduceToNat, upE, upN, fill_ne, fill_in, i0, l2, r65]; with_reducible exact rfl))
        | (with_reducible refine wp_eq (c_Ca_voyages (by omega) _ _ _ _) ?_; with_reducible refine wp_eq (b_Ca_voyages_0 _ _ _ _ _) ?_)
        | (with_reducible refine wp_eq (c_Ca_within (by omega) _ _ _ _ _) ?_; with_reducible refine wp_eq (b_Ca_within_0 _ _ _ _ _ _) ?_)
        | (with_reducible refine wp_eq (c_Ca_isShip (by omega) _ _ _ _) ?_; with_reducible refine wp_eq (b_Ca_isShip_0 _ _ _ _ _) ?_)
        | (with_reducible refine wp_eq (c_Ca_isNation (by omega) _ _ _ _) ?_; with_reducible refine wp_eq (b_Ca_isNation_0 _ _ _ _ _) ?_)
        | (with_reducible refine wp_eq (c_Ca_isGood (by omega) _ _ _ _) ?_; with_reducible refine wp_eq (b_Ca_isGood_0 _ _ _ _ _) ?_)
        | (with_reducible refine wp_eq (c_Ca_isPort (by omega) _ _ _ _) ?_; with_reducible refine wp_eq (b_Ca_isPort_0 _ _ _ _ _) ?_)
        | (with_reducible refine wp_eq (c_Ca_areTwo (by omega) _ _ _ _ _ _) ?_; with_reducible refine wp_eq (b_Ca_areTwo_0 _ _ _ _ _ _ _) ?_)
        | (with_reducible refine wp_eq (c_Ca_answer (by omega) _ _ _ _) ?_; with_reducible refine wp_eq (b_Ca_answer_0 _ _ _ _ _) ?_)
        | (with_reducible refine wp_eq (c_Ca_refuse (by omega) _ _ _ _) ?_; with_reducible refine wp_eq (b_Ca_refuse_0 _ _ _ _ _) ?_)
        | (with_reducible refine wp_eq (c_Ca_answerOr (by omega) _ _ _ _ _) ?_; with_reducible refine wp_eq (b_Ca_answerOr_0 _ _ _ _ _ _) ?_)
        | (with_reducible refine wp_eq (c_Ca_agree (by omega) _ _ _) ?_; with_reducible refine wp_eq (b_Ca_agree_0 _ _ _ _) ?_)
        | (with_reducible refine wp_eq (c_Ca_deny (by omega) _ _ _ _) ?_; with_reducible refine wp_eq (b_Ca_deny_0 _ _ _ _ _) ?_)
        | with_reducible refine wp_eq (cb) ?_
        | with_reducible refine wp_eq (ct) ?_
        | with_reducible refine wp_eq (nf) ?_
        | (with_reducible apply wp_eq; (with_reducible apply lf_go; simp (disch := omega) only [not_false_eq_true, not_true_eq_false, w32_id, tLt, fLt, tLe, fEq, itE, and_true, true_and, and_self, and_false, false_and, ↓reduceIte, nat_add, nat_mul3, nat_mul4, nat_mul6, nat_mul15, nat_mul60, nat_cast, nc1, Int.reduceToNat, upE, upN, fill_ne, fill_in, i0, l2, r65]; with_reducible exact rfl))
        | with_reducible apply wp_q1
      have g3 : ∀ b j, 271 ≤ b → up Y 3 15 9 b j = M b j := fun b j hb => by rw [upN (by omega), fY _ _ (by omega) (by omega), fc _ _ (by omega) (by omega) (by omega) (by omega)]
      obtain ⟨Ma2, cb2, kk2⟩ := kw (up Y 3 15 9) (fun k => g3 _ _ (by omega)) (g3 _ _ (by omega)) (fun j => g3 _ _ (by omega)) (fun j _ => g3 _ _ (by omega))
      rw [cb] at cb2
      have ea : Ma2 = Ma := by simpa using cb2.symm
      subst ea
      rcases kk2 with ⟨M1b, M2b, k, c, s, ct2, -⟩ | ⟨M1b, M2b, ct2, cm, ⟨y1, y2, y3⟩, y10, -, fm⟩
      · rw [ct] at ct2
        simp at ct2
      rw [ct] at ct2
      have eb : M1b = M1' := by simpa using ct2.symm
      subst eb
      have n18 : ¬ M2b 271 18 = 0 := by omega
      have p18 : 0 < M2b 271 18 := by omega
      refine wp_eq cm ?_
      repeat' first
        | (with_reducible apply wp_bR; (simp (disch := omega) only [rM L, rK L, rN L, rNf, rNv, rNp, rNd, rRow, rLeg, rMark, nat_cast, Int.reduceToNat]; with_reducible exact rfl))
        | with_reducible apply wp_bI
        | with_reducible apply wp_bV
        | with_reducible apply wp_bL
        | with_reducible apply wp_rI
        | with_reducible apply wp_rV
        | with_reducible apply wp_rL
        | (with_reducible apply wp_1; (first | omega | (simp (disch := omega) only [not_false_eq_true, not_true_eq_false, w32_id, tLt, fLt, tLe, fEq, itE, and_true, true_and, and_self, and_false, false_and, ↓reduceIte, nat_add, nat_mul3, nat_mul4, nat_mul6, nat_mul15, nat_mul60, nat_cast, nc1, Int.reduceToNat, upE, upN, fill_ne, fill_in, i0] <;> omega)))
        | (with_reducible apply wp_2; (first | omega | (simp (disch := omega) only [not_false_eq_true, not_true_eq_false, w32_id, tLt, fLt, tLe, fEq, itE, and_true, true_and, and_self, and_false, false_and, ↓reduceIte, nat_add, nat_mul3, nat_mul4, nat_mul6, nat_mul15, nat_mul60, nat_cast, nc1, Int.reduceToNat, upE, upN, fill_ne, fill_in, i0] <;> omega)))
        | (with_reducible apply wp_s; (first | (simp (disch := omega) only [not_false_eq_true, not_true_eq_false, w32_id, tLt, fLt, tLe, fEq, itE, and_true, true_and, and_self, and_false, false_and, ↓reduceIte, nat_add, nat_mul3, nat_mul4, nat_mul6, nat_mul15, nat_mul60, nat_cast, nc1, Int.reduceToNat, upE, upN, fill_ne, fill_in, i0]; with_reducible exact Iff.rfl) | with_reducible exact Iff.rfl); intro hc__; (try subst hc__); rotate_left; intro hc__; rotate_left)
        | (with_reducible apply wp_eq; (with_reducible apply cl_go; simp (disch := omega) only [not_false_eq_true, not_true_eq_false, w32_id, tLt, fLt, tLe, fEq, itE, and_true, true_and, and_self, and_false, false_and, ↓reduceIte, nat_add, nat_mul3, nat_mul4, nat_mul6, nat_mul15, nat_mul60, nat_cast, nc1, Int.reduceToNat, upE, upN, fill_ne, fill_in, i0]; with_reducible exact rfl))
        | (with_reducible refine wp_eq (c_Mo_taken (by omega) _ _ _ _) ?_; with_reducible refine wp_eq (b_Mo_taken_0 _ _ _ _ _) ?_)
        | (with_reducible refine wp_eq (c_Mo_isShip (by omega) _ _ _ _) ?_; with_reducible refine wp_eq (b_Mo_isShip_0 _ _ _ _ _) ?_)
        | (with_reducible refine wp_eq (c_Mo_isNation (by omega) _ _ _ _) ?_; with_reducible refine wp_eq (b_Mo_isNation_0 _ _ _ _ _) ?_)
        | (with_reducible refine wp_eq (c_Mo_isGood (by omega) _ _ _ _) ?_; with_reducible refine wp_eq (b_Mo_isGood_0 _ _ _ _ _) ?_)
        | (with_reducible refine wp_eq (c_Mo_isPort (by omega) _ _ _ _) ?_; with_reducible refine wp_eq (b_Mo_isPort_0 _ _ _ _ _) ?_)
        | (with_reducible refine wp_eq (c_Mo_areTwo (by omega) _ _ _ _ _) ?_; with_reducible refine wp_eq (b_Mo_areTwo_0 _ _ _ _ _ _) ?_)
        | (with_reducible refine wp_eq (c_Mo_gives (by omega) _ _ _ _) ?_; with_reducible refine wp_eq (b_Mo_gives_0 _ _ _ _ _) ?_)
        | (with_reducible refine wp_eq (c_Mo_refuse (by omega) _ _ _ _) ?_; with_reducible refine wp_eq (b_Mo_refuse_0 _ _ _ _ _) ?_)
        | (with_reducible refine wp_eq (c_Mo_orNone (by omega) _ _ _ _) ?_; with_reducible refine wp_eq (b_Mo_orNone_0 _ _ _ _ _) ?_)
        | (with_reducible refine wp_eq (c_Mo_orNothing (by omega) _ _ _ _) ?_; with_reducible refine wp_eq (b_Mo_orNothing_0 _ _ _ _ _) ?_)
        | (with_reducible refine wp_eq (c_Mo_is (by omega) _ _ _ _) ?_; with_reducible refine wp_eq (b_Mo_is_0 _ _ _ _ _) ?_)
        | (with_reducible refine wp_eq (c_Mo_isRule (by omega) _ _ _) ?_; with_reducible refine wp_eq (b_Mo_isRule_0 _ _ _ _) ?_)
        | (with_reducible refine wp_eq (c_Mo_isTons (by omega) _ _ _) ?_; with_reducible refine wp_eq (b_Mo_isTons_0 _ _ _ _) ?_)
        | (with_reducible refine wp_eq (c_Mo_isFrom (by omega) _ _ _ _ _) ?_; with_reducible refine wp_eq (b_Mo_isFrom_0 _ _ _ _ _ _) ?_)
        | (with_reducible refine wp_eq (c_Mo_isTray (by omega) _ _ _) ?_; with_reducible refine wp_eq (b_Mo_isTray_0 _ _ _ _) ?_)
        | (with_reducible apply wp_eq; (with_reducible apply lf_go; simp (disch := omega) only [not_false_eq_true, not_true_eq_false, w32_id, tLt, fLt, tLe, fEq, itE, and_true, true_and, and_self, and_false, false_and, ↓reduceIte, nat_add, nat_mul3, nat_mul4, nat_mul6, nat_mul15, nat_mul60, nat_cast, nc1, Int.reduceToNat, upE, upN, fill_ne, fill_in, i0]; with_reducible exact rfl))
        | with_reducible apply wp_q1
      generalize hF : up (up M2b 271 16 (M2b 271 18)) 271 2 9 = F
      have fF : ∀ b j, ¬(b = 271 ∧ (j = 16 ∨ j = 2)) → F b j = M2b b j := fun b j y => by rw [← hF, upN (by omega), upN (by omega)]
      have g6 : ∀ b j, ¬(b = 271 ∧ 10 ≤ j ∧ j ≤ 23) → ¬(b = 271 ∧ j = 2) → ¬(b = 272 ∧ 2294 ≤ j ∧ j < 2860) → b ≠ 278 → b ≠ 279 → F b j = up Y 3 15 9 b j := fun b j y1 y2 y3 y4 y5 => by
        rw [fF _ _ (by omega)]
        exact fm b j (by omega) y3 y4 y5
      have gM : ∀ b j, core b j → ¬k1 b j → ¬(b = 12 ∧ j = 2) → ¬(b = 271 ∧ j = 10) → F b j = M b j := fun b j hb q1 q2 q3 => by
        obtain ⟨⟨n1, n2, n3, n4, n5⟩, n6, n7, n8⟩ := core_no hb
        obtain ⟨o1, o2⟩ := core_no1 hb q1 q3
        obtain ⟨w1, w2, w3, w4⟩ := core_nv hb
        rw [g6 b j (by omega) n6 (by omega) n1 w3, upN (by omega), fY _ _ q2 o2]
        exact fc b j n4 w1 w2 (by omega)
      refine ⟨_, _, _, rfl, rfl, rfl, A, N, B, P, ?_, h.txt (fun b j hb q1 q2 q3 _ => gM b j hb q1 q2 q3) ?_ ?_ ?_ (h.2.2.2.2.2.2.frame fun b j hb => gM b j (inNw hb) (by unfold kNw at hb; unfold k1; omega) (by unfold kNw at hb; omega) (by unfold kNw at hb; omega))⟩
      · rw [g6 _ _ (by omega) (by omega) (by omega) (by omega) (by omega), upE rfl rfl, ← hF, upE rfl rfl]
      · rw [g6 _ _ (by omega) (by omega) (by omega) (by omega) (by omega), upN (by omega)]; exact v1.1
      · rw [fF _ _ (by omega)]; exact y10
      · have r1 := h.2.1
        unfold R1 at r1 ⊢
        have o : ∀ b j, b = 3 ∧ (j = 16 ∨ j = 17) ∨ b = 271 ∧ (j = 3 ∨ j = 4) → F b j = M b j := fun b j hb => by
          rw [g6 _ _ (by omega) (by omega) (by omega) (by omega) (by omega), upN (by omega), fY _ _ (by omega) (by omega)]
          exact fc b j (by omega) (by omega) (by omega) (by omega)
        refine ⟨by rw [o _ _ (by omega), o _ _ (by omega)]; exact r1.1, by rw [o _ _ (by omega), o _ _ (by omega)]; exact r1.2.1, ?_, ?_⟩
        · rw [g6 _ _ (by omega) (by omega) (by omega) (by omega) (by omega), upN (by omega), v1.2.1, ← hF, upN (by omega), upE rfl rfl]
          exact y1
        · rw [g6 _ _ (by omega) (by omega) (by omega) (by omega) (by omega), upN (by omega), v1.2.2, fF _ _ (by omega)]
          exact y3
  · have l2 := t1
    by_cases w : 0 ≤ x1
    · by_cases w2 : x1 ≤ M 271 10
      · repeat' first
          | (with_reducible apply wp_bR; (simp (disch := omega) only [rM L, rK L, rN L, rNf, rNv, rNp, rNd, rRow, rLeg, rMark, nat_cast, Int.reduceToNat, l2]; with_reducible exact rfl))
          | with_reducible apply wp_bI
          | with_reducible apply wp_bV
          | with_reducible apply wp_bL
          | with_reducible apply wp_rI
          | with_reducible apply wp_rV
          | with_reducible apply wp_rL
          | (with_reducible apply wp_1; (first | omega | (simp (disch := omega) only [not_false_eq_true, not_true_eq_false, w32_id, tLt, fLt, tLe, fEq, itE, and_true, true_and, and_self, and_false, false_and, ↓reduceIte, nat_add, nat_mul3, nat_mul4, nat_mul6, nat_mul15, nat_mul60, nat_cast, nc1, Int.reduceToNat, upE, upN, fill_ne, fill_in, i0, l2] <;> omega)))
          | (with_reducible apply wp_2; (first | omega | (simp (disch := omega) only [not_false_eq_true, not_true_eq_false, w32_id, tLt, fLt, tLe, fEq, itE, and_true, true_and, and_self, and_false, false_and, ↓reduceIte, nat_add, nat_mul3, nat_mul4, nat_mul6, nat_mul15, nat_mul60, nat_cast, nc1, Int.reduceToNat, upE, upN, fill_ne, fill_in, i0, l2] <;> omega)))
          | (with_reducible apply wp_s; (first | (simp (disch := omega) only [not_false_eq_true, not_true_eq_false, w32_id, tLt, fLt, tLe, fEq, itE, and_true, true_and, and_self, and_false, false_and, ↓reduceIte, nat_add, nat_mul3, nat_mul4, nat_mul6, nat_mul15, nat_mul60, nat_cast, nc1, Int.reduceToNat, upE, upN, fill_ne, fill_in, i0, l2]; with_reducible exact Iff.rfl) | with_reducible exact Iff.rfl); intro hc__; (try subst hc__); rotate_left; intro hc__; rotate_left)
          | (with_reducible apply wp_eq; (with_reducible apply cl_go; simp (disch := omega) only [not_false_eq_true, not_true_eq_false, w32_id, tLt, fLt, tLe, fEq, itE, and_true, true_and, and_self, and_false, false_and, ↓reduceIte, nat_add, nat_mul3, nat_mul4, nat_mul6, nat_mul15, nat_mul60, nat_cast, nc1, Int.reduceToNat, upE, upN, fill_ne, fill_in, i0, l2]; with_reducible exact rfl))
          | (with_reducible refine wp_eq (c_Ca_voyages (by omega) _ _ _ _) ?_; with_reducible refine wp_eq (b_Ca_voyages_0 _ _ _ _ _) ?_)
          | (with_reducible refine wp_eq (c_Ca_within (by omega) _ _ _ _ _) ?_; with_reducible refine wp_eq (b_Ca_within_0 _ _ _ _ _ _) ?_)
          | (with_reducible refine wp_eq (c_Ca_isShip (by omega) _ _ _ _) ?_; with_reducible refine wp_eq (b_Ca_isShip_0 _ _ _ _ _) ?_)
          | (with_reducible refine wp_eq (c_Ca_isNation (by omega) _ _ _ _) ?_; with_reducible refine wp_eq (b_Ca_isNation_0 _ _ _ _ _) ?_)
          | (with_reducible refine wp_eq (c_Ca_isGood (by omega) _ _ _ _) ?_; with_reducible refine wp_eq (b_Ca_isGood_0 _ _ _ _ _) ?_)
          | (with_reducible refine wp_eq (c_Ca_isPort (by omega) _ _ _ _) ?_; with_reducible refine wp_eq (b_Ca_isPort_0 _ _ _ _ _) ?_)
          | (with_reducible refine wp_eq (c_Ca_areTwo (by omega) _ _ _ _ _ _) ?_; with_reducible refine wp_eq (b_Ca_areTwo_0 _ _ _ _ _ _ _) ?_)
          | (with_reducible refine wp_eq (c_Ca_answer (by omega) _ _ _ _) ?_; with_reducible refine wp_eq (b_Ca_answer_0 _ _ _ _ _) ?_)
          | (with_reducible refine wp_eq (c_Ca_refuse (by omega) _ _ _ _) ?_; with_reducible refine wp_eq (b_Ca_refuse_0 _ _ _ _ _) ?_)
          | (with_reducible refine wp_eq (c_Ca_answerOr (by omega) _ _ _ _ _) ?_; with_reducible refine wp_eq (b_Ca_answerOr_0 _ _ _ _ _ _) ?_)
          | (with_reducible refine wp_eq (c_Ca_agree (by omega) _ _ _) ?_; with_reducible refine wp_eq (b_Ca_agree_0 _ _ _ _) ?_)
          | (with_reducible refine wp_eq (c_Ca_deny (by omega) _ _ _ _) ?_; with_reducible refine wp_eq (b_Ca_deny_0 _ _ _ _ _) ?_)
          | (with_reducible refine wp_eq (c_Mo_voyages (by omega) _ _ _ _) ?_; with_reducible refine wp_eq (b_Mo_voyages_0 _ _ _ _ _) ?_)
          | (with_reducible refine wp_eq (c_Mo_begins (by omega) _ _ _ _ _) ?_; with_reducible refine wp_eq (b_Mo_begins_0 _ _ _ _ _ _) ?_)
          | (with_reducible refine wp_eq (c_Mo_isShip (by omega) _ _ _ _) ?_; with_reducible refine wp_eq (b_Mo_isShip_0 _ _ _ _ _) ?_)
          | (with_reducible refine wp_eq (c_Mo_isNation (by omega) _ _ _ _) ?_; with_reducible refine wp_eq (b_Mo_isNation_0 _ _ _ _ _) ?_)
          | (with_reducible refine wp_eq (c_Mo_isGood (by omega) _ _ _ _) ?_; with_reducible refine wp_eq (b_Mo_isGood_0 _ _ _ _ _) ?_)
          | (with_reducible refine wp_eq (c_Mo_isPort (by omega) _ _ _ _) ?_; with_reducible refine wp_eq (b_Mo_isPort_0 _ _ _ _ _) ?_)
          | (with_reducible refine wp_eq (c_Mo_areTwo (by omega) _ _ _ _ _) ?_; with_reducible refine wp_eq (b_Mo_areTwo_0 _ _ _ _ _ _) ?_)
          | (with_reducible refine wp_eq (c_Mo_gives (by omega) _ _ _ _) ?_; with_reducible refine wp_eq (b_Mo_gives_0 _ _ _ _ _) ?_)
          | (with_reducible refine wp_eq (c_Mo_refuse (by omega) _ _ _ _) ?_; with_reducible refine wp_eq (b_Mo_refuse_0 _ _ _ _ _) ?_)
          | (with_reducible refine wp_eq (c_Mo_orNone (by omega) _ _ _ _) ?_; with_reducible refine wp_eq (b_Mo_orNone_0 _ _ _ _ _) ?_)
          | (with_reducible refine wp_eq (c_Mo_orNothing (by omega) _ _ _ _) ?_; with_reducible refine wp_eq (b_Mo_orNothing_0 _ _ _ _ _) ?_)
          | (with_reducible refine wp_eq (c_Mo_is (by omega) _ _ _ _) ?_; with_reducible refine wp_eq (b_Mo_is_0 _ _ _ _ _) ?_)
          | (with_reducible refine wp_eq (c_Mo_isRule (by omega) _ _ _) ?_; with_reducible refine wp_eq (b_Mo_isRule_0 _ _ _ _) ?_)
          | (with_reducible refine wp_eq (c_Mo_isTons (by omega) _ _ _) ?_; with_reducible refine wp_eq (b_Mo_isTons_0 _ _ _ _) ?_)
          | (with_reducible refine wp_eq (c_Mo_isFrom (by omega) _ _ _ _ _) ?_; with_reducible refine wp_eq (b_Mo_isFrom_0 _ _ _ _ _ _) ?_)
          | (with_reducible refine wp_eq (c_Mo_isTray (by omega) _ _ _) ?_; with_reducible refine wp_eq (b_Mo_isTray_0 _ _ _ _) ?_)
          | (with_reducible apply wp_eq; (with_reducible apply lf_go; simp (disch := omega) only [not_false_eq_true, not_true_eq_false, w32_id, tLt, fLt, tLe, fEq, itE, and_true, true_and, and_self, and_false, false_and, ↓reduceIte, nat_add, nat_mul3, nat_mul4, nat_mul6, nat_mul15, nat_mul60, nat_cast, nc1, Int.reduceToNat, upE, upN, fill_ne, fill_in, i0, l2]; with_reducible exact rfl))
          | with_reducible apply wp_q1
        all_goals exact wp_ask (by first | rfl | exact congrArg (fun z => some (vI z)) (by omega) | simp (disch := omega) only [not_false_eq_true, not_true_eq_false, w32_id, tLt, fLt, tLe, fEq, itE, and_true, true_and, and_self, and_false, false_and, ↓reduceIte, nat_add, nat_mul3, nat_mul4, nat_mul6, nat_mul15, nat_mul60, nat_cast, nc1, Int.reduceToNat, upE, upN, fill_ne, fill_in, i0]) (by repeat' first | assumption | apply RelS.up | apply RelS.fill | (intros; unfold core k1 kTr kTp kLv kLp kMk kNw; omega)) (by first | assumption | simp (disch := omega) only [upE, upN, fill_ne])
      · repeat' first
          | (with_reducible apply wp_bR; (simp (disch := omega) only [rM L, rK L, rN L, rNf, rNv, rNp, rNd, rRow, rLeg, rMark, nat_cast, Int.reduceToNat, l2]; with_reducible exact rfl))
          | with_reducible apply wp_bI
          | with_reducible apply wp_bV
          | with_reducible apply wp_bL
          | with_reducible apply wp_rI
          | with_reducible apply wp_rV
          | with_reducible apply wp_rL
          | (with_reducible apply wp_1; (first | omega | (simp (disch := omega) only [not_false_eq_true, not_true_eq_false, w32_id, tLt, fLt, tLe, fEq, itE, and_true, true_and, and_self, and_false, false_and, ↓reduceIte, nat_add, nat_mul3, nat_mul4, nat_mul6, nat_mul15, nat_mul60, nat_cast, nc1, Int.reduceToNat, upE, upN, fill_ne, fill_in, i0, l2] <;> omega)))
          | (with_reducible apply wp_2; (first | omega | (simp (disch := omega) only [not_false_eq_true, not_true_eq_false, w32_id, tLt, fLt, tLe, fEq, itE, and_true, true_and, and_self, and_false, false_and, ↓reduceIte, nat_add, nat_mul3, nat_mul4, nat_mul6, nat_mul15, nat_mul60, nat_cast, nc1, Int.reduceToNat, upE, upN, fill_ne, fill_in, i0, l2] <;> omega)))
          | (with_reducible apply wp_s; (first | (simp (disch := omega) only [not_false_eq_true, not_true_eq_false, w32_id, tLt, fLt, tLe, fEq, itE, and_true, true_and, and_self, and_false, false_and, ↓reduceIte, nat_add, nat_mul3, nat_mul4, nat_mul6, nat_mul15, nat_mul60, nat_cast, nc1, Int.reduceToNat, upE, upN, fill_ne, fill_in, i0, l2]; with_reducible exact Iff.rfl) | with_reducible exact Iff.rfl); intro hc__; (try subst hc__); rotate_left; intro hc__; rotate_left)
          | (with_reducible apply wp_eq; (with_reducible apply cl_go; simp (disch := omega) only [not_false_eq_true, not_true_eq_false, w32_id, tLt, fLt, tLe, fEq, itE, and_true, true_and, and_self, and_false, false_and, ↓reduceIte, nat_add, nat_mul3, nat_mul4, nat_mul6, nat_mul15, nat_mul60, nat_cast, nc1, Int.reduceToNat, upE, upN, fill_ne, fill_in, i0, l2]; with_reducible exact rfl))
          | (with_reducible refine wp_eq (c_Ca_voyages (by omega) _ _ _ _) ?_; with_reducible refine wp_eq (b_Ca_voyages_0 _ _ _ _ _) ?_)
          | (with_reducible refine wp_eq (c_Ca_within (by omega) _ _ _ _ _) ?_; with_reducible refine wp_eq (b_Ca_within_0 _ _ _ _ _ _) ?_)
          | (with_reducible refine wp_eq (c_Ca_isShip (by omega) _ _ _ _) ?_; with_reducible refine wp_eq (b_Ca_isShip_0 _ _ _ _ _) ?_)
          | (with_reducible refine wp_eq (c_Ca_isNation (by omega) _ _ _ _) ?_; with_reducible refine wp_eq (b_Ca_isNation_0 _ _ _ _ _) ?_)
          | (with_reducible refine wp_eq (c_Ca_isGood (by omega) _ _ _ _) ?_; with_reducible refine wp_eq (b_Ca_isGood_0 _ _ _ _ _) ?_)
          | (with_reducible refine wp_eq (c_Ca_isPort (by omega) _ _ _ _) ?_; with_reducible refine wp_eq (b_Ca_isPort_0 _ _ _ _ _) ?_)
          | (with_reducible refine wp_eq (c_Ca_areTwo (by omega) _ _ _ _ _ _) ?_; with_reducible refine wp_eq (b_Ca_areTwo_0 _ _ _ _ _ _ _) ?_)
          | (with_reducible refine wp_eq (c_Ca_answer (by omega) _ _ _ _) ?_; with_reducible refine wp_eq (b_Ca_answer_0 _ _ _ _ _) ?_)
          | (with_reducible refine wp_eq (c_Ca_refuse (by omega) _ _ _ _) ?_; with_reducible refine wp_eq (b_Ca_refuse_0 _ _ _ _ _) ?_)
          | (with_reducible refine wp_eq (c_Ca_answerOr (by omega) _ _ _ _ _) ?_; with_reducible refine wp_eq (b_Ca_answerOr_0 _ _ _ _ _ _) ?_)
          | (with_reducible refine wp_eq (c_Ca_agree (by omega) _ _ _) ?_; with_reducible refine wp_eq (b_Ca_agree_0 _ _ _ _) ?_)
          | (with_reducible refine wp_eq (c_Ca_deny (by omega) _ _ _ _) ?_; with_reducible refine wp_eq (b_Ca_deny_0 _ _ _ _ _) ?_)
          | (with_reducible refine wp_eq (c_Mo_voyages (by omega) _ _ _ _) ?_; with_reducible refine wp_eq (b_Mo_voyages_0 _ _ _ _ _) ?_)
          | (with_reducible refine wp_eq (c_Mo_begins (by omega) _ _ _ _ _) ?_; with_reducible refine wp_eq (b_Mo_begins_0 _ _ _ _ _ _) ?_)
          | (with_reducible refine wp_eq (c_Mo_isShip (by omega) _ _ _ _) ?_; with_reducible refine wp_eq (b_Mo_isShip_0 _ _ _ _ _) ?_)
          | (with_reducible refine wp_eq (c_Mo_isNation (by omega) _ _ _ _) ?_; with_reducible refine wp_eq (b_Mo_isNation_0 _ _ _ _ _) ?_)
          | (with_reducible refine wp_eq (c_Mo_isGood (by omega) _ _ _ _) ?_; with_reducible refine wp_eq (b_Mo_isGood_0 _ _ _ _ _) ?_)
          | (with_reducible refine wp_eq (c_Mo_isPort (by omega) _ _ _ _) ?_; with_reducible refine wp_eq (b_Mo_isPort_0 _ _ _ _ _) ?_)
          | (with_reducible refine wp_eq (c_Mo_areTwo (by omega) _ _ _ _ _) ?_; with_reducible refine wp_eq (b_Mo_areTwo_0 _ _ _ _ _ _) ?_)
          | (with_reducible refine wp_eq (c_Mo_gives (by omega) _ _ _ _) ?_; with_reducible refine wp_eq (b_Mo_gives_0 _ _ _ _ _) ?_)
          | (with_reducible refine wp_eq (c_Mo_refuse (by omega) _ _ _ _) ?_; with_reducible refine wp_eq (b_Mo_refuse_0 _ _ _ _ _) ?_)
          | (with_reducible refine wp_eq (c_Mo_orNone (by omega) _ _ _ _) ?_; with_reducible refine wp_eq (b_Mo_orNone_0 _ _ _ _ _) ?_)
          | (with_reducible refine wp_eq (c_Mo_orNothing (by omega) _ _ _ _) ?_; with_reducible refine wp_eq (b_Mo_orNothing_0 _ _ _ _ _) ?_)
          | (with_reducible refine wp_eq (c_Mo_is (by omega) _ _ _ _) ?_; with_reducible refine wp_eq (b_Mo_is_0 _ _ _ _ _) ?_)
          | (with_reducible refine wp_eq (c_Mo_isRule (by omega) _ _ _) ?_; with_reducible refine wp_eq (b_Mo_isRule_0 _ _ _ _) ?_)
          | (with_reducible refine wp_eq (c_Mo_isTons (by omega) _ _ _) ?_; with_reducible refine wp_eq (b_Mo_isTons_0 _ _ _ _) ?_)
          | (with_reducible refine wp_eq (c_Mo_isFrom (by omega) _ _ _ _ _) ?_; with_reducible refine wp_eq (b_Mo_isFrom_0 _ _ _ _ _ _) ?_)
          | (with_reducible refine wp_eq (c_Mo_isTray (by omega) _ _ _) ?_; with_reducible refine wp_eq (b_Mo_isTray_0 _ _ _ _) ?_)
          | (with_reducible apply wp_eq; (with_reducible apply lf_go; simp (disch := omega) only [not_false_eq_true, not_true_eq_false, w32_id, tLt, fLt, tLe, fEq, itE, and_true, true_and, and_self, and_false, false_and, ↓reduceIte, nat_add, nat_mul3, nat_mul4, nat_mul6, nat_mul15, nat_mul60, nat_cast, nc1, Int.reduceToNat, upE, upN, fill_ne, fill_in, i0, l2]; with_reducible exact rfl))
          | with_reducible apply wp_q1
        all_goals exact wp_ask (by first | rfl | exact congrArg (fun z => some (vI z)) (by omega) | simp (disch := omega) only [not_false_eq_true, not_true_eq_false, w32_id, tLt, fLt, tLe, fEq, itE, and_true, true_and, and_self, and_false, false_and, ↓reduceIte, nat_add, nat_mul3, nat_mul4, nat_mul6, nat_mul15, nat_mul60, nat_cast, nc1, Int.reduceToNat, upE, upN, fill_ne, fill_in, i0]) (by repeat' first | assumption | apply RelS.up | apply RelS.fill | (intros; unfold core k1 kTr kTp kLv kLp kMk kNw; omega)) (by first | assumption | simp (disch := omega) only [upE, upN, fill_ne])
    · repeat' first
        | (with_reducible apply wp_bR; (simp (disch := omega) only [rM L, rK L, rN L, rNf, rNv, rNp, rNd, rRow, rLeg, rMark, nat_cast, Int.reduceToNat, l2]; with_reducible exact rfl))
        | with_reducible apply wp_bI
        | with_reducible apply wp_bV
        | with_reducible apply wp_bL
        | with_reducible apply wp_rI
        | with_reducible apply wp_rV
        | with_reducible apply wp_rL
        | (with_reducible apply wp_1; (first | omega | (simp (disch := omega) only [not_false_eq_true, not_true_eq_false, w32_id, tLt, fLt, tLe, fEq, itE, and_true, true_and, and_self, and_false, false_and, ↓reduceIte, nat_add, nat_mul3, nat_mul4, nat_mul6, nat_mul15, nat_mul60, nat_cast, nc1, Int.reduceToNat, upE, upN, fill_ne, fill_in, i0, l2] <;> omega)))
        | (with_reducible apply wp_2; (first | omega | (simp (disch := omega) only [not_false_eq_true, not_true_eq_false, w32_id, tLt, fLt, tLe, fEq, itE, and_true, true_and, and_self, and_false, false_and, ↓reduceIte, nat_add, nat_mul3, nat_mul4, nat_mul6, nat_mul15, nat_mul60, nat_cast, nc1, Int.reduceToNat, upE, upN, fill_ne, fill_in, i0, l2] <;> omega)))
        | (with_reducible apply wp_s; (first | (simp (disch := omega) only [not_false_eq_true, not_true_eq_false, w32_id, tLt, fLt, tLe, fEq, itE, and_true, true_and, and_self, and_false, false_and, ↓reduceIte, nat_add, nat_mul3, nat_mul4, nat_mul6, nat_mul15, nat_mul60, nat_cast, nc1, Int.reduceToNat, upE, upN, fill_ne, fill_in, i0, l2]; with_reducible exact Iff.rfl) | with_reducible exact Iff.rfl); intro hc__; (try subst hc__); rotate_left; intro hc__; rotate_left)
        | (with_reducible apply wp_eq; (with_reducible apply cl_go; simp (disch := omega) only [not_false_eq_true, not_true_eq_false, w32_id, tLt, fLt, tLe, fEq, itE, and_true, true_and, and_self, and_false, false_and, ↓reduceIte, nat_add, nat_mul3, nat_mul4, nat_mul6, nat_mul15, nat_mul60, nat_cast, nc1, Int.reduceToNat, upE, upN, fill_ne, fill_in, i0, l2]; with_reducible exact rfl))
        | (with_reducible refine wp_eq (c_Ca_voyages (by omega) _ _ _ _) ?_; with_reducible refine wp_eq (b_Ca_voyages_0 _ _ _ _ _) ?_)
        | (with_reducible refine wp_eq (c_Ca_within (by omega) _ _ _ _ _) ?_; with_reducible refine wp_eq (b_Ca_within_0 _ _ _ _ _ _) ?_)
        | (with_reducible refine wp_eq (c_Ca_isShip (by omega) _ _ _ _) ?_; with_reducible refine wp_eq (b_Ca_isShip_0 _ _ _ _ _) ?_)
        | (with_reducible refine wp_eq (c_Ca_isNation (by omega) _ _ _ _) ?_; with_reducible refine wp_eq (b_Ca_isNation_0 _ _ _ _ _) ?_)
        | (with_reducible refine wp_eq (c_Ca_isGood (by omega) _ _ _ _) ?_; with_reducible refine wp_eq (b_Ca_isGood_0 _ _ _ _ _) ?_)
        | (with_reducible refine wp_eq (c_Ca_isPort (by omega) _ _ _ _) ?_; with_reducible refine wp_eq (b_Ca_isPort_0 _ _ _ _ _) ?_)
        | (with_reducible refine wp_eq (c_Ca_areTwo (by omega) _ _ _ _ _ _) ?_; with_reducible refine wp_eq (b_Ca_areTwo_0 _ _ _ _ _ _ _) ?_)
        | (with_reducible refine wp_eq (c_Ca_answer (by omega) _ _ _ _) ?_; with_reducible refine wp_eq (b_Ca_answer_0 _ _ _ _ _) ?_)
        | (with_reducible refine wp_eq (c_Ca_refuse (by omega) _ _ _ _) ?_; with_reducible refine wp_eq (b_Ca_refuse_0 _ _ _ _ _) ?_)
        | (with_reducible refine wp_eq (c_Ca_answerOr (by omega) _ _ _ _ _) ?_; with_reducible refine wp_eq (b_Ca_answerOr_0 _ _ _ _ _ _) ?_)
        | (with_reducible refine wp_eq (c_Ca_agree (by omega) _ _ _) ?_; with_reducible refine wp_eq (b_Ca_agree_0 _ _ _ _) ?_)
        | (with_reducible refine wp_eq (c_Ca_deny (by omega) _ _ _ _) ?_; with_reducible refine wp_eq (b_Ca_deny_0 _ _ _ _ _) ?_)
        | (with_reducible refine wp_eq (c_Mo_voyages (by omega) _ _ _ _) ?_; with_reducible refine wp_eq (b_Mo_voyages_0 _ _ _ _ _) ?_)
        | (with_reducible refine wp_eq (c_Mo_begins (by omega) _ _ _ _ _) ?_; with_reducible refine wp_eq (b_Mo_begins_0 _ _ _ _ _ _) ?_)
        | (with_reducible refine wp_eq (c_Mo_isShip (by omega) _ _ _ _) ?_; with_reducible refine wp_eq (b_Mo_isShip_0 _ _ _ _ _) ?_)
        | (with_reducible refine wp_eq (c_Mo_isNation (by omega) _ _ _ _) ?_; with_reducible refine wp_eq (b_Mo_isNation_0 _ _ _ _ _) ?_)
        | (with_reducible refine wp_eq (c_Mo_isGood (by omega) _ _ _ _) ?_; with_reducible refine wp_eq (b_Mo_isGood_0 _ _ _ _ _) ?_)
        | (with_reducible refine wp_eq (c_Mo_isPort (by omega) _ _ _ _) ?_; with_reducible refine wp_eq (b_Mo_isPort_0 _ _ _ _ _) ?_)
        | (with_reducible refine wp_eq (c_Mo_areTwo (by omega) _ _ _ _ _) ?_; with_reducible refine wp_eq (b_Mo_areTwo_0 _ _ _ _ _ _) ?_)
        | (with_reducible refine wp_eq (c_Mo_gives (by omega) _ _ _ _) ?_; with_reducible refine wp_eq (b_Mo_gives_0 _ _ _ _ _) ?_)
        | (with_reducible refine wp_eq (c_Mo_refuse (by omega) _ _ _ _) ?_; with_reducible refine wp_eq (b_Mo_refuse_0 _ _ _ _ _) ?_)
        | (with_reducible refine wp_eq (c_Mo_orNone (by omega) _ _ _ _) ?_; with_reducible refine wp_eq (b_Mo_orNone_0 _ _ _ _ _) ?_)
        | (with_reducible refine wp_eq (c_Mo_orNothing (by omega) _ _ _ _) ?_; with_reducible refine wp_eq (b_Mo_orNothing_0 _ _ _ _ _) ?_)
        | (with_reducible refine wp_eq (c_Mo_is (by omega) _ _ _ _) ?_; with_reducible refine wp_eq (b_Mo_is_0 _ _ _ _ _) ?_)
        | (with_reducible refine wp_eq (c_Mo_isRule (by omega) _ _ _) ?_; with_reducible refine wp_eq (b_Mo_isRule_0 _ _ _ _) ?_)
        | (with_reducible refine wp_eq (c_Mo_isTons (by omega) _ _ _) ?_; with_reducible refine wp_eq (b_Mo_isTons_0 _ _ _ _) ?_)
        | (with_reducible refine wp_eq (c_Mo_isFrom (by omega) _ _ _ _ _) ?_; with_reducible refine wp_eq (b_Mo_isFrom_0 _ _ _ _ _ _) ?_)
        | (with_reducible refine wp_eq (c_Mo_isTray (by omega) _ _ _) ?_; with_reducible refine wp_eq (b_Mo_isTray_0 _ _ _ _) ?_)
        | (with_reducible apply wp_eq; (with_reducible apply lf_go; simp (disch := omega) only [not_false_eq_true, not_true_eq_false, w32_id, tLt, fLt, tLe, fEq, itE, and_true, true_and, and_self, and_false, false_and, ↓reduceIte, nat_add, nat_mul3, nat_mul4, nat_mul6, nat_mul15, nat_mul60, nat_cast, nc1, Int.reduceToNat, upE, upN, fill_ne, fill_in, i0, l2]; with_reducible exact rfl))
        | with_reducible apply wp_q1
      all_goals exact wp_ask (by first | rfl | exact congrArg (fun z => some (vI z)) (by omega) | simp (disch := omega) only [not_false_eq_true, not_true_eq_false, w32_id, tLt, fLt, tLe, fEq, itE, and_true, true_and, and_self, and_false, false_and, ↓reduceIte, nat_add, nat_mul3, nat_mul4, nat_mul6, nat_mul15, nat_mul60, nat_cast, nc1, Int.reduceToNat, upE, upN, fill_ne, fill_in, i0]) (by repeat' first | assumption | apply RelS.up | apply RelS.fill | (intros; unfold core k1 kTr kTp kLv kLp kMk kNw; omega)) (by first | assumption | simp (disch := omega) only [upE, upN, fill_ne])

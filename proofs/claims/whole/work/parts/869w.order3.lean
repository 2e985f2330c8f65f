/-! A STEP OF THE VOYAGES: sailing, and what a block asks -/
section
variable {bt : Nat → Int} {n q e : Nat} {M M' Ma M1 M2 : Mm} {L d d1 d2 k : Nat} {c x1 x2 x3 x4 : Int} {c0 c1 c2 c3 : Nat}
theorem o_sail (h1 : 8 ≤ d1) (h2 : 9 ≤ d2) (h : TK bt n q e M1 M2) (hN : NV M1 M2 c0 c1 c2 c3) (h5 : M1 98 5 = (k : Int)) (hk : k < 60) (h6 : M1 98 6 = c) (hc : 0 ≤ c ∧ c ≤ 60) (hw : M2 272 (2494 + 6 * k) = 23) : OR bt n e L k c StN (callD d1 m_VoyageText_takesPair [vR 6 0 12, vR 0 0 19, vR 3 0 98, vI 4, vI 2] (SH L) M1) (callD d2 m_Mo_voyageOrder [vR 12 0 271, vI 23, vI (2494 + 6 * (k : Int))] (SH L) M2) M1 M2 := by
  have e2 := hN.2.2.2.2.2.2.1
  have e3 := hN.2.2.2.2.2.2.2
  rcases k_pair (L := L) (d1 := d1) (d2 := d2 - 1) (d3 := d2 - 1 - 1) (by omega) (by omega) (by omega) h hN h5 hk h6 hc 4 (kd := 2) (by omega) hN.2.2.1 with ⟨q', e', s, v, Mc, Ma, Md, u1, u2, u3, t, le, ⟨hs, hv, a1, a2, a3, a5, a6⟩, ⟨g1, g2, g0⟩, fc, fa, fd⟩ | ⟨M1', M2', u1, u2, f, fc, fd⟩
  · left
    have b2 : Ma 272 2 = (c2 : Int) := by rw [fa _ _ (by omega) (by omega)]; exact e2
    refine ⟨q', e', Mc, Md, u1 2 rfl, ?_, t, le, ⟨a5, a6⟩, ?_, fc, fd⟩
    · repeat' first
        | (with_reducible apply bR_go; (simp (disch := omega) only [rM L, rK L, rN L, rNf, rNv, rNp, rNd, rRow, rLeg, rMark, nat_cast, Int.reduceToNat, b2, Int.reduceMod]; with_reducible exact rfl))
        | with_reducible apply bI_go
        | with_reducible apply bV_go
        | with_reducible apply bL_go
        | (with_reducible apply it_1; (first | omega | (simp (disch := omega) only [not_false_eq_true, not_true_eq_false, w32_id, tLt, fLt, tLe, fEq, itE, and_true, true_and, and_self, and_false, false_and, ↓reduceIte, nat_add, nat_mul3, nat_mul4, nat_mul6, nat_mul15, nat_mul60, nat_cast, nc1, Int.reduceToNat, upE, upN, fill_ne, fill_in, i0, b2, Int.reduceMod] <;> omega)))
        | (with_reducible apply it_2; (first | omega | (simp (disch := omega) only [not_false_eq_true, not_true_eq_false, w32_id, tLt, fLt, tLe, fEq, itE, and_true, true_and, and_self, and_false, false_and, ↓reduceIte, nat_add, nat_mul3, nat_mul4, nat_mul6, nat_mul15, nat_mul60, nat_cast, nc1, Int.reduceToNat, upE, upN, fill_ne, fill_in, i0, b2, Int.reduceMod] <;> omega)))
        | (with_reducible refine cl_go ?_; simp (disch := omega) only [not_false_eq_true, not_true_eq_false, w32_id, tLt, fLt, tLe, fEq, itE, and_true, true_and, and_self, and_false, false_and, ↓reduceIte, nat_add, nat_mul3, nat_mul4, nat_mul6, nat_mul15, nat_mul60, nat_cast, nc1, Int.reduceToNat, upE, upN, fill_ne, fill_in, i0, b2, Int.reduceMod])
        | rw [c_Mo_voyageOrder (by omega), b_Mo_voyageOrder_0]
        | rw [c_Mo_oldPortTo (by omega), b_Mo_oldPortTo_0]
        | with_reducible exact u2 _ (by omega)
        | with_reducible exact u3 _ _ _ (by omega) (by omega) (by omega)
        | (with_reducible refine rn_go ?_; simp (disch := omega) only [not_false_eq_true, not_true_eq_false, w32_id, tLt, fLt, tLe, fEq, itE, and_true, true_and, and_self, and_false, false_and, ↓reduceIte, nat_add, nat_mul3, nat_mul4, nat_mul6, nat_mul15, nat_mul60, nat_cast, nc1, Int.reduceToNat, upE, upN, fill_ne, fill_in, i0, b2, Int.reduceMod])
        | (with_reducible refine lf_go ?_; simp (disch := omega) only [not_false_eq_true, not_true_eq_false, w32_id, tLt, fLt, tLe, fEq, itE, and_true, true_and, and_self, and_false, false_and, ↓reduceIte, nat_add, nat_mul3, nat_mul4, nat_mul6, nat_mul15, nat_mul60, nat_cast, nc1, Int.reduceToNat, upE, upN, fill_ne, fill_in, i0, b2, Int.reduceMod])
        | with_reducible exact rfl
    · right; right; left
      have f3 : Md 272 3 = (c3 : Int) := by rw [fd _ _ (by omega) (by omega)]; exact e3
      have f2 : Md 272 2 = (c2 : Int) := by rw [fd _ _ (by omega) (by omega)]; exact e2
      rw [a1, a2, a3, vA_hi (i := 206 + 6 * k) (j := 2494 + 6 * k) (by omega) (by omega), vA_hi (i := 207 + 6 * k) (j := 2495 + 6 * k) (by omega) (by omega), vA_hi (i := 208 + 6 * k) (j := 2496 + 6 * k) (by omega) (by omega), vA_lo (i := 3) (by omega), vA_lo (i := 2) (by omega), g0, g1, g2, f3, f2]
      exact ⟨rfl, hw, rfl, by omega, by omega, rfl, by omega, by omega⟩
  · right
    refine ⟨M1', M2', u1 2 rfl, ?_, f, fc, fd⟩
    rcases u2 with u2 | ⟨Ma, u2, fa, u3⟩
    · repeat' first
        | (with_reducible apply bR_go; (simp (disch := omega) only [rM L, rK L, rN L, rNf, rNv, rNp, rNd, rRow, rLeg, rMark, nat_cast, Int.reduceToNat, Int.reduceMod]; with_reducible exact rfl))
        | with_reducible apply bI_go
        | with_reducible apply bV_go
        | with_reducible apply bL_go
        | (with_reducible apply it_1; (first | omega | (simp (disch := omega) only [not_false_eq_true, not_true_eq_false, w32_id, tLt, fLt, tLe, fEq, itE, and_true, true_and, and_self, and_false, false_and, ↓reduceIte, nat_add, nat_mul3, nat_mul4, nat_mul6, nat_mul15, nat_mul60, nat_cast, nc1, Int.reduceToNat, upE, upN, fill_ne, fill_in, i0, Int.reduceMod] <;> omega)))
        | (with_reducible apply it_2; (first | omega | (simp (disch := omega) only [not_false_eq_true, not_true_eq_false, w32_id, tLt, fLt, tLe, fEq, itE, and_true, true_and, and_self, and_false, false_and, ↓reduceIte, nat_add, nat_mul3, nat_mul4, nat_mul6, nat_mul15, nat_mul60, nat_cast, nc1, Int.reduceToNat, upE, upN, fill_ne, fill_in, i0, Int.reduceMod] <;> omega)))
        | (with_reducible refine cl_go ?_; simp (disch := omega) only [not_false_eq_true, not_true_eq_false, w32_id, tLt, fLt, tLe, fEq, itE, and_true, true_and, and_self, and_false, false_and, ↓reduceIte, nat_add, nat_mul3, nat_mul4, nat_mul6, nat_mul15, nat_mul60, nat_cast, nc1, Int.reduceToNat, upE, upN, fill_ne, fill_in, i0, Int.reduceMod])
        | rw [c_Mo_voyageOrder (by omega), b_Mo_voyageOrder_0]
        | with_reducible exact u2 _ (by omega)
        | (with_reducible refine rn_go ?_; simp (disch := omega) only [not_false_eq_true, not_true_eq_false, w32_id, tLt, fLt, tLe, fEq, itE, and_true, true_and, and_self, and_false, false_and, ↓reduceIte, nat_add, nat_mul3, nat_mul4, nat_mul6, nat_mul15, nat_mul60, nat_cast, nc1, Int.reduceToNat, upE, upN, fill_ne, fill_in, i0, Int.reduceMod])
        | (with_reducible refine lf_go ?_; simp (disch := omega) only [not_false_eq_true, not_true_eq_false, w32_id, tLt, fLt, tLe, fEq, itE, and_true, true_and, and_self, and_false, false_and, ↓reduceIte, nat_add, nat_mul3, nat_mul4, nat_mul6, nat_mul15, nat_mul60, nat_cast, nc1, Int.reduceToNat, upE, upN, fill_ne, fill_in, i0, Int.reduceMod])
        | with_reducible exact rfl
    · have b2 : Ma 272 2 = (c2 : Int) := by rw [fa _ _ (by omega) (by omega)]; exact e2
      repeat' first
        | (with_reducible apply bR_go; (simp (disch := omega) only [rM L, rK L, rN L, rNf, rNv, rNp, rNd, rRow, rLeg, rMark, nat_cast, Int.reduceToNat, b2, Int.reduceMod]; with_reducible exact rfl))
        | with_reducible apply bI_go
        | with_reducible apply bV_go
        | with_reducible apply bL_go
        | (with_reducible apply it_1; (first | omega | (simp (disch := omega) only [not_false_eq_true, not_true_eq_false, w32_id, tLt, fLt, tLe, fEq, itE, and_true, true_and, and_self, and_false, false_and, ↓reduceIte, nat_add, nat_mul3, nat_mul4, nat_mul6, nat_mul15, nat_mul60, nat_cast, nc1, Int.reduceToNat, upE, upN, fill_ne, fill_in, i0, b2, Int.reduceMod] <;> omega)))
        | (with_reducible apply it_2; (first | omega | (simp (disch := omega) only [not_false_eq_true, not_true_eq_false, w32_id, tLt, fLt, tLe, fEq, itE, and_true, true_and, and_self, and_false, false_and, ↓reduceIte, nat_add, nat_mul3, nat_mul4, nat_mul6, nat_mul15, nat_mul60, nat_cast, nc1, Int.reduceToNat, upE, upN, fill_ne, fill_in, i0, b2, Int.reduceMod] <;> omega)))
        | (with_reducible refine cl_go ?_; simp (disch := omega) only [not_false_eq_true, not_true_eq_false, w32_id, tLt, fLt, tLe, fEq, itE, and_true, true_and, and_self, and_false, false_and, ↓reduceIte, nat_add, nat_mul3, nat_mul4, nat_mul6, nat_mul15, nat_mul60, nat_cast, nc1, Int.reduceToNat, upE, upN, fill_ne, fill_in, i0, b2, Int.reduceMod])
        | rw [c_Mo_voyageOrder (by omega), b_Mo_voyageOrder_0]
        | rw [c_Mo_oldPortTo (by omega), b_Mo_oldPortTo_0]
        | with_reducible exact u2 _ (by omega)
        | with_reducible exact u3 _ _ _ (by omega) (by omega) (by omega)
        | (with_reducible refine rn_go ?_; simp (disch := omega) only [not_false_eq_true, not_true_eq_false, w32_id, tLt, fLt, tLe, fEq, itE, and_true, true_and, and_self, and_false, false_and, ↓reduceIte, nat_add, nat_mul3, nat_mul4, nat_mul6, nat_mul15, nat_mul60, nat_cast, nc1, Int.reduceToNat, upE, upN, fill_ne, fill_in, i0, b2, Int.reduceMod])
        | (with_reducible refine lf_go ?_; simp (disch := omega) only [not_false_eq_true, not_true_eq_false, w32_id, tLt, fLt, tLe, fEq, itE, and_true, true_and, and_self, and_false, false_and, ↓reduceIte, nat_add, nat_mul3, nat_mul4, nat_mul6, nat_mul15, nat_mul60, nat_cast, nc1, Int.reduceToNat, upE, upN, fill_ne, fill_in, i0, b2, Int.reduceMod])
        | with_reducible exact rfl
/-- a sign, and the number behind it -/
theorem k_tail (h1 : 4 ≤ d1) (h2 : 4 ≤ d2) (h : TK bt n q e M1 M2) (hk : k < 60) (x : Int) : ∃ Ma Mb, callD d1 m_Tape_advance [vR 6 0 12] (SH L) M1 = some (none, SH L, Ma) ∧ callD d2 m_Mo_ahead [vR 12 0 271] (SH L) (up M2 272 (2494 + 6 * k + 5) x) = some (none, SH L, Mb) ∧
    ((∃ q' e' z M1' M2', callD d1 m_Tape_takeNumber [vR 6 0 12, vI 0, vI 9999] (SH L) Ma = some (some (vI z), SH L, M1') ∧ (∀ y : Int, y = ((2496 + 6 * k : Nat) : Int) → callD d2 m_Mo_number [vR 12 0 271, vI y, vI 0, vI 9999] (SH L) Mb = some (some (vI 1), SH L, M2')) ∧ TK bt n q' e' M1' M2' ∧ e ≤ q' ∧ FrA M1 M1' ∧ 0 ≤ z ∧ M2' 272 (2496 + 6 * k) = z ∧ M2' 272 (2499 + 6 * k) = x ∧ ∀ b j, ¬(b = 271 ∧ (12 ≤ j ∧ j ≤ 15 ∨ j = 17 ∨ j = 18)) → ¬(b = 272 ∧ (j = 2496 + 6 * k ∨ j = 2499 + 6 * k)) → M2' b j = M2 b j) ∨
     (∃ M1' M2', callD d1 m_Tape_takeNumber [vR 6 0 12, vI 0, vI 9999] (SH L) Ma = some (some (vI (-1)), SH L, M1') ∧ (∀ y : Int, y = ((2496 + 6 * k : Nat) : Int) → callD d2 m_Mo_number [vR 12 0 271, vI y, vI 0, vI 9999] (SH L) Mb = some (some (vI 0), SH L, M2')) ∧ FL M1' M2' ∧ FrA M1 M1' ∧ FmV k M2 M2')) := by
  have hu : TK bt n q e M1 (up M2 272 (2494 + 6 * k + 5) x) := h.fr (fun _ _ _ => rfl) fun b j hb => upN (by omega)
  obtain ⟨qa, ea, Ma, Mb, a1, a2, ta, la, fa, fb⟩ := k_adv (L := L) (d1 := d1) (d2 := d2) (by omega) (by omega) hu
  refine ⟨Ma, Mb, a1, a2, ?_⟩
  rcases k_num (L := L) (d1 := d1) (d2 := d2) (by omega) (by omega) ta 0 9999 (to := 2496 + 6 * k) (by omega) with ⟨q', e', v, Mc, Md, u1, u2, hv, t, le, fc, ft, ev⟩ | ⟨M1', M2', u1, u2, f, fc, fd⟩
  · left
    refine ⟨q', e', v, Mc, Md, u1, u2, t, by have z1 := ta.2.2.2.2.1.bd; omega, fa.trans fc, hv.1, ev, by rw [ft _ _ (by omega) (by omega), fb _ _ (by omega), upE rfl (by omega)], fun b j y1 y2 => by rw [ft _ _ y1 (by omega), fb _ _ y1, upN (by omega)]⟩
  · right
    exact ⟨M1', M2', u1, u2, f, fa.trans fc, fun b j y1 y2 => by rw [fd _ _ y1, fb _ _ y1, upN (by omega)]⟩
/-- a test on a pair -/
theorem o_ruled (h1 : 9 ≤ d1) (h2 : 11 ≤ d2) (h : TK bt n q e M1 M2) (hN : NV M1 M2 c0 c1 c2 c3) (h5 : M1 98 5 = (k : Int)) (hk : k < 60) (h6 : M1 98 6 = c) (hc : 0 ≤ c ∧ c ≤ 60) (hq : cwx bt n q e = 26) : OR bt n e L k c StB (callD d1 m_VoyageText_takesTest [vR 6 0 12, vR 0 0 19, vR 3 0 98] (SH L) M1) (callD d2 m_Mo_voyageOrder [vR 12 0 271, vI 25, vI (2494 + 6 * (k : Int))] (SH L) M2) M1 M2 := by
  have wd := h.wd
  have iw := h.iw (L := L) (d2 := d2 - 1 - 1) (by omega)
  rw [hq] at wd iw
  rw [show kM 26 = 29 from rfl] at iw
  have hu : TK bt n q e M1 (up M2 272 (2494 + 6 * k) 2529) := h.fr (fun _ _ _ => rfl) fun b j hb => upN (by omega)
  obtain ⟨qa, ea, Mp, Mq, p1, p2, ta, la, fp, fq⟩ := k_adv (L := L) (d1 := d1 - 1) (d2 := d2 - 1 - 1) (by omega) (by omega) hu
  have vp : FcV k M1 Mp := fp.v
  have vq : FmV k M2 Mq := (((FrB.refl M2).v (k := k)).u (by omega)).trans fq.v
  have hM := hN.v vp vq
  have m0 := hM.2.2.2.2.1
  rcases k_pair (L := L) (d1 := d1 - 1) (d2 := d2 - 1 - 1) (d3 := d2 - 1 - 1) (by omega) (by omega) (by omega) ta hM (by rw [fp _ _ (by omega)]; exact h5) hk (by rw [fp _ _ (by omega)]; exact h6) hc 6 (kd := 0) (by omega) hM.1 with ⟨q', e', s, v, Mc, Ma, Md, u1, u2, u3, t, le, ⟨hs, hv, a1, a2, a3, a5, a6⟩, ⟨g1, g2, g0⟩, fc, fa, fd⟩ | ⟨M1', M2', u1, u2, f, fc, fd⟩
  · left
    have u1 := u1 0 rfl
    have b0 : Ma 272 0 = (c0 : Int) := by rw [fa _ _ (by omega) (by omega)]; exact m0
    refine ⟨q', e', Mc, Md, ?_, wp_un ?_, t, by have z1 := ta.2.2.2.2.1.bd; omega, ⟨a5, a6⟩, ?_, vp.trans fc, vq.trans fd⟩
    · repeat' first
        | (with_reducible apply bR_go; (simp (disch := omega) only [rM L, rK L, rN L, rNf, rNv, rNp, rNd, rRow, rLeg, rMark, nat_cast, Int.reduceToNat, wd, Int.reduceMod]; with_reducible exact rfl))
        | with_reducible apply bI_go
        | with_reducible apply bV_go
        | with_reducible apply bL_go
        | (with_reducible apply it_1; (first | omega | (simp (disch := omega) only [not_false_eq_true, not_true_eq_false, w32_id, tLt, fLt, tLe, fEq, itE, and_true, true_and, and_self, and_false, false_and, ↓reduceIte, nat_add, nat_mul3, nat_mul4, nat_mul6, nat_mul15, nat_mul60, nat_cast, nc1, Int.reduceToNat, upE, upN, fill_ne, fill_in, i0, wd, Int.reduceMod] <;> omega)))
        | (with_reducible apply it_2; (first | omega | (simp (disch := omega) only [not_false_eq_true, not_true_eq_false, w32_id, tLt, fLt, tLe, fEq, itE, and_true, true_and, and_self, and_false, false_and, ↓reduceIte, nat_add, nat_mul3, nat_mul4, nat_mul6, nat_mul15, nat_mul60, nat_cast, nc1, Int.reduceToNat, upE, upN, fill_ne, fill_in, i0, wd, Int.reduceMod] <;> omega)))
        | (with_reducible refine cl_go ?_; simp (disch := omega) only [not_false_eq_true, not_true_eq_false, w32_id, tLt, fLt, tLe, fEq, itE, and_true, true_and, and_self, and_false, false_and, ↓reduceIte, nat_add, nat_mul3, nat_mul4, nat_mul6, nat_mul15, nat_mul60, nat_cast, nc1, Int.reduceToNat, upE, upN, fill_ne, fill_in, i0, wd, Int.reduceMod])
        | rw [c_VoyageText_takesTest (by omega), b_VoyageText_takesTest_0]
        | with_reducible exact p1
        | with_reducible exact u1
        | (with_reducible refine rn_go ?_; simp (disch := omega) only [not_false_eq_true, not_true_eq_false, w32_id, tLt, fLt, tLe, fEq, itE, and_true, true_and, and_self, and_false, false_and, ↓reduceIte, nat_add, nat_mul3, nat_mul4, nat_mul6, nat_mul15, nat_mul60, nat_cast, nc1, Int.reduceToNat, upE, upN, fill_ne, fill_in, i0, wd, Int.reduceMod])
        | (with_reducible refine lf_go ?_; simp (disch := omega) only [not_false_eq_true, not_true_eq_false, w32_id, tLt, fLt, tLe, fEq, itE, and_true, true_and, and_self, and_false, false_and, ↓reduceIte, nat_add, nat_mul3, nat_mul4, nat_mul6, nat_mul15, nat_mul60, nat_cast, nc1, Int.reduceToNat, upE, upN, fill_ne, fill_in, i0, wd, Int.reduceMod])
        | with_reducible exact rfl
    · repeat' first
        | (with_reducible apply wp_bR; (simp (disch := omega) only [rM L, rK L, rN L, rNf, rNv, rNp, rNd, rRow, rLeg, rMark, nat_cast, Int.reduceToNat, b0, Int.reduceMod, Int.reduceAdd]; with_reducible exact rfl))
        | with_reducible apply wp_bI
        | with_reducible apply wp_bV
        | with_reducible apply wp_bL
        | with_reducible apply wp_rI
        | with_reducible apply wp_rV
        | with_reducible apply wp_rL
        | (with_reducible apply wp_1; (first | omega | (simp (disch := omega) only [not_false_eq_true, not_true_eq_false, w32_id, tLt, fLt, tLe, fEq, itE, and_true, true_and, and_self, and_false, false_and, ↓reduceIte, nat_add, nat_mul3, nat_mul4, nat_mul6, nat_mul15, nat_mul60, nat_cast, nc1, Int.reduceToNat, upE, upN, fill_ne, fill_in, i0, b0, Int.reduceMod, Int.reduceAdd] <;> omega)))
        | (with_reducible apply wp_2; (first | omega | (simp (disch := omega) only [not_false_eq_true, not_true_eq_false, w32_id, tLt, fLt, tLe, fEq, itE, and_true, true_and, and_self, and_false, false_and, ↓reduceIte, nat_add, nat_mul3, nat_mul4, nat_mul6, nat_mul15, nat_mul60, nat_cast, nc1, Int.reduceToNat, upE, upN, fill_ne, fill_in, i0, b0, Int.reduceMod, Int.reduceAdd] <;> omega)))
        | (with_reducible apply wp_s; (first | (simp (disch := omega) only [not_false_eq_true, not_true_eq_false, w32_id, tLt, fLt, tLe, fEq, itE, and_true, true_and, and_self, and_false, false_and, ↓reduceIte, nat_add, nat_mul3, nat_mul4, nat_mul6, nat_mul15, nat_mul60, nat_cast, nc1, Int.reduceToNat, upE, upN, fill_ne, fill_in, i0, b0, Int.reduceMod, Int.reduceAdd]; with_reducible exact Iff.rfl) | with_reducible exact Iff.rfl); intro hc__; (try subst hc__); rotate_left; intro hc__; rotate_left)
        | (with_reducible apply wp_eq; (with_reducible apply cl_go; simp (disch := omega) only [not_false_eq_true, not_true_eq_false, w32_id, tLt, fLt, tLe, fEq, itE, and_true, true_and, and_self, and_false, false_and, ↓reduceIte, nat_add, nat_mul3, nat_mul4, nat_mul6, nat_mul15, nat_mul60, nat_cast, nc1, Int.reduceToNat, upE, upN, fill_ne, fill_in, i0, b0, Int.reduceMod, Int.reduceAdd]; with_reducible exact rfl))
        | (with_reducible refine wp_eq (c_Mo_voyageOrder (by omega) _ _ _ _ _) ?_; with_reducible refine wp_eq (b_Mo_voyageOrder_0 _ _ _ _ _ _) ?_)
        | (with_reducible refine wp_eq (c_Mo_test (by omega) _ _ _ _) ?_; with_reducible refine wp_eq (b_Mo_test_0 _ _ _ _ _) ?_)
        | with_reducible refine wp_eq (b_Mo_test_31 _ _ _ _ _ _) ?_
        | with_reducible refine wp_eq (iw) ?_
        | with_reducible refine wp_eq (p2) ?_
        | with_reducible refine wp_eq (u2 _ (by omega)) ?_
        | with_reducible refine wp_eq (u3 _ _ _ (by omega) (by omega) (by omega)) ?_
        | (with_reducible apply wp_eq; (with_reducible apply lf_go; simp (disch := omega) only [not_false_eq_true, not_true_eq_false, w32_id, tLt, fLt, tLe, fEq, itE, and_true, true_and, and_self, and_false, false_and, ↓reduceIte, nat_add, nat_mul3, nat_mul4, nat_mul6, nat_mul15, nat_mul60, nat_cast, nc1, Int.reduceToNat, upE, upN, fill_ne, fill_in, i0, b0, Int.reduceMod, Int.reduceAdd]; with_reducible exact rfl))
        | with_reducible apply wp_q1
      exact ⟨_, _, _, rfl, rfl, rfl, rfl⟩
    · left
      have f3 : Md 272 3 = (c3 : Int) := by rw [fd _ _ (by omega) (by omega)]; exact hM.2.2.2.2.2.2.2
      have f0 : Md 272 0 = (c0 : Int) := by rw [fd _ _ (by omega) (by omega)]; exact m0
      have g3 : Mq 272 (2494 + 6 * k) = 2529 := by rw [fq _ _ (by omega), upE rfl rfl]
      rw [a1, a2, a3, vA_hi (i := 206 + 6 * k) (j := 2494 + 6 * k) (by omega) (by omega), vA_hi (i := 207 + 6 * k) (j := 2495 + 6 * k) (by omega) (by omega), vA_hi (i := 208 + 6 * k) (j := 2496 + 6 * k) (by omega) (by omega), vA_lo (i := 3) (by omega), vA_lo (i := 0) (by omega), g0, g1, g2, g3, f3, f0]
      exact ⟨rfl, rfl, rfl, by omega, by omega, rfl, by omega, by omega⟩
  · right
    have u1 := u1 0 rfl
    refine ⟨M1', M2', ?_, wp_un ?_, f, vp.trans fc, vq.trans fd⟩
    · repeat' first
        | (with_reducible apply bR_go; (simp (disch := omega) only [rM L, rK L, rN L, rNf, rNv, rNp, rNd, rRow, rLeg, rMark, nat_cast, Int.reduceToNat, wd, Int.reduceMod]; with_reducible exact rfl))
        | with_reducible apply bI_go
        | with_reducible apply bV_go
        | with_reducible apply bL_go
        | (with_reducible apply it_1; (first | omega | (simp (disch := omega) only [not_false_eq_true, not_true_eq_false, w32_id, tLt, fLt, tLe, fEq, itE, and_true, true_and, and_self, and_false, false_and, ↓reduceIte, nat_add, nat_mul3, nat_mul4, nat_mul6, nat_mul15, nat_mul60, nat_cast, nc1, Int.reduceToNat, upE, upN, fill_ne, fill_in, i0, wd, Int.reduceMod] <;> omega)))
        | (with_reducible apply it_2; (first | omega | (simp (disch := omega) only [not_false_eq_true, not_true_eq_false, w32_id, tLt, fLt, tLe, fEq, itE, and_true, true_and, and_self, and_false, false_and, ↓reduceIte, nat_add, nat_mul3, nat_mul4, nat_mul6, nat_mul15, nat_mul60, nat_cast, nc1, Int.reduceToNat, upE, upN, fill_ne, fill_in, i0, wd, Int.reduceMod] <;> omega)))
        | (with_reducible refine cl_go ?_; simp (disch := omega) only [not_false_eq_true, not_true_eq_false, w32_id, tLt, fLt, tLe, fEq, itE, and_true, true_and, and_self, and_false, false_and, ↓reduceIte, nat_add, nat_mul3, nat_mul4, nat_mul6, nat_mul15, nat_mul60, nat_cast, nc1, Int.reduceToNat, upE, upN, fill_ne, fill_in, i0, wd, Int.reduceMod])
        | rw [c_VoyageText_takesTest (by omega), b_VoyageText_takesTest_0]
        | with_reducible exact p1
        | with_reducible exact u1
        | (with_reducible refine rn_go ?_; simp (disch := omega) only [not_false_eq_true, not_true_eq_false, w32_id, tLt, fLt, tLe, fEq, itE, and_true, true_and, and_self, and_false, false_and, ↓reduceIte, nat_add, nat_mul3, nat_mul4, nat_mul6, nat_mul15, nat_mul60, nat_cast, nc1, Int.reduceToNat, upE, upN, fill_ne, fill_in, i0, wd, Int.reduceMod])
        | (with_reducible refine lf_go ?_; simp (disch := omega) only [not_false_eq_true, not_true_eq_false, w32_id, tLt, fLt, tLe, fEq, itE, and_true, true_and, and_self, and_false, false_and, ↓reduceIte, nat_add, nat_mul3, nat_mul4, nat_mul6, nat_mul15, nat_mul60, nat_cast, nc1, Int.reduceToNat, upE, upN, fill_ne, fill_in, i0, wd, Int.reduceMod])
        | with_reducible exact rfl
    · rcases u2 with u2 | ⟨Ma, u2, fa, u3⟩
      · repeat' first
          | (with_reducible apply wp_bR; (simp (disch := omega) only [rM L, rK L, rN L, rNf, rNv, rNp, rNd, rRow, rLeg, rMark, nat_cast, Int.reduceToNat, Int.reduceMod, Int.reduceAdd]; with_reducible exact rfl))
          | with_reducible apply wp_bI
          | with_reducible apply wp_bV
          | with_reducible apply wp_bL
          | with_reducible apply wp_rI
          | with_reducible apply wp_rV
          | with_reducible apply wp_rL
          | (with_reducible apply wp_1; (first | omega | (simp (disch := omega) only [not_false_eq_true, not_true_eq_false, w32_id, tLt, fLt, tLe, fEq, itE, and_true, true_and, and_self, and_false, false_and, ↓reduceIte, nat_add, nat_mul3, nat_mul4, nat_mul6, nat_mul15, nat_mul60, nat_cast, nc1, Int.reduceToNat, upE, upN, fill_ne, fill_in, i0, Int.reduceMod, Int.reduceAdd] <;> omega)))
          | (with_reducible apply wp_2; (first | omega | (simp (disch := omega) only [not_false_eq_true, not_true_eq_false, w32_id, tLt, fLt, tLe, fEq, itE, and_true, true_and, and_self, and_false, false_and, ↓reduceIte, nat_add, nat_mul3, nat_mul4, nat_mul6, nat_mul15, nat_mul60, nat_cast, nc1, Int.reduceToNat, upE, upN, fill_ne, fill_in, i0, Int.reduceMod, Int.reduceAdd] <;> omega)))
          | (with_reducible apply wp_s; (first | (simp (disch := omega) only [not_false_eq_true, not_true_eq_false, w32_id, tLt, fLt, tLe, fEq, itE, and_true, true_and, and_self, and_false, false_and, ↓reduceIte, nat_add, nat_mul3, nat_mul4, nat_mul6, nat_mul15, nat_mul60, nat_cast, nc1, Int.reduceToNat, upE, upN, fill_ne, fill_in, i0, Int.reduceMod, Int.reduceAdd]; with_reducible exact Iff.rfl) | with_reducible exact Iff.rfl); intro hc__; (try subst hc__); rotate_left; intro hc__; rotate_left)
          | (with_reducible apply wp_eq; (with_reducible apply cl_go; simp (disch := omega) only [not_false_eq_true, not_true_eq_false, w32_id, tLt, fLt, tLe, fEq, itE, and_true, true_and, and_self, and_false, false_and, ↓reduceIte, nat_add, nat_mul3, nat_mul4, nat_mul6, nat_mul15, nat_mul60, nat_cast, nc1, Int.reduceToNat, upE, upN, fill_ne, fill_in, i0, Int.reduceMod, Int.reduceAdd]; with_reducible exact rfl))
          | (with_reducible refine wp_eq (c_Mo_voyageOrder (by omega) _ _ _ _ _) ?_; with_reducible refine wp_eq (b_Mo_voyageOrder_0 _ _ _ _ _ _) ?_)
          | (with_reducible refine wp_eq (c_Mo_test (by omega) _ _ _ _) ?_; with_reducible refine wp_eq (b_Mo_test_0 _ _ _ _ _) ?_)
          | with_reducible refine wp_eq (b_Mo_test_31 _ _ _ _ _ _) ?_
          | with_reducible refine wp_eq (iw) ?_
          | with_reducible refine wp_eq (p2) ?_
          | with_reducible refine wp_eq (u2 _ (by omega)) ?_
          | (with_reducible apply wp_eq; (with_reducible apply lf_go; simp (disch := omega) only [not_false_eq_true, not_true_eq_false, w32_id, tLt, fLt, tLe, fEq, itE, and_true, true_and, and_self, and_false, false_and, ↓reduceIte, nat_add, nat_mul3, nat_mul4, nat_mul6, nat_mul15, nat_mul60, nat_cast, nc1, Int.reduceToNat, upE, upN, fill_ne, fill_in, i0, Int.reduceMod, Int.reduceAdd]; with_reducible exact rfl))
          | with_reducible apply wp_q1
        exact ⟨_, _, _, rfl, rfl, rfl, rfl⟩
      · have b0 : Ma 272 0 = (c0 : Int) := by rw [fa _ _ (by omega) (by omega)]; exact m0
        repeat' first
          | (with_reducible apply wp_bR; (simp (disch := omega) only [rM L, rK L, rN L, rNf, rNv, rNp, rNd, rRow, rLeg, rMark, nat_cast, Int.reduceToNat, b0, Int.reduceMod, Int.reduceAdd]; with_reducible exact rfl))
          | with_reducible apply wp_bI
          | with_reducible apply wp_bV
          | with_reducible apply wp_bL
          | with_reducible apply wp_rI
          | with_reducible apply wp_rV
          | with_reducible apply wp_rL
          | (with_reducible apply wp_1; (first | omega | (simp (disch := omega) only [not_false_eq_true, not_true_eq_false, w32_id, tLt, fLt, tLe, fEq, itE, and_true, true_and, and_self, and_false, false_and, ↓reduceIte, nat_add, nat_mul3, nat_mul4, nat_mul6, nat_mul15, nat_mul60, nat_cast, nc1, Int.reduceToNat, upE, upN, fill_ne, fill_in, i0, b0, Int.reduceMod, Int.reduceAdd] <;> omega)))
          | (with_reducible apply wp_2; (first | omega | (simp (disch := omega) only [not_false_eq_true, not_true_eq_false, w32_id, tLt, fLt, tLe, fEq, itE, and_true, true_and, and_self, and_false, false_and, ↓reduceIte, nat_add, nat_mul3, nat_mul4, nat_mul6, nat_mul15, nat_mul60, nat_cast, nc1, Int.reduceToNat, upE, upN, fill_ne, fill_in, i0, b0, Int.reduceMod, Int.reduceAdd] <;> omega)))
          | (with_reducible apply wp_s; (first | (simp (disch := omega) only [not_false_eq_true, not_true_eq_false, w32_id, tLt, fLt, tLe, fEq, itE, and_true, true_and, and_self, and_false, false_and, ↓reduceIte, nat_add, nat_mul3, nat_mul4, nat_mul6, nat_mul15, nat_mul60, nat_cast, nc1, Int.reduceToNat, upE, upN, fill_ne, fill_in, i0, b0, Int.reduceMod, Int.reduceAdd]; with_reducible exact Iff.rfl) | with_reducible exact Iff.rfl); intro hc__; (try subst hc__); rotate_left; intro hc__; rotate_left)
          | (with_reducible apply wp_eq; (with_reducible apply cl_go; simp (disch := omega) only [not_false_eq_true, not_true_eq_false, w32_id, tLt, fLt, tLe, fEq, itE, and_true, true_and, and_self, and_false, false_and, ↓reduceIte, nat_add, nat_mul3, nat_mul4, nat_mul6, nat_mul15, nat_mul60, nat_cast, nc1, Int.reduceToNat, upE, upN, fill_ne, fill_in, i0, b0, Int.reduceMod, Int.reduceAdd]; with_reducible exact rfl))
          | (with_reducible refine wp_eq (c_Mo_voyageOrder (by omega) _ _ _ _ _) ?_; with_reducible refine wp_eq (b_Mo_voyageOrder_0 _ _ _ _ _ _) ?_)
          | (with_reducible refine wp_eq (c_Mo_test (by omega) _ _ _ _) ?_; with_reducible refine wp_eq (b_Mo_test_0 _ _ _ _ _) ?_)
          | with_reducible refine wp_eq (b_Mo_test_31 _ _ _ _ _ _) ?_
          | with_reducible refine wp_eq (iw) ?_
          | with_reducible refine wp_eq (p2) ?_
          | with_reducible refine wp_eq (u2 _ (by omega)) ?_
          | with_reducible refine wp_eq (u3 _ _ _ (by omega) (by omega) (by omega)) ?_
          | (with_reducible apply wp_eq; (with_reducible apply lf_go; simp (disch := omega) only [not_false_eq_true, not_true_eq_false, w32_id, tLt, fLt, tLe, fEq, itE, and_true, true_and, and_self, and_false, false_and, ↓reduceIte, nat_add, nat_mul3, nat_mul4, nat_mul6, nat_mul15, nat_mul60, nat_cast, nc1, Int.reduceToNat, upE, upN, fill_ne, fill_in, i0, b0, Int.reduceMod, Int.reduceAdd]; with_reducible exact rfl))
          | with_reducible apply wp_q1
        exact ⟨_, _, _, rfl, rfl, rfl, rfl⟩
theorem o_inport (h1 : 9 ≤ d1) (h2 : 11 ≤ d2) (h : TK bt n q e M1 M2) (hN : NV M1 M2 c0 c1 c2 c3) (h5 : M1 98 5 = (k : Int)) (hk : k < 60) (h6 : M1 98 6 = c) (hc : 0 ≤ c ∧ c ≤ 60) (hq : cwx bt n q e = 27) : OR bt n e L k c StB (callD d1 m_VoyageText_takesTest [vR 6 0 12, vR 0 0 19, vR 3 0 98] (SH L) M1) (callD d2 m_Mo_voyageOrder [vR 12 0 271, vI 25, vI (2494 + 6 * (k : Int))] (SH L) M2) M1 M2 := by
  have wd := h.wd
  have iw := h.iw (L := L) (d2 := d2 - 1 - 1) (by omega)
  rw [hq] at wd iw
  rw [show kM 27 = 30 from rfl] at iw
  have hu : TK bt n q e M1 (up M2 272 (2494 + 6 * k) 2530) := h.fr (fun _ _ _ => rfl) fun b j hb => upN (by omega)
  obtain ⟨qa, ea, Mp, Mq, p1, p2, ta, la, fp, fq⟩ := k_adv (L := L) (d1 := d1 - 1) (d2 := d2 - 1 - 1) (by omega) (by omega) hu
  have vp : FcV k M1 Mp := fp.v
  have vq : FmV k M2 Mq := (((FrB.refl M2).v (k := k)).u (by omega)).trans fq.v
  have hM := hN.v vp vq
  have m0 := hM.2.2.2.2.2.2.1
  rcases k_pair (L := L) (d1 := d1 - 1) (d2 := d2 - 1 - 1) (d3 := d2 - 1 - 1 - 1) (by omega) (by omega) (by omega) ta hM (by rw [fp _ _ (by omega)]; exact h5) hk (by rw [fp _ _ (by omega)]; exact h6) hc 7 (kd := 2) (by omega) hM.2.2.1 with ⟨q', e', s, v, Mc, Ma, Md, u1, u2, u3, t, le, ⟨hs, hv, a1, a2, a3, a5, a6⟩, ⟨g1, g2, g0⟩, fc, fa, fd⟩ | ⟨M1', M2', u1, u2, f, fc, fd⟩
  · left
    have u1 := u1 2 rfl
    have b0 : Ma 272 2 = (c2 : Int) := by rw [fa _ _ (by omega) (by omega)]; exact m0
    refine ⟨q', e', Mc, Md, ?_, wp_un ?_, t, by have z1 := ta.2.2.2.2.1.bd; omega, ⟨a5, a6⟩, ?_, vp.trans fc, vq.trans fd⟩
    · repeat' first
        | (with_reducible apply bR_go; (simp (disch := omega) only [rM L, rK L, rN L, rNf, rNv, rNp, rNd, rRow, rLeg, rMark, nat_cast, Int.reduceToNat, wd, Int.reduceMod]; with_reducible exact rfl))
        | with_reducible apply bI_go
        | with_reducible apply bV_go
        | with_reducible apply bL_go
        | (with_reducible apply it_1; (first | omega | (simp (disch := omega) only [not_false_eq_true, not_true_eq_false, w32_id, tLt, fLt, tLe, fEq, itE, and_true, true_and, and_self, and_false, false_and, ↓reduceIte, nat_add, nat_mul3, nat_mul4, nat_mul6, nat_mul15, nat_mul60, nat_cast, nc1, Int.reduceToNat, upE, upN, fill_ne, fill_in, i0, wd, Int.reduceMod] <;> omega)))
        | (with_reducible apply it_2; (first | omega | (simp (disch := omega) only [not_false_eq_true, not_true_eq_false, w32_id, tLt, fLt, tLe, fEq, itE, and_true, true_and, and_self, and_false, false_and, ↓reduceIte, nat_add, nat_mul3, nat_mul4, nat_mul6, nat_mul15, nat_mul60, nat_cast, nc1, Int.reduceToNat, upE, upN, fill_ne, fill_in, i0, wd, Int.reduceMod] <;> omega)))
        | (with_reducible refine cl_go ?_; simp (disch := omega) only [not_false_eq_true, not_true_eq_false, w32_id, tLt, fLt, tLe, fEq, itE, and_true, true_and, and_self, and_false, false_and, ↓reduceIte, nat_add, nat_mul3, nat_mul4, nat_mul6, nat_mul15, nat_mul60, nat_cast, nc1, Int.reduceToNat, upE, upN, fill_ne, fill_in, i0, wd, Int.reduceMod])
        | rw [c_VoyageText_takesTest (by omega), b_VoyageText_takesTest_0]
        | with_reducible exact p1
        | with_reducible exact u1
        | (with_reducible refine rn_go ?_; simp (disch := omega) only [not_false_eq_true, not_true_eq_false, w32_id, tLt, fLt, tLe, fEq, itE, and_true, true_and, and_self, and_false, false_and, ↓reduceIte, nat_add, nat_mul3, nat_mul4, nat_mul6, nat_mul15, nat_mul60, nat_cast, nc1, Int.reduceToNat, upE, upN, fill_ne, fill_in, i0, wd, Int.reduceMod])
        | (with_reducible refine lf_go ?_; simp (disch := omega) only [not_false_eq_true, not_true_eq_false, w32_id, tLt, fLt, tLe, fEq, itE, and_true, true_and, and_self, and_false, false_and, ↓reduceIte, nat_add, nat_mul3, nat_mul4, nat_mul6, nat_mul15, nat_mul60, nat_cast, nc1, Int.reduceToNat, upE, upN, fill_ne, fill_in, i0, wd, Int.reduceMod])
        | with_reducible exact rfl
    · repeat' first
        | (with_reducible apply wp_bR; (simp (disch := omega) only [rM L, rK L, rN L, rNf, rNv, rNp, rNd, rRow, rLeg, rMark, nat_cast, Int.reduceToNat, b0, Int.reduceMod, Int.reduceAdd]; with_reducible exact rfl))
        | with_reducible apply wp_bI
        | with_reducible apply wp_bV
        | with_reducible apply wp_bL
        | with_reducible apply wp_rI
        | with_reducible apply wp_rV
        | with_reducible apply wp_rL
        | (with_reducible apply wp_1; (first | omega | (simp (disch := omega) only [not_false_eq_true, not_true_eq_false, w32_id, tLt, fLt, tLe, fEq, itE, and_true, true_and, and_self, and_false, false_and, ↓reduceIte, nat_add, nat_mul3, nat_mul4, nat_mul6, nat_mul15, nat_mul60, nat_cast, nc1, Int.reduceToNat, upE, upN, fill_ne, fill_in, i0, b0, Int.reduceMod, Int.reduceAdd] <;> omega)))
        | (with_reducible apply wp_2; (first | omega | (simp (disch := omega) only [not_false_eq_true, not_true_eq_false, w32_id, tLt, fLt, tLe, fEq, itE, and_true, true_and, and_self, and_false, false_and, ↓reduceIte, nat_add, nat_mul3, nat_mul4, nat_mul6, nat_mul15, nat_mul60, nat_cast, nc1, Int.reduceToNat, upE, upN, fill_ne, fill_in, i0, b0, Int.reduceMod, Int.reduceAdd] <;> omega)))
        | (with_reducible apply wp_s; (first | (simp (disch := omega) only [not_false_eq_true, not_true_eq_false, w32_id, tLt, fLt, tLe, fEq, itE, and_true, true_and, and_self, and_false, false_and, ↓reduceIte, nat_add, nat_mul3, nat_mul4, nat_mul6, nat_mul15, nat_mul60, nat_cast, nc1, Int.reduceToNat, upE, upN, fill_ne, fill_in, i0, b0, Int.reduceMod, Int.reduceAdd]; with_reducible exact Iff.rfl) | with_reducible exact Iff.rfl); intro hc__; (try subst hc__); rotate_left; intro hc__; rotate_left)
        | (with_reducible apply wp_eq; (with_reducible apply cl_go; simp (disch := omega) only [not_false_eq_true, not_true_eq_false, w32_id, tLt, fLt, tLe, fEq, itE, and_true, true_and, and_self, and_false, false_and, ↓reduceIte, nat_add, nat_mul3, nat_mul4, nat_mul6, nat_mul15, nat_mul60, nat_cast, nc1, Int.reduceToNat, upE, upN, fill_ne, fill_in, i0, b0, Int.reduceMod, Int.reduceAdd]; with_reducible exact rfl))
        | (with_reducible refine wp_eq (c_Mo_voyageOrder (by omega) _ _ _ _ _) ?_; with_reducible refine wp_eq (b_Mo_voyageOrder_0 _ _ _ _ _ _) ?_)
        | (with_reducible refine wp_eq (c_Mo_test (by omega) _ _ _ _) ?_; with_reducible refine wp_eq (b_Mo_test_0 _ _ _ _ _) ?_)
        | with_reducible refine wp_eq (b_Mo_test_31 _ _ _ _ _ _) ?_
        | (with_reducible refine wp_eq (c_Mo_oldPortTo (by omega) _ _ _ _) ?_; with_reducible refine wp_eq (b_Mo_oldPortTo_0 _ _ _ _ _) ?_)
        | with_reducible refine wp_eq (iw) ?_
        | with_reducible refine wp_eq (p2) ?_
        | with_reducible refine wp_eq (u2 _ (by omega)) ?_
        | with_reducible refine wp_eq (u3 _ _ _ (by omega) (by omega) (by omega)) ?_
        | (with_reducible apply wp_eq; (with_reducible apply lf_go; simp (disch := omega) only [not_false_eq_true, not_true_eq_false, w32_id, tLt, fLt, tLe, fEq, itE, and_true, true_and, and_self, and_false, false_and, ↓reduceIte, nat_add, nat_mul3, nat_mul4, nat_mul6, nat_mul15, nat_mul60, nat_cast, nc1, Int.reduceToNat, upE, upN, fill_ne, fill_in, i0, b0, Int.reduceMod, Int.reduceAdd]; with_reducible exact rfl))
        | with_reducible apply wp_q1
      exact ⟨_, _, _, rfl, rfl, rfl, rfl⟩
    · right; left
      have f3 : Md 272 3 = (c3 : Int) := by rw [fd _ _ (by omega) (by omega)]; exact hM.2.2.2.2.2.2.2
      have f0 : Md 272 2 = (c2 : Int) := by rw [fd _ _ (by omega) (by omega)]; exact m0
      have g3 : Mq 272 (2494 + 6 * k) = 2530 := by rw [fq _ _ (by omega), upE rfl rfl]
      rw [a1, a2, a3, vA_hi (i := 206 + 6 * k) (j := 2494 + 6 * k) (by omega) (by omega), vA_hi (i := 207 + 6 * k) (j := 2495 + 6 * k) (by omega) (by omega), vA_hi (i := 208 + 6 * k) (j := 2496 + 6 * k) (by omega) (by omega), vA_lo (i := 3) (by omega), vA_lo (i := 2) (by omega), g0, g1, g2, g3, f3, f0]
      exact ⟨rfl, rfl, rfl, by omega, by omega, rfl, by omega, by omega⟩
  · right
    have u1 := u1 2 rfl
    refine ⟨M1', M2', ?_, wp_un ?_, f, vp.trans fc, vq.trans fd⟩
    · repeat' first
        | (with_reducible apply bR_go; (simp (disch := omega) only [rM L, rK L, rN L, rNf, rNv, rNp, rNd, rRow, rLeg, rMark, nat_cast, Int.reduceToNat, wd, Int.reduceMod]; with_reducible exact rfl))
        | with_reducible apply bI_go
        | with_reducible apply bV_go
        | with_reducible apply bL_go
        | (with_reducible apply it_1; (first | omega | (simp (disch := omega) only [not_false_eq_true, not_true_eq_false, w32_id, tLt, fLt, tLe, fEq, itE, and_true, true_and, and_self, and_false, false_and, ↓reduceIte, nat_add, nat_mul3, nat_mul4, nat_mul6, nat_mul15, nat_mul60, nat_cast, nc1, Int.reduceToNat, upE, upN, fill_ne, fill_in, i0, wd, Int.reduceMod] <;> omega)))
        | (with_reducible apply it_2; (first | omega | (simp (disch := omega) only [not_false_eq_true, not_true_eq_false, w32_id, tLt, fLt, tLe, fEq, itE, and_true, true_and, and_self, and_false, false_and, ↓reduceIte, nat_add, nat_mul3, nat_mul4, nat_mul6, nat_mul15, nat_mul60, nat_cast, nc1, Int.reduceToNat, upE, upN, fill_ne, fill_in, i0, wd, Int.reduceMod] <;> omega)))
        | (with_reducible refine cl_go ?_; simp (disch := omega) only [not_false_eq_true, not_true_eq_false, w32_id, tLt, fLt, tLe, fEq, itE, and_true, true_and, and_self, and_false, false_and, ↓reduceIte, nat_add, nat_mul3, nat_mul4, nat_mul6, nat_mul15, nat_mul60, nat_cast, nc1, Int.reduceToNat, upE, upN, fill_ne, fill_in, i0, wd, Int.reduceMod])
        | rw [c_VoyageText_takesTest (by omega), b_VoyageText_takesTest_0]
        | with_reducible exact p1
        | with_reducible exact u1
        | (with_reducible refine rn_go ?_; simp (disch := omega) only [not_false_eq_true, not_true_eq_false, w32_id, tLt, fLt, tLe, fEq, itE, and_true, true_and, and_self, and_false, false_and, ↓reduceIte, nat_add, nat_mul3, nat_mul4, nat_mul6, nat_mul15, nat_mul60, nat_cast, nc1, Int.reduceToNat, upE, upN, fill_ne, fill_in, i0, wd, Int.reduceMod])
        | (with_reducible refine lf_go ?_; simp (disch := omega) only [not_false_eq_true, not_true_eq_false, w32_id, tLt, fLt, tLe, fEq, itE, and_true, true_and, and_self, and_false, false_and, ↓reduceIte, nat_add, nat_mul3, nat_mul4, nat_mul6, nat_mul15, nat_mul60, nat_cast, nc1, Int.reduceToNat, upE, upN, fill_ne, fill_in, i0, wd, Int.reduceMod])
        | with_reducible exact rfl
    · rcases u2 with u2 | ⟨Ma, u2, fa, u3⟩
      · repeat' first
          | (with_reducible apply wp_bR; (simp (disch := omega) only [rM L, rK L, rN L, rNf, rNv, rNp, rNd, rRow, rLeg, rMark, nat_cast, Int.reduceToNat, Int.reduceMod, Int.reduceAdd]; with_reducible exact rfl))
          | with_reducible apply wp_bI
          | with_reducible apply wp_bV
          | with_reducible apply wp_bL
          | with_reducible apply wp_rI
          | with_reducible apply wp_rV
          | with_reducible apply wp_rL
          | (with_reducible apply wp_1; (first | omega | (simp (disch := omega) only [not_false_eq_true, not_true_eq_false, w32_id, tLt, fLt, tLe, fEq, itE, and_true, true_and, and_self, and_false, false_and, ↓reduceIte, nat_add, nat_mul3, nat_mul4, nat_mul6, nat_mul15, nat_mul60, nat_cast, nc1, Int.reduceToNat, upE, upN, fill_ne, fill_in, i0, Int.reduceMod, Int.reduceAdd] <;> omega)))
          | (with_reducible apply wp_2; (first | omega | (simp (disch := omega) only [not_false_eq_true, not_true_eq_false, w32_id, tLt, fLt, tLe, fEq, itE, and_true, true_and, and_self, and_false, false_and, ↓reduceIte, nat_add, nat_mul3, nat_mul4, nat_mul6, nat_mul15, nat_mul60, nat_cast, nc1, Int.reduceToNat, upE, upN, fill_ne, fill_in, i0, Int.reduceMod, Int.reduceAdd] <;> omega)))
          | (with_reducible apply wp_s; (first | (simp (disch := omega) only [not_false_eq_true, not_true_eq_false, w32_id, tLt, fLt, tLe, fEq, itE, and_true, true_and, and_self, and_false, false_and, ↓reduceIte, nat_add, nat_mul3, nat_mul4, nat_mul6, nat_mul15, nat_mul60, nat_cast, nc1, Int.reduceToNat, upE, upN, fill_ne, fill_in, i0, Int.reduceMod, Int.reduceAdd]; with_reducible exact Iff.rfl) | with_reducible exact Iff.rfl); intro hc__; (try subst hc__); rotate_left; intro hc__; rotate_left)
          | (with_reducible apply wp_eq; (with_reducible apply cl_go; simp (disch := omega) only [not_false_eq_true, not_true_eq_false, w32_id, tLt, fLt, tLe, fEq, itE, and_true, true_and, and_self, and_false, false_and, ↓reduceIte, nat_add, nat_mul3, nat_mul4, nat_mul6, nat_mul15, nat_mul60, nat_cast, nc1, Int.reduceToNat, upE, upN, fill_ne, fill_in, i0, Int.reduceMod, Int.reduceAdd]; with_reducible exact rfl))
          | (with_reducible refine wp_eq (c_Mo_voyageOrder (by omega) _ _ _ _ _) ?_; with_reducible refine wp_eq (b_Mo_voyageOrder_0 _ _ _ _ _ _) ?_)
          | (with_reducible refine wp_eq (c_Mo_test (by omega) _ _ _ _) ?_; with_reducible refine wp_eq (b_Mo_test_0 _ _ _ _ _) ?_)
          | with_reducible refine wp_eq (b_Mo_test_31 _ _ _ _ _ _) ?_
          | with_reducible refine wp_eq (iw) ?_
          | with_reducible refine wp_eq (p2) ?_
          | with_reducible refine wp_eq (u2 _ (by omega)) ?_
          | (with_reducible apply wp_eq; (with_reducible apply lf_go; simp (disch := omega) only [not_false_eq_true, not_true_eq_false, w32_id, tLt, fLt, tLe, fEq, itE, and_true, true_and, and_self, and_false, false_and, ↓reduceIte, nat_add, nat_mul3, nat_mul4, nat_mul6, nat_mul15, nat_mul60, nat_cast, nc1, Int.reduceToNat, upE, upN, fill_ne, fill_in, i0, Int.reduceMod, Int.reduceAdd]; with_reducible exact rfl))
          | with_reducible apply wp_q1
        exact ⟨_, _, _, rfl, rfl, rfl, rfl⟩
      · have b0 : Ma 272 2 = (c2 : Int) := by rw [fa _ _ (by omega) (by omega)]; exact m0
        repeat' first
          | (with_reducible apply wp_bR; (simp (disch := omega) only [rM L, rK L, rN L, rNf, rNv, rNp, rNd, rRow, rLeg, rMark, nat_cast, Int.reduceToNat, b0, Int.reduceMod, Int.reduceAdd]; with_reducible exact rfl))
          | with_reducible apply wp_bI
          | with_reducible apply wp_bV
          | with_reducible apply wp_bL
          | with_reducible apply wp_rI
          | with_reducible apply wp_rV
          | with_reducible apply wp_rL
          | (with_reducible apply wp_1; (first | omega | (simp (disch := omega) only [not_false_eq_true, not_true_eq_false, w32_id, tLt, fLt, tLe, fEq, itE, and_true, true_and, and_self, and_false, false_and, ↓reduceIte, nat_add, nat_mul3, nat_mul4, nat_mul6, nat_mul15, nat_mul60, nat_cast, nc1, Int.reduceToNat, upE, upN, fill_ne, fill_in, i0, b0, Int.reduceMod, Int.reduceAdd] <;> omega)))
          | (with_reducible apply wp_2; (first | omega | (simp (disch := omega) only [not_false_eq_true, not_true_eq_false, w32_id, tLt, fLt, tLe, fEq, itE, and_true, true_and, and_self, and_false, false_and, ↓reduceIte, nat_add, nat_mul3, nat_mul4, nat_mul6, nat_mul15, nat_mul60, nat_cast, nc1, Int.reduceToNat, upE, upN, fill_ne, fill_in, i0, b0, Int.reduceMod, Int.reduceAdd] <;> omega)))
          | (with_reducible apply wp_s; (first | (simp (disch := omega) only [not_false_eq_true, not_true_eq_false, w32_id, tLt, fLt, tLe, fEq, itE, and_true, true_and, and_self, and_false, false_and, ↓reduceIte, nat_add, nat_mul3, nat_mul4, nat_mul6, nat_mul15, nat_mul60, nat_cast, nc1, Int.reduceToNat, upE, upN, fill_ne, fill_in, i0, b0, Int.reduceMod, Int.reduceAdd]; with_reducible exact Iff.rfl) | with_reducible exact Iff.rfl); intro hc__; (try subst hc__); rotate_left; intro hc__; rotate_left)
          | (with_reducible apply wp_eq; (with_reducible apply cl_go; simp (disch := omega) only [not_false_eq_true, not_true_eq_false, w32_id, tLt, fLt, tLe, fEq, itE, and_true, true_and, and_self, and_false, false_and, ↓reduceIte, nat_add, nat_mul3, nat_mul4, nat_mul6, nat_mul15, nat_mul60, nat_cast, nc1, Int.reduceToNat, upE, upN, fill_ne, fill_in, i0, b0, Int.reduceMod, Int.reduceAdd]; with_reducible exact rfl))
          | (with_reducible refine wp_eq (c_Mo_voyageOrder (by omega) _ _ _ _ _) ?_; with_reducible refine wp_eq (b_Mo_voyageOrder_0 _ _ _ _ _ _) ?_)
          | (with_reducible refine wp_eq (c_Mo_test (by omega) _ _ _ _) ?_; with_reducible refine wp_eq (b_Mo_test_0 _ _ _ _ _) ?_)
          | with_reducible refine wp_eq (b_Mo_test_31 _ _ _ _ _ _) ?_
          | (with_reducible refine wp_eq (c_Mo_oldPortTo (by omega) _ _ _ _) ?_; with_reducible refine wp_eq (b_Mo_oldPortTo_0 _ _ _ _ _) ?_)
          | with_reducible refine wp_eq (iw) ?_
          | with_reducible refine wp_eq (p2) ?_
          | with_reducible refine wp_eq (u2 _ (by omega)) ?_
          | with_reducible refine wp_eq (u3 _ _ _ (by omega) (by omega) (by omega)) ?_
          | (with_reducible apply wp_eq; (with_reducible apply lf_go; simp (disch := omega) only [not_false_eq_true, not_true_eq_false, w32_id, tLt, fLt, tLe, fEq, itE, and_true, true_and, and_self, and_false, false_and, ↓reduceIte, nat_add, nat_mul3, nat_mul4, nat_mul6, nat_mul15, nat_mul60, nat_cast, nc1, Int.reduceToNat, upE, upN, fill_ne, fill_in, i0, b0, Int.reduceMod, Int.reduceAdd]; with_reducible exact rfl))
          | with_reducible apply wp_q1
        exact ⟨_, _, _, rfl, rfl, rfl, rfl⟩
end

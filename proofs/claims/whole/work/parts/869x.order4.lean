/-! A STEP OF THE VOYAGES: coins, and all of them -/
section
variable {bt : Nat → Int} {n q e : Nat} {M M' Ma M1 M2 : Mm} {L d d1 d2 k : Nat} {c x1 x2 x3 x4 : Int} {c0 c1 c2 c3 : Nat}
set_option maxHeartbeats 4000000 in
theorem o_coins (h1 : 9 ≤ d1) (h2 : 11 ≤ d2) (h : TK bt n q e M1 M2) (hN : NV M1 M2 c0 c1 c2 c3) (h5 : M1 98 5 = (k : Int)) (hk : k < 60) (h6 : M1 98 6 = c) (hc : 0 ≤ c ∧ c ≤ 60) (hq : cwx bt n q e = 16) : OR bt n e L k c StB (callD d1 m_VoyageText_takesTest [vR 6 0 12, vR 0 0 19, vR 3 0 98] (SH L) M1) (callD d2 m_Mo_voyageOrder [vR 12 0 271, vI 25, vI (2494 + 6 * (k : Int))] (SH L) M2) M1 M2 := by
  have wd := h.wd
  have iw := h.iw (L := L) (d2 := d2 - 1 - 1) (by omega)
  rw [hq] at wd iw
  rw [show kM 16 = 18 from rfl] at iw
  have hu : TK bt n q e M1 (up M2 272 (2494 + 6 * k) 2518) := h.fr (fun _ _ _ => rfl) fun b j hb => upN (by omega)
  obtain ⟨qa, ea, Mp, Mq, p1, p2, ta, la, fp, fq⟩ := k_adv (L := L) (d1 := d1 - 1) (d2 := d2 - 1 - 1) (by omega) (by omega) hu
  have vp : FcV k M1 Mp := fp.v
  have vq : FmV k M2 Mq := (((FrB.refl M2).v (k := k)).u (by omega)).trans fq.v
  have hM := hN.v vp vq
  rcases k_ship (L := L) (d1 := d1 - 1 - 1) (d2 := d2 - 1 - 1) (by omega) (by omega) ta hM hk with ⟨qb, eb, v, Mr, Ms, u1, u2, hv, tb, lb, fr, fs, ev⟩ | ⟨M1', M2', u1, u2, f, fr, fs⟩
  rotate_left
  · right
    refine ⟨M1', M2', ?_, wp_un ?_, f, vp.trans fr.v, vq.trans (fs.v (by omega))⟩
    · repeat' first
        | (with_reducible apply bR_go; (simp (disch := omega) only [rM L, rK L, rN L, rNf, rNv, rNp, rNd, rRow, rLeg, rMark, nat_cast, Int.reduceToNat, wd, Int.reduceMod]; with_reducible exact rfl))
        | with_reducible apply bI_go
        | with_reducible apply bV_go
        | with_reducible apply bL_go
        | (with_reducible apply it_1; (first | omega | (simp (disch := omega) only [not_false_eq_true, not_true_eq_false, w32_id, tLt, fLt, tLe, fEq, itE, and_true, true_and, and_self, and_false, false_and, ↓reduceIte, nat_add, nat_mul3, nat_mul4, nat_mul6, nat_mul15, nat_mul60, nat_cast, nc1, Int.reduceToNat, upE, upN, fill_ne, fill_in, i0, wd, Int.reduceMod] <;> omega)))
        | (with_reducible apply it_2; (first | omega | (simp (disch := omega) only [not_false_eq_true, not_true_eq_false, w32_id, tLt, fLt, tLe, fEq, itE, and_true, true_and, and_self, and_false, false_and, ↓reduceIte, nat_add, nat_mul3, nat_mul4, nat_mul6, nat_mul15, nat_mul60, nat_cast, nc1, Int.reduceToNat, upE, upN, fill_ne, fill_in, i0, wd, Int.reduceMod] <;> omega)))
        | (with_reducible refine cl_go ?_; simp (disch := omega) only [not_false_eq_true, not_true_eq_false, w32_id, tLt, fLt, tLe, fEq, itE, and_true, true_and, and_self, and_false, false_and, ↓reduceIte, nat_add, nat_mul3, nat_mul4, nat_mul6, nat_mul15, nat_mul60, nat_cast, nc1, Int.reduceToNat, upE, upN, fill_ne, fill_in, i0, wd, Int.reduceMod])
        | rw [c_VoyageText_takesTest (by omega), b_VoyageText_takesTest_0]
        | rw [c_VoyageText_takesCoins (by omega), b_VoyageText_takesCoins_0]
        | with_reducible exact p1
        | with_reducible exact u1
        | (with_reducible refine rn_go ?_; simp (disch := omega) only [not_false_eq_true, not_true_eq_false, w32_id, tLt, fLt, tLe, fEq, itE, and_true, true_and, and_self, and_false, false_and, ↓reduceIte, nat_add, nat_mul3, nat_mul4, nat_mul6, nat_mul15, nat_mul60, nat_cast, nc1, Int.reduceToNat, upE, upN, fill_ne, fill_in, i0, wd, Int.reduceMod])
        | (with_reducible refine lf_go ?_; simp (disch := omega) only [not_false_eq_true, not_true_eq_false, w32_id, tLt, fLt, tLe, fEq, itE, and_true, true_and, and_self, and_false, false_and, ↓reduceIte, nat_add, nat_mul3, nat_mul4, nat_mul6, nat_mul15, nat_mul60, nat_cast, nc1, Int.reduceToNat, upE, upN, fill_ne, fill_in, i0, wd, Int.reduceMod])
        | with_reducible exact rfl
    · repeat' first
        | (with_reducible apply wp_bR; (simp (disch := omega) only [rM L, rK L, rN L, rNf, rNv, rNp, rNd, rRow, rLeg, rMark, nat_cast, Int.reduceToNat, Int.reduceMod, Int.reduceAdd]; with_reducible exact rfl))
        | with_reducible apply wp_bI
        | with_reducible apply wp_bV
        | with_reducible apply wp_bL
        | with_reducible apply wp_rI
        | with_reducible apply wp_rV
        | with_reducible apply wp_rL
        | (with_reducible apply wp_1; (first | omega | (simp (disch := omega) only [not_false_eq_true, not_true_eq_false, w32_id, tLt, fLt, tLe, fEq, itE, and_true, true_and, and_self, and_false, false_and, ↓reduceIte, nat_add, nat_mul3, nat_mul4, nat_mul6, nat_mul15, nat_mul60, nat_cast, nc1, Int.reduceToNat, upE, upN, fill_ne, fill_in, i0, Int.reduceMod, Int.reduceAdd] <;> omega)))
        | (with_reducible apply wp_2; (first | omega | (simp (disch := omega) only [not_false_eq_true, not_true_eq_false, w32_id, tLt, fLt, tLe, fEq, itE, and_true, true_and, and_self, and_false, false_and, ↓reduceIte, nat_add, nat_mul3, nat_mul4, nat_mul6, nat_mul15, nat_mul60, nat_cast, nc1, Int.reduceToNat, upE, upN, fill_ne, fill_in, i0, Int.reduceMod, Int.reduceAdd] <;> omega)))
        | (with_reducible apply wp_s; (first | (simp (disch := omega) only [not_false_eq_true, not_true_eq_false, w32_id, tLt, fLt, tLe, fEq, itE, and_true, true_and, and_self, and_false, false_and, ↓reduceIte, nat_add, nat_mul3, nat_mul4, nat_mul6, nat_mul15, nat_mul60, nat_cast, nc1, Int.reduceToNat, upE, upN, fill_ne, fill_in, i0, Int.reduceMod, Int.reduceAdd]; with_reducible exact Iff.rfl) | with_reducible exact Iff.rfl); intro hc__; (try subst hc__); rotate_left; intro hc__; rotate_left)
        | (with_reducible apply wp_eq; (with_reducible apply cl_go; simp (disch := omega) only [not_false_eq_true, not_true_eq_false, w32_id, tLt, fLt, tLe, fEq, itE, and_true, true_and, and_self, and_false, false_and, ↓reduceIte, nat_add, nat_mul3, nat_mul4, nat_mul6, nat_mul15, nat_mul60, nat_cast, nc1, Int.reduceToNat, upE, upN, fill_ne, fill_in, i0, Int.reduceMod, Int.reduceAdd]; with_reducible exact rfl))
        | (with_reducible refine wp_eq (c_Mo_voyageOrder (by omega) _ _ _ _ _) ?_; with_reducible refine wp_eq (b_Mo_voyageOrder_0 _ _ _ _ _ _) ?_)
        | (with_reducible refine wp_eq (c_Mo_test (by omega) _ _ _ _) ?_; with_reducible refine wp_eq (b_Mo_test_0 _ _ _ _ _) ?_)
        | with_reducible refine wp_eq (b_Mo_test_31 _ _ _ _ _ _) ?_
        | with_reducible refine wp_eq (iw) ?_
        | with_reducible refine wp_eq (p2) ?_
        | with_reducible refine wp_eq (u2 _ (by omega)) ?_
        | (with_reducible apply wp_eq; (with_reducible apply lf_go; simp (disch := omega) only [not_false_eq_true, not_true_eq_false, w32_id, tLt, fLt, tLe, fEq, itE, and_true, true_and, and_self, and_false, false_and, ↓reduceIte, nat_add, nat_mul3, nat_mul4, nat_mul6, nat_mul15, nat_mul60, nat_cast, nc1, Int.reduceToNat, upE, upN, fill_ne, fill_in, i0, Int.reduceMod, Int.reduceAdd]; with_reducible exact rfl))
        | with_reducible apply wp_q1
      exact ⟨_, _, _, rfl, rfl, rfl, rfl⟩
  have vr : FcV k M1 Mr := vp.trans fr.v
  have vs : FmV k M2 Ms := vq.trans (fs.v (by omega))
  rcases k_sign (L := L) (d1 := d1 - 1 - 1) (d2 := d2 - 1 - 1) tb (by omega) (by omega) 60 with ⟨-, s15, s1, s2⟩ | ⟨s1, s2⟩
  · obtain ⟨Mt, Mu, w1, w2, w3⟩ := k_tail (L := L) (d1 := d1 - 1 - 1) (d2 := d2 - 1 - 1) (by omega) (by omega) tb hk 60
    rcases w3 with ⟨q', e', z, Mc, Md, w3, w4, t, le, fc, hz, g2, g5, fd⟩ | ⟨M1', M2', w3, w4, f, fc, fd⟩
    · left
      have o : ∀ b j, ¬(b = 12 ∧ 4 ≤ j) → Mc b j = M1 b j := fun b j y => by rw [fc _ _ y, fr _ _ y, fp _ _ y]
      have a := c_addStep (L := L) (d := d1 - 1 - 1) (M := Mc) (k := k) (c := c) (by omega) (by rw [o _ _ (by omega)]; exact h5) hk (by rw [o _ _ (by omega)]; exact h6) hc 8 v 0 z
      obtain ⟨a1, a2, a3, a4, a5, a6⟩ := addS_at (M := Mc) (k := k) (c := c) (x1 := 8) (x2 := (v : Int)) (x3 := 0) (x4 := z)
      refine ⟨q', e', _, Md, ?_, wp_un ?_, t.add, by have z1 := ta.2.2.2.2.1.bd; have z2 := tb.2.2.2.2.1.bd; omega, ⟨a5, a6⟩, ?_, (vr.trans fc.v).add, vs.trans fun b j y1 y2 => fd b j y1 (by omega)⟩
      · repeat' first
          | (with_reducible apply bR_go; (simp (disch := omega) only [rM L, rK L, rN L, rNf, rNv, rNp, rNd, rRow, rLeg, rMark, nat_cast, Int.reduceToNat, wd, Int.reduceMod]; with_reducible exact rfl))
          | with_reducible apply bI_go
          | with_reducible apply bV_go
          | with_reducible apply bL_go
          | (with_reducible apply it_1; (first | omega | (simp (disch := omega) only [not_false_eq_true, not_true_eq_false, w32_id, tLt, fLt, tLe, fEq, itE, and_true, true_and, and_self, and_false, false_and, ↓reduceIte, nat_add, nat_mul3, nat_mul4, nat_mul6, nat_mul15, nat_mul60, nat_cast, nc1, Int.reduceToNat, upE, upN, fill_ne, fill_in, i0, wd, Int.reduceMod] <;> omega)))
          | (with_reducible apply it_2; (first | omega | (simp (disch := omega) only [not_false_eq_true, not_true_eq_false, w32_id, tLt, fLt, tLe, fEq, itE, and_true, true_and, and_self, and_false, false_and, ↓reduceIte, nat_add, nat_mul3, nat_mul4, nat_mul6, nat_mul15, nat_mul60, nat_cast, nc1, Int.reduceToNat, upE, upN, fill_ne, fill_in, i0, wd, Int.reduceMod] <;> omega)))
          | (with_reducible refine cl_go ?_; simp (disch := omega) only [not_false_eq_true, not_true_eq_false, w32_id, tLt, fLt, tLe, fEq, itE, and_true, true_and, and_self, and_false, false_and, ↓reduceIte, nat_add, nat_mul3, nat_mul4, nat_mul6, nat_mul15, nat_mul60, nat_cast, nc1, Int.reduceToNat, upE, upN, fill_ne, fill_in, i0, wd, Int.reduceMod])
          | rw [c_VoyageText_takesTest (by omega), b_VoyageText_takesTest_0]
          | rw [c_VoyageText_takesCoins (by omega), b_VoyageText_takesCoins_0]
          | with_reducible exact p1
          | with_reducible exact u1
          | with_reducible exact s1
          | with_reducible exact w1
          | with_reducible exact w3
          | with_reducible exact a
          | (with_reducible refine rn_go ?_; simp (disch := omega) only [not_false_eq_true, not_true_eq_false, w32_id, tLt, fLt, tLe, fEq, itE, and_true, true_and, and_self, and_false, false_and, ↓reduceIte, nat_add, nat_mul3, nat_mul4, nat_mul6, nat_mul15, nat_mul60, nat_cast, nc1, Int.reduceToNat, upE, upN, fill_ne, fill_in, i0, wd, Int.reduceMod])
          | (with_reducible refine lf_go ?_; simp (disch := omega) only [not_false_eq_true, not_true_eq_false, w32_id, tLt, fLt, tLe, fEq, itE, and_true, true_and, and_self, and_false, false_and, ↓reduceIte, nat_add, nat_mul3, nat_mul4, nat_mul6, nat_mul15, nat_mul60, nat_cast, nc1, Int.reduceToNat, upE, upN, fill_ne, fill_in, i0, wd, Int.reduceMod])
          | with_reducible exact rfl
      · repeat' first
          | (with_reducible apply wp_bR; (simp (disch := omega) only [rM L, rK L, rN L, rNf, rNv, rNp, rNd, rRow, rLeg, rMark, nat_cast, Int.reduceToNat, s15, Int.reduceMod, Int.reduceAdd]; with_reducible exact rfl))
          | with_reducible apply wp_bI
          | with_reducible apply wp_bV
          | with_reducible apply wp_bL
          | with_reducible apply wp_rI
          | with_reducible apply wp_rV
          | with_reducible apply wp_rL
          | (with_reducible apply wp_1; (first | omega | (simp (disch := omega) only [not_false_eq_true, not_true_eq_false, w32_id, tLt, fLt, tLe, fEq, itE, and_true, true_and, and_self, and_false, false_and, ↓reduceIte, nat_add, nat_mul3, nat_mul4, nat_mul6, nat_mul15, nat_mul60, nat_cast, nc1, Int.reduceToNat, upE, upN, fill_ne, fill_in, i0, s15, Int.reduceMod, Int.reduceAdd] <;> omega)))
          | (with_reducible apply wp_2; (first | omega | (simp (disch := omega) only [not_false_eq_true, not_true_eq_false, w32_id, tLt, fLt, tLe, fEq, itE, and_true, true_and, and_self, and_false, false_and, ↓reduceIte, nat_add, nat_mul3, nat_mul4, nat_mul6, nat_mul15, nat_mul60, nat_cast, nc1, Int.reduceToNat, upE, upN, fill_ne, fill_in, i0, s15, Int.reduceMod, Int.reduceAdd] <;> omega)))
          | (with_reducible apply wp_s; (first | (simp (disch := omega) only [not_false_eq_true, not_true_eq_false, w32_id, tLt, fLt, tLe, fEq, itE, and_true, true_and, and_self, and_false, false_and, ↓reduceIte, nat_add, nat_mul3, nat_mul4, nat_mul6, nat_mul15, nat_mul60, nat_cast, nc1, Int.reduceToNat, upE, upN, fill_ne, fill_in, i0, s15, Int.reduceMod, Int.reduceAdd]; with_reducible exact Iff.rfl) | with_reducible exact Iff.rfl); intro hc__; (try subst hc__); rotate_left; intro hc__; rotate_left)
          | (with_reducible apply wp_eq; (with_reducible apply cl_go; simp (disch := omega) only [not_false_eq_true, not_true_eq_false, w32_id, tLt, fLt, tLe, fEq, itE, and_true, true_and, and_self, and_false, false_and, ↓reduceIte, nat_add, nat_mul3, nat_mul4, nat_mul6, nat_mul15, nat_mul60, nat_cast, nc1, Int.reduceToNat, upE, upN, fill_ne, fill_in, i0, s15, Int.reduceMod, Int.reduceAdd]; with_reducible exact rfl))
          | (with_reducible refine wp_eq (c_Mo_voyageOrder (by omega) _ _ _ _ _) ?_; with_reducible refine wp_eq (b_Mo_voyageOrder_0 _ _ _ _ _ _) ?_)
          | (with_reducible refine wp_eq (c_Mo_test (by omega) _ _ _ _) ?_; with_reducible refine wp_eq (b_Mo_test_0 _ _ _ _ _) ?_)
          | with_reducible refine wp_eq (b_Mo_test_31 _ _ _ _ _ _) ?_
          | with_reducible refine wp_eq (iw) ?_
          | with_reducible refine wp_eq (p2) ?_
          | with_reducible refine wp_eq (u2 _ (by omega)) ?_
          | with_reducible refine wp_eq (s2) ?_
          | with_reducible refine wp_eq (w2) ?_
          | with_reducible refine wp_eq (w4 _ (by omega)) ?_
          | (with_reducible apply wp_eq; (with_reducible apply lf_go; simp (disch := omega) only [not_false_eq_true, not_true_eq_false, w32_id, tLt, fLt, tLe, fEq, itE, and_true, true_and, and_self, and_false, false_and, ↓reduceIte, nat_add, nat_mul3, nat_mul4, nat_mul6, nat_mul15, nat_mul60, nat_cast, nc1, Int.reduceToNat, upE, upN, fill_ne, fill_in, i0, s15, Int.reduceMod, Int.reduceAdd]; with_reducible exact rfl))
          | with_reducible apply wp_q1
        exact ⟨_, _, _, rfl, rfl, rfl, rfl⟩
      · right; right; left
        have f3 : Md 272 3 = (c3 : Int) := by rw [fd _ _ (by omega) (by omega), fs _ _ (by omega) (by omega)]; exact hM.2.2.2.2.2.2.2
        have f0 : Md 272 (2494 + 6 * k) = 2518 := by rw [fd _ _ (by omega) (by omega), fs _ _ (by omega) (by omega), fq _ _ (by omega), upE rfl rfl]
        have f1 : Md 272 (2495 + 6 * k) = (v : Int) := by rw [fd _ _ (by omega) (by omega)]; exact ev
        rw [a1, a2, a4, vA_hi (i := 206 + 6 * k) (j := 2494 + 6 * k) (by omega) (by omega), vA_hi (i := 207 + 6 * k) (j := 2495 + 6 * k) (by omega) (by omega), vA_hi (i := 208 + 6 * k) (j := 2496 + 6 * k) (by omega) (by omega), vA_hi (i := 211 + 6 * k) (j := 2499 + 6 * k) (by omega) (by omega), vA_lo (i := 3) (by omega), f0, f1, g2, g5, f3]
        exact ⟨Or.inl ⟨rfl, rfl⟩, rfl, rfl, by omega, by omega, rfl⟩
    · right
      refine ⟨M1', M2', ?_, wp_un ?_, f, vr.trans fc.v, vs.trans fd⟩
      · repeat' first
          | (with_reducible apply bR_go; (simp (disch := omega) only [rM L, rK L, rN L, rNf, rNv, rNp, rNd, rRow, rLeg, rMark, nat_cast, Int.reduceToNat, wd, Int.reduceMod]; with_reducible exact rfl))
          | with_reducible apply bI_go
          | with_reducible apply bV_go
          | with_reducible apply bL_go
          | (with_reducible apply it_1; (first | omega | (simp (disch := omega) only [not_false_eq_true, not_true_eq_false, w32_id, tLt, fLt, tLe, fEq, itE, and_true, true_and, and_self, and_false, false_and, ↓reduceIte, nat_add, nat_mul3, nat_mul4, nat_mul6, nat_mul15, nat_mul60, nat_cast, nc1, Int.reduceToNat, upE, upN, fill_ne, fill_in, i0, wd, Int.reduceMod] <;> omega)))
          | (with_reducible apply it_2; (first | omega | (simp (disch := omega) only [not_false_eq_true, not_true_eq_false, w32_id, tLt, fLt, tLe, fEq, itE, and_true, true_and, and_self, and_false, false_and, ↓reduceIte, nat_add, nat_mul3, nat_mul4, nat_mul6, nat_mul15, nat_mul60, nat_cast, nc1, Int.reduceToNat, upE, upN, fill_ne, fill_in, i0, wd, Int.reduceMod] <;> omega)))
          | (with_reducible refine cl_go ?_; simp (disch := omega) only [not_false_eq_true, not_true_eq_false, w32_id, tLt, fLt, tLe, fEq, itE, and_true, true_and, and_self, and_false, false_and, ↓reduceIte, nat_add, nat_mul3, nat_mul4, nat_mul6, nat_mul15, nat_mul60, nat_cast, nc1, Int.reduceToNat, upE, upN, fill_ne, fill_in, i0, wd, Int.reduceMod])
          | rw [c_VoyageText_takesTest (by omega), b_VoyageText_takesTest_0]
          | rw [c_VoyageText_takesCoins (by omega), b_VoyageText_takesCoins_0]
          | with_reducible exact p1
          | with_reducible exact u1
          | with_reducible exact s1
          | with_reducible exact w1
          | with_reducible exact w3
          | (with_reducible refine rn_go ?_; simp (disch := omega) only [not_false_eq_true, not_true_eq_false, w32_id, tLt, fLt, tLe, fEq, itE, and_true, true_and, and_self, and_false, false_and, ↓reduceIte, nat_add, nat_mul3, nat_mul4, nat_mul6, nat_mul15, nat_mul60, nat_cast, nc1, Int.reduceToNat, upE, upN, fill_ne, fill_in, i0, wd, Int.reduceMod])
          | (with_reducible refine lf_go ?_; simp (disch := omega) only [not_false_eq_true, not_true_eq_false, w32_id, tLt, fLt, tLe, fEq, itE, and_true, true_and, and_self, and_false, false_and, ↓reduceIte, nat_add, nat_mul3, nat_mul4, nat_mul6, nat_mul15, nat_mul60, nat_cast, nc1, Int.reduceToNat, upE, upN, fill_ne, fill_in, i0, wd, Int.reduceMod])
          | with_reducible exact rfl
      · repeat' first
          | (with_reducible apply wp_bR; (simp (disch := omega) only [rM L, rK L, rN L, rNf, rNv, rNp, rNd, rRow, rLeg, rMark, nat_cast, Int.reduceToNat, s15, Int.reduceMod, Int.reduceAdd]; with_reducible exact rfl))
          | with_reducible apply wp_bI
          | with_reducible apply wp_bV
          | with_reducible apply wp_bL
          | with_reducible apply wp_rI
          | with_reducible apply wp_rV
          | with_reducible apply wp_rL
          | (with_reducible apply wp_1; (first | omega | (simp (disch := omega) only [not_false_eq_true, not_true_eq_false, w32_id, tLt, fLt, tLe, fEq, itE, and_true, true_and, and_self, and_false, false_and, ↓reduceIte, nat_add, nat_mul3, nat_mul4, nat_mul6, nat_mul15, nat_mul60, nat_cast, nc1, Int.reduceToNat, upE, upN, fill_ne, fill_in, i0, s15, Int.reduceMod, Int.reduceAdd] <;> omega)))
          | (with_reducible apply wp_2; (first | omega | (simp (disch := omega) only [not_false_eq_true, not_true_eq_false, w32_id, tLt, fLt, tLe, fEq, itE, and_true, true_and, and_self, and_false, false_and, ↓reduceIte, nat_add, nat_mul3, nat_mul4, nat_mul6, nat_mul15, nat_mul60, nat_cast, nc1, Int.reduceToNat, upE, upN, fill_ne, fill_in, i0, s15, Int.reduceMod, Int.reduceAdd] <;> omega)))
          | (with_reducible apply wp_s; (first | (simp (disch := omega) only [not_false_eq_true, not_true_eq_false, w32_id, tLt, fLt, tLe, fEq, itE, and_true, true_and, and_self, and_false, false_and, ↓reduceIte, nat_add, nat_mul3, nat_mul4, nat_mul6, nat_mul15, nat_mul60, nat_cast, nc1, Int.reduceToNat, upE, upN, fill_ne, fill_in, i0, s15, Int.reduceMod, Int.reduceAdd]; with_reducible exact Iff.rfl) | with_reducible exact Iff.rfl); intro hc__; (try subst hc__); rotate_left; intro hc__; rotate_left)
          | (with_reducible apply wp_eq; (with_reducible apply cl_go; simp (disch := omega) only [not_false_eq_true, not_true_eq_false, w32_id, tLt, fLt, tLe, fEq, itE, and_true, true_and, and_self, and_false, false_and, ↓reduceIte, nat_add, nat_mul3, nat_mul4, nat_mul6, nat_mul15, nat_mul60, nat_cast, nc1, Int.reduceToNat, upE, upN, fill_ne, fill_in, i0, s15, Int.reduceMod, Int.reduceAdd]; with_reducible exact rfl))
          | (with_reducible refine wp_eq (c_Mo_voyageOrder (by omega) _ _ _ _ _) ?_; with_reducible refine wp_eq (b_Mo_voyageOrder_0 _ _ _ _ _ _) ?_)
          | (with_reducible refine wp_eq (c_Mo_test (by omega) _ _ _ _) ?_; with_reducible refine wp_eq (b_Mo_test_0 _ _ _ _ _) ?_)
          | with_reducible refine wp_eq (b_Mo_test_31 _ _ _ _ _ _) ?_
          | with_reducible refine wp_eq (iw) ?_
          | with_reducible refine wp_eq (p2) ?_
          | with_reducible refine wp_eq (u2 _ (by omega)) ?_
          | with_reducible refine wp_eq (s2) ?_
          | with_reducible refine wp_eq (w2) ?_
          | with_reducible refine wp_eq (w4 _ (by omega)) ?_
          | (with_reducible apply wp_eq; (with_reducible apply lf_go; simp (disch := omega) only [not_false_eq_true, not_true_eq_false, w32_id, tLt, fLt, tLe, fEq, itE, and_true, true_and, and_self, and_false, false_and, ↓reduceIte, nat_add, nat_mul3, nat_mul4, nat_mul6, nat_mul15, nat_mul60, nat_cast, nc1, Int.reduceToNat, upE, upN, fill_ne, fill_in, i0, s15, Int.reduceMod, Int.reduceAdd]; with_reducible exact rfl))
          | with_reducible apply wp_q1
        exact ⟨_, _, _, rfl, rfl, rfl, rfl⟩
  rcases k_sign (L := L) (d1 := d1 - 1 - 1) (d2 := d2 - 1 - 1) tb (by omega) (by omega) 62 with ⟨-, s15, s3, s4⟩ | ⟨s3, s4⟩
  · obtain ⟨Mt, Mu, w1, w2, w3⟩ := k_tail (L := L) (d1 := d1 - 1 - 1) (d2 := d2 - 1 - 1) (by omega) (by omega) tb hk 62
    rcases w3 with ⟨q', e', z, Mc, Md, w3, w4, t, le, fc, hz, g2, g5, fd⟩ | ⟨M1', M2', w3, w4, f, fc, fd⟩
    · left
      have o : ∀ b j, ¬(b = 12 ∧ 4 ≤ j) → Mc b j = M1 b j := fun b j y => by rw [fc _ _ y, fr _ _ y, fp _ _ y]
      have a := c_addStep (L := L) (d := d1 - 1 - 1) (M := Mc) (k := k) (c := c) (by omega) (by rw [o _ _ (by omega)]; exact h5) hk (by rw [o _ _ (by omega)]; exact h6) hc 9 v 0 z
      obtain ⟨a1, a2, a3, a4, a5, a6⟩ := addS_at (M := Mc) (k := k) (c := c) (x1 := 9) (x2 := (v : Int)) (x3 := 0) (x4 := z)
      refine ⟨q', e', _, Md, ?_, wp_un ?_, t.add, by have z1 := ta.2.2.2.2.1.bd; have z2 := tb.2.2.2.2.1.bd; omega, ⟨a5, a6⟩, ?_, (vr.trans fc.v).add, vs.trans fun b j y1 y2 => fd b j y1 (by omega)⟩
      · repeat' first
          | (with_reducible apply bR_go; (simp (disch := omega) only [rM L, rK L, rN L, rNf, rNv, rNp, rNd, rRow, rLeg, rMark, nat_cast, Int.reduceToNat, wd, Int.reduceMod]; with_reducible exact rfl))
          | with_reducible apply bI_go
          | with_reducible apply bV_go
          | with_reducible apply bL_go
          | (with_reducible apply it_1; (first | omega | (simp (disch := omega) only [not_false_eq_true, not_true_eq_false, w32_id, tLt, fLt, tLe, fEq, itE, and_true, true_and, and_self, and_false, false_and, ↓reduceIte, nat_add, nat_mul3, nat_mul4, nat_mul6, nat_mul15, nat_mul60, nat_cast, nc1, Int.reduceToNat, upE, upN, fill_ne, fill_in, i0, wd, Int.reduceMod] <;> omega)))
          | (with_reducible apply it_2; (first | omega | (simp (disch := omega) only [not_false_eq_true, not_true_eq_false, w32_id, tLt, fLt, tLe, fEq, itE, and_true, true_and, and_self, and_false, false_and, ↓reduceIte, nat_add, nat_mul3, nat_mul4, nat_mul6, nat_mul15, nat_mul60, nat_cast, nc1, Int.reduceToNat, upE, upN, fill_ne, fill_in, i0, wd, Int.reduceMod] <;> omega)))
          | (with_reducible refine cl_go ?_; simp (disch := omega) only [not_false_eq_true, not_true_eq_false, w32_id, tLt, fLt, tLe, fEq, itE, and_true, true_and, and_self, and_false, false_and, ↓reduceIte, nat_add, nat_mul3, nat_mul4, nat_mul6, nat_mul15, nat_mul60, nat_cast, nc1, Int.reduceToNat, upE, upN, fill_ne, fill_in, i0, wd, Int.reduceMod])
          | rw [c_VoyageText_takesTest (by omega), b_VoyageText_takesTest_0]
          | rw [c_VoyageText_takesCoins (by omega), b_VoyageText_takesCoins_0]
          | with_reducible exact p1
          | with_reducible exact u1
          | with_reducible exact s1
          | with_reducible exact s3
          | with_reducible exact w1
          | with_reducible exact w3
          | with_reducible exact a
          | (with_reducible refine rn_go ?_; simp (disch := omega) only [not_false_eq_true, not_true_eq_false, w32_id, tLt, fLt, tLe, fEq, itE, and_true, true_and, and_self, and_false, false_and, ↓reduceIte, nat_add, nat_mul3, nat_mul4, nat_mul6, nat_mul15, nat_mul60, nat_cast, nc1, Int.reduceToNat, upE, upN, fill_ne, fill_in, i0, wd, Int.reduceMod])
          | (with_reducible refine lf_go ?_; simp (disch := omega) only [not_false_eq_true, not_true_eq_false, w32_id, tLt, fLt, tLe, fEq, itE, and_true, true_and, and_self, and_false, false_and, ↓reduceIte, nat_add, nat_mul3, nat_mul4, nat_mul6, nat_mul15, nat_mul60, nat_cast, nc1, Int.reduceToNat, upE, upN, fill_ne, fill_in, i0, wd, Int.reduceMod])
          | with_reducible exact rfl
      · repeat' first
          | (with_reducible apply wp_bR; (simp (disch := omega) only [rM L, rK L, rN L, rNf, rNv, rNp, rNd, rRow, rLeg, rMark, nat_cast, Int.reduceToNat, s15, Int.reduceMod, Int.reduceAdd]; with_reducible exact rfl))
          | with_reducible apply wp_bI
          | with_reducible apply wp_bV
          | with_reducible apply wp_bL
          | with_reducible apply wp_rI
          | with_reducible apply wp_rV
          | with_reducible apply wp_rL
          | (with_reducible apply wp_1; (first | omega | (simp (disch := omega) only [not_false_eq_true, not_true_eq_false, w32_id, tLt, fLt, tLe, fEq, itE, and_true, true_and, and_self, and_false, false_and, ↓reduceIte, nat_add, nat_mul3, nat_mul4, nat_mul6, nat_mul15, nat_mul60, nat_cast, nc1, Int.reduceToNat, upE, upN, fill_ne, fill_in, i0, s15, Int.reduceMod, Int.reduceAdd] <;> omega)))
          | (with_reducible apply wp_2; (first | omega | (simp (disch := omega) only [not_false_eq_true, not_true_eq_false, w32_id, tLt, fLt, tLe, fEq, itE, and_true, true_and, and_self, and_false, false_and, ↓reduceIte, nat_add, nat_mul3, nat_mul4, nat_mul6, nat_mul15, nat_mul60, nat_cast, nc1, Int.reduceToNat, upE, upN, fill_ne, fill_in, i0, s15, Int.reduceMod, Int.reduceAdd] <;> omega)))
          | (with_reducible apply wp_s; (first | (simp (disch := omega) only [not_false_eq_true, not_true_eq_false, w32_id, tLt, fLt, tLe, fEq, itE, and_true, true_and, and_self, and_false, false_and, ↓reduceIte, nat_add, nat_mul3, nat_mul4, nat_mul6, nat_mul15, nat_mul60, nat_cast, nc1, Int.reduceToNat, upE, upN, fill_ne, fill_in, i0, s15, Int.reduceMod, Int.reduceAdd]; with_reducible exact Iff.rfl) | with_reducible exact Iff.rfl); intro hc__; (try subst hc__); rotate_left; intro hc__; rotate_left)
          | (with_reducible apply wp_eq; (with_reducible apply cl_go; simp (disch := omega) only [not_false_eq_true, not_true_eq_false, w32_id, tLt, fLt, tLe, fEq, itE, and_true, true_and, and_self, and_false, false_and, ↓reduceIte, nat_add, nat_mul3, nat_mul4, nat_mul6, nat_mul15, nat_mul60, nat_cast, nc1, Int.reduceToNat, upE, upN, fill_ne, fill_in, i0, s15, Int.reduceMod, Int.reduceAdd]; with_reducible exact rfl))
          | (with_reducible refine wp_eq (c_Mo_voyageOrder (by omega) _ _ _ _ _) ?_; with_reducible refine wp_eq (b_Mo_voyageOrder_0 _ _ _ _ _ _) ?_)
          | (with_reducible refine wp_eq (c_Mo_test (by omega) _ _ _ _) ?_; with_reducible refine wp_eq (b_Mo_test_0 _ _ _ _ _) ?_)
          | with_reducible refine wp_eq (b_Mo_test_31 _ _ _ _ _ _) ?_
          | with_reducible refine wp_eq (iw) ?_
          | with_reducible refine wp_eq (p2) ?_
          | with_reducible refine wp_eq (u2 _ (by omega)) ?_
          | with_reducible refine wp_eq (s2) ?_
          | with_reducible refine wp_eq (s4) ?_
          | with_reducible refine wp_eq (w2) ?_
          | with_reducible refine wp_eq (w4 _ (by omega)) ?_
          | (with_reducible apply wp_eq; (with_reducible apply lf_go; simp (disch := omega) only [not_false_eq_true, not_true_eq_false, w32_id, tLt, fLt, tLe, fEq, itE, and_true, true_and, and_self, and_false, false_and, ↓reduceIte, nat_add, nat_mul3, nat_mul4, nat_mul6, nat_mul15, nat_mul60, nat_cast, nc1, Int.reduceToNat, upE, upN, fill_ne, fill_in, i0, s15, Int.reduceMod, Int.reduceAdd]; with_reducible exact rfl))
          | with_reducible apply wp_q1
        exact ⟨_, _, _, rfl, rfl, rfl, rfl⟩
      · right; right; left
        have f3 : Md 272 3 = (c3 : Int) := by rw [fd _ _ (by omega) (by omega), fs _ _ (by omega) (by omega)]; exact hM.2.2.2.2.2.2.2
        have f0 : Md 272 (2494 + 6 * k) = 2518 := by rw [fd _ _ (by omega) (by omega), fs _ _ (by omega) (by omega), fq _ _ (by omega), upE rfl rfl]
        have f1 : Md 272 (2495 + 6 * k) = (v : Int) := by rw [fd _ _ (by omega) (by omega)]; exact ev
        rw [a1, a2, a4, vA_hi (i := 206 + 6 * k) (j := 2494 + 6 * k) (by omega) (by omega), vA_hi (i := 207 + 6 * k) (j := 2495 + 6 * k) (by omega) (by omega), vA_hi (i := 208 + 6 * k) (j := 2496 + 6 * k) (by omega) (by omega), vA_hi (i := 211 + 6 * k) (j := 2499 + 6 * k) (by omega) (by omega), vA_lo (i := 3) (by omega), f0, f1, g2, g5, f3]
        exact ⟨Or.inr (Or.inl ⟨rfl, rfl⟩), rfl, rfl, by omega, by omega, rfl⟩
    · right
      refine ⟨M1', M2', ?_, wp_un ?_, f, vr.trans fc.v, vs.trans fd⟩
      · repeat' first
          | (with_reducible apply bR_go; (simp (disch := omega) only [rM L, rK L, rN L, rNf, rNv, rNp, rNd, rRow, rLeg, rMark, nat_cast, Int.reduceToNat, wd, Int.reduceMod]; with_reducible exact rfl))
          | with_reducible apply bI_go
          | with_reducible apply bV_go
          | with_reducible apply bL_go
          | (with_reducible apply it_1; (first | omega | (simp (disch := omega) only [not_false_eq_true, not_true_eq_false, w32_id, tLt, fLt, tLe, fEq, itE, and_true, true_and, and_self, and_false, false_and, ↓reduceIte, nat_add, nat_mul3, nat_mul4, nat_mul6, nat_mul15, nat_mul60, nat_cast, nc1, Int.reduceToNat, upE, upN, fill_ne, fill_in, i0, wd, Int.reduceMod] <;> omega)))
          | (with_reducible apply it_2; (first | omega | (simp (disch := omega) only [not_false_eq_true, not_true_eq_false, w32_id, tLt, fLt, tLe, fEq, itE, and_true, true_and, and_self, and_false, false_and, ↓reduceIte, nat_add, nat_mul3, nat_mul4, nat_mul6, nat_mul15, nat_mul60, nat_cast, nc1, Int.reduceToNat, upE, upN, fill_ne, fill_in, i0, wd, Int.reduceMod] <;> omega)))
          | (with_reducible refine cl_go ?_; simp (disch := omega) only [not_false_eq_true, not_true_eq_false, w32_id, tLt, fLt, tLe, fEq, itE, and_true, true_and, and_self, and_false, false_and, ↓reduceIte, nat_add, nat_mul3, nat_mul4, nat_mul6, nat_mul15, nat_mul60, nat_cast, nc1, Int.reduceToNat, upE, upN, fill_ne, fill_in, i0, wd, Int.reduceMod])
          | rw [c_VoyageText_takesTest (by omega), b_VoyageText_takesTest_0]
          | rw [c_VoyageText_takesCoins (by omega), b_VoyageText_takesCoins_0]
          | with_reducible exact p1
          | with_reducible exact u1
          | with_reducible exact s1
          | with_reducible exact s3
          | with_reducible exact w1
          | with_reducible exact w3
          | (with_reducible refine rn_go ?_; simp (disch := omega) only [not_false_eq_true, not_true_eq_false, w32_id, tLt, fLt, tLe, fEq, itE, and_true, true_and, and_self, and_false, false_and, ↓reduceIte, nat_add, nat_mul3, nat_mul4, nat_mul6, nat_mul15, nat_mul60, nat_cast, nc1, Int.reduceToNat, upE, upN, fill_ne, fill_in, i0, wd, Int.reduceMod])
          | (with_reducible refine lf_go ?_; simp (disch := omega) only [not_false_eq_true, not_true_eq_false, w32_id, tLt, fLt, tLe, fEq, itE, and_true, true_and, and_self, and_false, false_and, ↓reduceIte, nat_add, nat_mul3, nat_mul4, nat_mul6, nat_mul15, nat_mul60, nat_cast, nc1, Int.reduceToNat, upE, upN, fill_ne, fill_in, i0, wd, Int.reduceMod])
          | with_reducible exact rfl
      · repeat' first
          | (with_reducible apply wp_bR; (simp (disch := omega) only [rM L, rK L, rN L, rNf, rNv, rNp, rNd, rRow, rLeg, rMark, nat_cast, Int.reduceToNat, s15, Int.reduceMod, Int.reduceAdd]; with_reducible exact rfl))
          | with_reducible apply wp_bI
          | with_reducible apply wp_bV
          | with_reducible apply wp_bL
          | with_reducible apply wp_rI
          | with_reducible apply wp_rV
          | with_reducible apply wp_rL
          | (with_reducible apply wp_1; (first | omega | (simp (disch := omega) only [not_false_eq_true, not_true_eq_false, w32_id, tLt, fLt, tLe, fEq, itE, and_true, true_and, and_self, and_false, false_and, ↓reduceIte, nat_add, nat_mul3, nat_mul4, nat_mul6, nat_mul15, nat_mul60, nat_cast, nc1, Int.reduceToNat, upE, upN, fill_ne, fill_in, i0, s15, Int.reduceMod, Int.reduceAdd] <;> omega)))
          | (with_reducible apply wp_2; (first | omega | (simp (disch := omega) only [not_false_eq_true, not_true_eq_false, w32_id, tLt, fLt, tLe, fEq, itE, and_true, true_and, and_self, and_false, false_and, ↓reduceIte, nat_add, nat_mul3, nat_mul4, nat_mul6, nat_mul15, nat_mul60, nat_cast, nc1, Int.reduceToNat, upE, upN, fill_ne, fill_in, i0, s15, Int.reduceMod, Int.reduceAdd] <;> omega)))
          | (with_reducible apply wp_s; (first | (simp (disch := omega) only [not_false_eq_true, not_true_eq_false, w32_id, tLt, fLt, tLe, fEq, itE, and_true, true_and, and_self, and_false, false_and, ↓reduceIte, nat_add, nat_mul3, nat_mul4, nat_mul6, nat_mul15, nat_mul60, nat_cast, nc1, Int.reduceToNat, upE, upN, fill_ne, fill_in, i0, s15, Int.reduceMod, Int.reduceAdd]; with_reducible exact Iff.rfl) | with_reducible exact Iff.rfl); intro hc__; (try subst hc__); rotate_left; intro hc__; rotate_left)
          | (with_reducible apply wp_eq; (with_reducible apply cl_go; simp (disch := omega) only [not_false_eq_true, not_true_eq_false, w32_id, tLt, fLt, tLe, fEq, itE, and_true, true_and, and_self, and_false, false_and, ↓reduceIte, nat_add, nat_mul3, nat_mul4, nat_mul6, nat_mul15, nat_mul60, nat_cast, nc1, Int.reduceToNat, upE, upN, fill_ne, fill_in, i0, s15, Int.reduceMod, Int.reduceAdd]; with_reducible exact rfl))
          | (with_reducible refine wp_eq (c_Mo_voyageOrder (by omega) _ _ _ _ _) ?_; with_reducible refine wp_eq (b_Mo_voyageOrder_0 _ _ _ _ _ _) ?_)
          | (with_reducible refine wp_eq (c_Mo_test (by omega) _ _ _ _) ?_; with_reducible refine wp_eq (b_Mo_test_0 _ _ _ _ _) ?_)
          | with_reducible refine wp_eq (b_Mo_test_31 _ _ _ _ _ _) ?_
          | with_reducible refine wp_eq (iw) ?_
          | with_reducible refine wp_eq (p2) ?_
          | with_reducible refine wp_eq (u2 _ (by omega)) ?_
          | with_reducible refine wp_eq (s2) ?_
          | with_reducible refine wp_eq (s4) ?_
          | with_reducible refine wp_eq (w2) ?_
          | with_reducible refine wp_eq (w4 _ (by omega)) ?_
          | (with_reducible apply wp_eq; (with_reducible apply lf_go; simp (disch := omega) only [not_false_eq_true, not_true_eq_false, w32_id, tLt, fLt, tLe, fEq, itE, and_true, true_and, and_self, and_false, false_and, ↓reduceIte, nat_add, nat_mul3, nat_mul4, nat_mul6, nat_mul15, nat_mul60, nat_cast, nc1, Int.reduceToNat, upE, upN, fill_ne, fill_in, i0, s15, Int.reduceMod, Int.reduceAdd]; with_reducible exact rfl))
          | with_reducible apply wp_q1
        exact ⟨_, _, _, rfl, rfl, rfl, rfl⟩
  rcases k_sign (L := L) (d1 := d1 - 1 - 1) (d2 := d2 - 1 - 1) tb (by omega) (by omega) 61 with ⟨-, s15, s5, s6⟩ | ⟨s5, s6⟩
  · obtain ⟨Mt, Mu, w1, w2, w3⟩ := k_tail (L := L) (d1 := d1 - 1 - 1) (d2 := d2 - 1 - 1) (by omega) (by omega) tb hk 61
    rcases w3 with ⟨q', e', z, Mc, Md, w3, w4, t, le, fc, hz, g2, g5, fd⟩ | ⟨M1', M2', w3, w4, f, fc, fd⟩
    · left
      have o : ∀ b j, ¬(b = 12 ∧ 4 ≤ j) → Mc b j = M1 b j := fun b j y => by rw [fc _ _ y, fr _ _ y, fp _ _ y]
      have a := c_addStep (L := L) (d := d1 - 1 - 1) (M := Mc) (k := k) (c := c) (by omega) (by rw [o _ _ (by omega)]; exact h5) hk (by rw [o _ _ (by omega)]; exact h6) hc 10 v 0 z
      obtain ⟨a1, a2, a3, a4, a5, a6⟩ := addS_at (M := Mc) (k := k) (c := c) (x1 := 10) (x2 := (v : Int)) (x3 := 0) (x4 := z)
      refine ⟨q', e', _, Md, ?_, wp_un ?_, t.add, by have z1 := ta.2.2.2.2.1.bd; have z2 := tb.2.2.2.2.1.bd; omega, ⟨a5, a6⟩, ?_, (vr.trans fc.v).add, vs.trans fun b j y1 y2 => fd b j y1 (by omega)⟩
      · repeat' first
          | (with_reducible apply bR_go; (simp (disch := omega) only [rM L, rK L, rN L, rNf, rNv, rNp, rNd, rRow, rLeg, rMark, nat_cast, Int.reduceToNat, wd, Int.reduceMod]; with_reducible exact rfl))
          | with_reducible apply bI_go
          | with_reducible apply bV_go
          | with_reducible apply bL_go
          | (with_reducible apply it_1; (first | omega | (simp (disch := omega) only [not_false_eq_true, not_true_eq_false, w32_id, tLt, fLt, tLe, fEq, itE, and_true, true_and, and_self, and_false, false_and, ↓reduceIte, nat_add, nat_mul3, nat_mul4, nat_mul6, nat_mul15, nat_mul60, nat_cast, nc1, Int.reduceToNat, upE, upN, fill_ne, fill_in, i0, wd, Int.reduceMod] <;> omega)))
          | (with_reducible apply it_2; (first | omega | (simp (disch := omega) only [not_false_eq_true, not_true_eq_false, w32_id, tLt, fLt, tLe, fEq, itE, and_true, true_and, and_self, and_false, false_and, ↓reduceIte, nat_add, nat_mul3, nat_mul4, nat_mul6, nat_mul15, nat_mul60, nat_cast, nc1, Int.reduceToNat, upE, upN, fill_ne, fill_in, i0, wd, Int.reduceMod] <;> omega)))
          | (with_reducible refine cl_go ?_; simp (disch := omega) only [not_false_eq_true, not_true_eq_false, w32_id, tLt, fLt, tLe, fEq, itE, and_true, true_and, and_self, and_false, false_and, ↓reduceIte, nat_add, nat_mul3, nat_mul4, nat_mul6, nat_mul15, nat_mul60, nat_cast, nc1, Int.reduceToNat, upE, upN, fill_ne, fill_in, i0, wd, Int.reduceMod])
          | rw [c_VoyageText_takesTest (by omega), b_VoyageText_takesTest_0]
          | rw [c_VoyageText_takesCoins (by omega), b_VoyageText_takesCoins_0]
          | with_reducible exact p1
          | with_reducible exact u1
          | with_reducible exact s1
          | with_reducible exact s3
          | with_reducible exact s5
          | with_reducible exact w1
          | with_reducible exact w3
          | with_reducible exact a
          | (with_reducible refine rn_go ?_; simp (disch := omega) only [not_false_eq_true, not_true_eq_false, w32_id, tLt, fLt, tLe, fEq, itE, and_true, true_and, and_self, and_false, false_and, ↓reduceIte, nat_add, nat_mul3, nat_mul4, nat_mul6, nat_mul15, nat_mul60, nat_cast, nc1, Int.reduceToNat, upE, upN, fill_ne, fill_in, i0, wd, Int.reduceMod])
          | (with_reducible refine lf_go ?_; simp (disch := omega) only [not_false_eq_true, not_true_eq_false, w32_id, tLt, fLt, tLe, fEq, itE, and_true, true_and, and_self, and_false, false_and, ↓reduceIte, nat_add, nat_mul3, nat_mul4, nat_mul6, nat_mul15, nat_mul60, nat_cast, nc1, Int.reduceToNat, upE, upN, fill_ne, fill_in, i0, wd, Int.reduceMod])
          | with_reducible exact rfl
      · repeat' first
          | (with_reducible apply wp_bR; (simp (disch := omega) only [rM L, rK L, rN L, rNf, rNv, rNp, rNd, rRow, rLeg, rMark, nat_cast, Int.reduceToNat, s15, Int.reduceMod, Int.reduceAdd]; with_reducible exact rfl))
          | with_reducible apply wp_bI
          | with_reducible apply wp_bV
          | with_reducible apply wp_bL
          | with_reducible apply wp_rI
          | with_reducible apply wp_rV
          | with_reducible apply wp_rL
          | (with_reducible apply wp_1; (first | omega | (simp (disch := omega) only [not_false_eq_true, not_true_eq_false, w32_id, tLt, fLt, tLe, fEq, itE, and_true, true_and, and_self, and_false, false_and, ↓reduceIte, nat_add, nat_mul3, nat_mul4, nat_mul6, nat_mul15, nat_mul60, nat_cast, nc1, Int.reduceToNat, upE, upN, fill_ne, fill_in, i0, s15, Int.reduceMod, Int.reduceAdd] <;> omega)))
          | (with_reducible apply wp_2; (first | omega | (simp (disch := omega) only [not_false_eq_true, not_true_eq_false, w32_id, tLt, fLt, tLe, fEq, itE, and_true, true_and, and_self, and_false, false_and, ↓reduceIte, nat_add, nat_mul3, nat_mul4, nat_mul6, nat_mul15, nat_mul60, nat_cast, nc1, Int.reduceToNat, upE, upN, fill_ne, fill_in, i0, s15, Int.reduceMod, Int.reduceAdd] <;> omega)))
          | (with_reducible apply wp_s; (first | (simp (disch := omega) only [not_false_eq_true, not_true_eq_false, w32_id, tLt, fLt, tLe, fEq, itE, and_true, true_and, and_self, and_false, false_and, ↓reduceIte, nat_add, nat_mul3, nat_mul4, nat_mul6, nat_mul15, nat_mul60, nat_cast, nc1, Int.reduceToNat, upE, upN, fill_ne, fill_in, i0, s15, Int.reduceMod, Int.reduceAdd]; with_reducible exact Iff.rfl) | with_reducible exact Iff.rfl); intro hc__; (try subst hc__); rotate_left; intro hc__; rotate_left)
          | (with_reducible apply wp_eq; (with_reducible apply cl_go; simp (disch := omega) only [not_false_eq_true, not_true_eq_false, w32_id, tLt, fLt, tLe, fEq, itE, and_true, true_and, and_self, and_false, false_and, ↓reduceIte, nat_add, nat_mul3, nat_mul4, nat_mul6, nat_mul15, nat_mul60, nat_cast, nc1, Int.reduceToNat, upE, upN, fill_ne, fill_in, i0, s15, Int.reduceMod, Int.reduceAdd]; with_reducible exact rfl))
          | (with_reducible refine wp_eq (c_Mo_voyageOrder (by omega) _ _ _ _ _) ?_; with_reducible refine wp_eq (b_Mo_voyageOrder_0 _ _ _ _ _ _) ?_)
          | (with_reducible refine wp_eq (c_Mo_test (by omega) _ _ _ _) ?_; with_reducible refine wp_eq (b_Mo_test_0 _ _ _ _ _) ?_)
          | with_reducible refine wp_eq (b_Mo_test_31 _ _ _ _ _ _) ?_
          | with_reducible refine wp_eq (iw) ?_
          | with_reducible refine wp_eq (p2) ?_
          | with_reducible refine wp_eq (u2 _ (by omega)) ?_
          | with_reducible refine wp_eq (s2) ?_
          | with_reducible refine wp_eq (s4) ?_
          | with_reducible refine wp_eq (s6) ?_
          | with_reducible refine wp_eq (w2) ?_
          | with_reducible refine wp_eq (w4 _ (by omega)) ?_
          | (with_reducible apply wp_eq; (with_reducible apply lf_go; simp (disch := omega) only [not_false_eq_true, not_true_eq_false, w32_id, tLt, fLt, tLe, fEq, itE, and_true, true_and, and_self, and_false, false_and, ↓reduceIte, nat_add, nat_mul3, nat_mul4, nat_mul6, nat_mul15, nat_mul60, nat_cast, nc1, Int.reduceToNat, upE, upN, fill_ne, fill_in, i0, s15, Int.reduceMod, Int.reduceAdd]; with_reducible exact rfl))
          | with_reducible apply wp_q1
        exact ⟨_, _, _, rfl, rfl, rfl, rfl⟩
      · right; right; left
        have f3 : Md 272 3 = (c3 : Int) := by rw [fd _ _ (by omega) (by omega), fs _ _ (by omega) (by omega)]; exact hM.2.2.2.2.2.2.2
        have f0 : Md 272 (2494 + 6 * k) = 2518 := by rw [fd _ _ (by omega) (by omega), fs _ _ (by omega) (by omega), fq _ _ (by omega), upE rfl rfl]
        have f1 : Md 272 (2495 + 6 * k) = (v : Int) := by rw [fd _ _ (by omega) (by omega)]; exact ev
        rw [a1, a2, a4, vA_hi (i := 206 + 6 * k) (j := 2494 + 6 * k) (by omega) (by omega), vA_hi (i := 207 + 6 * k) (j := 2495 + 6 * k) (by omega) (by omega), vA_hi (i := 208 + 6 * k) (j := 2496 + 6 * k) (by omega) (by omega), vA_hi (i := 211 + 6 * k) (j := 2499 + 6 * k) (by omega) (by omega), vA_lo (i := 3) (by omega), f0, f1, g2, g5, f3]
        exact ⟨Or.inr (Or.inr ⟨rfl, rfl⟩), rfl, rfl, by omega, by omega, rfl⟩
    · right
      refine ⟨M1', M2', ?_, wp_un ?_, f, vr.trans fc.v, vs.trans fd⟩
      · repeat' first
          | (with_reducible apply bR_go; (simp (disch := omega) only [rM L, rK L, rN L, rNf, rNv, rNp, rNd, rRow, rLeg, rMark, nat_cast, Int.reduceToNat, wd, Int.reduceMod]; with_reducible exact rfl))
          | with_reducible apply bI_go
          | with_reducible apply bV_go
          | with_reducible apply bL_go
          | (with_reducible apply it_1; (first | omega | (simp (disch := omega) only [not_false_eq_true, not_true_eq_false, w32_id, tLt, fLt, tLe, fEq, itE, and_true, true_and, and_self, and_false, false_and, ↓reduceIte, nat_add, nat_mul3, nat_mul4, nat_mul6, nat_mul15, nat_mul60, nat_cast, nc1, Int.reduceToNat, upE, upN, fill_ne, fill_in, i0, wd, Int.reduceMod] <;> omega)))
          | (with_reducible apply it_2; (first | omega | (simp (disch := omega) only [not_false_eq_true, not_true_eq_false, w32_id, tLt, fLt, tLe, fEq, itE, and_true, true_and, and_self, and_false, false_and, ↓reduceIte, nat_add, nat_mul3, nat_mul4, nat_mul6, nat_mul15, nat_mul60, nat_cast, nc1, Int.reduceToNat, upE, upN, fill_ne, fill_in, i0, wd, Int.reduceMod] <;> omega)))
          | (with_reducible refine cl_go ?_; simp (disch := omega) only [not_false_eq_true, not_true_eq_false, w32_id, tLt, fLt, tLe, fEq, itE, and_true, true_and, and_self, and_false, false_and, ↓reduceIte, nat_add, nat_mul3, nat_mul4, nat_mul6, nat_mul15, nat_mul60, nat_cast, nc1, Int.reduceToNat, upE, upN, fill_ne, fill_in, i0, wd, Int.reduceMod])
          | rw [c_VoyageText_takesTest (by omega), b_VoyageText_takesTest_0]
          | rw [c_VoyageText_takesCoins (by omega), b_VoyageText_takesCoins_0]
          | with_reducible exact p1
          | with_reducible exact u1
          | with_reducible exact s1
          | with_reducible exact s3
          | with_reducible exact s5
          | with_reducible exact w1
          | with_reducible exact w3
          | (with_reducible refine rn_go ?_; simp (disch := omega) only [not_false_eq_true, not_true_eq_false, w32_id, tLt, fLt, tLe, fEq, itE, and_true, true_and, and_self, and_false, false_and, ↓reduceIte, nat_add, nat_mul3, nat_mul4, nat_mul6, nat_mul15, nat_mul60, nat_cast, nc1, Int.reduceToNat, upE, upN, fill_ne, fill_in, i0, wd, Int.reduceMod])
          | (with_reducible refine lf_go ?_; simp (disch := omega) only [not_false_eq_true, not_true_eq_false, w32_id, tLt, fLt, tLe, fEq, itE, and_true, true_and, and_self, and_false, false_and, ↓reduceIte, nat_add, nat_mul3, nat_mul4, nat_mul6, nat_mul15, nat_mul60, nat_cast, nc1, Int.reduceToNat, upE, upN, fill_ne, fill_in, i0, wd, Int.reduceMod])
          | with_reducible exact rfl
      · repeat' first
          | (with_reducible apply wp_bR; (simp (disch := omega) only [rM L, rK L, rN L, rNf, rNv, rNp, rNd, rRow, rLeg, rMark, nat_cast, Int.reduceToNat, s15, Int.reduceMod, Int.reduceAdd]; with_reducible exact rfl))
          | with_reducible apply wp_bI
          | with_reducible apply wp_bV
          | with_reducible apply wp_bL
          | with_reducible apply wp_rI
          | with_reducible apply wp_rV
          | with_reducible apply wp_rL
          | (with_reducible apply wp_1; (first | omega | (simp (disch := omega) only [not_false_eq_true, not_true_eq_false, w32_id, tLt, fLt, tLe, fEq, itE, and_true, true_and, and_self, and_false, false_and, ↓reduceIte, nat_add, nat_mul3, nat_mul4, nat_mul6, nat_mul15, nat_mul60, nat_cast, nc1, Int.reduceToNat, upE, upN, fill_ne, fill_in, i0, s15, Int.reduceMod, Int.reduceAdd] <;> omega)))
          | (with_reducible apply wp_2; (first | omega | (simp (disch := omega) only [not_false_eq_true, not_true_eq_false, w32_id, tLt, fLt, tLe, fEq, itE, and_true, true_and, and_self, and_false, false_and, ↓reduceIte, nat_add, nat_mul3, nat_mul4, nat_mul6, nat_mul15, nat_mul60, nat_cast, nc1, Int.reduceToNat, upE, upN, fill_ne, fill_in, i0, s15, Int.reduceMod, Int.reduceAdd] <;> omega)))
          | (with_reducible apply wp_s; (first | (simp (disch := omega) only [not_false_eq_true, not_true_eq_false, w32_id, tLt, fLt, tLe, fEq, itE, and_true, true_and, and_self, and_false, false_and, ↓reduceIte, nat_add, nat_mul3, nat_mul4, nat_mul6, nat_mul15, nat_mul60, nat_cast, nc1, Int.reduceToNat, upE, upN, fill_ne, fill_in, i0, s15, Int.reduceMod, Int.reduceAdd]; with_reducible exact Iff.rfl) | with_reducible exact Iff.rfl); intro hc__; (try subst hc__); rotate_left; intro hc__; rotate_left)
          | (with_reducible apply wp_eq; (with_reducible apply cl_go; simp (disch := omega) only [not_false_eq_true, not_true_eq_false, w32_id, tLt, fLt, tLe, fEq, itE, and_true, true_and, and_self, and_false, false_and, ↓reduceIte, nat_add, nat_mul3, nat_mul4, nat_mul6, nat_mul15, nat_mul60, nat_cast, nc1, Int.reduceToNat, upE, upN, fill_ne, fill_in, i0, s15, Int.reduceMod, Int.reduceAdd]; with_reducible exact rfl))
          | (with_reducible refine wp_eq (c_Mo_voyageOrder (by omega) _ _ _ _ _) ?_; with_reducible refine wp_eq (b_Mo_voyageOrder_0 _ _ _ _ _ _) ?_)
          | (with_reducible refine wp_eq (c_Mo_test (by omega) _ _ _ _) ?_; with_reducible refine wp_eq (b_Mo_test_0 _ _ _ _ _) ?_)
          | with_reducible refine wp_eq (b_Mo_test_31 _ _ _ _ _ _) ?_
          | with_reducible refine wp_eq (iw) ?_
          | with_reducible refine wp_eq (p2) ?_
          | with_reducible refine wp_eq (u2 _ (by omega)) ?_
          | with_reducible refine wp_eq (s2) ?_
          | with_reducible refine wp_eq (s4) ?_
          | with_reducible refine wp_eq (s6) ?_
          | with_reducible refine wp_eq (w2) ?_
          | with_reducible refine wp_eq (w4 _ (by omega)) ?_
          | (with_reducible apply wp_eq; (with_reducible apply lf_go; simp (disch := omega) only [not_false_eq_true, not_true_eq_false, w32_id, tLt, fLt, tLe, fEq, itE, and_true, true_and, and_self, and_false, false_and, ↓reduceIte, nat_add, nat_mul3, nat_mul4, nat_mul6, nat_mul15, nat_mul60, nat_cast, nc1, Int.reduceToNat, upE, upN, fill_ne, fill_in, i0, s15, Int.reduceMod, Int.reduceAdd]; with_reducible exact rfl))
          | with_reducible apply wp_q1
        exact ⟨_, _, _, rfl, rfl, rfl, rfl⟩
  · right
    obtain ⟨M1', M2', w1, w2, f, fc, fd⟩ := k_misfit (L := L) (d1 := d1 - 1 - 1) (d2 := d2 - 1 - 1) (by omega) (by omega) tb
    refine ⟨M1', M2', ?_, wp_un ?_, f, vr.trans fc.v, vs.trans fd.v⟩
    · repeat' first
        | (with_reducible apply bR_go; (simp (disch := omega) only [rM L, rK L, rN L, rNf, rNv, rNp, rNd, rRow, rLeg, rMark, nat_cast, Int.reduceToNat, wd, Int.reduceMod]; with_reducible exact rfl))
        | with_reducible apply bI_go
        | with_reducible apply bV_go
        | with_reducible apply bL_go
        | (with_reducible apply it_1; (first | omega | (simp (disch := omega) only [not_false_eq_true, not_true_eq_false, w32_id, tLt, fLt, tLe, fEq, itE, and_true, true_and, and_self, and_false, false_and, ↓reduceIte, nat_add, nat_mul3, nat_mul4, nat_mul6, nat_mul15, nat_mul60, nat_cast, nc1, Int.reduceToNat, upE, upN, fill_ne, fill_in, i0, wd, Int.reduceMod] <;> omega)))
        | (with_reducible apply it_2; (first | omega | (simp (disch := omega) only [not_false_eq_true, not_true_eq_false, w32_id, tLt, fLt, tLe, fEq, itE, and_true, true_and, and_self, and_false, false_and, ↓reduceIte, nat_add, nat_mul3, nat_mul4, nat_mul6, nat_mul15, nat_mul60, nat_cast, nc1, Int.reduceToNat, upE, upN, fill_ne, fill_in, i0, wd, Int.reduceMod] <;> omega)))
        | (with_reducible refine cl_go ?_; simp (disch := omega) only [not_false_eq_true, not_true_eq_false, w32_id, tLt, fLt, tLe, fEq, itE, and_true, true_and, and_self, and_false, false_and, ↓reduceIte, nat_add, nat_mul3, nat_mul4, nat_mul6, nat_mul15, nat_mul60, nat_cast, nc1, Int.reduceToNat, upE, upN, fill_ne, fill_in, i0, wd, Int.reduceMod])
        | rw [c_VoyageText_takesTest (by omega), b_VoyageText_takesTest_0]
        | rw [c_VoyageText_takesCoins (by omega), b_VoyageText_takesCoins_0]
        | with_reducible exact p1
        | with_reducible exact u1
        | with_reducible exact s1
        | with_reducible exact s3
        | with_reducible exact s5
        | with_reducible exact w1
        | (with_reducible refine rn_go ?_; simp (disch := omega) only [not_false_eq_true, not_true_eq_false, w32_id, tLt, fLt, tLe, fEq, itE, and_true, true_and, and_self, and_false, false_and, ↓reduceIte, nat_add, nat_mul3, nat_mul4, nat_mul6, nat_mul15, nat_mul60, nat_cast, nc1, Int.reduceToNat, upE, upN, fill_ne, fill_in, i0, wd, Int.reduceMod])
        | (with_reducible refine lf_go ?_; simp (disch := omega) only [not_false_eq_true, not_true_eq_false, w32_id, tLt, fLt, tLe, fEq, itE, and_true, true_and, and_self, and_false, false_and, ↓reduceIte, nat_add, nat_mul3, nat_mul4, nat_mul6, nat_mul15, nat_mul60, nat_cast, nc1, Int.reduceToNat, upE, upN, fill_ne, fill_in, i0, wd, Int.reduceMod])
        | with_reducible exact rfl
    · repeat' first
        | (with_reducible apply wp_bR; (simp (disch := omega) only [rM L, rK L, rN L, rNf, rNv, rNp, rNd, rRow, rLeg, rMark, nat_cast, Int.reduceToNat, Int.reduceMod, Int.reduceAdd]; with_reducible exact rfl))
        | with_reducible apply wp_bI
        | with_reducible apply wp_bV
        | with_reducible apply wp_bL
        | with_reducible apply wp_rI
        | with_reducible apply wp_rV
        | with_reducible apply wp_rL
        | (with_reducible apply wp_1; (first | omega | (simp (disch := omega) only [not_false_eq_true, not_true_eq_false, w32_id, tLt, fLt, tLe, fEq, itE, and_true, true_and, and_self, and_false, false_and, ↓reduceIte, nat_add, nat_mul3, nat_mul4, nat_mul6, nat_mul15, nat_mul60, nat_cast, nc1, Int.reduceToNat, upE, upN, fill_ne, fill_in, i0, Int.reduceMod, Int.reduceAdd] <;> omega)))
        | (with_reducible apply wp_2; (first | omega | (simp (disch := omega) only [not_false_eq_true, not_true_eq_false, w32_id, tLt, fLt, tLe, fEq, itE, and_true, true_and, and_self, and_false, false_and, ↓reduceIte, nat_add, nat_mul3, nat_mul4, nat_mul6, nat_mul15, nat_mul60, nat_cast, nc1, Int.reduceToNat, upE, upN, fill_ne, fill_in, i0, Int.reduceMod, Int.reduceAdd] <;> omega)))
        | (with_reducible apply wp_s; (first | (simp (disch := omega) only [not_false_eq_true, not_true_eq_false, w32_id, tLt, fLt, tLe, fEq, itE, and_true, true_and, and_self, and_false, false_and, ↓reduceIte, nat_add, nat_mul3, nat_mul4, nat_mul6, nat_mul15, nat_mul60, nat_cast, nc1, Int.reduceToNat, upE, upN, fill_ne, fill_in, i0, Int.reduceMod, Int.reduceAdd]; with_reducible exact Iff.rfl) | with_reducible exact Iff.rfl); intro hc__; (try subst hc__); rotate_left; intro hc__; rotate_left)
        | (with_reducible apply wp_eq; (with_reducible apply cl_go; simp (disch := omega) only [not_false_eq_true, not_true_eq_false, w32_id, tLt, fLt, tLe, fEq, itE, and_true, true_and, and_self, and_false, false_and, ↓reduceIte, nat_add, nat_mul3, nat_mul4, nat_mul6, nat_mul15, nat_mul60, nat_cast, nc1, Int.reduceToNat, upE, upN, fill_ne, fill_in, i0, Int.reduceMod, Int.reduceAdd]; with_reducible exact rfl))
        | (with_reducible refine wp_eq (c_Mo_voyageOrder (by omega) _ _ _ _ _) ?_; with_reducible refine wp_eq (b_Mo_voyageOrder_0 _ _ _ _ _ _) ?_)
        | (with_reducible refine wp_eq (c_Mo_test (by omega) _ _ _ _) ?_; with_reducible refine wp_eq (b_Mo_test_0 _ _ _ _ _) ?_)
        | with_reducible refine wp_eq (b_Mo_test_31 _ _ _ _ _ _) ?_
        | with_reducible refine wp_eq (iw) ?_
        | with_reducible refine wp_eq (p2) ?_
        | with_reducible refine wp_eq (u2 _ (by omega)) ?_
        | with_reducible refine wp_eq (s2) ?_
        | with_reducible refine wp_eq (s4) ?_
        | with_reducible refine wp_eq (s6) ?_
        | with_reducible refine wp_eq (w2) ?_
        | (with_reducible apply wp_eq; (with_reducible apply lf_go; simp (disch := omega) only [not_false_eq_true, not_true_eq_false, w32_id, tLt, fLt, tLe, fEq, itE, and_true, true_and, and_self, and_false, false_and, ↓reduceIte, nat_add, nat_mul3, nat_mul4, nat_mul6, nat_mul15, nat_mul60, nat_cast, nc1, Int.reduceToNat, upE, upN, fill_ne, fill_in, i0, Int.reduceMod, Int.reduceAdd]; with_reducible exact rfl))
        | with_reducible apply wp_q1
      exact ⟨_, _, _, rfl, rfl, rfl, rfl⟩
theorem o_test (h1 : 9 ≤ d1) (h2 : 11 ≤ d2) (h : TK bt n q e M1 M2) (hN : NV M1 M2 c0 c1 c2 c3) (h5 : M1 98 5 = (k : Int)) (hk : k < 60) (h6 : M1 98 6 = c) (hc : 0 ≤ c ∧ c ≤ 60) : OR bt n e L k c StB (callD d1 m_VoyageText_takesTest [vR 6 0 12, vR 0 0 19, vR 3 0 98] (SH L) M1) (callD d2 m_Mo_voyageOrder [vR 12 0 271, vI 25, vI (2494 + 6 * (k : Int))] (SH L) M2) M1 M2 := by
  by_cases y1 : cwx bt n q e = 26
  · exact o_ruled h1 h2 h hN h5 hk h6 hc y1
  by_cases y2 : cwx bt n q e = 27
  · exact o_inport h1 h2 h hN h5 hk h6 hc y2
  by_cases y3 : cwx bt n q e = 16
  · exact o_coins h1 h2 h hN h5 hk h6 hc y3
  right
  have wd := h.wd
  have iw := h.iw (L := L) (d2 := d2 - 1 - 1) (by omega)
  have cb := cwx_bd (bt := bt) (n := n) (q := q) (e := e)
  have z1 : ¬ kM (cwx bt n q e) = 29 := fun y => y1 ((kM_iff cb (w := 26) (by omega)).1 y)
  have z2 : ¬ kM (cwx bt n q e) = 30 := fun y => y2 ((kM_iff cb (w := 27) (by omega)).1 y)
  have z3 : ¬ kM (cwx bt n q e) = 18 := fun y => y3 ((kM_iff cb (w := 16) (by omega)).1 y)
  obtain ⟨M1', M2', w1, w2, f, fc, fd⟩ := k_misfit (L := L) (d1 := d1 - 1) (d2 := d2 - 1 - 1) (by omega) (by omega) h
  refine ⟨M1', M2', ?_, ?_, f, fc.v, fd.v⟩
  · repeat' first
      | (with_reducible apply bR_go; (simp (disch := omega) only [rM L, rK L, rN L, rNf, rNv, rNp, rNd, rRow, rLeg, rMark, nat_cast, Int.reduceToNat, wd, Int.reduceMod]; with_reducible exact rfl))
      | with_reducible apply bI_go
      | with_reducible apply bV_go
      | with_reducible apply bL_go
      | (with_reducible apply it_1; (first | omega | (simp (disch := omega) only [not_false_eq_true, not_true_eq_false, w32_id, tLt, fLt, tLe, fEq, itE, and_true, true_and, and_self, and_false, false_and, ↓reduceIte, nat_add, nat_mul3, nat_mul4, nat_mul6, nat_mul15, nat_mul60, nat_cast, nc1, Int.reduceToNat, upE, upN, fill_ne, fill_in, i0, wd, Int.reduceMod] <;> omega)))
      | (with_reducible apply it_2; (first | omega | (simp (disch := omega) only [not_false_eq_true, not_true_eq_false, w32_id, tLt, fLt, tLe, fEq, itE, and_true, true_and, and_self, and_false, false_and, ↓reduceIte, nat_add, nat_mul3, nat_mul4, nat_mul6, nat_mul15, nat_mul60, nat_cast, nc1, Int.reduceToNat, upE, upN, fill_ne, fill_in, i0, wd, Int.reduceMod] <;> omega)))
      | (with_reducible refine cl_go ?_; simp (disch := omega) only [not_false_eq_true, not_true_eq_false, w32_id, tLt, fLt, tLe, fEq, itE, and_true, true_and, and_self, and_false, false_and, ↓reduceIte, nat_add, nat_mul3, nat_mul4, nat_mul6, nat_mul15, nat_mul60, nat_cast, nc1, Int.reduceToNat, upE, upN, fill_ne, fill_in, i0, wd, Int.reduceMod])
      | rw [c_VoyageText_takesTest (by omega), b_VoyageText_takesTest_0]
      | with_reducible exact w1
      | (with_reducible refine rn_go ?_; simp (disch := omega) only [not_false_eq_true, not_true_eq_false, w32_id, tLt, fLt, tLe, fEq, itE, and_true, true_and, and_self, and_false, false_and, ↓reduceIte, nat_add, nat_mul3, nat_mul4, nat_mul6, nat_mul15, nat_mul60, nat_cast, nc1, Int.reduceToNat, upE, upN, fill_ne, fill_in, i0, wd, Int.reduceMod])
      | (with_reducible refine lf_go ?_; simp (disch := omega) only [not_false_eq_true, not_true_eq_false, w32_id, tLt, fLt, tLe, fEq, itE, and_true, true_and, and_self, and_false, false_and, ↓reduceIte, nat_add, nat_mul3, nat_mul4, nat_mul6, nat_mul15, nat_mul60, nat_cast, nc1, Int.reduceToNat, upE, upN, fill_ne, fill_in, i0, wd, Int.reduceMod])
      | with_reducible exact rfl
  · repeat' first
      | (with_reducible apply bR_go; (simp (disch := omega) only [rM L, rK L, rN L, rNf, rNv, rNp, rNd, rRow, rLeg, rMark, nat_cast, Int.reduceToNat, Int.reduceMod]; with_reducible exact rfl))
      | with_reducible apply bI_go
      | with_reducible apply bV_go
      | with_reducible apply bL_go
      | (with_reducible apply it_1; (first | omega | (simp (disch := omega) only [not_false_eq_true, not_true_eq_false, w32_id, tLt, fLt, tLe, fEq, itE, and_true, true_and, and_self, and_false, false_and, ↓reduceIte, nat_add, nat_mul3, nat_mul4, nat_mul6, nat_mul15, nat_mul60, nat_cast, nc1, Int.reduceToNat, upE, upN, fill_ne, fill_in, i0, Int.reduceMod] <;> omega)))
      | (with_reducible apply it_2; (first | omega | (simp (disch := omega) only [not_false_eq_true, not_true_eq_false, w32_id, tLt, fLt, tLe, fEq, itE, and_true, true_and, and_self, and_false, false_and, ↓reduceIte, nat_add, nat_mul3, nat_mul4, nat_mul6, nat_mul15, nat_mul60, nat_cast, nc1, Int.reduceToNat, upE, upN, fill_ne, fill_in, i0, Int.reduceMod] <;> omega)))
      | (with_reducible refine cl_go ?_; simp (disch := omega) only [not_false_eq_true, not_true_eq_false, w32_id, tLt, fLt, tLe, fEq, itE, and_true, true_and, and_self, and_false, false_and, ↓reduceIte, nat_add, nat_mul3, nat_mul4, nat_mul6, nat_mul15, nat_mul60, nat_cast, nc1, Int.reduceToNat, upE, upN, fill_ne, fill_in, i0, Int.reduceMod])
      | rw [c_Mo_voyageOrder (by omega), b_Mo_voyageOrder_0]
      | rw [c_Mo_test (by omega), b_Mo_test_0]
      | with_reducible exact iw
      | with_reducible exact w2
      | (with_reducible refine rn_go ?_; simp (disch := omega) only [not_false_eq_true, not_true_eq_false, w32_id, tLt, fLt, tLe, fEq, itE, and_true, true_and, and_self, and_false, false_and, ↓reduceIte, nat_add, nat_mul3, nat_mul4, nat_mul6, nat_mul15, nat_mul60, nat_cast, nc1, Int.reduceToNat, upE, upN, fill_ne, fill_in, i0, Int.reduceMod])
      | (with_reducible refine lf_go ?_; simp (disch := omega) only [not_false_eq_true, not_true_eq_false, w32_id, tLt, fLt, tLe, fEq, itE, and_true, true_and, and_self, and_false, false_and, ↓reduceIte, nat_add, nat_mul3, nat_mul4, nat_mul6, nat_mul15, nat_mul60, nat_cast, nc1, Int.reduceToNat, upE, upN, fill_ne, fill_in, i0, Int.reduceMod])
      | with_reducible exact rfl
theorem OR.step {q' : Nat} {R R' : Mm → (Nat → Int) → Nat → Prop} {o1 o1' o2 : Option Rs} {Mp Mq : Mm} (h : OR bt n q' L k c R o1 o2 Mp Mq) (fp : FcV k M1 Mp) (fq : FmV k M2 Mq) (hq : q ≤ q') (hR : ∀ M A k, R M A k → R' M A k) (ho : ∀ (b : Int) (M' : Mm), b = 0 ∨ b = 1 → o1 = some (some (vI b), SH L, M') → o1' = some (some (vI b), SH L, M')) : OR bt n q L k c R' o1' o2 M1 M2 := by
  rcases h with ⟨qa, ea, M1', M2', a1, a2, t, le, hs, r, fc, fd⟩ | ⟨M1', M2', a1, a2, f, fc, fd⟩
  · exact Or.inl ⟨qa, ea, M1', M2', ho _ _ (Or.inr rfl) a1, a2, t, by omega, hs, hR _ _ _ r, fp.trans fc, fq.trans fd⟩
  · exact Or.inr ⟨M1', M2', ho _ _ (Or.inl rfl) a1, a2, f, fp.trans fc, fq.trans fd⟩
/-- what a step of the word w looks like -/
def StW (w : Int) (M : Mm) (A : Nat → Int) (k : Nat) : Prop := (w = 25 ∨ w = 28) ∧ StB M A k ∨ ¬(w = 25 ∨ w = 28) ∧ StN M A k
set_option maxHeartbeats 4000000 in
theorem k_order (h1 : 11 ≤ d1) (h2 : 11 ≤ d2) (h : TK bt n q e M1 M2) (hN : NV M1 M2 c0 c1 c2 c3) (h5 : M1 98 5 = (k : Int)) (hk : k < 60) (h6 : M1 98 6 = c) (hc : 0 ≤ c ∧ c ≤ 60) {w : Int} (hw : 19 ≤ w ∧ w ≤ 25 ∨ w = 28 ∨ w = 30) (h0 : M2 272 (2494 + 6 * k) = kM w) : ∃ Mz, callD d2 m_Mo_ahead [vR 12 0 271] (SH L) M2 = some (none, SH L, Mz) ∧ OR bt n e L k c (StW w) (callD d1 m_VoyageText_takesStep [vR 6 0 12, vR 0 0 19, vR 3 0 98, vI w] (SH L) M1) (callD d2 m_Mo_voyageOrder [vR 12 0 271, vI (kM w), vI (2494 + 6 * (k : Int))] (SH L) Mz) M1 M2 := by
  obtain ⟨qa, ea, Mp, Mq, p1, p2, ta, la, fp, fq⟩ := k_adv (L := L) (d1 := d1 - 1) (d2 := d2) (by omega) (by omega) h
  have hM := hN.v (k := k) fp.v fq.v
  have g5 : Mp 98 5 = (k : Int) := by rw [fp _ _ (by omega)]; exact h5
  have g6 : Mp 98 6 = c := by rw [fp _ _ (by omega)]; exact h6
  have g0 : Mq 272 (2494 + 6 * k) = kM w := by rw [fq _ _ (by omega)]; exact h0
  have bd := ta.2.2.2.2.1.bd
  have cs : w = 19 ∨ w = 20 ∨ w = 21 ∨ w = 22 ∨ w = 23 ∨ w = 24 ∨ w = 25 ∨ w = 28 ∨ w = 30 := by omega
  refine ⟨Mq, p2, ?_⟩
  rcases cs with rfl | rfl | rfl | rfl | rfl | rfl | rfl | rfl | rfl
  · refine OR.step (o_day (L := L) (d1 := d1 - 1) (d2 := d2) (by omega) (by omega) ta g5 hk g6 hc g0) fp.v fq.v (by omega) (fun _ _ _ r => Or.inr ⟨by omega, r⟩) fun b M' hb e => ?_
    rcases hb with rfl | rfl
    · repeat' first
        | (with_reducible apply bR_go; (simp (disch := omega) only [rM L, rK L, rN L, rNf, rNv, rNp, rNd, rRow, rLeg, rMark, nat_cast, Int.reduceToNat, Int.reduceMod]; with_reducible exact rfl))
        | with_reducible apply bI_go
        | with_reducible apply bV_go
        | with_reducible apply bL_go
        | (with_reducible apply it_1; (first | omega | (simp (disch := omega) only [not_false_eq_true, not_true_eq_false, w32_id, tLt, fLt, tLe, fEq, itE, and_true, true_and, and_self, and_false, false_and, ↓reduceIte, nat_add, nat_mul3, nat_mul4, nat_mul6, nat_mul15, nat_mul60, nat_cast, nc1, Int.reduceToNat, upE, upN, fill_ne, fill_in, i0, Int.reduceMod] <;> omega)))
        | (with_reducible apply it_2; (first | omega | (simp (disch := omega) only [not_false_eq_true, not_true_eq_false, w32_id, tLt, fLt, tLe, fEq, itE, and_true, true_and, and_self, and_false, false_and, ↓reduceIte, nat_add, nat_mul3, nat_mul4, nat_mul6, nat_mul15, nat_mul60, nat_cast, nc1, Int.reduceToNat, upE, upN, fill_ne, fill_in, i0, Int.reduceMod] <;> omega)))
        | (with_reducible refine cl_go ?_; simp (disch := omega) only [not_false_eq_true, not_true_eq_false, w32_id, tLt, fLt, tLe, fEq, itE, and_true, true_and, and_self, and_false, false_and, ↓reduceIte, nat_add, nat_mul3, nat_mul4, nat_mul6, nat_mul15, nat_mul60, nat_cast, nc1, Int.reduceToNat, upE, upN, fill_ne, fill_in, i0, Int.reduceMod])
        | rw [c_VoyageText_takesStep (by omega), b_VoyageText_takesStep_0]
        | with_reducible exact p1
        | with_reducible exact e
        | (with_reducible refine rn_go ?_; simp (disch := omega) only [not_false_eq_true, not_true_eq_false, w32_id, tLt, fLt, tLe, fEq, itE, and_true, true_and, and_self, and_false, false_and, ↓reduceIte, nat_add, nat_mul3, nat_mul4, nat_mul6, nat_mul15, nat_mul60, nat_cast, nc1, Int.reduceToNat, upE, upN, fill_ne, fill_in, i0, Int.reduceMod])
        | (with_reducible refine lf_go ?_; simp (disch := omega) only [not_false_eq_true, not_true_eq_false, w32_id, tLt, fLt, tLe, fEq, itE, and_true, true_and, and_self, and_false, false_and, ↓reduceIte, nat_add, nat_mul3, nat_mul4, nat_mul6, nat_mul15, nat_mul60, nat_cast, nc1, Int.reduceToNat, upE, upN, fill_ne, fill_in, i0, Int.reduceMod])
        | with_reducible exact rfl
    · repeat' first
        | (with_reducible apply bR_go; (simp (disch := omega) only [rM L, rK L, rN L, rNf, rNv, rNp, rNd, rRow, rLeg, rMark, nat_cast, Int.reduceToNat, Int.reduceMod]; with_reducible exact rfl))
        | with_reducible apply bI_go
        | with_reducible apply bV_go
        | with_reducible apply bL_go
        | (with_reducible apply it_1; (first | omega | (simp (disch := omega) only [not_false_eq_true, not_true_eq_false, w32_id, tLt, fLt, tLe, fEq, itE, and_true, true_and, and_self, and_false, false_and, ↓reduceIte, nat_add, nat_mul3, nat_mul4, nat_mul6, nat_mul15, nat_mul60, nat_cast, nc1, Int.reduceToNat, upE, upN, fill_ne, fill_in, i0, Int.reduceMod] <;> omega)))
        | (with_reducible apply it_2; (first | omega | (simp (disch := omega) only [not_false_eq_true, not_true_eq_false, w32_id, tLt, fLt, tLe, fEq, itE, and_true, true_and, and_self, and_false, false_and, ↓reduceIte, nat_add, nat_mul3, nat_mul4, nat_mul6, nat_mul15, nat_mul60, nat_cast, nc1, Int.reduceToNat, upE, upN, fill_ne, fill_in, i0, Int.reduceMod] <;> omega)))
        | (with_reducible refine cl_go ?_; simp (disch := omega) only [not_false_eq_true, not_true_eq_false, w32_id, tLt, fLt, tLe, fEq, itE, and_true, true_and, and_self, and_false, false_and, ↓reduceIte, nat_add, nat_mul3, nat_mul4, nat_mul6, nat_mul15, nat_mul60, nat_cast, nc1, Int.reduceToNat, upE, upN, fill_ne, fill_in, i0, Int.reduceMod])
        | rw [c_VoyageText_takesStep (by omega), b_VoyageText_takesStep_0]
        | with_reducible exact p1
        | with_reducible exact e
        | (with_reducible refine rn_go ?_; simp (disch := omega) only [not_false_eq_true, not_true_eq_false, w32_id, tLt, fLt, tLe, fEq, itE, and_true, true_and, and_self, and_false, false_and, ↓reduceIte, nat_add, nat_mul3, nat_mul4, nat_mul6, nat_mul15, nat_mul60, nat_cast, nc1, Int.reduceToNat, upE, upN, fill_ne, fill_in, i0, Int.reduceMod])
        | (with_reducible refine lf_go ?_; simp (disch := omega) only [not_false_eq_true, not_true_eq_false, w32_id, tLt, fLt, tLe, fEq, itE, and_true, true_and, and_self, and_false, false_and, ↓reduceIte, nat_add, nat_mul3, nat_mul4, nat_mul6, nat_mul15, nat_mul60, nat_cast, nc1, Int.reduceToNat, upE, upN, fill_ne, fill_in, i0, Int.reduceMod])
        | with_reducible exact rfl
  · refine OR.step (o_lading (L := L) (d1 := d1 - 1) (d2 := d2) (by omega) (by omega) ta hM g5 hk g6 hc (x := 1) (w := 20) (Or.inl ⟨rfl, rfl⟩) g0) fp.v fq.v (by omega) (fun _ _ _ r => Or.inr ⟨by omega, r⟩) fun b M' hb e => ?_
    rcases hb with rfl | rfl
    · repeat' first
        | (with_reducible apply bR_go; (simp (disch := omega) only [rM L, rK L, rN L, rNf, rNv, rNp, rNd, rRow, rLeg, rMark, nat_cast, Int.reduceToNat, Int.reduceMod]; with_reducible exact rfl))
        | with_reducible apply bI_go
        | with_reducible apply bV_go
        | with_reducible apply bL_go
        | (with_reducible apply it_1; (first | omega | (simp (disch := omega) only [not_false_eq_true, not_true_eq_false, w32_id, tLt, fLt, tLe, fEq, itE, and_true, true_and, and_self, and_false, false_and, ↓reduceIte, nat_add, nat_mul3, nat_mul4, nat_mul6, nat_mul15, nat_mul60, nat_cast, nc1, Int.reduceToNat, upE, upN, fill_ne, fill_in, i0, Int.reduceMod] <;> omega)))
        | (with_reducible apply it_2; (first | omega | (simp (disch := omega) only [not_false_eq_true, not_true_eq_false, w32_id, tLt, fLt, tLe, fEq, itE, and_true, true_and, and_self, and_false, false_and, ↓reduceIte, nat_add, nat_mul3, nat_mul4, nat_mul6, nat_mul15, nat_mul60, nat_cast, nc1, Int.reduceToNat, upE, upN, fill_ne, fill_in, i0, Int.reduceMod] <;> omega)))
        | (with_reducible refine cl_go ?_; simp (disch := omega) only [not_false_eq_true, not_true_eq_false, w32_id, tLt, fLt, tLe, fEq, itE, and_true, true_and, and_self, and_false, false_and, ↓reduceIte, nat_add, nat_mul3, nat_mul4, nat_mul6, nat_mul15, nat_mul60, nat_cast, nc1, Int.reduceToNat, upE, upN, fill_ne, fill_in, i0, Int.reduceMod])
        | rw [c_VoyageText_takesStep (by omega), b_VoyageText_takesStep_0]
        | with_reducible exact p1
        | with_reducible exact e
        | (with_reducible refine rn_go ?_; simp (disch := omega) only [not_false_eq_true, not_true_eq_false, w32_id, tLt, fLt, tLe, fEq, itE, and_true, true_and, and_self, and_false, false_and, ↓reduceIte, nat_add, nat_mul3, nat_mul4, nat_mul6, nat_mul15, nat_mul60, nat_cast, nc1, Int.reduceToNat, upE, upN, fill_ne, fill_in, i0, Int.reduceMod])
        | (with_reducible refine lf_go ?_; simp (disch := omega) only [not_false_eq_true, not_true_eq_false, w32_id, tLt, fLt, tLe, fEq, itE, and_true, true_and, and_self, and_false, false_and, ↓reduceIte, nat_add, nat_mul3, nat_mul4, nat_mul6, nat_mul15, nat_mul60, nat_cast, nc1, Int.reduceToNat, upE, upN, fill_ne, fill_in, i0, Int.reduceMod])
        | with_reducible exact rfl
    · repeat' first
        | (with_reducible apply bR_go; (simp (disch := omega) only [rM L, rK L, rN L, rNf, rNv, rNp, rNd, rRow, rLeg, rMark, nat_cast, Int.reduceToNat, Int.reduceMod]; with_reducible exact rfl))
        | with_reducible apply bI_go
        | with_reducible apply bV_go
        | with_reducible apply bL_go
        | (with_reducible apply it_1; (first | omega | (simp (disch := omega) only [not_false_eq_true, not_true_eq_false, w32_id, tLt, fLt, tLe, fEq, itE, and_true, true_and, and_self, and_false, false_and, ↓reduceIte, nat_add, nat_mul3, nat_mul4, nat_mul6, nat_mul15, nat_mul60, nat_cast, nc1, Int.reduceToNat, upE, upN, fill_ne, fill_in, i0, Int.reduceMod] <;> omega)))
        | (with_reducible apply it_2; (first | omega | (simp (disch := omega) only [not_false_eq_true, not_true_eq_false, w32_id, tLt, fLt, tLe, fEq, itE, and_true, true_and, and_self, and_false, false_and, ↓reduceIte, nat_add, nat_mul3, nat_mul4, nat_mul6, nat_mul15, nat_mul60, nat_cast, nc1, Int.reduceToNat, upE, upN, fill_ne, fill_in, i0, Int.reduceMod] <;> omega)))
        | (with_reducible refine cl_go ?_; simp (disch := omega) only [not_false_eq_true, not_true_eq_false, w32_id, tLt, fLt, tLe, fEq, itE, and_true, true_and, and_self, and_false, false_and, ↓reduceIte, nat_add, nat_mul3, nat_mul4, nat_mul6, nat_mul15, nat_mul60, nat_cast, nc1, Int.reduceToNat, upE, upN, fill_ne, fill_in, i0, Int.reduceMod])
        | rw [c_VoyageText_takesStep (by omega), b_VoyageText_takesStep_0]
        | with_reducible exact p1
        | with_reducible exact e
        | (with_reducible refine rn_go ?_; simp (disch := omega) only [not_false_eq_true, not_true_eq_false, w32_id, tLt, fLt, tLe, fEq, itE, and_true, true_and, and_self, and_false, false_and, ↓reduceIte, nat_add, nat_mul3, nat_mul4, nat_mul6, nat_mul15, nat_mul60, nat_cast, nc1, Int.reduceToNat, upE, upN, fill_ne, fill_in, i0, Int.reduceMod])
        | (with_reducible refine lf_go ?_; simp (disch := omega) only [not_false_eq_true, not_true_eq_false, w32_id, tLt, fLt, tLe, fEq, itE, and_true, true_and, and_self, and_false, false_and, ↓reduceIte, nat_add, nat_mul3, nat_mul4, nat_mul6, nat_mul15, nat_mul60, nat_cast, nc1, Int.reduceToNat, upE, upN, fill_ne, fill_in, i0, Int.reduceMod])
        | with_reducible exact rfl
  · refine OR.step (o_lading (L := L) (d1 := d1 - 1) (d2 := d2) (by omega) (by omega) ta hM g5 hk g6 hc (x := 2) (w := 21) (Or.inr (Or.inl ⟨rfl, rfl⟩)) g0) fp.v fq.v (by omega) (fun _ _ _ r => Or.inr ⟨by omega, r⟩) fun b M' hb e => ?_
    rcases hb with rfl | rfl
    · repeat' first
        | (with_reducible apply bR_go; (simp (disch := omega) only [rM L, rK L, rN L, rNf, rNv, rNp, rNd, rRow, rLeg, rMark, nat_cast, Int.reduceToNat, Int.reduceMod]; with_reducible exact rfl))
        | with_reducible apply bI_go
        | with_reducible apply bV_go
        | with_reducible apply bL_go
        | (with_reducible apply it_1; (first | omega | (simp (disch := omega) only [not_false_eq_true, not_true_eq_false, w32_id, tLt, fLt, tLe, fEq, itE, and_true, true_and, and_self, and_false, false_and, ↓reduceIte, nat_add, nat_mul3, nat_mul4, nat_mul6, nat_mul15, nat_mul60, nat_cast, nc1, Int.reduceToNat, upE, upN, fill_ne, fill_in, i0, Int.reduceMod] <;> omega)))
        | (with_reducible apply it_2; (first | omega | (simp (disch := omega) only [not_false_eq_true, not_true_eq_false, w32_id, tLt, fLt, tLe, fEq, itE, and_true, true_and, and_self, and_false, false_and, ↓reduceIte, nat_add, nat_mul3, nat_mul4, nat_mul6, nat_mul15, nat_mul60, nat_cast, nc1, Int.reduceToNat, upE, upN, fill_ne, fill_in, i0, Int.reduceMod] <;> omega)))
        | (with_reducible refine cl_go ?_; simp (disch := omega) only [not_false_eq_true, not_true_eq_false, w32_id, tLt, fLt, tLe, fEq, itE, and_true, true_and, and_self, and_false, false_and, ↓reduceIte, nat_add, nat_mul3, nat_mul4, nat_mul6, nat_mul15, nat_mul60, nat_cast, nc1, Int.reduceToNat, upE, upN, fill_ne, fill_in, i0, Int.reduceMod])
        | rw [c_VoyageText_takesStep (by omega), b_VoyageText_takesStep_0]
        | with_reducible exact p1
        | with_reducible exact e
        | (with_reducible refine rn_go ?_; simp (disch := omega) only [not_false_eq_true, not_true_eq_false, w32_id, tLt, fLt, tLe, fEq, itE, and_true, true_and, and_self, and_false, false_and, ↓reduceIte, nat_add, nat_mul3, nat_mul4, nat_mul6, nat_mul15, nat_mul60, nat_cast, nc1, Int.reduceToNat, upE, upN, fill_ne, fill_in, i0, Int.reduceMod])
        | (with_reducible refine lf_go ?_; simp (disch := omega) only [not_false_eq_true, not_true_eq_false, w32_id, tLt, fLt, tLe, fEq, itE, and_true, true_and, and_self, and_false, false_and, ↓reduceIte, nat_add, nat_mul3, nat_mul4, nat_mul6, nat_mul15, nat_mul60, nat_cast, nc1, Int.reduceToNat, upE, upN, fill_ne, fill_in, i0, Int.reduceMod])
        | with_reducible exact rfl
    · repeat' first
        | (with_reducible apply bR_go; (simp (disch := omega) only [rM L, rK L, rN L, rNf, rNv, rNp, rNd, rRow, rLeg, rMark, nat_cast, Int.reduceToNat, Int.reduceMod]; with_reducible exact rfl))
        | with_reducible apply bI_go
        | with_reducible apply bV_go
        | with_reducible apply bL_go
        | (with_reducible apply it_1; (first | omega | (simp (disch := omega) only [not_false_eq_true, not_true_eq_false, w32_id, tLt, fLt, tLe, fEq, itE, and_true, true_and, and_self, and_false, false_and, ↓reduceIte, nat_add, nat_mul3, nat_mul4, nat_mul6, nat_mul15, nat_mul60, nat_cast, nc1, Int.reduceToNat, upE, upN, fill_ne, fill_in, i0, Int.reduceMod] <;> omega)))
        | (with_reducible apply it_2; (first | omega | (simp (disch := omega) only [not_false_eq_true, not_true_eq_false, w32_id, tLt, fLt, tLe, fEq, itE, and_true, true_and, and_self, and_false, false_and, ↓reduceIte, nat_add, nat_mul3, nat_mul4, nat_mul6, nat_mul15, nat_mul60, nat_cast, nc1, Int.reduceToNat, upE, upN, fill_ne, fill_in, i0, Int.reduceMod] <;> omega)))
        | (with_reducible refine cl_go ?_; simp (disch := omega) only [not_false_eq_true, not_true_eq_false, w32_id, tLt, fLt, tLe, fEq, itE, and_true, true_and, and_self, and_false, false_and, ↓reduceIte, nat_add, nat_mul3, nat_mul4, nat_mul6, nat_mul15, nat_mul60, nat_cast, nc1, Int.reduceToNat, upE, upN, fill_ne, fill_in, i0, Int.reduceMod])
        | rw [c_VoyageText_takesStep (by omega), b_VoyageText_takesStep_0]
        | with_reducible exact p1
        | with_reducible exact e
        | (with_reducible refine rn_go ?_; simp (disch := omega) only [not_false_eq_true, not_true_eq_false, w32_id, tLt, fLt, tLe, fEq, itE, and_true, true_and, and_self, and_false, false_and, ↓reduceIte, nat_add, nat_mul3, nat_mul4, nat_mul6, nat_mul15, nat_mul60, nat_cast, nc1, Int.reduceToNat, upE, upN, fill_ne, fill_in, i0, Int.reduceMod])
        | (with_reducible refine lf_go ?_; simp (disch := omega) only [not_false_eq_true, not_true_eq_false, w32_id, tLt, fLt, tLe, fEq, itE, and_true, true_and, and_self, and_false, false_and, ↓reduceIte, nat_add, nat_mul3, nat_mul4, nat_mul6, nat_mul15, nat_mul60, nat_cast, nc1, Int.reduceToNat, upE, upN, fill_ne, fill_in, i0, Int.reduceMod])
        | with_reducible exact rfl
  · refine OR.step (o_lading (L := L) (d1 := d1 - 1) (d2 := d2) (by omega) (by omega) ta hM g5 hk g6 hc (x := 3) (w := 22) (Or.inr (Or.inr ⟨rfl, rfl⟩)) g0) fp.v fq.v (by omega) (fun _ _ _ r => Or.inr ⟨by omega, r⟩) fun b M' hb e => ?_
    rcases hb with rfl | rfl
    · repeat' first
        | (with_reducible apply bR_go; (simp (disch := omega) only [rM L, rK L, rN L, rNf, rNv, rNp, rNd, rRow, rLeg, rMark, nat_cast, Int.reduceToNat, Int.reduceMod]; with_reducible exact rfl))
        | with_reducible apply bI_go
        | with_reducible apply bV_go
        | with_reducible apply bL_go
        | (with_reducible apply it_1; (first | omega | (simp (disch := omega) only [not_false_eq_true, not_true_eq_false, w32_id, tLt, fLt, tLe, fEq, itE, and_true, true_and, and_self, and_false, false_and, ↓reduceIte, nat_add, nat_mul3, nat_mul4, nat_mul6, nat_mul15, nat_mul60, nat_cast, nc1, Int.reduceToNat, upE, upN, fill_ne, fill_in, i0, Int.reduceMod] <;> omega)))
        | (with_reducible apply it_2; (first | omega | (simp (disch := omega) only [not_false_eq_true, not_true_eq_false, w32_id, tLt, fLt, tLe, fEq, itE, and_true, true_and, and_self, and_false, false_and, ↓reduceIte, nat_add, nat_mul3, nat_mul4, nat_mul6, nat_mul15, nat_mul60, nat_cast, nc1, Int.reduceToNat, upE, upN, fill_ne, fill_in, i0, Int.reduceMod] <;> omega)))
        | (with_reducible refine cl_go ?_; simp (disch := omega) only [not_false_eq_true, not_true_eq_false, w32_id, tLt, fLt, tLe, fEq, itE, and_true, true_and, and_self, and_false, false_and, ↓reduceIte, nat_add, nat_mul3, nat_mul4, nat_mul6, nat_mul15, nat_mul60, nat_cast, nc1, Int.reduceToNat, upE, upN, fill_ne, fill_in, i0, Int.reduceMod])
        | rw [c_VoyageText_takesStep (by omega), b_VoyageText_takesStep_0]
        | with_reducible exact p1
        | with_reducible exact e
        | (with_reducible refine rn_go ?_; simp (disch := omega) only [not_false_eq_true, not_true_eq_false, w32_id, tLt, fLt, tLe, fEq, itE, and_true, true_and, and_self, and_false, false_and, ↓reduceIte, nat_add, nat_mul3, nat_mul4, nat_mul6, nat_mul15, nat_mul60, nat_cast, nc1, Int.reduceToNat, upE, upN, fill_ne, fill_in, i0, Int.reduceMod])
        | (with_reducible refine lf_go ?_; simp (disch := omega) only [not_false_eq_true, not_true_eq_false, w32_id, tLt, fLt, tLe, fEq, itE, and_true, true_and, and_self, and_false, false_and, ↓reduceIte, nat_add, nat_mul3, nat_mul4, nat_mul6, nat_mul15, nat_mul60, nat_cast, nc1, Int.reduceToNat, upE, upN, fill_ne, fill_in, i0, Int.reduceMod])
        | with_reducible exact rfl
    · repeat' first
        | (with_reducible apply bR_go; (simp (disch := omega) only [rM L, rK L, rN L, rNf, rNv, rNp, rNd, rRow, rLeg, rMark, nat_cast, Int.reduceToNat, Int.reduceMod]; with_reducible exact rfl))
        | with_reducible apply bI_go
        | with_reducible apply bV_go
        | with_reducible apply bL_go
        | (with_reducible apply it_1; (first | omega | (simp (disch := omega) only [not_false_eq_true, not_true_eq_false, w32_id, tLt, fLt, tLe, fEq, itE, and_true, true_and, and_self, and_false, false_and, ↓reduceIte, nat_add, nat_mul3, nat_mul4, nat_mul6, nat_mul15, nat_mul60, nat_cast, nc1, Int.reduceToNat, upE, upN, fill_ne, fill_in, i0, Int.reduceMod] <;> omega)))
        | (with_reducible apply it_2; (first | omega | (simp (disch := omega) only [not_false_eq_true, not_true_eq_false, w32_id, tLt, fLt, tLe, fEq, itE, and_true, true_and, and_self, and_false, false_and, ↓reduceIte, nat_add, nat_mul3, nat_mul4, nat_mul6, nat_mul15, nat_mul60, nat_cast, nc1, Int.reduceToNat, upE, upN, fill_ne, fill_in, i0, Int.reduceMod] <;> omega)))
        | (with_reducible refine cl_go ?_; simp (disch := omega) only [not_false_eq_true, not_true_eq_false, w32_id, tLt, fLt, tLe, fEq, itE, and_true, true_and, and_self, and_false, false_and, ↓reduceIte, nat_add, nat_mul3, nat_mul4, nat_mul6, nat_mul15, nat_mul60, nat_cast, nc1, Int.reduceToNat, upE, upN, fill_ne, fill_in, i0, Int.reduceMod])
        | rw [c_VoyageText_takesStep (by omega), b_VoyageText_takesStep_0]
        | with_reducible exact p1
        | with_reducible exact e
        | (with_reducible refine rn_go ?_; simp (disch := omega) only [not_false_eq_true, not_true_eq_false, w32_id, tLt, fLt, tLe, fEq, itE, and_true, true_and, and_self, and_false, false_and, ↓reduceIte, nat_add, nat_mul3, nat_mul4, nat_mul6, nat_mul15, nat_mul60, nat_cast, nc1, Int.reduceToNat, upE, upN, fill_ne, fill_in, i0, Int.reduceMod])
        | (with_reducible refine lf_go ?_; simp (disch := omega) only [not_false_eq_true, not_true_eq_false, w32_id, tLt, fLt, tLe, fEq, itE, and_true, true_and, and_self, and_false, false_and, ↓reduceIte, nat_add, nat_mul3, nat_mul4, nat_mul6, nat_mul15, nat_mul60, nat_cast, nc1, Int.reduceToNat, upE, upN, fill_ne, fill_in, i0, Int.reduceMod])
        | with_reducible exact rfl
  · refine OR.step (o_sail (L := L) (d1 := d1 - 1) (d2 := d2) (by omega) (by omega) ta hM g5 hk g6 hc g0) fp.v fq.v (by omega) (fun _ _ _ r => Or.inr ⟨by omega, r⟩) fun b M' hb e => ?_
    rcases hb with rfl | rfl
    · repeat' first
        | (with_reducible apply bR_go; (simp (disch := omega) only [rM L, rK L, rN L, rNf, rNv, rNp, rNd, rRow, rLeg, rMark, nat_cast, Int.reduceToNat, Int.reduceMod]; with_reducible exact rfl))
        | with_reducible apply bI_go
        | with_reducible apply bV_go
        | with_reducible apply bL_go
        | (with_reducible apply it_1; (first | omega | (simp (disch := omega) only [not_false_eq_true, not_true_eq_false, w32_id, tLt, fLt, tLe, fEq, itE, and_true, true_and, and_self, and_false, false_and, ↓reduceIte, nat_add, nat_mul3, nat_mul4, nat_mul6, nat_mul15, nat_mul60, nat_cast, nc1, Int.reduceToNat, upE, upN, fill_ne, fill_in, i0, Int.reduceMod] <;> omega)))
        | (with_reducible apply it_2; (first | omega | (simp (disch := omega) only [not_false_eq_true, not_true_eq_false, w32_id, tLt, fLt, tLe, fEq, itE, and_true, true_and, and_self, and_false, false_and, ↓reduceIte, nat_add, nat_mul3, nat_mul4, nat_mul6, nat_mul15, nat_mul60, nat_cast, nc1, Int.reduceToNat, upE, upN, fill_ne, fill_in, i0, Int.reduceMod] <;> omega)))
        | (with_reducible refine cl_go ?_; simp (disch := omega) only [not_false_eq_true, not_true_eq_false, w32_id, tLt, fLt, tLe, fEq, itE, and_true, true_and, and_self, and_false, false_and, ↓reduceIte, nat_add, nat_mul3, nat_mul4, nat_mul6, nat_mul15, nat_mul60, nat_cast, nc1, Int.reduceToNat, upE, upN, fill_ne, fill_in, i0, Int.reduceMod])
        | rw [c_VoyageText_takesStep (by omega), b_VoyageText_takesStep_0]
        | with_reducible exact p1
        | with_reducible exact e
        | (with_reducible refine rn_go ?_; simp (disch := omega) only [not_false_eq_true, not_true_eq_false, w32_id, tLt, fLt, tLe, fEq, itE, and_true, true_and, and_self, and_false, false_and, ↓reduceIte, nat_add, nat_mul3, nat_mul4, nat_mul6, nat_mul15, nat_mul60, nat_cast, nc1, Int.reduceToNat, upE, upN, fill_ne, fill_in, i0, Int.reduceMod])
        | (with_reducible refine lf_go ?_; simp (disch := omega) only [not_false_eq_true, not_true_eq_false, w32_id, tLt, fLt, tLe, fEq, itE, and_true, true_and, and_self, and_false, false_and, ↓reduceIte, nat_add, nat_mul3, nat_mul4, nat_mul6, nat_mul15, nat_mul60, nat_cast, nc1, Int.reduceToNat, upE, upN, fill_ne, fill_in, i0, Int.reduceMod])
        | with_reducible exact rfl
    · repeat' first
        | (with_reducible apply bR_go; (simp (disch := omega) only [rM L, rK L, rN L, rNf, rNv, rNp, rNd, rRow, rLeg, rMark, nat_cast, Int.reduceToNat, Int.reduceMod]; with_reducible exact rfl))
        | with_reducible apply bI_go
        | with_reducible apply bV_go
        | with_reducible apply bL_go
        | (with_reducible apply it_1; (first | omega | (simp (disch := omega) only [not_false_eq_true, not_true_eq_false, w32_id, tLt, fLt, tLe, fEq, itE, and_true, true_and, and_self, and_false, false_and, ↓reduceIte, nat_add, nat_mul3, nat_mul4, nat_mul6, nat_mul15, nat_mul60, nat_cast, nc1, Int.reduceToNat, upE, upN, fill_ne, fill_in, i0, Int.reduceMod] <;> omega)))
        | (with_reducible apply it_2; (first | omega | (simp (disch := omega) only [not_false_eq_true, not_true_eq_false, w32_id, tLt, fLt, tLe, fEq, itE, and_true, true_and, and_self, and_false, false_and, ↓reduceIte, nat_add, nat_mul3, nat_mul4, nat_mul6, nat_mul15, nat_mul60, nat_cast, nc1, Int.reduceToNat, upE, upN, fill_ne, fill_in, i0, Int.reduceMod] <;> omega)))
        | (with_reducible refine cl_go ?_; simp (disch := omega) only [not_false_eq_true, not_true_eq_false, w32_id, tLt, fLt, tLe, fEq, itE, and_true, true_and, and_self, and_false, false_and, ↓reduceIte, nat_add, nat_mul3, nat_mul4, nat_mul6, nat_mul15, nat_mul60, nat_cast, nc1, Int.reduceToNat, upE, upN, fill_ne, fill_in, i0, Int.reduceMod])
        | rw [c_VoyageText_takesStep (by omega), b_VoyageText_takesStep_0]
        | with_reducible exact p1
        | with_reducible exact e
        | (with_reducible refine rn_go ?_; simp (disch := omega) only [not_false_eq_true, not_true_eq_false, w32_id, tLt, fLt, tLe, fEq, itE, and_true, true_and, and_self, and_false, false_and, ↓reduceIte, nat_add, nat_mul3, nat_mul4, nat_mul6, nat_mul15, nat_mul60, nat_cast, nc1, Int.reduceToNat, upE, upN, fill_ne, fill_in, i0, Int.reduceMod])
        | (with_reducible refine lf_go ?_; simp (disch := omega) only [not_false_eq_true, not_true_eq_false, w32_id, tLt, fLt, tLe, fEq, itE, and_true, true_and, and_self, and_false, false_and, ↓reduceIte, nat_add, nat_mul3, nat_mul4, nat_mul6, nat_mul15, nat_mul60, nat_cast, nc1, Int.reduceToNat, upE, upN, fill_ne, fill_in, i0, Int.reduceMod])
        | with_reducible exact rfl
  · refine OR.step (o_any (L := L) (d1 := d1 - 1) (d2 := d2) (by omega) (by omega) ta hM g5 hk g6 hc g0) fp.v fq.v (by omega) (fun _ _ _ r => Or.inr ⟨by omega, r⟩) fun b M' hb e => ?_
    rcases hb with rfl | rfl
    · repeat' first
        | (with_reducible apply bR_go; (simp (disch := omega) only [rM L, rK L, rN L, rNf, rNv, rNp, rNd, rRow, rLeg, rMark, nat_cast, Int.reduceToNat, Int.reduceMod]; with_reducible exact rfl))
        | with_reducible apply bI_go
        | with_reducible apply bV_go
        | with_reducible apply bL_go
        | (with_reducible apply it_1; (first | omega | (simp (disch := omega) only [not_false_eq_true, not_true_eq_false, w32_id, tLt, fLt, tLe, fEq, itE, and_true, true_and, and_self, and_false, false_and, ↓reduceIte, nat_add, nat_mul3, nat_mul4, nat_mul6, nat_mul15, nat_mul60, nat_cast, nc1, Int.reduceToNat, upE, upN, fill_ne, fill_in, i0, Int.reduceMod] <;> omega)))
        | (with_reducible apply it_2; (first | omega | (simp (disch := omega) only [not_false_eq_true, not_true_eq_false, w32_id, tLt, fLt, tLe, fEq, itE, and_true, true_and, and_self, and_false, false_and, ↓reduceIte, nat_add, nat_mul3, nat_mul4, nat_mul6, nat_mul15, nat_mul60, nat_cast, nc1, Int.reduceToNat, upE, upN, fill_ne, fill_in, i0, Int.reduceMod] <;> omega)))
        | (with_reducible refine cl_go ?_; simp (disch := omega) only [not_false_eq_true, not_true_eq_false, w32_id, tLt, fLt, tLe, fEq, itE, and_true, true_and, and_self, and_false, false_and, ↓reduceIte, nat_add, nat_mul3, nat_mul4, nat_mul6, nat_mul15, nat_mul60, nat_cast, nc1, Int.reduceToNat, upE, upN, fill_ne, fill_in, i0, Int.reduceMod])
        | rw [c_VoyageText_takesStep (by omega), b_VoyageText_takesStep_0]
        | with_reducible exact p1
        | with_reducible exact e
        | (with_reducible refine rn_go ?_; simp (disch := omega) only [not_false_eq_true, not_true_eq_false, w32_id, tLt, fLt, tLe, fEq, itE, and_true, true_and, and_self, and_false, false_and, ↓reduceIte, nat_add, nat_mul3, nat_mul4, nat_mul6, nat_mul15, nat_mul60, nat_cast, nc1, Int.reduceToNat, upE, upN, fill_ne, fill_in, i0, Int.reduceMod])
        | (with_reducible refine lf_go ?_; simp (disch := omega) only [not_false_eq_true, not_true_eq_false, w32_id, tLt, fLt, tLe, fEq, itE, and_true, true_and, and_self, and_false, false_and, ↓reduceIte, nat_add, nat_mul3, nat_mul4, nat_mul6, nat_mul15, nat_mul60, nat_cast, nc1, Int.reduceToNat, upE, upN, fill_ne, fill_in, i0, Int.reduceMod])
        | with_reducible exact rfl
    · repeat' first
        | (with_reducible apply bR_go; (simp (disch := omega) only [rM L, rK L, rN L, rNf, rNv, rNp, rNd, rRow, rLeg, rMark, nat_cast, Int.reduceToNat, Int.reduceMod]; with_reducible exact rfl))
        | with_reducible apply bI_go
        | with_reducible apply bV_go
        | with_reducible apply bL_go
        | (with_reducible apply it_1; (first | omega | (simp (disch := omega) only [not_false_eq_true, not_true_eq_false, w32_id, tLt, fLt, tLe, fEq, itE, and_true, true_and, and_self, and_false, false_and, ↓reduceIte, nat_add, nat_mul3, nat_mul4, nat_mul6, nat_mul15, nat_mul60, nat_cast, nc1, Int.reduceToNat, upE, upN, fill_ne, fill_in, i0, Int.reduceMod] <;> omega)))
        | (with_reducible apply it_2; (first | omega | (simp (disch := omega) only [not_false_eq_true, not_true_eq_false, w32_id, tLt, fLt, tLe, fEq, itE, and_true, true_and, and_self, and_false, false_and, ↓reduceIte, nat_add, nat_mul3, nat_mul4, nat_mul6, nat_mul15, nat_mul60, nat_cast, nc1, Int.reduceToNat, upE, upN, fill_ne, fill_in, i0, Int.reduceMod] <;> omega)))
        | (with_reducible refine cl_go ?_; simp (disch := omega) only [not_false_eq_true, not_true_eq_false, w32_id, tLt, fLt, tLe, fEq, itE, and_true, true_and, and_self, and_false, false_and, ↓reduceIte, nat_add, nat_mul3, nat_mul4, nat_mul6, nat_mul15, nat_mul60, nat_cast, nc1, Int.reduceToNat, upE, upN, fill_ne, fill_in, i0, Int.reduceMod])
        | rw [c_VoyageText_takesStep (by omega), b_VoyageText_takesStep_0]
        | with_reducible exact p1
        | with_reducible exact e
        | (with_reducible refine rn_go ?_; simp (disch := omega) only [not_false_eq_true, not_true_eq_false, w32_id, tLt, fLt, tLe, fEq, itE, and_true, true_and, and_self, and_false, false_and, ↓reduceIte, nat_add, nat_mul3, nat_mul4, nat_mul6, nat_mul15, nat_mul60, nat_cast, nc1, Int.reduceToNat, upE, upN, fill_ne, fill_in, i0, Int.reduceMod])
        | (with_reducible refine lf_go ?_; simp (disch := omega) only [not_false_eq_true, not_true_eq_false, w32_id, tLt, fLt, tLe, fEq, itE, and_true, true_and, and_self, and_false, false_and, ↓reduceIte, nat_add, nat_mul3, nat_mul4, nat_mul6, nat_mul15, nat_mul60, nat_cast, nc1, Int.reduceToNat, upE, upN, fill_ne, fill_in, i0, Int.reduceMod])
        | with_reducible exact rfl
  · refine OR.step (o_test (L := L) (d1 := d1 - 1) (d2 := d2) (by omega) (by omega) ta hM g5 hk g6 hc) fp.v fq.v (by omega) (fun _ _ _ r => Or.inl ⟨by omega, r⟩) fun b M' hb e => ?_
    rcases hb with rfl | rfl
    · repeat' first
        | (with_reducible apply bR_go; (simp (disch := omega) only [rM L, rK L, rN L, rNf, rNv, rNp, rNd, rRow, rLeg, rMark, nat_cast, Int.reduceToNat, Int.reduceMod]; with_reducible exact rfl))
        | with_reducible apply bI_go
        | with_reducible apply bV_go
        | with_reducible apply bL_go
        | (with_reducible apply it_1; (first | omega | (simp (disch := omega) only [not_false_eq_true, not_true_eq_false, w32_id, tLt, fLt, tLe, fEq, itE, and_true, true_and, and_self, and_false, false_and, ↓reduceIte, nat_add, nat_mul3, nat_mul4, nat_mul6, nat_mul15, nat_mul60, nat_cast, nc1, Int.reduceToNat, upE, upN, fill_ne, fill_in, i0, Int.reduceMod] <;> omega)))
        | (with_reducible apply it_2; (first | omega | (simp (disch := omega) only [not_false_eq_true, not_true_eq_false, w32_id, tLt, fLt, tLe, fEq, itE, and_true, true_and, and_self, and_false, false_and, ↓reduceIte, nat_add, nat_mul3, nat_mul4, nat_mul6, nat_mul15, nat_mul60, nat_cast, nc1, Int.reduceToNat, upE, upN, fill_ne, fill_in, i0, Int.reduceMod] <;> omega)))
        | (with_reducible refine cl_go ?_; simp (disch := omega) only [not_false_eq_true, not_true_eq_false, w32_id, tLt, fLt, tLe, fEq, itE, and_true, true_and, and_self, and_false, false_and, ↓reduceIte, nat_add, nat_mul3, nat_mul4, nat_mul6, nat_mul15, nat_mul60, nat_cast, nc1, Int.reduceToNat, upE, upN, fill_ne, fill_in, i0, Int.reduceMod])
        | rw [c_VoyageText_takesStep (by omega), b_VoyageText_takesStep_0]
        | with_reducible exact p1
        | with_reducible exact e
        | (with_reducible refine rn_go ?_; simp (disch := omega) only [not_false_eq_true, not_true_eq_false, w32_id, tLt, fLt, tLe, fEq, itE, and_true, true_and, and_self, and_false, false_and, ↓reduceIte, nat_add, nat_mul3, nat_mul4, nat_mul6, nat_mul15, nat_mul60, nat_cast, nc1, Int.reduceToNat, upE, upN, fill_ne, fill_in, i0, Int.reduceMod])
        | (with_reducible refine lf_go ?_; simp (disch := omega) only [not_false_eq_true, not_true_eq_false, w32_id, tLt, fLt, tLe, fEq, itE, and_true, true_and, and_self, and_false, false_and, ↓reduceIte, nat_add, nat_mul3, nat_mul4, nat_mul6, nat_mul15, nat_mul60, nat_cast, nc1, Int.reduceToNat, upE, upN, fill_ne, fill_in, i0, Int.reduceMod])
        | with_reducible exact rfl
    · repeat' first
        | (with_reducible apply bR_go; (simp (disch := omega) only [rM L, rK L, rN L, rNf, rNv, rNp, rNd, rRow, rLeg, rMark, nat_cast, Int.reduceToNat, Int.reduceMod]; with_reducible exact rfl))
        | with_reducible apply bI_go
        | with_reducible apply bV_go
        | with_reducible apply bL_go
        | (with_reducible apply it_1; (first | omega | (simp (disch := omega) only [not_false_eq_true, not_true_eq_false, w32_id, tLt, fLt, tLe, fEq, itE, and_true, true_and, and_self, and_false, false_and, ↓reduceIte, nat_add, nat_mul3, nat_mul4, nat_mul6, nat_mul15, nat_mul60, nat_cast, nc1, Int.reduceToNat, upE, upN, fill_ne, fill_in, i0, Int.reduceMod] <;> omega)))
        | (with_reducible apply it_2; (first | omega | (simp (disch := omega) only [not_false_eq_true, not_true_eq_false, w32_id, tLt, fLt, tLe, fEq, itE, and_true, true_and, and_self, and_false, false_and, ↓reduceIte, nat_add, nat_mul3, nat_mul4, nat_mul6, nat_mul15, nat_mul60, nat_cast, nc1, Int.reduceToNat, upE, upN, fill_ne, fill_in, i0, Int.reduceMod] <;> omega)))
        | (with_reducible refine cl_go ?_; simp (disch := omega) only [not_false_eq_true, not_true_eq_false, w32_id, tLt, fLt, tLe, fEq, itE, and_true, true_and, and_self, and_false, false_and, ↓reduceIte, nat_add, nat_mul3, nat_mul4, nat_mul6, nat_mul15, nat_mul60, nat_cast, nc1, Int.reduceToNat, upE, upN, fill_ne, fill_in, i0, Int.reduceMod])
        | rw [c_VoyageText_takesStep (by omega), b_VoyageText_takesStep_0]
        | with_reducible exact p1
        | with_reducible exact e
        | (with_reducible refine rn_go ?_; simp (disch := omega) only [not_false_eq_true, not_true_eq_false, w32_id, tLt, fLt, tLe, fEq, itE, and_true, true_and, and_self, and_false, false_and, ↓reduceIte, nat_add, nat_mul3, nat_mul4, nat_mul6, nat_mul15, nat_mul60, nat_cast, nc1, Int.reduceToNat, upE, upN, fill_ne, fill_in, i0, Int.reduceMod])
        | (with_reducible refine lf_go ?_; simp (disch := omega) only [not_false_eq_true, not_true_eq_false, w32_id, tLt, fLt, tLe, fEq, itE, and_true, true_and, and_self, and_false, false_and, ↓reduceIte, nat_add, nat_mul3, nat_mul4, nat_mul6, nat_mul15, nat_mul60, nat_cast, nc1, Int.reduceToNat, upE, upN, fill_ne, fill_in, i0, Int.reduceMod])
        | with_reducible exact rfl
  · refine OR.step (o_loop (L := L) (d1 := d1 - 1) (d2 := d2) (by omega) (by omega) ta g5 hk g6 hc g0) fp.v fq.v (by omega) (fun _ _ _ r => Or.inl ⟨by omega, r⟩) fun b M' hb e => ?_
    rcases hb with rfl | rfl
    · repeat' first
        | (with_reducible apply bR_go; (simp (disch := omega) only [rM L, rK L, rN L, rNf, rNv, rNp, rNd, rRow, rLeg, rMark, nat_cast, Int.reduceToNat, Int.reduceMod]; with_reducible exact rfl))
        | with_reducible apply bI_go
        | with_reducible apply bV_go
        | with_reducible apply bL_go
        | (with_reducible apply it_1; (first | omega | (simp (disch := omega) only [not_false_eq_true, not_true_eq_false, w32_id, tLt, fLt, tLe, fEq, itE, and_true, true_and, and_self, and_false, false_and, ↓reduceIte, nat_add, nat_mul3, nat_mul4, nat_mul6, nat_mul15, nat_mul60, nat_cast, nc1, Int.reduceToNat, upE, upN, fill_ne, fill_in, i0, Int.reduceMod] <;> omega)))
        | (with_reducible apply it_2; (first | omega | (simp (disch := omega) only [not_false_eq_true, not_true_eq_false, w32_id, tLt, fLt, tLe, fEq, itE, and_true, true_and, and_self, and_false, false_and, ↓reduceIte, nat_add, nat_mul3, nat_mul4, nat_mul6, nat_mul15, nat_mul60, nat_cast, nc1, Int.reduceToNat, upE, upN, fill_ne, fill_in, i0, Int.reduceMod] <;> omega)))
        | (with_reducible refine cl_go ?_; simp (disch := omega) only [not_false_eq_true, not_true_eq_false, w32_id, tLt, fLt, tLe, fEq, itE, and_true, true_and, and_self, and_false, false_and, ↓reduceIte, nat_add, nat_mul3, nat_mul4, nat_mul6, nat_mul15, nat_mul60, nat_cast, nc1, Int.reduceToNat, upE, upN, fill_ne, fill_in, i0, Int.reduceMod])
        | rw [c_VoyageText_takesStep (by omega), b_VoyageText_takesStep_0]
        | with_reducible exact p1
        | with_reducible exact e
        | (with_reducible refine rn_go ?_; simp (disch := omega) only [not_false_eq_true, not_true_eq_false, w32_id, tLt, fLt, tLe, fEq, itE, and_true, true_and, and_self, and_false, false_and, ↓reduceIte, nat_add, nat_mul3, nat_mul4, nat_mul6, nat_mul15, nat_mul60, nat_cast, nc1, Int.reduceToNat, upE, upN, fill_ne, fill_in, i0, Int.reduceMod])
        | (with_reducible refine lf_go ?_; simp (disch := omega) only [not_false_eq_true, not_true_eq_false, w32_id, tLt, fLt, tLe, fEq, itE, and_true, true_and, and_self, and_false, false_and, ↓reduceIte, nat_add, nat_mul3, nat_mul4, nat_mul6, nat_mul15, nat_mul60, nat_cast, nc1, Int.reduceToNat, upE, upN, fill_ne, fill_in, i0, Int.reduceMod])
        | with_reducible exact rfl
    · repeat' first
        | (with_reducible apply bR_go; (simp (disch := omega) only [rM L, rK L, rN L, rNf, rNv, rNp, rNd, rRow, rLeg, rMark, nat_cast, Int.reduceToNat, Int.reduceMod]; with_reducible exact rfl))
        | with_reducible apply bI_go
        | with_reducible apply bV_go
        | with_reducible apply bL_go
        | (with_reducible apply it_1; (first | omega | (simp (disch := omega) only [not_false_eq_true, not_true_eq_false, w32_id, tLt, fLt, tLe, fEq, itE, and_true, true_and, and_self, and_false, false_and, ↓reduceIte, nat_add, nat_mul3, nat_mul4, nat_mul6, nat_mul15, nat_mul60, nat_cast, nc1, Int.reduceToNat, upE, upN, fill_ne, fill_in, i0, Int.reduceMod] <;> omega)))
        | (with_reducible apply it_2; (first | omega | (simp (disch := omega) only [not_false_eq_true, not_true_eq_false, w32_id, tLt, fLt, tLe, fEq, itE, and_true, true_and, and_self, and_false, false_and, ↓reduceIte, nat_add, nat_mul3, nat_mul4, nat_mul6, nat_mul15, nat_mul60, nat_cast, nc1, Int.reduceToNat, upE, upN, fill_ne, fill_in, i0, Int.reduceMod] <;> omega)))
        | (with_reducible refine cl_go ?_; simp (disch := omega) only [not_false_eq_true, not_true_eq_false, w32_id, tLt, fLt, tLe, fEq, itE, and_true, true_and, and_self, and_false, false_and, ↓reduceIte, nat_add, nat_mul3, nat_mul4, nat_mul6, nat_mul15, nat_mul60, nat_cast, nc1, Int.reduceToNat, upE, upN, fill_ne, fill_in, i0, Int.reduceMod])
        | rw [c_VoyageText_takesStep (by omega), b_VoyageText_takesStep_0]
        | with_reducible exact p1
        | with_reducible exact e
        | (with_reducible refine rn_go ?_; simp (disch := omega) only [not_false_eq_true, not_true_eq_false, w32_id, tLt, fLt, tLe, fEq, itE, and_true, true_and, and_self, and_false, false_and, ↓reduceIte, nat_add, nat_mul3, nat_mul4, nat_mul6, nat_mul15, nat_mul60, nat_cast, nc1, Int.reduceToNat, upE, upN, fill_ne, fill_in, i0, Int.reduceMod])
        | (with_reducible refine lf_go ?_; simp (disch := omega) only [not_false_eq_true, not_true_eq_false, w32_id, tLt, fLt, tLe, fEq, itE, and_true, true_and, and_self, and_false, false_and, ↓reduceIte, nat_add, nat_mul3, nat_mul4, nat_mul6, nat_mul15, nat_mul60, nat_cast, nc1, Int.reduceToNat, upE, upN, fill_ne, fill_in, i0, Int.reduceMod])
        | with_reducible exact rfl
  · refine OR.step (o_stop (L := L) (d1 := d1 - 1) (d2 := d2) (by omega) (by omega) ta g5 hk g6 hc g0) fp.v fq.v (by omega) (fun _ _ _ r => Or.inr ⟨by omega, r⟩) fun b M' hb e => ?_
    rcases hb with rfl | rfl
    · repeat' first
        | (with_reducible apply bR_go; (simp (disch := omega) only [rM L, rK L, rN L, rNf, rNv, rNp, rNd, rRow, rLeg, rMark, nat_cast, Int.reduceToNat, Int.reduceMod]; with_reducible exact rfl))
        | with_reducible apply bI_go
        | with_reducible apply bV_go
        | with_reducible apply bL_go
        | (with_reducible apply it_1; (first | omega | (simp (disch := omega) only [not_false_eq_true, not_true_eq_false, w32_id, tLt, fLt, tLe, fEq, itE, and_true, true_and, and_self, and_false, false_and, ↓reduceIte, nat_add, nat_mul3, nat_mul4, nat_mul6, nat_mul15, nat_mul60, nat_cast, nc1, Int.reduceToNat, upE, upN, fill_ne, fill_in, i0, Int.reduceMod] <;> omega)))
        | (with_reducible apply it_2; (first | omega | (simp (disch := omega) only [not_false_eq_true, not_true_eq_false, w32_id, tLt, fLt, tLe, fEq, itE, and_true, true_and, and_self, and_false, false_and, ↓reduceIte, nat_add, nat_mul3, nat_mul4, nat_mul6, nat_mul15, nat_mul60, nat_cast, nc1, Int.reduceToNat, upE, upN, fill_ne, fill_in, i0, Int.reduceMod] <;> omega)))
        | (with_reducible refine cl_go ?_; simp (disch := omega) only [not_false_eq_true, not_true_eq_false, w32_id, tLt, fLt, tLe, fEq, itE, and_true, true_and, and_self, and_false, false_and, ↓reduceIte, nat_add, nat_mul3, nat_mul4, nat_mul6, nat_mul15, nat_mul60, nat_cast, nc1, Int.reduceToNat, upE, upN, fill_ne, fill_in, i0, Int.reduceMod])
        | rw [c_VoyageText_takesStep (by omega), b_VoyageText_takesStep_0]
        | with_reducible exact p1
        | with_reducible exact e
        | (with_reducible refine rn_go ?_; simp (disch := omega) only [not_false_eq_true, not_true_eq_false, w32_id, tLt, fLt, tLe, fEq, itE, and_true, true_and, and_self, and_false, false_and, ↓reduceIte, nat_add, nat_mul3, nat_mul4, nat_mul6, nat_mul15, nat_mul60, nat_cast, nc1, Int.reduceToNat, upE, upN, fill_ne, fill_in, i0, Int.reduceMod])
        | (with_reducible refine lf_go ?_; simp (disch := omega) only [not_false_eq_true, not_true_eq_false, w32_id, tLt, fLt, tLe, fEq, itE, and_true, true_and, and_self, and_false, false_and, ↓reduceIte, nat_add, nat_mul3, nat_mul4, nat_mul6, nat_mul15, nat_mul60, nat_cast, nc1, Int.reduceToNat, upE, upN, fill_ne, fill_in, i0, Int.reduceMod])
        | with_reducible exact rfl
    · repeat' first
        | (with_reducible apply bR_go; (simp (disch := omega) only [rM L, rK L, rN L, rNf, rNv, rNp, rNd, rRow, rLeg, rMark, nat_cast, Int.reduceToNat, Int.reduceMod]; with_reducible exact rfl))
        | with_reducible apply bI_go
        | with_reducible apply bV_go
        | with_reducible apply bL_go
        | (with_reducible apply it_1; (first | omega | (simp (disch := omega) only [not_false_eq_true, not_true_eq_false, w32_id, tLt, fLt, tLe, fEq, itE, and_true, true_and, and_self, and_false, false_and, ↓reduceIte, nat_add, nat_mul3, nat_mul4, nat_mul6, nat_mul15, nat_mul60, nat_cast, nc1, Int.reduceToNat, upE, upN, fill_ne, fill_in, i0, Int.reduceMod] <;> omega)))
        | (with_reducible apply it_2; (first | omega | (simp (disch := omega) only [not_false_eq_true, not_true_eq_false, w32_id, tLt, fLt, tLe, fEq, itE, and_true, true_and, and_self, and_false, false_and, ↓reduceIte, nat_add, nat_mul3, nat_mul4, nat_mul6, nat_mul15, nat_mul60, nat_cast, nc1, Int.reduceToNat, upE, upN, fill_ne, fill_in, i0, Int.reduceMod] <;> omega)))
        | (with_reducible refine cl_go ?_; simp (disch := omega) only [not_false_eq_true, not_true_eq_false, w32_id, tLt, fLt, tLe, fEq, itE, and_true, true_and, and_self, and_false, false_and, ↓reduceIte, nat_add, nat_mul3, nat_mul4, nat_mul6, nat_mul15, nat_mul60, nat_cast, nc1, Int.reduceToNat, upE, upN, fill_ne, fill_in, i0, Int.reduceMod])
        | rw [c_VoyageText_takesStep (by omega), b_VoyageText_takesStep_0]
        | with_reducible exact p1
        | with_reducible exact e
        | (with_reducible refine rn_go ?_; simp (disch := omega) only [not_false_eq_true, not_true_eq_false, w32_id, tLt, fLt, tLe, fEq, itE, and_true, true_and, and_self, and_false, false_and, ↓reduceIte, nat_add, nat_mul3, nat_mul4, nat_mul6, nat_mul15, nat_mul60, nat_cast, nc1, Int.reduceToNat, upE, upN, fill_ne, fill_in, i0, Int.reduceMod])
        | (with_reducible refine lf_go ?_; simp (disch := omega) only [not_false_eq_true, not_true_eq_false, w32_id, tLt, fLt, tLe, fEq, itE, and_true, true_and, and_self, and_false, false_and, ↓reduceIte, nat_add, nat_mul3, nat_mul4, nat_mul6, nat_mul15, nat_mul60, nat_cast, nc1, Int.reduceToNat, upE, upN, fill_ne, fill_in, i0, Int.reduceMod])
        | with_reducible exact rfl
end

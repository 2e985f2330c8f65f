/-! THE PARTS OF A WORLD: a way -/
section
variable {bt : Nat → Int} {n q e : Nat} {M M1 M2 : Mm} {L d d1 d2 d3 : Nat}
theorem dd_way {Mj Mk : Mm} (hD : DD M1 M2) {v w : Nat} {x : Int} (hv : v < 6) (hw : w < 6) (vw : w ≠ v) (hx : 1 ≤ x ∧ x ≤ 20) (gC : ∀ b j, 65 ≤ b → b ≤ 111 → ¬(b = 89 + v ∧ j = w) → ¬(b = 89 + w ∧ j = v) → Mj b j = M1 b j) (c1 : Mj (89 + v) w = x) (c2 : Mj (89 + w) v = x) (gA : ∀ k, k < 206 → k ≠ 65 + 15 * v + w → k ≠ 65 + 15 * w + v → dA Mk k = dA M2 k) (e1 : dA Mk (65 + 15 * v + w) = x) (e2 : dA Mk (65 + 15 * w + v) = x) (hN : ∀ j, 96 ≤ j → j < 120 → Mk 273 j = M2 273 j) (r0 : Mj 15 0 = M1 15 0) (r20 : Mk 271 20 = M2 271 20) : DD Mj Mk := by
  have hI := hD.2.1
  have fb := hD.2.2.2.1
  have hC := hI.1
  unfold Cn at hC
  have q1 := cl_d (n := v) (w := w) (k := 65 + 15 * v + w) rfl (by omega) (by omega)
  have q2 := cl_d (n := w) (w := v) (k := 65 + 15 * w + v) rfl (by omega) (by omega)
  obtain ⟨i1, i2, i3, i4, i5, i6, i7, i8, i9⟩ := hI
  have a0 := gA 0 (by omega) (by omega) (by omega)
  have a1 := gA 1 (by omega) (by omega) (by omega)
  have a2 := gA 2 (by omega) (by omega) (by omega)
  have a3 := gA 3 (by omega) (by omega) (by omega)
  have a4 := gA 4 (by omega) (by omega) (by omega)
  have ev : ∀ p q : Nat, p < 6 → q < 6 → dA Mk (65 + 15 * p + q) = if p = v ∧ q = w ∨ p = w ∧ q = v then x else dA M2 (65 + 15 * p + q) := fun p q hp hq => by
    by_cases z : p = v ∧ q = w
    · rw [if_pos (Or.inl z), z.1, z.2]; exact e1
    · by_cases z' : p = w ∧ q = v
      · rw [if_pos (Or.inr z'), z'.1, z'.2]; exact e2
      · rw [if_neg (by omega)]
        exact gA _ (by omega) (by omega) (by omega)
  refine hD.same (fun k => k = 65 + 15 * v + w ∨ k = 65 + 15 * w + v) (fun k hk => by unfold vd; omega) ⟨?_, i2.cg (by omega) a1 (fun k _ _ => gA k (by omega) (by omega) (by omega)) i1, i3.cg a0 (fun k _ _ => gA k (by omega) (by omega) (by omega)) i1, i4.cg (by omega) a2 (fun p _ => gA _ (by omega) (by omega) (by omega)) i1, fun p g hp hg => ?_, fun p q hp hq => ?_, i7.cg (by omega) (by omega) a3 (fun k _ _ => gA k (by omega) (by omega) (by omega)) i1, by rw [gA 5 (by omega) (by omega) (by omega)]; exact i8, i9.cg a0 (fun k _ => gA _ (by omega) (by omega) (by omega)) i1⟩ (fun m hm => ?_) (fun k y1 y2 => gA k y1 (by omega) (by omega)) (fun k hk => ?_) (fun b j y1 y2 y3 => ?_) hN ?_ ?_
  · unfold Cn
    rw [a0, a1, a2, a3, a4]
    omega
  · rw [gA _ (by omega) (by omega) (by omega)]
    exact i5 p g hp hg
  · have o := i6 p q hp hq
    rw [ev p q hp hq, ev q p hq hp, ev p p hp hp]
    by_cases z : p = v ∧ q = w ∨ p = w ∧ q = v
    · rw [if_pos z, if_pos (by omega), if_neg (by omega)]
      exact ⟨by omega, by omega, rfl, o.2.2.2⟩
    · rw [if_neg z, if_neg (by omega), if_neg (by omega)]
      exact o
  · rw [a0] at hm ⊢
    rw [gA _ (by omega) (by omega) (by omega)]
    exact fb m hm
  · rcases hk with rfl | rfl
    · rw [q1.1, q1.2, e1, show 42 + v + 47 = 89 + v by omega]
      exact c1
    · rw [q2.1, q2.2, e2, show 42 + w + 47 = 89 + w by omega]
      exact c2
  · have z1 := y3 _ (Or.inl rfl)
    have z2 := y3 _ (Or.inr rfl)
    rw [q1.1, q1.2] at z1
    rw [q2.1, q2.2] at z2
    exact gC b j y1 y2 (by omega) (by omega)
  · rw [r0, r20]; exact hD.2.2.2.2.2.2.2.1
  · rw [r20]; exact hD.2.2.2.2.2.2.2.2
theorem p_way (h1 : 12 ≤ d1) (h2 : 12 ≤ d2) (h : TK bt n q e M1 M2) (hD : DD M1 M2) (hq : q < e) : PO bt n q L d1 d2 (callD d1 m_WorldText_takesWay [vR 6 0 12, vR 0 0 66] (SH L) M1) (callD d2 m_Mo_aCouple [vR 12 0 271, vI 0] (SH L) M2) M1 M2 := by
  have hI := hD.2.1
  have hC := hI.1
  unfold Cn at hC
  have ch66 : isCh 66 := Or.inr (Or.inl rfl)
  have rc := rC (L := L) ch66
  obtain ⟨a, ha⟩ := Int.eq_ofNat_of_zero_le hC.2.2.2.2.1
  obtain ⟨-, -, k0, -⟩ := hD.nm.k
  rw [ha, nat_cast] at k0
  have m90 : M2 272 2290 = (a : Int) := ha
  obtain ⟨qa, ea, Ma, Mb, a1, a2, ta, la, fa, fb⟩ := k_adv (L := L) (d1 := d1 - 1) (d2 := d2 - 1) (by omega) (by omega) h
  have b90 : Mb 272 2290 = (a : Int) := by rw [fb _ _ (by omega)]; exact m90
  have k0' := k0.fr (by omega) fa fb.nn
  rcases k_thing (L := L) (d1 := d1 - 1) (d2 := d2 - 1 - 1) (by omega) (by omega) ta (c := 66) (kd := 2) (to := 2854) ch66 (by omega) k0' (by omega) with ⟨qb, eb, v, Mc, Md, c1, c2, hv, tb, lb, fa1, ft1, ev⟩ | ⟨M1', M2', c1, c2, f, fa1, ft1⟩
  rotate_left
  · right; left
    have c1 := c1 2 rfl
    refine ⟨M1', M2', ?_, wp_un ?_, f, fa.w.trans fa1.w, fb.w.trans (ft1.w (by omega))⟩
    · repeat' first
        | (with_reducible apply bR_go; (simp (disch := omega) only [rM L, rK L, rN L, rNf, rNv, rNp, rNd, rRow, rLeg, rMark, nat_cast, Int.reduceToNat]; with_reducible exact rfl))
        | with_reducible apply bI_go
        | with_reducible apply bV_go
        | with_reducible apply bL_go
        | (with_reducible apply it_1; (first | omega | (simp (disch := omega) only [not_false_eq_true, not_true_eq_false, w32_id, tLt, fLt, tLe, fEq, itE, and_true, true_and, and_self, and_false, false_and, ↓reduceIte, nat_add, nat_mul3, nat_mul4, nat_mul6, nat_mul15, nat_mul60, nat_cast, nc1, Int.reduceToNat, upE, upN, fill_ne, fill_in, i0] <;> omega)))
        | (with_reducible apply it_2; (first | omega | (simp (disch := omega) only [not_false_eq_true, not_true_eq_false, w32_id, tLt, fLt, tLe, fEq, itE, and_true, true_and, and_self, and_false, false_and, ↓reduceIte, nat_add, nat_mul3, nat_mul4, nat_mul6, nat_mul15, nat_mul60, nat_cast, nc1, Int.reduceToNat, upE, upN, fill_ne, fill_in, i0] <;> omega)))
        | (with_reducible refine cl_go ?_; simp (disch := omega) only [not_false_eq_true, not_true_eq_false, w32_id, tLt, fLt, tLe, fEq, itE, and_true, true_and, and_self, and_false, false_and, ↓reduceIte, nat_add, nat_mul3, nat_mul4, nat_mul6, nat_mul15, nat_mul60, nat_cast, nc1, Int.reduceToNat, upE, upN, fill_ne, fill_in, i0])
        | rw [c_WorldText_takesWay (by omega), b_WorldText_takesWay_0]
        | with_reducible exact a1
        | with_reducible exact c1
        | (with_reducible refine rn_go ?_; simp (disch := omega) only [not_false_eq_true, not_true_eq_false, w32_id, tLt, fLt, tLe, fEq, itE, and_true, true_and, and_self, and_false, false_and, ↓reduceIte, nat_add, nat_mul3, nat_mul4, nat_mul6, nat_mul15, nat_mul60, nat_cast, nc1, Int.reduceToNat, upE, upN, fill_ne, fill_in, i0])
        | (with_reducible refine lf_go ?_; simp (disch := omega) only [not_false_eq_true, not_true_eq_false, w32_id, tLt, fLt, tLe, fEq, itE, and_true, true_and, and_self, and_false, false_and, ↓reduceIte, nat_add, nat_mul3, nat_mul4, nat_mul6, nat_mul15, nat_mul60, nat_cast, nc1, Int.reduceToNat, upE, upN, fill_ne, fill_in, i0])
        | with_reducible exact rfl
    · repeat' first
        | (with_reducible apply wp_bR; (simp (disch := omega) only [rM L, rK L, rN L, rNf, rNv, rNp, rNd, rRow, rLeg, rMark, nat_cast, Int.reduceToNat, b90, Int.reduceMod]; with_reducible exact rfl))
        | with_reducible apply wp_bI
        | with_reducible apply wp_bV
        | with_reducible apply wp_bL
        | with_reducible apply wp_rI
        | with_reducible apply wp_rV
        | with_reducible apply wp_rL
        | (with_reducible apply wp_1; (first | omega | (simp (disch := omega) only [not_false_eq_true, not_true_eq_false, w32_id, tLt, fLt, tLe, fEq, itE, and_true, true_and, and_self, and_false, false_and, ↓reduceIte, nat_add, nat_mul3, nat_mul4, nat_mul6, nat_mul15, nat_mul60, nat_cast, nc1, Int.reduceToNat, upE, upN, fill_ne, fill_in, i0, b90, Int.reduceMod] <;> omega)))
        | (with_reducible apply wp_2; (first | omega | (simp (disch := omega) only [not_false_eq_true, not_true_eq_false, w32_id, tLt, fLt, tLe, fEq, itE, and_true, true_and, and_self, and_false, false_and, ↓reduceIte, nat_add, nat_mul3, nat_mul4, nat_mul6, nat_mul15, nat_mul60, nat_cast, nc1, Int.reduceToNat, upE, upN, fill_ne, fill_in, i0, b90, Int.reduceMod] <;> omega)))
        | (with_reducible apply wp_s; (first | (simp (disch := omega) only [not_false_eq_true, not_true_eq_false, w32_id, tLt, fLt, tLe, fEq, itE, and_true, true_and, and_self, and_false, false_and, ↓reduceIte, nat_add, nat_mul3, nat_mul4, nat_mul6, nat_mul15, nat_mul60, nat_cast, nc1, Int.reduceToNat, upE, upN, fill_ne, fill_in, i0, b90, Int.reduceMod]; with_reducible exact Iff.rfl) | with_reducible exact Iff.rfl); intro hc__; (try subst hc__); rotate_left; intro hc__; rotate_left)
        | (with_reducible apply wp_eq; (with_reducible apply cl_go; simp (disch := omega) only [not_false_eq_true, not_true_eq_false, w32_id, tLt, fLt, tLe, fEq, itE, and_true, true_and, and_self, and_false, false_and, ↓reduceIte, nat_add, nat_mul3, nat_mul4, nat_mul6, nat_mul15, nat_mul60, nat_cast, nc1, Int.reduceToNat, upE, upN, fill_ne, fill_in, i0, b90, Int.reduceMod]; with_reducible exact rfl))
        | (with_reducible refine wp_eq (c_Mo_aCouple (by omega) _ _ _ _) ?_; with_reducible refine wp_eq (b_Mo_aCouple_0 _ _ _ _ _) ?_)
        | (with_reducible refine wp_eq (c_Mo_portTo (by omega) _ _ _ _) ?_; with_reducible refine wp_eq (b_Mo_portTo_0 _ _ _ _ _) ?_)
        | with_reducible refine wp_eq (b_Mo_aCouple_92 _ _ _ _ _ _) ?_
        | with_reducible refine wp_eq (a2) ?_
        | with_reducible refine wp_eq (c2 _ _ _ (by omega) (by omega) (by omega)) ?_
        | (with_reducible apply wp_eq; (with_reducible apply lf_go; simp (disch := omega) only [not_false_eq_true, not_true_eq_false, w32_id, tLt, fLt, tLe, fEq, itE, and_true, true_and, and_self, and_false, false_and, ↓reduceIte, nat_add, nat_mul3, nat_mul4, nat_mul6, nat_mul15, nat_mul60, nat_cast, nc1, Int.reduceToNat, upE, upN, fill_ne, fill_in, i0, b90, Int.reduceMod]; with_reducible exact rfl))
        | with_reducible apply wp_q1
      exact ⟨_, _, _, rfl, rfl, rfl, rfl⟩
  have c1 := c1 2 rfl
  have d90 : Md 272 2290 = (a : Int) := by rw [ft1 _ _ (by omega) (by omega)]; exact b90
  rcases k_thing2 (L := L) (d1 := d1 - 1) (d2 := d2 - 1 - 1) (d3 := d2 - 1) (by omega) (by omega) (by omega) tb (c := 66) (kd := 2) (to := 2855) (t := v) ch66 (by omega) (k0'.fr (by omega) fa1 ft1.nn) (by omega) with ⟨M1', M2', c3, i1, c4, f, fa2, ft2⟩ | ⟨r, i1, f1, ⟨M1', M2', rfl, c3, c4, f, fa2, fb2⟩ | ⟨M1', M2', rfl, c3, c4, f, fa2, ft2⟩ | ⟨qc, ec, w, Me, Mf, rfl, vw, c3, c4, hw, tc, lc, fa2, ft2, ew⟩⟩
  · right; left
    have c3 := c3 2 rfl
    refine ⟨M1', M2', ?_, wp_un ?_, f, (fa.w.trans fa1.w).trans fa2.w, (fb.w.trans (ft1.w (by omega))).trans (ft2.w (by omega))⟩
    · repeat' first
        | (with_reducible apply bR_go; (simp (disch := omega) only [rM L, rK L, rN L, rNf, rNv, rNp, rNd, rRow, rLeg, rMark, nat_cast, Int.reduceToNat]; with_reducible exact rfl))
        | with_reducible apply bI_go
        | with_reducible apply bV_go
        | with_reducible apply bL_go
        | (with_reducible apply it_1; (first | omega | (simp (disch := omega) only [not_false_eq_true, not_true_eq_false, w32_id, tLt, fLt, tLe, fEq, itE, and_true, true_and, and_self, and_false, false_and, ↓reduceIte, nat_add, nat_mul3, nat_mul4, nat_mul6, nat_mul15, nat_mul60, nat_cast, nc1, Int.reduceToNat, upE, upN, fill_ne, fill_in, i0] <;> omega)))
        | (with_reducible apply it_2; (first | omega | (simp (disch := omega) only [not_false_eq_true, not_true_eq_false, w32_id, tLt, fLt, tLe, fEq, itE, and_true, true_and, and_self, and_false, false_and, ↓reduceIte, nat_add, nat_mul3, nat_mul4, nat_mul6, nat_mul15, nat_mul60, nat_cast, nc1, Int.reduceToNat, upE, upN, fill_ne, fill_in, i0] <;> omega)))
        | (with_reducible refine cl_go ?_; simp (disch := omega) only [not_false_eq_true, not_true_eq_false, w32_id, tLt, fLt, tLe, fEq, itE, and_true, true_and, and_self, and_false, false_and, ↓reduceIte, nat_add, nat_mul3, nat_mul4, nat_mul6, nat_mul15, nat_mul60, nat_cast, nc1, Int.reduceToNat, upE, upN, fill_ne, fill_in, i0])
        | rw [c_WorldText_takesWay (by omega), b_WorldText_takesWay_0]
        | with_reducible exact a1
        | with_reducible exact c1
        | with_reducible exact c3
        | (with_reducible refine rn_go ?_; simp (disch := omega) only [not_false_eq_true, not_true_eq_false, w32_id, tLt, fLt, tLe, fEq, itE, and_true, true_and, and_self, and_false, false_and, ↓reduceIte, nat_add, nat_mul3, nat_mul4, nat_mul6, nat_mul15, nat_mul60, nat_cast, nc1, Int.reduceToNat, upE, upN, fill_ne, fill_in, i0])
        | (with_reducible refine lf_go ?_; simp (disch := omega) only [not_false_eq_true, not_true_eq_false, w32_id, tLt, fLt, tLe, fEq, itE, and_true, true_and, and_self, and_false, false_and, ↓reduceIte, nat_add, nat_mul3, nat_mul4, nat_mul6, nat_mul15, nat_mul60, nat_cast, nc1, Int.reduceToNat, upE, upN, fill_ne, fill_in, i0])
        | with_reducible exact rfl
    · repeat' first
        | (with_reducible apply wp_bR; (simp (disch := omega) only [rM L, rK L, rN L, rNf, rNv, rNp, rNd, rRow, rLeg, rMark, nat_cast, Int.reduceToNat, b90, d90, Int.reduceMod]; with_reducible exact rfl))
        | with_reducible apply wp_bI
        | with_reducible apply wp_bV
        | with_reducible apply wp_bL
        | with_reducible apply wp_rI
        | with_reducible apply wp_rV
        | with_reducible apply wp_rL
        | (with_reducible apply wp_1; (first | omega | (simp (disch := omega) only [not_false_eq_true, not_true_eq_false, w32_id, tLt, fLt, tLe, fEq, itE, and_true, true_and, and_self, and_false, false_and, ↓reduceIte, nat_add, nat_mul3, nat_mul4, nat_mul6, nat_mul15, nat_mul60, nat_cast, nc1, Int.reduceToNat, upE, upN, fill_ne, fill_in, i0, b90, d90, Int.reduceMod] <;> omega)))
        | (with_reducible apply wp_2; (first | omega | (simp (disch := omega) only [not_false_eq_true, not_true_eq_false, w32_id, tLt, fLt, tLe, fEq, itE, and_true, true_and, and_self, and_false, false_and, ↓reduceIte, nat_add, nat_mul3, nat_mul4, nat_mul6, nat_mul15, nat_mul60, nat_cast, nc1, Int.reduceToNat, upE, upN, fill_ne, fill_in, i0, b90, d90, Int.reduceMod] <;> omega)))
        | (with_reducible apply wp_s; (first | (simp (disch := omega) only [not_false_eq_true, not_true_eq_false, w32_id, tLt, fLt, tLe, fEq, itE, and_true, true_and, and_self, and_false, false_and, ↓reduceIte, nat_add, nat_mul3, nat_mul4, nat_mul6, nat_mul15, nat_mul60, nat_cast, nc1, Int.reduceToNat, upE, upN, fill_ne, fill_in, i0, b90, d90, Int.reduceMod]; with_reducible exact Iff.rfl) | with_reducible exact Iff.rfl); intro hc__; (try subst hc__); rotate_left; intro hc__; rotate_left)
        | (with_reducible apply wp_eq; (with_reducible apply cl_go; simp (disch := omega) only [not_false_eq_true, not_true_eq_false, w32_id, tLt, fLt, tLe, fEq, itE, and_true, true_and, and_self, and_false, false_and, ↓reduceIte, nat_add, nat_mul3, nat_mul4, nat_mul6, nat_mul15, nat_mul60, nat_cast, nc1, Int.reduceToNat, upE, upN, fill_ne, fill_in, i0, b90, d90, Int.reduceMod]; with_reducible exact rfl))
        | (with_reducible refine wp_eq (c_Mo_aCouple (by omega) _ _ _ _) ?_; with_reducible refine wp_eq (b_Mo_aCouple_0 _ _ _ _ _) ?_)
        | (with_reducible refine wp_eq (c_Mo_portTo (by omega) _ _ _ _) ?_; with_reducible refine wp_eq (b_Mo_portTo_0 _ _ _ _ _) ?_)
        | with_reducible refine wp_eq (b_Mo_aCouple_92 _ _ _ _ _ _) ?_
        | with_reducible refine wp_eq (a2) ?_
        | with_reducible refine wp_eq (c2 _ _ _ (by omega) (by omega) (by omega)) ?_
        | with_reducible refine wp_eq (i1) ?_
        | with_reducible refine wp_eq (c4 _ _ _ (by omega) (by omega) (by omega)) ?_
        | (with_reducible apply wp_eq; (with_reducible apply lf_go; simp (disch := omega) only [not_false_eq_true, not_true_eq_false, w32_id, tLt, fLt, tLe, fEq, itE, and_true, true_and, and_self, and_false, false_and, ↓reduceIte, nat_add, nat_mul3, nat_mul4, nat_mul6, nat_mul15, nat_mul60, nat_cast, nc1, Int.reduceToNat, upE, upN, fill_ne, fill_in, i0, b90, d90, Int.reduceMod]; with_reducible exact rfl))
        | with_reducible apply wp_q1
      exact ⟨_, _, _, rfl, rfl, rfl, rfl⟩
  · right; left
    have c3 := c3 2 rfl
    refine ⟨M1', M2', ?_, wp_un ?_, f, (fa.w.trans fa1.w).trans fa2.w, (fb.w.trans (ft1.w (by omega))).trans fb2.w⟩
    · repeat' first
        | (with_reducible apply bR_go; (simp (disch := omega) only [rM L, rK L, rN L, rNf, rNv, rNp, rNd, rRow, rLeg, rMark, nat_cast, Int.reduceToNat]; with_reducible exact rfl))
        | with_reducible apply bI_go
        | with_reducible apply bV_go
        | with_reducible apply bL_go
        | (with_reducible apply it_1; (first | omega | (simp (disch := omega) only [not_false_eq_true, not_true_eq_false, w32_id, tLt, fLt, tLe, fEq, itE, and_true, true_and, and_self, and_false, false_and, ↓reduceIte, nat_add, nat_mul3, nat_mul4, nat_mul6, nat_mul15, nat_mul60, nat_cast, nc1, Int.reduceToNat, upE, upN, fill_ne, fill_in, i0] <;> omega)))
        | (with_reducible apply it_2; (first | omega | (simp (disch := omega) only [not_false_eq_true, not_true_eq_false, w32_id, tLt, fLt, tLe, fEq, itE, and_true, true_and, and_self, and_false, false_and, ↓reduceIte, nat_add, nat_mul3, nat_mul4, nat_mul6, nat_mul15, nat_mul60, nat_cast, nc1, Int.reduceToNat, upE, upN, fill_ne, fill_in, i0] <;> omega)))
        | (with_reducible refine cl_go ?_; simp (disch := omega) only [not_false_eq_true, not_true_eq_false, w32_id, tLt, fLt, tLe, fEq, itE, and_true, true_and, and_self, and_false, false_and, ↓reduceIte, nat_add, nat_mul3, nat_mul4, nat_mul6, nat_mul15, nat_mul60, nat_cast, nc1, Int.reduceToNat, upE, upN, fill_ne, fill_in, i0])
        | rw [c_WorldText_takesWay (by omega), b_WorldText_takesWay_0]
        | with_reducible exact a1
        | with_reducible exact c1
        | with_reducible exact c3
        | (with_reducible refine rn_go ?_; simp (disch := omega) only [not_false_eq_true, not_true_eq_false, w32_id, tLt, fLt, tLe, fEq, itE, and_true, true_and, and_self, and_false, false_and, ↓reduceIte, nat_add, nat_mul3, nat_mul4, nat_mul6, nat_mul15, nat_mul60, nat_cast, nc1, Int.reduceToNat, upE, upN, fill_ne, fill_in, i0])
        | (with_reducible refine lf_go ?_; simp (disch := omega) only [not_false_eq_true, not_true_eq_false, w32_id, tLt, fLt, tLe, fEq, itE, and_true, true_and, and_self, and_false, false_and, ↓reduceIte, nat_add, nat_mul3, nat_mul4, nat_mul6, nat_mul15, nat_mul60, nat_cast, nc1, Int.reduceToNat, upE, upN, fill_ne, fill_in, i0])
        | with_reducible exact rfl
    · repeat' first
        | (with_reducible apply wp_bR; (simp (disch := omega) only [rM L, rK L, rN L, rNf, rNv, rNp, rNd, rRow, rLeg, rMark, nat_cast, Int.reduceToNat, b90, d90, ev, Int.reduceMod]; with_reducible exact rfl))
        | with_reducible apply wp_bI
        | with_reducible apply wp_bV
        | with_reducible apply wp_bL
        | with_reducible apply wp_rI
        | with_reducible apply wp_rV
        | with_reducible apply wp_rL
        | (with_reducible apply wp_1; (first | omega | (simp (disch := omega) only [not_false_eq_true, not_true_eq_false, w32_id, tLt, fLt, tLe, fEq, itE, and_true, true_and, and_self, and_false, false_and, ↓reduceIte, nat_add, nat_mul3, nat_mul4, nat_mul6, nat_mul15, nat_mul60, nat_cast, nc1, Int.reduceToNat, upE, upN, fill_ne, fill_in, i0, b90, d90, ev, Int.reduceMod] <;> omega)))
        | (with_reducible apply wp_2; (first | omega | (simp (disch := omega) only [not_false_eq_true, not_true_eq_false, w32_id, tLt, fLt, tLe, fEq, itE, and_true, true_and, and_self, and_false, false_and, ↓reduceIte, nat_add, nat_mul3, nat_mul4, nat_mul6, nat_mul15, nat_mul60, nat_cast, nc1, Int.reduceToNat, upE, upN, fill_ne, fill_in, i0, b90, d90, ev, Int.reduceMod] <;> omega)))
        | (with_reducible apply wp_s; (first | (simp (disch := omega) only [not_false_eq_true, not_true_eq_false, w32_id, tLt, fLt, tLe, fEq, itE, and_true, true_and, and_self, and_false, false_and, ↓reduceIte, nat_add, nat_mul3, nat_mul4, nat_mul6, nat_mul15, nat_mul60, nat_cast, nc1, Int.reduceToNat, upE, upN, fill_ne, fill_in, i0, b90, d90, ev, Int.reduceMod]; with_reducible exact Iff.rfl) | with_reducible exact Iff.rfl); intro hc__; (try subst hc__); rotate_left; intro hc__; rotate_left)
        | (with_reducible apply wp_eq; (with_reducible apply cl_go; simp (disch := omega) only [not_false_eq_true, not_true_eq_false, w32_id, tLt, fLt, tLe, fEq, itE, and_true, true_and, and_self, and_false, false_and, ↓reduceIte, nat_add, nat_mul3, nat_mul4, nat_mul6, nat_mul15, nat_mul60, nat_cast, nc1, Int.reduceToNat, upE, upN, fill_ne, fill_in, i0, b90, d90, ev, Int.reduceMod]; with_reducible exact rfl))
        | (with_reducible refine wp_eq (c_Mo_aCouple (by omega) _ _ _ _) ?_; with_reducible refine wp_eq (b_Mo_aCouple_0 _ _ _ _ _) ?_)
        | (with_reducible refine wp_eq (c_Mo_portTo (by omega) _ _ _ _) ?_; with_reducible refine wp_eq (b_Mo_portTo_0 _ _ _ _ _) ?_)
        | with_reducible refine wp_eq (b_Mo_aCouple_92 _ _ _ _ _ _) ?_
        | with_reducible refine wp_eq (a2) ?_
        | with_reducible refine wp_eq (c2 _ _ _ (by omega) (by omega) (by omega)) ?_
        | with_reducible refine wp_eq (i1) ?_
        | with_reducible refine wp_eq (f1 _ _ (by omega) (by omega)) ?_
        | with_reducible refine wp_eq (c4) ?_
        | (with_reducible apply wp_eq; (with_reducible apply lf_go; simp (disch := omega) only [not_false_eq_true, not_true_eq_false, w32_id, tLt, fLt, tLe, fEq, itE, and_true, true_and, and_self, and_false, false_and, ↓reduceIte, nat_add, nat_mul3, nat_mul4, nat_mul6, nat_mul15, nat_mul60, nat_cast, nc1, Int.reduceToNat, upE, upN, fill_ne, fill_in, i0, b90, d90, ev, Int.reduceMod]; with_reducible exact rfl))
        | with_reducible apply wp_q1
      exact ⟨_, _, _, rfl, rfl, rfl, rfl⟩
  · right; left
    have c3 := c3 2 rfl
    refine ⟨M1', M2', ?_, wp_un ?_, f, (fa.w.trans fa1.w).trans fa2.w, (fb.w.trans (ft1.w (by omega))).trans (ft2.w (by omega))⟩
    · repeat' first
        | (with_reducible apply bR_go; (simp (disch := omega) only [rM L, rK L, rN L, rNf, rNv, rNp, rNd, rRow, rLeg, rMark, nat_cast, Int.reduceToNat]; with_reducible exact rfl))
        | with_reducible apply bI_go
        | with_reducible apply bV_go
        | with_reducible apply bL_go
        | (with_reducible apply it_1; (first | omega | (simp (disch := omega) only [not_false_eq_true, not_true_eq_false, w32_id, tLt, fLt, tLe, fEq, itE, and_true, true_and, and_self, and_false, false_and, ↓reduceIte, nat_add, nat_mul3, nat_mul4, nat_mul6, nat_mul15, nat_mul60, nat_cast, nc1, Int.reduceToNat, upE, upN, fill_ne, fill_in, i0] <;> omega)))
        | (with_reducible apply it_2; (first | omega | (simp (disch := omega) only [not_false_eq_true, not_true_eq_false, w32_id, tLt, fLt, tLe, fEq, itE, and_true, true_and, and_self, and_false, false_and, ↓reduceIte, nat_add, nat_mul3, nat_mul4, nat_mul6, nat_mul15, nat_mul60, nat_cast, nc1, Int.reduceToNat, upE, upN, fill_ne, fill_in, i0] <;> omega)))
        | (with_reducible refine cl_go ?_; simp (disch := omega) only [not_false_eq_true, not_true_eq_false, w32_id, tLt, fLt, tLe, fEq, itE, and_true, true_and, and_self, and_false, false_and, ↓reduceIte, nat_add, nat_mul3, nat_mul4, nat_mul6, nat_mul15, nat_mul60, nat_cast, nc1, Int.reduceToNat, upE, upN, fill_ne, fill_in, i0])
        | rw [c_WorldText_takesWay (by omega), b_WorldText_takesWay_0]
        | with_reducible exact a1
        | with_reducible exact c1
        | with_reducible exact c3
        | (with_reducible refine rn_go ?_; simp (disch := omega) only [not_false_eq_true, not_true_eq_false, w32_id, tLt, fLt, tLe, fEq, itE, and_true, true_and, and_self, and_false, false_and, ↓reduceIte, nat_add, nat_mul3, nat_mul4, nat_mul6, nat_mul15, nat_mul60, nat_cast, nc1, Int.reduceToNat, upE, upN, fill_ne, fill_in, i0])
        | (with_reducible refine lf_go ?_; simp (disch := omega) only [not_false_eq_true, not_true_eq_false, w32_id, tLt, fLt, tLe, fEq, itE, and_true, true_and, and_self, and_false, false_and, ↓reduceIte, nat_add, nat_mul3, nat_mul4, nat_mul6, nat_mul15, nat_mul60, nat_cast, nc1, Int.reduceToNat, upE, upN, fill_ne, fill_in, i0])
        | with_reducible exact rfl
    · repeat' first
        | (with_reducible apply wp_bR; (simp (disch := omega) only [rM L, rK L, rN L, rNf, rNv, rNp, rNd, rRow, rLeg, rMark, nat_cast, Int.reduceToNat, b90, d90, ev, Int.reduceMod]; with_reducible exact rfl))
        | with_reducible apply wp_bI
        | with_reducible apply wp_bV
        | with_reducible apply wp_bL
        | with_reducible apply wp_rI
        | with_reducible apply wp_rV
        | with_reducible apply wp_rL
        | (with_reducible apply wp_1; (first | omega | (simp (disch := omega) only [not_false_eq_true, not_true_eq_false, w32_id, tLt, fLt, tLe, fEq, itE, and_true, true_and, and_self, and_false, false_and, ↓reduceIte, nat_add, nat_mul3, nat_mul4, nat_mul6, nat_mul15, nat_mul60, nat_cast, nc1, Int.reduceToNat, upE, upN, fill_ne, fill_in, i0, b90, d90, ev, Int.reduceMod] <;> omega)))
        | (with_reducible apply wp_2; (first | omega | (simp (disch := omega) only [not_false_eq_true, not_true_eq_false, w32_id, tLt, fLt, tLe, fEq, itE, and_true, true_and, and_self, and_false, false_and, ↓reduceIte, nat_add, nat_mul3, nat_mul4, nat_mul6, nat_mul15, nat_mul60, nat_cast, nc1, Int.reduceToNat, upE, upN, fill_ne, fill_in, i0, b90, d90, ev, Int.reduceMod] <;> omega)))
        | (with_reducible apply wp_s; (first | (simp (disch := omega) only [not_false_eq_true, not_true_eq_false, w32_id, tLt, fLt, tLe, fEq, itE, and_true, true_and, and_self, and_false, false_and, ↓reduceIte, nat_add, nat_mul3, nat_mul4, nat_mul6, nat_mul15, nat_mul60, nat_cast, nc1, Int.reduceToNat, upE, upN, fill_ne, fill_in, i0, b90, d90, ev, Int.reduceMod]; with_reducible exact Iff.rfl) | with_reducible exact Iff.rfl); intro hc__; (try subst hc__); rotate_left; intro hc__; rotate_left)
        | (with_reducible apply wp_eq; (with_reducible apply cl_go; simp (disch := omega) only [not_false_eq_true, not_true_eq_false, w32_id, tLt, fLt, tLe, fEq, itE, and_true, true_and, and_self, and_false, false_and, ↓reduceIte, nat_add, nat_mul3, nat_mul4, nat_mul6, nat_mul15, nat_mul60, nat_cast, nc1, Int.reduceToNat, upE, upN, fill_ne, fill_in, i0, b90, d90, ev, Int.reduceMod]; with_reducible exact rfl))
        | (with_reducible refine wp_eq (c_Mo_aCouple (by omega) _ _ _ _) ?_; with_reducible refine wp_eq (b_Mo_aCouple_0 _ _ _ _ _) ?_)
        | (with_reducible refine wp_eq (c_Mo_portTo (by omega) _ _ _ _) ?_; with_reducible refine wp_eq (b_Mo_portTo_0 _ _ _ _ _) ?_)
        | with_reducible refine wp_eq (b_Mo_aCouple_92 _ _ _ _ _ _) ?_
        | with_reducible refine wp_eq (a2) ?_
        | with_reducible refine wp_eq (c2 _ _ _ (by omega) (by omega) (by omega)) ?_
        | with_reducible refine wp_eq (i1) ?_
        | with_reducible refine wp_eq (f1 _ _ (by omega) (by omega)) ?_
        | with_reducible refine wp_eq (c4 _ _ _ (by omega) (by omega) (by omega)) ?_
        | (with_reducible apply wp_eq; (with_reducible apply lf_go; simp (disch := omega) only [not_false_eq_true, not_true_eq_false, w32_id, tLt, fLt, tLe, fEq, itE, and_true, true_and, and_self, and_false, false_and, ↓reduceIte, nat_add, nat_mul3, nat_mul4, nat_mul6, nat_mul15, nat_mul60, nat_cast, nc1, Int.reduceToNat, upE, upN, fill_ne, fill_in, i0, b90, d90, ev, Int.reduceMod]; with_reducible exact rfl))
        | with_reducible apply wp_q1
      exact ⟨_, _, _, rfl, rfl, rfl, rfl⟩
  have c3 := c3 2 rfl
  have f54 : Mf 272 2854 = (v : Int) := by rw [ft2 _ _ (by omega) (by omega)]; exact ev
  have ww := (fa.w.trans fa1.w).trans fa2.w
  have wm := (fb.w.trans (ft1.w (by omega))).trans (ft2.w (by omega))
  rcases k_word (L := L) (d1 := d1 - 1) (d2 := d2 - 1) (by omega) (by omega) tc (w := 12) (k := 15) (by omega) (by decide) with ⟨qx, ex, Mx, My, u1, u2, tx, lx, fx, fy⟩ | ⟨M1', M2', u1, u2, f, fx, fy⟩
  rotate_left
  · right; left
    refine ⟨M1', M2', ?_, wp_un ?_, f, ww.trans fx.w, wm.trans fy.w⟩
    · repeat' first
        | (with_reducible apply bR_go; (simp (disch := omega) only [rM L, rK L, rN L, rNf, rNv, rNp, rNd, rRow, rLeg, rMark, nat_cast, Int.reduceToNat]; with_reducible exact rfl))
        | with_reducible apply bI_go
        | with_reducible apply bV_go
        | with_reducible apply bL_go
        | (with_reducible apply it_1; (first | omega | (simp (disch := omega) only [not_false_eq_true, not_true_eq_false, w32_id, tLt, fLt, tLe, fEq, itE, and_true, true_and, and_self, and_false, false_and, ↓reduceIte, nat_add, nat_mul3, nat_mul4, nat_mul6, nat_mul15, nat_mul60, nat_cast, nc1, Int.reduceToNat, upE, upN, fill_ne, fill_in, i0] <;> omega)))
        | (with_reducible apply it_2; (first | omega | (simp (disch := omega) only [not_false_eq_true, not_true_eq_false, w32_id, tLt, fLt, tLe, fEq, itE, and_true, true_and, and_self, and_false, false_and, ↓reduceIte, nat_add, nat_mul3, nat_mul4, nat_mul6, nat_mul15, nat_mul60, nat_cast, nc1, Int.reduceToNat, upE, upN, fill_ne, fill_in, i0] <;> omega)))
        | (with_reducible refine cl_go ?_; simp (disch := omega) only [not_false_eq_true, not_true_eq_false, w32_id, tLt, fLt, tLe, fEq, itE, and_true, true_and, and_self, and_false, false_and, ↓reduceIte, nat_add, nat_mul3, nat_mul4, nat_mul6, nat_mul15, nat_mul60, nat_cast, nc1, Int.reduceToNat, upE, upN, fill_ne, fill_in, i0])
        | rw [c_WorldText_takesWay (by omega), b_WorldText_takesWay_0]
        | with_reducible exact a1
        | with_reducible exact c1
        | with_reducible exact c3
        | with_reducible exact u1
        | (with_reducible refine rn_go ?_; simp (disch := omega) only [not_false_eq_true, not_true_eq_false, w32_id, tLt, fLt, tLe, fEq, itE, and_true, true_and, and_self, and_false, false_and, ↓reduceIte, nat_add, nat_mul3, nat_mul4, nat_mul6, nat_mul15, nat_mul60, nat_cast, nc1, Int.reduceToNat, upE, upN, fill_ne, fill_in, i0])
        | (with_reducible refine lf_go ?_; simp (disch := omega) only [not_false_eq_true, not_true_eq_false, w32_id, tLt, fLt, tLe, fEq, itE, and_true, true_and, and_self, and_false, false_and, ↓reduceIte, nat_add, nat_mul3, nat_mul4, nat_mul6, nat_mul15, nat_mul60, nat_cast, nc1, Int.reduceToNat, upE, upN, fill_ne, fill_in, i0])
        | with_reducible exact rfl
    · repeat' first
        | (with_reducible apply wp_bR; (simp (disch := omega) only [rM L, rK L, rN L, rNf, rNv, rNp, rNd, rRow, rLeg, rMark, nat_cast, Int.reduceToNat, b90, d90, ev, Int.reduceMod]; with_reducible exact rfl))
        | with_reducible apply wp_bI
        | with_reducible apply wp_bV
        | with_reducible apply wp_bL
        | with_reducible apply wp_rI
        | with_reducible apply wp_rV
        | with_reducible apply wp_rL
        | (with_reducible apply wp_1; (first | omega | (simp (disch := omega) only [not_false_eq_true, not_true_eq_false, w32_id, tLt, fLt, tLe, fEq, itE, and_true, true_and, and_self, and_false, false_and, ↓reduceIte, nat_add, nat_mul3, nat_mul4, nat_mul6, nat_mul15, nat_mul60, nat_cast, nc1, Int.reduceToNat, upE, upN, fill_ne, fill_in, i0, b90, d90, ev, Int.reduceMod] <;> omega)))
        | (with_reducible apply wp_2; (first | omega | (simp (disch := omega) only [not_false_eq_true, not_true_eq_false, w32_id, tLt, fLt, tLe, fEq, itE, and_true, true_and, and_self, and_false, false_and, ↓reduceIte, nat_add, nat_mul3, nat_mul4, nat_mul6, nat_mul15, nat_mul60, nat_cast, nc1, Int.reduceToNat, upE, upN, fill_ne, fill_in, i0, b90, d90, ev, Int.reduceMod] <;> omega)))
        | (with_reducible apply wp_s; (first | (simp (disch := omega) only [not_false_eq_true, not_true_eq_false, w32_id, tLt, fLt, tLe, fEq, itE, and_true, true_and, and_self, and_false, false_and, ↓reduceIte, nat_add, nat_mul3, nat_mul4, nat_mul6, nat_mul15, nat_mul60, nat_cast, nc1, Int.reduceToNat, upE, upN, fill_ne, fill_in, i0, b90, d90, ev, Int.reduceMod]; with_reducible exact Iff.rfl) | with_reducible exact Iff.rfl); intro hc__; (try subst hc__); rotate_left; intro hc__; rotate_left)
        | (with_reducible apply wp_eq; (with_reducible apply cl_go; simp (disch := omega) only [not_false_eq_true, not_true_eq_false, w32_id, tLt, fLt, tLe, fEq, itE, and_true, true_and, and_self, and_false, false_and, ↓reduceIte, nat_add, nat_mul3, nat_mul4, nat_mul6, nat_mul15, nat_mul60, nat_cast, nc1, Int.reduceToNat, upE, upN, fill_ne, fill_in, i0, b90, d90, ev, Int.reduceMod]; with_reducible exact rfl))
        | (with_reducible refine wp_eq (c_Mo_aCouple (by omega) _ _ _ _) ?_; with_reducible refine wp_eq (b_Mo_aCouple_0 _ _ _ _ _) ?_)
        | (with_reducible refine wp_eq (c_Mo_portTo (by omega) _ _ _ _) ?_; with_reducible refine wp_eq (b_Mo_portTo_0 _ _ _ _ _) ?_)
        | with_reducible refine wp_eq (b_Mo_aCouple_92 _ _ _ _ _ _) ?_
        | with_reducible refine wp_eq (a2) ?_
        | with_reducible refine wp_eq (c2 _ _ _ (by omega) (by omega) (by omega)) ?_
        | with_reducible refine wp_eq (i1) ?_
        | with_reducible refine wp_eq (f1 _ _ (by omega) (by omega)) ?_
        | with_reducible refine wp_eq (c4 _ _ _ (by omega) (by omega) (by omega)) ?_
        | with_reducible refine wp_eq (u2) ?_
        | (with_reducible apply wp_eq; (with_reducible apply lf_go; simp (disch := omega) only [not_false_eq_true, not_true_eq_false, w32_id, tLt, fLt, tLe, fEq, itE, and_true, true_and, and_self, and_false, false_and, ↓reduceIte, nat_add, nat_mul3, nat_mul4, nat_mul6, nat_mul15, nat_mul60, nat_cast, nc1, Int.reduceToNat, upE, upN, fill_ne, fill_in, i0, b90, d90, ev, Int.reduceMod]; with_reducible exact rfl))
        | with_reducible apply wp_q1
      exact ⟨_, _, _, rfl, rfl, rfl, rfl⟩
  rcases k_num (L := L) (d1 := d1 - 1) (d2 := d2 - 1) (by omega) (by omega) tx 1 20 (to := 2856) (by omega) with ⟨qd, ed, x, Mg, Mh, o1, o2, hx, td, ld, fa3, ft3, ez⟩ | ⟨M1', M2', o1, o2, f, fa3, fb3⟩
  rotate_left
  · right; left
    refine ⟨M1', M2', ?_, wp_un ?_, f, (ww.trans fx.w).trans fa3.w, (wm.trans fy.w).trans fb3.w⟩
    · repeat' first
        | (with_reducible apply bR_go; (simp (disch := omega) only [rM L, rK L, rN L, rNf, rNv, rNp, rNd, rRow, rLeg, rMark, nat_cast, Int.reduceToNat]; with_reducible exact rfl))
        | with_reducible apply bI_go
        | with_reducible apply bV_go
        | with_reducible apply bL_go
        | (with_reducible apply it_1; (first | omega | (simp (disch := omega) only [not_false_eq_true, not_true_eq_false, w32_id, tLt, fLt, tLe, fEq, itE, and_true, true_and, and_self, and_false, false_and, ↓reduceIte, nat_add, nat_mul3, nat_mul4, nat_mul6, nat_mul15, nat_mul60, nat_cast, nc1, Int.reduceToNat, upE, upN, fill_ne, fill_in, i0] <;> omega)))
        | (with_reducible apply it_2; (first | omega | (simp (disch := omega) only [not_false_eq_true, not_true_eq_false, w32_id, tLt, fLt, tLe, fEq, itE, and_true, true_and, and_self, and_false, false_and, ↓reduceIte, nat_add, nat_mul3, nat_mul4, nat_mul6, nat_mul15, nat_mul60, nat_cast, nc1, Int.reduceToNat, upE, upN, fill_ne, fill_in, i0] <;> omega)))
        | (with_reducible refine cl_go ?_; simp (disch := omega) only [not_false_eq_true, not_true_eq_false, w32_id, tLt, fLt, tLe, fEq, itE, and_true, true_and, and_self, and_false, false_and, ↓reduceIte, nat_add, nat_mul3, nat_mul4, nat_mul6, nat_mul15, nat_mul60, nat_cast, nc1, Int.reduceToNat, upE, upN, fill_ne, fill_in, i0])
        | rw [c_WorldText_takesWay (by omega), b_WorldText_takesWay_0]
        | with_reducible exact a1
        | with_reducible exact c1
        | with_reducible exact c3
        | with_reducible exact u1
        | with_reducible exact o1
        | (with_reducible refine rn_go ?_; simp (disch := omega) only [not_false_eq_true, not_true_eq_false, w32_id, tLt, fLt, tLe, fEq, itE, and_true, true_and, and_self, and_false, false_and, ↓reduceIte, nat_add, nat_mul3, nat_mul4, nat_mul6, nat_mul15, nat_mul60, nat_cast, nc1, Int.reduceToNat, upE, upN, fill_ne, fill_in, i0])
        | (with_reducible refine lf_go ?_; simp (disch := omega) only [not_false_eq_true, not_true_eq_false, w32_id, tLt, fLt, tLe, fEq, itE, and_true, true_and, and_self, and_false, false_and, ↓reduceIte, nat_add, nat_mul3, nat_mul4, nat_mul6, nat_mul15, nat_mul60, nat_cast, nc1, Int.reduceToNat, upE, upN, fill_ne, fill_in, i0])
        | with_reducible exact rfl
    · repeat' first
        | (with_reducible apply wp_bR; (simp (disch := omega) only [rM L, rK L, rN L, rNf, rNv, rNp, rNd, rRow, rLeg, rMark, nat_cast, Int.reduceToNat, b90, d90, ev, Int.reduceMod]; with_reducible exact rfl))
        | with_reducible apply wp_bI
        | with_reducible apply wp_bV
        | with_reducible apply wp_bL
        | with_reducible apply wp_rI
        | with_reducible apply wp_rV
        | with_reducible apply wp_rL
        | (with_reducible apply wp_1; (first | omega | (simp (disch := omega) only [not_false_eq_true, not_true_eq_false, w32_id, tLt, fLt, tLe, fEq, itE, and_true, true_and, and_self, and_false, false_and, ↓reduceIte, nat_add, nat_mul3, nat_mul4, nat_mul6, nat_mul15, nat_mul60, nat_cast, nc1, Int.reduceToNat, upE, upN, fill_ne, fill_in, i0, b90, d90, ev, Int.reduceMod] <;> omega)))
        | (with_reducible apply wp_2; (first | omega | (simp (disch := omega) only [not_false_eq_true, not_true_eq_false, w32_id, tLt, fLt, tLe, fEq, itE, and_true, true_and, and_self, and_false, false_and, ↓reduceIte, nat_add, nat_mul3, nat_mul4, nat_mul6, nat_mul15, nat_mul60, nat_cast, nc1, Int.reduceToNat, upE, upN, fill_ne, fill_in, i0, b90, d90, ev, Int.reduceMod] <;> omega)))
        | (with_reducible apply wp_s; (first | (simp (disch := omega) only [not_false_eq_true, not_true_eq_false, w32_id, tLt, fLt, tLe, fEq, itE, and_true, true_and, and_self, and_false, false_and, ↓reduceIte, nat_add, nat_mul3, nat_mul4, nat_mul6, nat_mul15, nat_mul60, nat_cast, nc1, Int.reduceToNat, upE, upN, fill_ne, fill_in, i0, b90, d90, ev, Int.reduceMod]; with_reducible exact Iff.rfl) | with_reducible exact Iff.rfl); intro hc__; (try subst hc__); rotate_left; intro hc__; rotate_left)
        | (with_reducible apply wp_eq; (with_reducible apply cl_go; simp (disch := omega) only [not_false_eq_true, not_true_eq_false, w32_id, tLt, fLt, tLe, fEq, itE, and_true, true_and, and_self, and_false, false_and, ↓reduceIte, nat_add, nat_mul3, nat_mul4, nat_mul6, nat_mul15, nat_mul60, nat_cast, nc1, Int.reduceToNat, upE, upN, fill_ne, fill_in, i0, b90, d90, ev, Int.reduceMod]; with_reducible exact rfl))
        | (with_reducible refine wp_eq (c_Mo_aCouple (by omega) _ _ _ _) ?_; with_reducible refine wp_eq (b_Mo_aCouple_0 _ _ _ _ _) ?_)
        | (with_reducible refine wp_eq (c_Mo_portTo (by omega) _ _ _ _) ?_; with_reducible refine wp_eq (b_Mo_portTo_0 _ _ _ _ _) ?_)
        | with_reducible refine wp_eq (b_Mo_aCouple_92 _ _ _ _ _ _) ?_
        | with_reducible refine wp_eq (a2) ?_
        | with_reducible refine wp_eq (c2 _ _ _ (by omega) (by omega) (by omega)) ?_
        | with_reducible refine wp_eq (i1) ?_
        | with_reducible refine wp_eq (f1 _ _ (by omega) (by omega)) ?_
        | with_reducible refine wp_eq (c4 _ _ _ (by omega) (by omega) (by omega)) ?_
        | with_reducible refine wp_eq (u2) ?_
        | with_reducible refine wp_eq (o2 _ (by omega)) ?_
        | (with_reducible apply wp_eq; (with_reducible apply lf_go; simp (disch := omega) only [not_false_eq_true, not_true_eq_false, w32_id, tLt, fLt, tLe, fEq, itE, and_true, true_and, and_self, and_false, false_and, ↓reduceIte, nat_add, nat_mul3, nat_mul4, nat_mul6, nat_mul15, nat_mul60, nat_cast, nc1, Int.reduceToNat, upE, upN, fill_ne, fill_in, i0, b90, d90, ev, Int.reduceMod]; with_reducible exact rfl))
        | with_reducible apply wp_q1
      exact ⟨_, _, _, rfl, rfl, rfl, rfl⟩
  have r1 := rCd (L := L) ch66 (k := v) (by omega)
  have r2 := rCd (L := L) ch66 (k := w) (by omega)
  have h54 : Mh 272 2854 = (v : Int) := by rw [ft3 _ _ (by omega) (by omega), fy _ _ (by omega)]; exact f54
  have h55 : Mh 272 2855 = (w : Int) := by rw [ft3 _ _ (by omega) (by omega), fy _ _ (by omega)]; exact ew
  generalize hX : up (up Mh 272 (2344 + 15 * v + 9 + w) x) 272 (2344 + 15 * w + 9 + v) x = X
  have mo : callD d2 m_Mo_aCouple [vR 12 0 271, vI 0] (SH L) M2 = some (some (vI 1), SH L, X) := by
    rw [← hX]
    refine wp_un ?_
    repeat' first
      | (with_reducible apply wp_bR; (simp (disch := omega) only [rM L, rK L, rN L, rNf, rNv, rNp, rNd, rRow, rLeg, rMark, nat_cast, Int.reduceToNat, b90, d90, ev, h54, h55, ez, Int.reduceMod, Int.reduceAdd]; with_reducible exact rfl))
      | with_reducible apply wp_bI
      | with_reducible apply wp_bV
      | with_reducible apply wp_bL
      | with_reducible apply wp_rI
      | with_reducible apply wp_rV
      | with_reducible apply wp_rL
      | (with_reducible apply wp_1; (first | omega | (simp (disch := omega) only [not_false_eq_true, not_true_eq_false, w32_id, tLt, fLt, tLe, fEq, itE, and_true, true_and, and_self, and_false, false_and, ↓reduceIte, nat_add, nat_mul3, nat_mul4, nat_mul6, nat_mul15, nat_mul60, nat_cast, nc1, Int.reduceToNat, upE, upN, fill_ne, fill_in, i0, b90, d90, ev, h54, h55, ez, Int.reduceMod, Int.reduceAdd] <;> omega)))
      | (with_reducible apply wp_2; (first | omega | (simp (disch := omega) only [not_false_eq_true, not_true_eq_false, w32_id, tLt, fLt, tLe, fEq, itE, and_true, true_and, and_self, and_false, false_and, ↓reduceIte, nat_add, nat_mul3, nat_mul4, nat_mul6, nat_mul15, nat_mul60, nat_cast, nc1, Int.reduceToNat, upE, upN, fill_ne, fill_in, i0, b90, d90, ev, h54, h55, ez, Int.reduceMod, Int.reduceAdd] <;> omega)))
      | (with_reducible apply wp_s; (first | (simp (disch := omega) only [not_false_eq_true, not_true_eq_false, w32_id, tLt, fLt, tLe, fEq, itE, and_true, true_and, and_self, and_false, false_and, ↓reduceIte, nat_add, nat_mul3, nat_mul4, nat_mul6, nat_mul15, nat_mul60, nat_cast, nc1, Int.reduceToNat, upE, upN, fill_ne, fill_in, i0, b90, d90, ev, h54, h55, ez, Int.reduceMod, Int.reduceAdd]; with_reducible exact Iff.rfl) | with_reducible exact Iff.rfl); intro hc__; (try subst hc__); rotate_left; intro hc__; rotate_left)
      | (with_reducible apply wp_eq; (with_reducible apply cl_go; simp (disch := omega) only [not_false_eq_true, not_true_eq_false, w32_id, tLt, fLt, tLe, fEq, itE, and_true, true_and, and_self, and_false, false_and, ↓reduceIte, nat_add, nat_mul3, nat_mul4, nat_mul6, nat_mul15, nat_mul60, nat_cast, nc1, Int.reduceToNat, upE, upN, fill_ne, fill_in, i0, b90, d90, ev, h54, h55, ez, Int.reduceMod, Int.reduceAdd]; with_reducible exact rfl))
      | (with_reducible refine wp_eq (c_Mo_aCouple (by omega) _ _ _ _) ?_; with_reducible refine wp_eq (b_Mo_aCouple_0 _ _ _ _ _) ?_)
      | (with_reducible refine wp_eq (c_Mo_portTo (by omega) _ _ _ _) ?_; with_reducible refine wp_eq (b_Mo_portTo_0 _ _ _ _ _) ?_)
      | with_reducible refine wp_eq (b_Mo_aCouple_92 _ _ _ _ _ _) ?_
      | with_reducible refine wp_eq (a2) ?_
      | with_reducible refine wp_eq (c2 _ _ _ (by omega) (by omega) (by omega)) ?_
      | with_reducible refine wp_eq (i1) ?_
      | with_reducible refine wp_eq (f1 _ _ (by omega) (by omega)) ?_
      | with_reducible refine wp_eq (c4 _ _ _ (by omega) (by omega) (by omega)) ?_
      | with_reducible refine wp_eq (u2) ?_
      | with_reducible refine wp_eq (o2 _ (by omega)) ?_
      | (with_reducible apply wp_eq; (with_reducible apply lf_go; simp (disch := omega) only [not_false_eq_true, not_true_eq_false, w32_id, tLt, fLt, tLe, fEq, itE, and_true, true_and, and_self, and_false, false_and, ↓reduceIte, nat_add, nat_mul3, nat_mul4, nat_mul6, nat_mul15, nat_mul60, nat_cast, nc1, Int.reduceToNat, upE, upN, fill_ne, fill_in, i0, b90, d90, ev, h54, h55, ez, Int.reduceMod, Int.reduceAdd]; with_reducible exact rfl))
      | with_reducible apply wp_q1
    exact ⟨_, _, _, rfl, rfl, rfl, rfl⟩
  have th : TK bt n qd ed (up (up Mg (89 + v) w x) (89 + w) v x) X := td.fr (fun b j hb => by rw [upN (by omega), upN (by omega)]) fun b j hb => by rw [← hX, upN (by omega), upN (by omega)]
  have w1 := (((ww.trans fx.w).trans fa3.w).u (c := 89 + v) (j := w) (v := x) (by omega)).u (c := 89 + w) (j := v) (v := x) (by omega)
  have w2 : FmW M2 X := by rw [← hX]; exact (((wm.trans fy.w).trans (ft3.w (by omega))).u (by omega)).u (by omega)
  rcases k_stop (L := L) (d1 := d1 - 1) (d2 := d2) (by omega) (by omega) th with ⟨qe, ee, Mj, Mk, s1, s2, tk, le', fj, fk⟩ | ⟨Mj, Mk, s1, s2, f, fj, fk⟩
  rotate_left
  · right; right
    refine ⟨Mj, _, Mk, ?_, mo, s2, f, w1.trans fj.w, w2.trans fk.w⟩
    repeat' first
      | (with_reducible apply bR_go; (simp (disch := omega) only [rM L, rK L, rN L, rNf, rNv, rNp, rNd, rRow, rLeg, rMark, nat_cast, Int.reduceToNat, rc, r1, r2, Int.reduceMod]; with_reducible exact rfl))
      | with_reducible apply bI_go
      | with_reducible apply bV_go
      | with_reducible apply bL_go
      | (with_reducible apply it_1; (first | omega | (simp (disch := omega) only [not_false_eq_true, not_true_eq_false, w32_id, tLt, fLt, tLe, fEq, itE, and_true, true_and, and_self, and_false, false_and, ↓reduceIte, nat_add, nat_mul3, nat_mul4, nat_mul6, nat_mul15, nat_mul60, nat_cast, nc1, Int.reduceToNat, upE, upN, fill_ne, fill_in, i0, rc, r1, r2, Int.reduceMod] <;> omega)))
      | (with_reducible apply it_2; (first | omega | (simp (disch := omega) only [not_false_eq_true, not_true_eq_false, w32_id, tLt, fLt, tLe, fEq, itE, and_true, true_and, and_self, and_false, false_and, ↓reduceIte, nat_add, nat_mul3, nat_mul4, nat_mul6, nat_mul15, nat_mul60, nat_cast, nc1, Int.reduceToNat, upE, upN, fill_ne, fill_in, i0, rc, r1, r2, Int.reduceMod] <;> omega)))
      | (with_reducible refine cl_go ?_; simp (disch := omega) only [not_false_eq_true, not_true_eq_false, w32_id, tLt, fLt, tLe, fEq, itE, and_true, true_and, and_self, and_false, false_and, ↓reduceIte, nat_add, nat_mul3, nat_mul4, nat_mul6, nat_mul15, nat_mul60, nat_cast, nc1, Int.reduceToNat, upE, upN, fill_ne, fill_in, i0, rc, r1, r2, Int.reduceMod])
      | rw [c_WorldText_takesWay (by omega), b_WorldText_takesWay_0]
      | with_reducible exact a1
      | with_reducible exact c1
      | with_reducible exact c3
      | with_reducible exact u1
      | with_reducible exact o1
      | with_reducible exact s1
      | (with_reducible refine rn_go ?_; simp (disch := omega) only [not_false_eq_true, not_true_eq_false, w32_id, tLt, fLt, tLe, fEq, itE, and_true, true_and, and_self, and_false, false_and, ↓reduceIte, nat_add, nat_mul3, nat_mul4, nat_mul6, nat_mul15, nat_mul60, nat_cast, nc1, Int.reduceToNat, upE, upN, fill_ne, fill_in, i0, rc, r1, r2, Int.reduceMod])
      | (with_reducible refine lf_go ?_; simp (disch := omega) only [not_false_eq_true, not_true_eq_false, w32_id, tLt, fLt, tLe, fEq, itE, and_true, true_and, and_self, and_false, false_and, ↓reduceIte, nat_add, nat_mul3, nat_mul4, nat_mul6, nat_mul15, nat_mul60, nat_cast, nc1, Int.reduceToNat, upE, upN, fill_ne, fill_in, i0, rc, r1, r2, Int.reduceMod])
      | with_reducible exact rfl
  left
  refine ⟨qe, ee, Mj, _, Mk, ?_, mo, s2, tk, by have b1 := ta.2.2.2.2.1.bd; have b2 := tb.2.2.2.2.1.bd; have b3 := tc.2.2.2.2.1.bd; have b4 := tx.2.2.2.2.1.bd; have b5 := td.2.2.2.2.1.bd; omega, ?_, w1.trans fj.w, w2.trans fk.w⟩
  · repeat' first
      | (with_reducible apply bR_go; (simp (disch := omega) only [rM L, rK L, rN L, rNf, rNv, rNp, rNd, rRow, rLeg, rMark, nat_cast, Int.reduceToNat, rc, r1, r2, Int.reduceMod]; with_reducible exact rfl))
      | with_reducible apply bI_go
      | with_reducible apply bV_go
      | with_reducible apply bL_go
      | (with_reducible apply it_1; (first | omega | (simp (disch := omega) only [not_false_eq_true, not_true_eq_false, w32_id, tLt, fLt, tLe, fEq, itE, and_true, true_and, and_self, and_false, false_and, ↓reduceIte, nat_add, nat_mul3, nat_mul4, nat_mul6, nat_mul15, nat_mul60, nat_cast, nc1, Int.reduceToNat, upE, upN, fill_ne, fill_in, i0, rc, r1, r2, Int.reduceMod] <;> omega)))
      | (with_reducible apply it_2; (first | omega | (simp (disch := omega) only [not_false_eq_true, not_true_eq_false, w32_id, tLt, fLt, tLe, fEq, itE, and_true, true_and, and_self, and_false, false_and, ↓reduceIte, nat_add, nat_mul3, nat_mul4, nat_mul6, nat_mul15, nat_mul60, nat_cast, nc1, Int.reduceToNat, upE, upN, fill_ne, fill_in, i0, rc, r1, r2, Int.reduceMod] <;> omega)))
      | (with_reducible refine cl_go ?_; simp (disch := omega) only [not_false_eq_true, not_true_eq_false, w32_id, tLt, fLt, tLe, fEq, itE, and_true, true_and, and_self, and_false, false_and, ↓reduceIte, nat_add, nat_mul3, nat_mul4, nat_mul6, nat_mul15, nat_mul60, nat_cast, nc1, Int.reduceToNat, upE, upN, fill_ne, fill_in, i0, rc, r1, r2, Int.reduceMod])
      | rw [c_WorldText_takesWay (by omega), b_WorldText_takesWay_0]
      | with_reducible exact a1
      | with_reducible exact c1
      | with_reducible exact c3
      | with_reducible exact u1
      | with_reducible exact o1
      | with_reducible exact s1
      | (with_reducible refine rn_go ?_; simp (disch := omega) only [not_false_eq_true, not_true_eq_false, w32_id, tLt, fLt, tLe, fEq, itE, and_true, true_and, and_self, and_false, false_and, ↓reduceIte, nat_add, nat_mul3, nat_mul4, nat_mul6, nat_mul15, nat_mul60, nat_cast, nc1, Int.reduceToNat, upE, upN, fill_ne, fill_in, i0, rc, r1, r2, Int.reduceMod])
      | (with_reducible refine lf_go ?_; simp (disch := omega) only [not_false_eq_true, not_true_eq_false, w32_id, tLt, fLt, tLe, fEq, itE, and_true, true_and, and_self, and_false, false_and, ↓reduceIte, nat_add, nat_mul3, nat_mul4, nat_mul6, nat_mul15, nat_mul60, nat_cast, nc1, Int.reduceToNat, upE, upN, fill_ne, fill_in, i0, rc, r1, r2, Int.reduceMod])
      | with_reducible exact rfl
  have oA : ∀ b j, ¬(b = 271 ∧ (12 ≤ j ∧ j ≤ 15 ∨ j = 17 ∨ j = 18)) → ¬(b = 272 ∧ 2854 ≤ j ∧ j ≤ 2856) → Mh b j = M2 b j := fun b j y1 y2 => by
    rw [ft3 _ _ y1 (by omega), fy _ _ y1, ft2 _ _ y1 (by omega), ft1 _ _ y1 (by omega), fb _ _ y1]
  refine dd_way hD (v := v) (w := w) (x := x) (by omega) (by omega) vw ⟨hx.1, hx.2.1⟩ (fun b j y1 y2 y3 y4 => ?_) ?_ ?_ (fun k y1 y2 y3 => ?_) ?_ ?_ (fun j _ _ => ?_) ?_ ?_
  · rw [fj _ _ (by omega), upN (by omega), upN (by omega), fa3 _ _ (by omega), fx _ _ (by omega), fa2 _ _ (by omega), fa1 _ _ (by omega), fa _ _ (by omega)]
  · rw [fj _ _ (by omega), upN (by omega), upE rfl rfl]
  · rw [fj _ _ (by omega), upE rfl rfl]
  · unfold dA
    rw [fk _ _ (by omega), ← hX, upN (by omega), upN (by omega), oA _ _ (by omega) (by omega)]
  · unfold dA
    rw [fk _ _ (by omega), ← hX, upN (by omega), show 2288 + (65 + 15 * v + w) = 2344 + 15 * v + 9 + w by omega, upE rfl rfl]
  · unfold dA
    rw [fk _ _ (by omega), ← hX, show 2288 + (65 + 15 * w + v) = 2344 + 15 * w + 9 + v by omega, upE rfl rfl]
  · rw [fk _ _ (by omega), ← hX, upN (by omega), upN (by omega), oA _ _ (by omega) (by omega)]
  · rw [fj _ _ (by omega), upN (by omega), upN (by omega), fa3 _ _ (by omega), fx _ _ (by omega), fa2 _ _ (by omega), fa1 _ _ (by omega), fa _ _ (by omega)]
  · rw [fk _ _ (by omega), ← hX, upN (by omega), upN (by omega), oA _ _ (by omega) (by omega)]
end

/-! THE PARTS OF A WORLD: what is aboard -/
section
variable {bt : Nat → Int} {n q e : Nat} {M M1 M2 : Mm} {L d d1 d2 d3 : Nat}
theorem dd_load {Mj Mk : Mm} (hD : DD M1 M2) {v w : Nat} {x : Int} (hv : (v : Int) < dA M2 3) (hw : (w : Int) < dA M2 1) (h0 : 1 ≤ x) (hx : x ≤ dA M2 (149 + 15 * v) - sm (ldF (dA M2) v) 8) (gC : ∀ b j, 65 ≤ b → b ≤ 111 → ¬(b = 105 + 2 * v ∧ j = w) → Mj b j = M1 b j) (c1 : Mj (105 + 2 * v) w = dA M2 (153 + 15 * v + w) + x) (gA : ∀ k, k < 206 → k ≠ 153 + 15 * v + w → dA Mk k = dA M2 k) (e1 : dA Mk (153 + 15 * v + w) = dA M2 (153 + 15 * v + w) + x) (hN : ∀ j, 96 ≤ j → j < 120 → Mk 273 j = M2 273 j) (r0 : Mj 15 0 = M1 15 0) (r20 : Mk 271 20 = M2 271 20) : DD Mj Mk := by
  have hI := hD.2.1
  have hC := hI.1
  unfold Cn at hC
  have hB := hI.2.2.2.2.2.2.1 v hv
  have q1 := cl_l (n := v) (w := w) (k := 153 + 15 * v + w) rfl (by omega)
  have s7 : shp (dA M2) v (7 + w) = dA M2 (153 + 15 * v + w) := (shp7 _ _ _).symm
  have s3 : shp (dA M2) v 3 = dA M2 (149 + 15 * v) := by unfold shp; rw [(i147 v).2.2]
  have nn := hB.2.1 w (by omega)
  have hB' : Sh1 (dA M2) (wU (shp (dA M2) v) (7 + w) (dA M2 (153 + 15 * v + w) + x)) := hB.tons hw (by omega) (by omega) (by rw [ld_shp, s7, s3]; omega)
  have hI' := hI.put (s := v) (by omega) hB'
  refine hD.same (fun k => k = 153 + 15 * v + w) (fun k hk => by unfold vd; omega) (hI'.cg fun k hk => ?_) (fun m hm => ?_) (fun k y1 y2 => gA k y1 y2) (fun k hk => ?_) (fun b j y1 y2 y3 => ?_) hN ?_ ?_
  · by_cases z : k = 153 + 15 * v + w
    · rw [z, e1, show 153 + 15 * v + w = 146 + 15 * v + (7 + w) by omega, putS_in (by omega), wUE rfl]
    · rw [gA k hk z]
      by_cases y : 146 + 15 * v ≤ k ∧ k < 161 + 15 * v
      · obtain ⟨u, rfl⟩ : ∃ u, k = 146 + 15 * v + u := ⟨k - (146 + 15 * v), by omega⟩
        rw [putS_in (by omega), wUN (by omega)]
        rfl
      · rw [putS_ne (by omega)]
  · rw [gA 0 (by omega) (by omega)] at hm ⊢
    rw [gA _ (by omega) (by omega)]
    exact hD.2.2.2.1 m hm
  · subst hk
    rw [q1.1, q1.2, e1, show 58 + 2 * v + 47 = 105 + 2 * v by omega]
    exact c1
  · have z1 := y3 _ rfl
    rw [q1.1, q1.2] at z1
    exact gC b j y1 y2 (by omega)
  · rw [r0, r20]; exact hD.2.2.2.2.2.2.2.1
  · rw [r20]; exact hD.2.2.2.2.2.2.2.2
theorem p_load (h1 : 12 ≤ d1) (h2 : 12 ≤ d2) (h : TK bt n q e M1 M2) (hD : DD M1 M2) (hq : q < e) : PO bt n q L d1 d2 (callD d1 m_WorldText_takesAboard [vR 6 0 12, vR 5 0 65] (SH L) M1) (callD d2 m_Mo_aLoad [vR 12 0 271] (SH L) M2) M1 M2 := by
  have hI := hD.2.1
  have dx := hD.1
  have hC := hI.1
  unfold Cn at hC
  have ch66 : isCh 66 := Or.inr (Or.inl rfl)
  have st65 : isSt 65 := Or.inr (Or.inl rfl)
  have rs := rS (L := L) st65
  obtain ⟨cg, hg⟩ := Int.eq_ofNat_of_zero_le hC.2.2.1
  obtain ⟨cs, hs⟩ := Int.eq_ofNat_of_zero_le hC.2.2.2.2.2.2.1
  obtain ⟨-, k1, -, k3⟩ := hD.nm.k
  rw [hg, nat_cast] at k1
  rw [hs, nat_cast] at k3
  have m89 : M2 272 2289 = (cg : Int) := hg
  have m91 : M2 272 2291 = (cs : Int) := hs
  obtain ⟨qa, ea, Ma, Mb, a1, a2, ta, la, fa, fb⟩ := k_adv (L := L) (d1 := d1 - 1) (d2 := d2 - 1) (by omega) (by omega) h
  have b91 : Mb 272 2291 = (cs : Int) := by rw [fb _ _ (by omega)]; exact m91
  rcases k_thing (L := L) (d1 := d1 - 1) (d2 := d2 - 1) (by omega) (by omega) ta (c := 66) (kd := 3) (to := 2854) ch66 (by omega) (k3.fr (by omega) fa fb.nn) (by omega) with ⟨qb, eb, v, Mc, Md, c1, c2, hv, tb, lb, fa1, ft1, ev⟩ | ⟨M1', M2', c1, c2, f, fa1, ft1⟩
  rotate_left
  · right; left
    have c1 := c1 3 rfl
    refine ⟨M1', M2', ?_, wp_un ?_, f, fa.w.trans fa1.w, fb.w.trans (ft1.w (by omega))⟩
    · repeat' first
        | (with_reducible apply bR_go; (simp (disch := omega) only [rM L, rK L, rN L, rNf, rNv, rNp, rNd, rRow, rLeg, rMark, nat_cast, Int.reduceToNat, rs]; with_reducible exact rfl))
        | with_reducible apply bI_go
        | with_reducible apply bV_go
        | with_reducible apply bL_go
        | (with_reducible apply it_1; (first | omega | (simp (disch := omega) only [not_false_eq_true, not_true_eq_false, w32_id, tLt, fLt, tLe, fEq, itE, and_true, true_and, and_self, and_false, false_and, ↓reduceIte, nat_add, nat_mul3, nat_mul4, nat_mul6, nat_mul15, nat_mul60, nat_cast, nc1, Int.reduceToNat, upE, upN, fill_ne, fill_in, i0, rs] <;> omega)))
        | (with_reducible apply it_2; (first | omega | (simp (disch := omega) only [not_false_eq_true, not_true_eq_false, w32_id, tLt, fLt, tLe, fEq, itE, and_true, true_and, and_self, and_false, false_and, ↓reduceIte, nat_add, nat_mul3, nat_mul4, nat_mul6, nat_mul15, nat_mul60, nat_cast, nc1, Int.reduceToNat, upE, upN, fill_ne, fill_in, i0, rs] <;> omega)))
        | (with_reducible refine cl_go ?_; simp (disch := omega) only [not_false_eq_true, not_true_eq_false, w32_id, tLt, fLt, tLe, fEq, itE, and_true, true_and, and_self, and_false, false_and, ↓reduceIte, nat_add, nat_mul3, nat_mul4, nat_mul6, nat_mul15, nat_mul60, nat_cast, nc1, Int.reduceToNat, upE, upN, fill_ne, fill_in, i0, rs])
        | rw [c_WorldText_takesAboard (by omega), b_WorldText_takesAboard_0]
        | with_reducible exact a1
        | with_reducible exact c1
        | (with_reducible refine rn_go ?_; simp (disch := omega) only [not_false_eq_true, not_true_eq_false, w32_id, tLt, fLt, tLe, fEq, itE, and_true, true_and, and_self, and_false, false_and, ↓reduceIte, nat_add, nat_mul3, nat_mul4, nat_mul6, nat_mul15, nat_mul60, nat_cast, nc1, Int.reduceToNat, upE, upN, fill_ne, fill_in, i0, rs])
        | (with_reducible refine lf_go ?_; simp (disch := omega) only [not_false_eq_true, not_true_eq_false, w32_id, tLt, fLt, tLe, fEq, itE, and_true, true_and, and_self, and_false, false_and, ↓reduceIte, nat_add, nat_mul3, nat_mul4, nat_mul6, nat_mul15, nat_mul60, nat_cast, nc1, Int.reduceToNat, upE, upN, fill_ne, fill_in, i0, rs])
        | with_reducible exact rfl
    · repeat' first
        | (with_reducible apply wp_bR; (simp (disch := omega) only [rM L, rK L, rN L, rNf, rNv, rNp, rNd, rRow, rLeg, rMark, nat_cast, Int.reduceToNat, b91, Int.reduceMod]; with_reducible exact rfl))
        | with_reducible apply wp_bI
        | with_reducible apply wp_bV
        | with_reducible apply wp_bL
        | with_reducible apply wp_rI
        | with_reducible apply wp_rV
        | with_reducible apply wp_rL
        | (with_reducible apply wp_1; (first | omega | (simp (disch := omega) only [not_false_eq_true, not_true_eq_false, w32_id, tLt, fLt, tLe, fEq, itE, and_true, true_and, and_self, and_false, false_and, ↓reduceIte, nat_add, nat_mul3, nat_mul4, nat_mul6, nat_mul15, nat_mul60, nat_cast, nc1, Int.reduceToNat, upE, upN, fill_ne, fill_in, i0, b91, Int.reduceMod] <;> omega)))
        | (with_reducible apply wp_2; (first | omega | (simp (disch := omega) only [not_false_eq_true, not_true_eq_false, w32_id, tLt, fLt, tLe, fEq, itE, and_true, true_and, and_self, and_false, false_and, ↓reduceIte, nat_add, nat_mul3, nat_mul4, nat_mul6, nat_mul15, nat_mul60, nat_cast, nc1, Int.reduceToNat, upE, upN, fill_ne, fill_in, i0, b91, Int.reduceMod] <;> omega)))
        | (with_reducible apply wp_s; (first | (simp (disch := omega) only [not_false_eq_true, not_true_eq_false, w32_id, tLt, fLt, tLe, fEq, itE, and_true, true_and, and_self, and_false, false_and, ↓reduceIte, nat_add, nat_mul3, nat_mul4, nat_mul6, nat_mul15, nat_mul60, nat_cast, nc1, Int.reduceToNat, upE, upN, fill_ne, fill_in, i0, b91, Int.reduceMod]; with_reducible exact Iff.rfl) | with_reducible exact Iff.rfl); intro hc__; (try subst hc__); rotate_left; intro hc__; rotate_left)
        | (with_reducible apply wp_eq; (with_reducible apply cl_go; simp (disch := omega) only [not_false_eq_true, not_true_eq_false, w32_id, tLt, fLt, tLe, fEq, itE, and_true, true_and, and_self, and_false, false_and, ↓reduceIte, nat_add, nat_mul3, nat_mul4, nat_mul6, nat_mul15, nat_mul60, nat_cast, nc1, Int.reduceToNat, upE, upN, fill_ne, fill_in, i0, b91, Int.reduceMod]; with_reducible exact rfl))
        | (with_reducible refine wp_eq (c_Mo_aLoad (by omega) _ _ _) ?_; with_reducible refine wp_eq (b_Mo_aLoad_0 _ _ _ _) ?_)
        | with_reducible refine wp_eq (a2) ?_
        | with_reducible refine wp_eq (c2 _ _ _ (by omega) (by omega) (by omega)) ?_
        | (with_reducible apply wp_eq; (with_reducible apply lf_go; simp (disch := omega) only [not_false_eq_true, not_true_eq_false, w32_id, tLt, fLt, tLe, fEq, itE, and_true, true_and, and_self, and_false, false_and, ↓reduceIte, nat_add, nat_mul3, nat_mul4, nat_mul6, nat_mul15, nat_mul60, nat_cast, nc1, Int.reduceToNat, upE, upN, fill_ne, fill_in, i0, b91, Int.reduceMod]; with_reducible exact rfl))
        | with_reducible apply wp_q1
      exact ⟨_, _, _, rfl, rfl, rfl, rfl⟩
  have c1 := c1 3 rfl
  have d89 : Md 272 2289 = (cg : Int) := by rw [ft1 _ _ (by omega) (by omega), fb _ _ (by omega)]; exact m89
  rcases k_thing (L := L) (d1 := d1 - 1) (d2 := d2 - 1 - 1) (by omega) (by omega) tb (c := 66) (kd := 1) (to := 2855) ch66 (by omega) ((k1.fr (by omega) fa fb.nn).fr (by omega) fa1 ft1.nn) (by omega) with ⟨qc, ec, w, Me, Mf, c3, c4, hw, tc, lc, fa2, ft2, ew⟩ | ⟨M1', M2', c3, c4, f, fa2, ft2⟩
  rotate_left
  · right; left
    have c3 := c3 1 rfl
    refine ⟨M1', M2', ?_, wp_un ?_, f, (fa.w.trans fa1.w).trans fa2.w, (fb.w.trans (ft1.w (by omega))).trans (ft2.w (by omega))⟩
    · repeat' first
        | (with_reducible apply bR_go; (simp (disch := omega) only [rM L, rK L, rN L, rNf, rNv, rNp, rNd, rRow, rLeg, rMark, nat_cast, Int.reduceToNat, rs]; with_reducible exact rfl))
        | with_reducible apply bI_go
        | with_reducible apply bV_go
        | with_reducible apply bL_go
        | (with_reducible apply it_1; (first | omega | (simp (disch := omega) only [not_false_eq_true, not_true_eq_false, w32_id, tLt, fLt, tLe, fEq, itE, and_true, true_and, and_self, and_false, false_and, ↓reduceIte, nat_add, nat_mul3, nat_mul4, nat_mul6, nat_mul15, nat_mul60, nat_cast, nc1, Int.reduceToNat, upE, upN, fill_ne, fill_in, i0, rs] <;> omega)))
        | (with_reducible apply it_2; (first | omega | (simp (disch := omega) only [not_false_eq_true, not_true_eq_false, w32_id, tLt, fLt, tLe, fEq, itE, and_true, true_and, and_self, and_false, false_and, ↓reduceIte, nat_add, nat_mul3, nat_mul4, nat_mul6, nat_mul15, nat_mul60, nat_cast, nc1, Int.reduceToNat, upE, upN, fill_ne, fill_in, i0, rs] <;> omega)))
        | (with_reducible refine cl_go ?_; simp (disch := omega) only [not_false_eq_true, not_true_eq_false, w32_id, tLt, fLt, tLe, fEq, itE, and_true, true_and, and_self, and_false, false_and, ↓reduceIte, nat_add, nat_mul3, nat_mul4, nat_mul6, nat_mul15, nat_mul60, nat_cast, nc1, Int.reduceToNat, upE, upN, fill_ne, fill_in, i0, rs])
        | rw [c_WorldText_takesAboard (by omega), b_WorldText_takesAboard_0]
        | with_reducible exact a1
        | with_reducible exact c1
        | with_reducible exact c3
        | (with_reducible refine rn_go ?_; simp (disch := omega) only [not_false_eq_true, not_true_eq_false, w32_id, tLt, fLt, tLe, fEq, itE, and_true, true_and, and_self, and_false, false_and, ↓reduceIte, nat_add, nat_mul3, nat_mul4, nat_mul6, nat_mul15, nat_mul60, nat_cast, nc1, Int.reduceToNat, upE, upN, fill_ne, fill_in, i0, rs])
        | (with_reducible refine lf_go ?_; simp (disch := omega) only [not_false_eq_true, not_true_eq_false, w32_id, tLt, fLt, tLe, fEq, itE, and_true, true_and, and_self, and_false, false_and, ↓reduceIte, nat_add, nat_mul3, nat_mul4, nat_mul6, nat_mul15, nat_mul60, nat_cast, nc1, Int.reduceToNat, upE, upN, fill_ne, fill_in, i0, rs])
        | with_reducible exact rfl
    · repeat' first
        | (with_reducible apply wp_bR; (simp (disch := omega) only [rM L, rK L, rN L, rNf, rNv, rNp, rNd, rRow, rLeg, rMark, nat_cast, Int.reduceToNat, b91, d89, Int.reduceMod]; with_reducible exact rfl))
        | with_reducible apply wp_bI
        | with_reducible apply wp_bV
        | with_reducible apply wp_bL
        | with_reducible apply wp_rI
        | with_reducible apply wp_rV
        | with_reducible apply wp_rL
        | (with_reducible apply wp_1; (first | omega | (simp (disch := omega) only [not_false_eq_true, not_true_eq_false, w32_id, tLt, fLt, tLe, fEq, itE, and_true, true_and, and_self, and_false, false_and, ↓reduceIte, nat_add, nat_mul3, nat_mul4, nat_mul6, nat_mul15, nat_mul60, nat_cast, nc1, Int.reduceToNat, upE, upN, fill_ne, fill_in, i0, b91, d89, Int.reduceMod] <;> omega)))
        | (with_reducible apply wp_2; (first | omega | (simp (disch := omega) only [not_false_eq_true, not_true_eq_false, w32_id, tLt, fLt, tLe, fEq, itE, and_true, true_and, and_self, and_false, false_and, ↓reduceIte, nat_add, nat_mul3, nat_mul4, nat_mul6, nat_mul15, nat_mul60, nat_cast, nc1, Int.reduceToNat, upE, upN, fill_ne, fill_in, i0, b91, d89, Int.reduceMod] <;> omega)))
        | (with_reducible apply wp_s; (first | (simp (disch := omega) only [not_false_eq_true, not_true_eq_false, w32_id, tLt, fLt, tLe, fEq, itE, and_true, true_and, and_self, and_false, false_and, ↓reduceIte, nat_add, nat_mul3, nat_mul4, nat_mul6, nat_mul15, nat_mul60, nat_cast, nc1, Int.reduceToNat, upE, upN, fill_ne, fill_in, i0, b91, d89, Int.reduceMod]; with_reducible exact Iff.rfl) | with_reducible exact Iff.rfl); intro hc__; (try subst hc__); rotate_left; intro hc__; rotate_left)
        | (with_reducible apply wp_eq; (with_reducible apply cl_go; simp (disch := omega) only [not_false_eq_true, not_true_eq_false, w32_id, tLt, fLt, tLe, fEq, itE, and_true, true_and, and_self, and_false, false_and, ↓reduceIte, nat_add, nat_mul3, nat_mul4, nat_mul6, nat_mul15, nat_mul60, nat_cast, nc1, Int.reduceToNat, upE, upN, fill_ne, fill_in, i0, b91, d89, Int.reduceMod]; with_reducible exact rfl))
        | (with_reducible refine wp_eq (c_Mo_aLoad (by omega) _ _ _) ?_; with_reducible refine wp_eq (b_Mo_aLoad_0 _ _ _ _) ?_)
        | (with_reducible refine wp_eq (c_Mo_goodTo (by omega) _ _ _ _) ?_; with_reducible refine wp_eq (b_Mo_goodTo_0 _ _ _ _ _) ?_)
        | with_reducible refine wp_eq (a2) ?_
        | with_reducible refine wp_eq (c2 _ _ _ (by omega) (by omega) (by omega)) ?_
        | with_reducible refine wp_eq (c4 _ _ _ (by omega) (by omega) (by omega)) ?_
        | (with_reducible apply wp_eq; (with_reducible apply lf_go; simp (disch := omega) only [not_false_eq_true, not_true_eq_false, w32_id, tLt, fLt, tLe, fEq, itE, and_true, true_and, and_self, and_false, false_and, ↓reduceIte, nat_add, nat_mul3, nat_mul4, nat_mul6, nat_mul15, nat_mul60, nat_cast, nc1, Int.reduceToNat, upE, upN, fill_ne, fill_in, i0, b91, d89, Int.reduceMod]; with_reducible exact rfl))
        | with_reducible apply wp_q1
      exact ⟨_, _, _, rfl, rfl, rfl, rfl⟩
  have c3 := c3 1 rfl
  have f54 : Mf 272 2854 = (v : Int) := by rw [ft2 _ _ (by omega) (by omega)]; exact ev
  have wc := (fa.w.trans fa1.w).trans fa2.w
  have wm := (fb.w.trans (ft1.w (by omega))).trans (ft2.w (by omega))
  -- how much room there is
  have hB := hI.2.2.2.2.2.2.1 v (by omega)
  have hL : Ld (ldF (dA M2) v) := by rw [← ld_shp]; exact hB.ldl
  have b8 := sm_bd hL 8 (by omega)
  have hold : 1 ≤ dA M2 (149 + 15 * v) ∧ dA M2 (149 + 15 * v) ≤ 60 := by
    have := hB.1
    unfold shp at this
    rw [(i147 v).2.2] at this
    omega
  have rf := rF (L := L) st65 (k := v) (by omega)
  have rv := rV (L := L) (v := 104 + 2 * v) (st65.v (by omega))
  have rv : refOf (SH L) (104 + 2 * v) 7 = some (105 + 2 * v) := by rw [rv]; congr 1; omega
  have oC : ∀ b j, ¬(b = 12 ∧ 4 ≤ j) → Me b j = M1 b j := fun b j y => by rw [fa2 _ _ y, fa1 _ _ y, fa _ _ y]
  have oA : ∀ k, k < 206 → Mf 272 (2288 + k) = dA M2 k := fun k hk => by
    rw [ft2 _ _ (by omega) (by omega), ft1 _ _ (by omega) (by omega), fb _ _ (by omega)]
    rfl
  have e3 : Me (104 + 2 * v) 3 = dA M2 (149 + 15 * v) := by
    have := dx_get dx (k := 149 + 15 * v) (b := 57 + 2 * v) (j := 3) (by unfold vd; omega) (cl_s (n := v) (w := 3) (by omega) (by omega))
    rw [show 57 + 2 * v + 47 = 104 + 2 * v by omega] at this
    rw [oC _ _ (by omega)]; exact this
  have el : ∀ g, g < 8 → Me (105 + 2 * v) g = ldF (dA M2) v g := fun g hg => by
    have := dx_get dx (k := 153 + 15 * v + g) (b := 58 + 2 * v) (j := g) (by unfold vd; omega) (cl_l (n := v) (w := g) rfl hg)
    rw [show 58 + 2 * v + 47 = 105 + 2 * v by omega] at this
    rw [oC _ _ (by omega)]; exact this
  have rm := s_Vessel_room (L := L) (d := d1 - 1) (v := 104 + 2 * v) (M := Me) (ld := ldF (dA M2) v) (by omega) (st65.v (by omega)) (fun g hg => by rw [show 104 + 2 * v + 1 = 105 + 2 * v by omega]; exact el g hg) hL (by omega) (by omega)
  rw [e3] at rm
  generalize hR : dA M2 (149 + 15 * v) - sm (ldF (dA M2) v) 8 = R at *
  have m37 : Mf 272 (2434 + 15 * v + 3) = dA M2 (149 + 15 * v) := by
    have := oA (149 + 15 * v) (by omega)
    rwa [show 2288 + (149 + 15 * v) = 2434 + 15 * v + 3 by omega] at this
  have ml : ∀ g, g < 8 → Mf 272 (2434 + 15 * v + 7 + g) = ldF (dA M2) v g := fun g hg => by
    have := oA (153 + 15 * v + g) (by omega)
    rw [show 2288 + (153 + 15 * v + g) = 2434 + 15 * v + 7 + g by omega] at this
    exact this
  have lp : ∀ z : Int, z = dA M2 (149 + 15 * v) → Run (callD (d2 - 1)) tb_Mo_aLoad 64 [vR 12 0 271, vI 2854, vI (2434 + 15 * (v : Int)), vI z, vI 0] [] (SH L) Mf = Run (callD (d2 - 1)) tb_Mo_aLoad 64 [vR 12 0 271, vI 2854, vI (2434 + 15 * (v : Int)), vI R, vI 8] [] (SH L) Mf := fun z hz => by
    have st : ∀ k : Nat, k < 8 → Run (callD (d2 - 1)) tb_Mo_aLoad 64 [vR 12 0 271, vI 2854, vI (2434 + 15 * (v : Int)), vI (dA M2 (149 + 15 * v) - sm (ldF (dA M2) v) k), vI (k : Int)] [] (SH L) Mf = Run (callD (d2 - 1)) tb_Mo_aLoad 64 [vR 12 0 271, vI 2854, vI (2434 + 15 * (v : Int)), vI (dA M2 (149 + 15 * v) - sm (ldF (dA M2) v) (k + 1)), vI ((k + 1 : Nat) : Int)] [] (SH L) Mf := by
      intro k hk
      have bk := sm_bd hL k (by omega)
      have lk := hL k hk
      have mk := ml k hk
      rw [b_Mo_aLoad_64, sm_s, show dA M2 (149 + 15 * v) - (sm (ldF (dA M2) v) k + ldF (dA M2) v k) = dA M2 (149 + 15 * v) - sm (ldF (dA M2) v) k - ldF (dA M2) v k by omega]
      repeat' first
        | (with_reducible apply bR_go; (simp (disch := omega) only [rM L, rK L, rN L, rNf, rNv, rNp, rNd, rRow, rLeg, rMark, nat_cast, Int.reduceToNat, mk]; with_reducible exact rfl))
        | with_reducible apply bI_go
        | with_reducible apply bV_go
        | with_reducible apply bL_go
        | (with_reducible apply it_1; (first | omega | (simp (disch := omega) only [not_false_eq_true, not_true_eq_false, w32_id, tLt, fLt, tLe, fEq, itE, and_true, true_and, and_self, and_false, false_and, ↓reduceIte, nat_add, nat_mul3, nat_mul4, nat_mul6, nat_mul15, nat_mul60, nat_cast, nc1, Int.reduceToNat, upE, upN, fill_ne, fill_in, i0, mk] <;> omega)))
        | (with_reducible apply it_2; (first | omega | (simp (disch := omega) only [not_false_eq_true, not_true_eq_false, w32_id, tLt, fLt, tLe, fEq, itE, and_true, true_and, and_self, and_false, false_and, ↓reduceIte, nat_add, nat_mul3, nat_mul4, nat_mul6, nat_mul15, nat_mul60, nat_cast, nc1, Int.reduceToNat, upE, upN, fill_ne, fill_in, i0, mk] <;> omega)))
        | (with_reducible refine cl_go ?_; simp (disch := omega) only [not_false_eq_true, not_true_eq_false, w32_id, tLt, fLt, tLe, fEq, itE, and_true, true_and, and_self, and_false, false_and, ↓reduceIte, nat_add, nat_mul3, nat_mul4, nat_mul6, nat_mul15, nat_mul60, nat_cast, nc1, Int.reduceToNat, upE, upN, fill_ne, fill_in, i0, mk])
        | (with_reducible refine rn_go ?_; simp (disch := omega) only [not_false_eq_true, not_true_eq_false, w32_id, tLt, fLt, tLe, fEq, itE, and_true, true_and, and_self, and_false, false_and, ↓reduceIte, nat_add, nat_mul3, nat_mul4, nat_mul6, nat_mul15, nat_mul60, nat_cast, nc1, Int.reduceToNat, upE, upN, fill_ne, fill_in, i0, mk])
        | (with_reducible refine lf_go ?_; simp (disch := omega) only [not_false_eq_true, not_true_eq_false, w32_id, tLt, fLt, tLe, fEq, itE, and_true, true_and, and_self, and_false, false_and, ↓reduceIte, nat_add, nat_mul3, nat_mul4, nat_mul6, nat_mul15, nat_mul60, nat_cast, nc1, Int.reduceToNat, upE, upN, fill_ne, fill_in, i0, mk])
        | with_reducible exact rfl
    have := loop_up (fun k => Run (callD (d2 - 1)) tb_Mo_aLoad 64 [vR 12 0 271, vI 2854, vI (2434 + 15 * (v : Int)), vI (dA M2 (149 + 15 * v) - sm (ldF (dA M2) v) k), vI (k : Int)] [] (SH L) Mf) 8 st 0 (by omega)
    rw [hR, show sm (ldF (dA M2) v) 0 = 0 from rfl, Int.sub_zero] at this
    rw [hz]
    exact this
  rcases k_num (L := L) (d1 := d1 - 1) (d2 := d2 - 1) (by omega) (by omega) tc 1 R (to := 2856) (by omega) with ⟨qd, ed, x, Mg, Mh, o1, o2, hx, td, ld, fa3, ft3, ez⟩ | ⟨M1', M2', o1, o2, f, fa3, fb3⟩
  rotate_left
  · right; left
    refine ⟨M1', M2', ?_, wp_un ?_, f, wc.trans fa3.w, wm.trans fb3.w⟩
    · repeat' first
        | (with_reducible apply bR_go; (simp (disch := omega) only [rM L, rK L, rN L, rNf, rNv, rNp, rNd, rRow, rLeg, rMark, nat_cast, Int.reduceToNat, rs, rf]; with_reducible exact rfl))
        | with_reducible apply bI_go
        | with_reducible apply bV_go
        | with_reducible apply bL_go
        | (with_reducible apply it_1; (first | omega | (simp (disch := omega) only [not_false_eq_true, not_true_eq_false, w32_id, tLt, fLt, tLe, fEq, itE, and_true, true_and, and_self, and_false, false_and, ↓reduceIte, nat_add, nat_mul3, nat_mul4, nat_mul6, nat_mul15, nat_mul60, nat_cast, nc1, Int.reduceToNat, upE, upN, fill_ne, fill_in, i0, rs, rf] <;> omega)))
        | (with_reducible apply it_2; (first | omega | (simp (disch := omega) only [not_false_eq_true, not_true_eq_false, w32_id, tLt, fLt, tLe, fEq, itE, and_true, true_and, and_self, and_false, false_and, ↓reduceIte, nat_add, nat_mul3, nat_mul4, nat_mul6, nat_mul15, nat_mul60, nat_cast, nc1, Int.reduceToNat, upE, upN, fill_ne, fill_in, i0, rs, rf] <;> omega)))
        | (with_reducible refine cl_go ?_; simp (disch := omega) only [not_false_eq_true, not_true_eq_false, w32_id, tLt, fLt, tLe, fEq, itE, and_true, true_and, and_self, and_false, false_and, ↓reduceIte, nat_add, nat_mul3, nat_mul4, nat_mul6, nat_mul15, nat_mul60, nat_cast, nc1, Int.reduceToNat, upE, upN, fill_ne, fill_in, i0, rs, rf])
        | rw [c_WorldText_takesAboard (by omega), b_WorldText_takesAboard_0]
        | with_reducible exact a1
        | with_reducible exact c1
        | with_reducible exact c3
        | with_reducible exact rm
        | with_reducible exact o1
        | (with_reducible refine rn_go ?_; simp (disch := omega) only [not_false_eq_true, not_true_eq_false, w32_id, tLt, fLt, tLe, fEq, itE, and_true, true_and, and_self, and_false, false_and, ↓reduceIte, nat_add, nat_mul3, nat_mul4, nat_mul6, nat_mul15, nat_mul60, nat_cast, nc1, Int.reduceToNat, upE, upN, fill_ne, fill_in, i0, rs, rf])
        | (with_reducible refine lf_go ?_; simp (disch := omega) only [not_false_eq_true, not_true_eq_false, w32_id, tLt, fLt, tLe, fEq, itE, and_true, true_and, and_self, and_false, false_and, ↓reduceIte, nat_add, nat_mul3, nat_mul4, nat_mul6, nat_mul15, nat_mul60, nat_cast, nc1, Int.reduceToNat, upE, upN, fill_ne, fill_in, i0, rs, rf])
        | with_reducible exact rfl
    · repeat' first
        | (with_reducible apply wp_bR; (simp (disch := omega) only [rM L, rK L, rN L, rNf, rNv, rNp, rNd, rRow, rLeg, rMark, nat_cast, Int.reduceToNat, b91, d89, f54, Int.reduceMod]; with_reducible exact rfl))
        | with_reducible apply wp_bI
        | with_reducible apply wp_bV
        | with_reducible apply wp_bL
        | with_reducible apply wp_rI
        | with_reducible apply wp_rV
        | with_reducible apply wp_rL
        | (with_reducible apply wp_1; (first | omega | (simp (disch := omega) only [not_false_eq_true, not_true_eq_false, w32_id, tLt, fLt, tLe, fEq, itE, and_true, true_and, and_self, and_false, false_and, ↓reduceIte, nat_add, nat_mul3, nat_mul4, nat_mul6, nat_mul15, nat_mul60, nat_cast, nc1, Int.reduceToNat, upE, upN, fill_ne, fill_in, i0, b91, d89, f54, Int.reduceMod] <;> omega)))
        | (with_reducible apply wp_2; (first | omega | (simp (disch := omega) only [not_false_eq_true, not_true_eq_false, w32_id, tLt, fLt, tLe, fEq, itE, and_true, true_and, and_self, and_false, false_and, ↓reduceIte, nat_add, nat_mul3, nat_mul4, nat_mul6, nat_mul15, nat_mul60, nat_cast, nc1, Int.reduceToNat, upE, upN, fill_ne, fill_in, i0, b91, d89, f54, Int.reduceMod] <;> omega)))
        | (with_reducible apply wp_s; (first | (simp (disch := omega) only [not_false_eq_true, not_true_eq_false, w32_id, tLt, fLt, tLe, fEq, itE, and_true, true_and, and_self, and_false, false_and, ↓reduceIte, nat_add, nat_mul3, nat_mul4, nat_mul6, nat_mul15, nat_mul60, nat_cast, nc1, Int.reduceToNat, upE, upN, fill_ne, fill_in, i0, b91, d89, f54, Int.reduceMod]; with_reducible exact Iff.rfl) | with_reducible exact Iff.rfl); intro hc__; (try subst hc__); rotate_left; intro hc__; rotate_left)
        | (with_reducible apply wp_eq; (with_reducible apply cl_go; simp (disch := omega) only [not_false_eq_true, not_true_eq_false, w32_id, tLt, fLt, tLe, fEq, itE, and_true, true_and, and_self, and_false, false_and, ↓reduceIte, nat_add, nat_mul3, nat_mul4, nat_mul6, nat_mul15, nat_mul60, nat_cast, nc1, Int.reduceToNat, upE, upN, fill_ne, fill_in, i0, b91, d89, f54, Int.reduceMod]; with_reducible exact rfl))
        | (with_reducible refine wp_eq (c_Mo_aLoad (by omega) _ _ _) ?_; with_reducible refine wp_eq (b_Mo_aLoad_0 _ _ _ _) ?_)
        | (with_reducible refine wp_eq (c_Mo_goodTo (by omega) _ _ _ _) ?_; with_reducible refine wp_eq (b_Mo_goodTo_0 _ _ _ _ _) ?_)
        | with_reducible refine wp_eq (a2) ?_
        | with_reducible refine wp_eq (c2 _ _ _ (by omega) (by omega) (by omega)) ?_
        | with_reducible refine wp_eq (c4 _ _ _ (by omega) (by omega) (by omega)) ?_
        | (with_reducible apply wp_eq; (with_reducible apply lf_go; simp (disch := omega) only [not_false_eq_true, not_true_eq_false, w32_id, tLt, fLt, tLe, fEq, itE, and_true, true_and, and_self, and_false, false_and, ↓reduceIte, nat_add, nat_mul3, nat_mul4, nat_mul6, nat_mul15, nat_mul60, nat_cast, nc1, Int.reduceToNat, upE, upN, fill_ne, fill_in, i0, b91, d89, f54, Int.reduceMod]; with_reducible exact rfl))
        | with_reducible apply wp_q1
      refine wp_eq (o' := Run (callD (d2 - 1)) tb_Mo_aLoad 64 [vR 12 0 271, vI 2854, vI (2434 + 15 * (v : Int)), vI (dA M2 (149 + 15 * v)), vI 0] [] (SH L) Mf) (by simp (disch := omega) only [not_false_eq_true, not_true_eq_false, w32_id, tLt, fLt, tLe, fEq, itE, and_true, true_and, and_self, and_false, false_and, ↓reduceIte, nat_add, nat_mul3, nat_mul4, nat_mul6, nat_mul15, nat_mul60, nat_cast, nc1, Int.reduceToNat, upE, upN, fill_ne, fill_in, i0, f54, m37]) ?_
      refine wp_eq (lp _ rfl) ?_
      refine wp_eq (b_Mo_aLoad_64 _ _ _ _ _ _ _ _) ?_
      repeat' first
        | (with_reducible apply wp_bR; (simp (disch := omega) only [rM L, rK L, rN L, rNf, rNv, rNp, rNd, rRow, rLeg, rMark, nat_cast, Int.reduceToNat]; with_reducible exact rfl))
        | with_reducible apply wp_bI
        | with_reducible apply wp_bV
        | with_reducible apply wp_bL
        | with_reducible apply wp_rI
        | with_reducible apply wp_rV
        | with_reducible apply wp_rL
        | (with_reducible apply wp_1; (first | omega | (simp (disch := omega) only [not_false_eq_true, not_true_eq_false, w32_id, tLt, fLt, tLe, fEq, itE, and_true, true_and, and_self, and_false, false_and, ↓reduceIte, nat_add, nat_mul3, nat_mul4, nat_mul6, nat_mul15, nat_mul60, nat_cast, nc1, Int.reduceToNat, upE, upN, fill_ne, fill_in, i0] <;> omega)))
        | (with_reducible apply wp_2; (first | omega | (simp (disch := omega) only [not_false_eq_true, not_true_eq_false, w32_id, tLt, fLt, tLe, fEq, itE, and_true, true_and, and_self, and_false, false_and, ↓reduceIte, nat_add, nat_mul3, nat_mul4, nat_mul6, nat_mul15, nat_mul60, nat_cast, nc1, Int.reduceToNat, upE, upN, fill_ne, fill_in, i0] <;> omega)))
        | (with_reducible apply wp_s; (first | (simp (disch := omega) only [not_false_eq_true, not_true_eq_false, w32_id, tLt, fLt, tLe, fEq, itE, and_true, true_and, and_self, and_false, false_and, ↓reduceIte, nat_add, nat_mul3, nat_mul4, nat_mul6, nat_mul15, nat_mul60, nat_cast, nc1, Int.reduceToNat, upE, upN, fill_ne, fill_in, i0]; with_reducible exact Iff.rfl) | with_reducible exact Iff.rfl); intro hc__; (try subst hc__); rotate_left; intro hc__; rotate_left)
        | (with_reducible apply wp_eq; (with_reducible apply cl_go; simp (disch := omega) only [not_false_eq_true, not_true_eq_false, w32_id, tLt, fLt, tLe, fEq, itE, and_true, true_and, and_self, and_false, false_and, ↓reduceIte, nat_add, nat_mul3, nat_mul4, nat_mul6, nat_mul15, nat_mul60, nat_cast, nc1, Int.reduceToNat, upE, upN, fill_ne, fill_in, i0]; with_reducible exact rfl))
        | with_reducible refine wp_eq (o2 _ (by omega)) ?_
        | (with_reducible apply wp_eq; (with_reducible apply lf_go; simp (disch := omega) only [not_false_eq_true, not_true_eq_false, w32_id, tLt, fLt, tLe, fEq, itE, and_true, true_and, and_self, and_false, false_and, ↓reduceIte, nat_add, nat_mul3, nat_mul4, nat_mul6, nat_mul15, nat_mul60, nat_cast, nc1, Int.reduceToNat, upE, upN, fill_ne, fill_in, i0]; with_reducible exact rfl))
        | with_reducible apply wp_q1
      exact ⟨_, _, _, rfl, rfl, rfl, rfl⟩
  have h55 : Mh 272 2855 = (w : Int) := by rw [ft3 _ _ (by omega) (by omega)]; exact ew
  have hl : Mh 272 (2434 + 15 * v + 7 + w) = ldF (dA M2) v w := by rw [ft3 _ _ (by omega) (by omega)]; exact ml w (by omega)
  have gl : Mg (105 + 2 * v) w = ldF (dA M2) v w := by rw [fa3 _ _ (by omega)]; exact el w (by omega)
  have lw := hL w (by omega)
  have mo : callD d2 m_Mo_aLoad [vR 12 0 271] (SH L) M2 = some (some (vI 1), SH L, up Mh 272 (2434 + 15 * v + 7 + w) (ldF (dA M2) v w + x)) := by
    refine wp_un ?_
    repeat' first
      | (with_reducible apply wp_bR; (simp (disch := omega) only [rM L, rK L, rN L, rNf, rNv, rNp, rNd, rRow, rLeg, rMark, nat_cast, Int.reduceToNat, b91, d89, f54, Int.reduceMod]; with_reducible exact rfl))
      | with_reducible apply wp_bI
      | with_reducible apply wp_bV
      | with_reducible apply wp_bL
      | with_reducible apply wp_rI
      | with_reducible apply wp_rV
      | with_reducible apply wp_rL
      | (with_reducible apply wp_1; (first | omega | (simp (disch := omega) only [not_false_eq_true, not_true_eq_false, w32_id, tLt, fLt, tLe, fEq, itE, and_true, true_and, and_self, and_false, false_and, ↓reduceIte, nat_add, nat_mul3, nat_mul4, nat_mul6, nat_mul15, nat_mul60, nat_cast, nc1, Int.reduceToNat, upE, upN, fill_ne, fill_in, i0, b91, d89, f54, Int.reduceMod] <;> omega)))
      | (with_reducible apply wp_2; (first | omega | (simp (disch := omega) only [not_false_eq_true, not_true_eq_false, w32_id, tLt, fLt, tLe, fEq, itE, and_true, true_and, and_self, and_false, false_and, ↓reduceIte, nat_add, nat_mul3, nat_mul4, nat_mul6, nat_mul15, nat_mul60, nat_cast, nc1, Int.reduceToNat, upE, upN, fill_ne, fill_in, i0, b91, d89, f54, Int.reduceMod] <;> omega)))
      | (with_reducible apply wp_s; (first | (simp (disch := omega) only [not_false_eq_true, not_true_eq_false, w32_id, tLt, fLt, tLe, fEq, itE, and_true, true_and, and_self, and_false, false_and, ↓reduceIte, nat_add, nat_mul3, nat_mul4, nat_mul6, nat_mul15, nat_mul60, nat_cast, nc1, Int.reduceToNat, upE, upN, fill_ne, fill_in, i0, b91, d89, f54, Int.reduceMod]; with_reducible exact Iff.rfl) | with_reducible exact Iff.rfl); intro hc__; (try subst hc__); rotate_left; intro hc__; rotate_left)
      | (with_reducible apply wp_eq; (with_reducible apply cl_go; simp (disch := omega) only [not_false_eq_true, not_true_eq_false, w32_id, tLt, fLt, tLe, fEq, itE, and_true, true_and, and_self, and_false, false_and, ↓reduceIte, nat_add, nat_mul3, nat_mul4, nat_mul6, nat_mul15, nat_mul60, nat_cast, nc1, Int.reduceToNat, upE, upN, fill_ne, fill_in, i0, b91, d89, f54, Int.reduceMod]; with_reducible exact rfl))
      | (with_reducible refine wp_eq (c_Mo_aLoad (by omega) _ _ _) ?_; with_reducible refine wp_eq (b_Mo_aLoad_0 _ _ _ _) ?_)
      | (with_reducible refine wp_eq (c_Mo_goodTo (by omega) _ _ _ _) ?_; with_reducible refine wp_eq (b_Mo_goodTo_0 _ _ _ _ _) ?_)
      | with_reducible refine wp_eq (a2) ?_
      | with_reducible refine wp_eq (c2 _ _ _ (by omega) (by omega) (by omega)) ?_
      | with_reducible refine wp_eq (c4 _ _ _ (by omega) (by omega) (by omega)) ?_
      | (with_reducible apply wp_eq; (with_reducible apply lf_go; simp (disch := omega) only [not_false_eq_true, not_true_eq_false, w32_id, tLt, fLt, tLe, fEq, itE, and_true, true_and, and_self, and_false, false_and, ↓reduceIte, nat_add, nat_mul3, nat_mul4, nat_mul6, nat_mul15, nat_mul60, nat_cast, nc1, Int.reduceToNat, upE, upN, fill_ne, fill_in, i0, b91, d89, f54, Int.reduceMod]; with_reducible exact rfl))
      | with_reducible apply wp_q1
    refine wp_eq (o' := Run (callD (d2 - 1)) tb_Mo_aLoad 64 [vR 12 0 271, vI 2854, vI (2434 + 15 * (v : Int)), vI (dA M2 (149 + 15 * v)), vI 0] [] (SH L) Mf) (by simp (disch := omega) only [not_false_eq_true, not_true_eq_false, w32_id, tLt, fLt, tLe, fEq, itE, and_true, true_and, and_self, and_false, false_and, ↓reduceIte, nat_add, nat_mul3, nat_mul4, nat_mul6, nat_mul15, nat_mul60, nat_cast, nc1, Int.reduceToNat, upE, upN, fill_ne, fill_in, i0, f54, m37]) ?_
    refine wp_eq (lp _ rfl) ?_
    refine wp_eq (b_Mo_aLoad_64 _ _ _ _ _ _ _ _) ?_
    repeat' first
      | (with_reducible apply wp_bR; (simp (disch := omega) only [rM L, rK L, rN L, rNf, rNv, rNp, rNd, rRow, rLeg, rMark, nat_cast, Int.reduceToNat, h55, ez, hl, Int.reduceAdd]; with_reducible exact rfl))
      | with_reducible apply wp_bI
      | with_reducible apply wp_bV
      | with_reducible apply wp_bL
      | with_reducible apply wp_rI
      | with_reducible apply wp_rV
      | with_reducible apply wp_rL
      | (with_reducible apply wp_1; (first | omega | (simp (disch := omega) only [not_false_eq_true, not_true_eq_false, w32_id, tLt, fLt, tLe, fEq, itE, and_true, true_and, and_self, and_false, false_and, ↓reduceIte, nat_add, nat_mul3, nat_mul4, nat_mul6, nat_mul15, nat_mul60, nat_cast, nc1, Int.reduceToNat, upE, upN, fill_ne, fill_in, i0, h55, ez, hl, Int.reduceAdd] <;> omega)))
      | (with_reducible apply wp_2; (first | omega | (simp (disch := omega) only [not_false_eq_true, not_true_eq_false, w32_id, tLt, fLt, tLe, fEq, itE, and_true, true_and, and_self, and_false, false_and, ↓reduceIte, nat_add, nat_mul3, nat_mul4, nat_mul6, nat_mul15, nat_mul60, nat_cast, nc1, Int.reduceToNat, upE, upN, fill_ne, fill_in, i0, h55, ez, hl, Int.reduceAdd] <;> omega)))
      | (with_reducible apply wp_s; (first | (simp (disch := omega) only [not_false_eq_true, not_true_eq_false, w32_id, tLt, fLt, tLe, fEq, itE, and_true, true_and, and_self, and_false, false_and, ↓reduceIte, nat_add, nat_mul3, nat_mul4, nat_mul6, nat_mul15, nat_mul60, nat_cast, nc1, Int.reduceToNat, upE, upN, fill_ne, fill_in, i0, h55, ez, hl, Int.reduceAdd]; with_reducible exact Iff.rfl) | with_reducible exact Iff.rfl); intro hc__; (try subst hc__); rotate_left; intro hc__; rotate_left)
      | (with_reducible apply wp_eq; (with_reducible apply cl_go; simp (disch := omega) only [not_false_eq_true, not_true_eq_false, w32_id, tLt, fLt, tLe, fEq, itE, and_true, true_and, and_self, and_false, false_and, ↓reduceIte, nat_add, nat_mul3, nat_mul4, nat_mul6, nat_mul15, nat_mul60, nat_cast, nc1, Int.reduceToNat, upE, upN, fill_ne, fill_in, i0, h55, ez, hl, Int.reduceAdd]; with_reducible exact rfl))
      | with_reducible refine wp_eq (o2 _ (by omega)) ?_
      | (with_reducible apply wp_eq; (with_reducible apply lf_go; simp (disch := omega) only [not_false_eq_true, not_true_eq_false, w32_id, tLt, fLt, tLe, fEq, itE, and_true, true_and, and_self, and_false, false_and, ↓reduceIte, nat_add, nat_mul3, nat_mul4, nat_mul6, nat_mul15, nat_mul60, nat_cast, nc1, Int.reduceToNat, upE, upN, fill_ne, fill_in, i0, h55, ez, hl, Int.reduceAdd]; with_reducible exact rfl))
      | with_reducible apply wp_q1
    exact ⟨_, _, _, rfl, rfl, rfl, rfl⟩
  have ti : TK bt n qd ed (up Mg (105 + 2 * v) w (ldF (dA M2) v w + x)) (up Mh 272 (2434 + 15 * v + 7 + w) (ldF (dA M2) v w + x)) := td.fr (fun b j hb => upN (by omega)) fun b j hb => upN (by omega)
  have w1 := (wc.trans fa3.w).u (c := 105 + 2 * v) (j := w) (v := ldF (dA M2) v w + x) (by omega)
  have w2 := (wm.trans (ft3.w (by omega))).u (j := 2434 + 15 * v + 7 + w) (v := ldF (dA M2) v w + x) (by omega)
  rcases k_stop (L := L) (d1 := d1 - 1) (d2 := d2) (by omega) (by omega) ti with ⟨qe, ee, Mp, Mq, s1, s2, tk, le', fp, fq⟩ | ⟨Mp, Mq, s1, s2, f, fp, fq⟩
  rotate_left
  · right; right
    refine ⟨Mp, _, Mq, ?_, mo, s2, f, w1.trans fp.w, w2.trans fq.w⟩
    repeat' first
      | (with_reducible apply bR_go; (simp (disch := omega) only [rM L, rK L, rN L, rNf, rNv, rNp, rNd, rRow, rLeg, rMark, nat_cast, Int.reduceToNat, rs, rf, rv, gl, Int.reduceMod]; with_reducible exact rfl))
      | with_reducible apply bI_go
      | with_reducible apply bV_go
      | with_reducible apply bL_go
      | (with_reducible apply it_1; (first | omega | (simp (disch := omega) only [not_false_eq_true, not_true_eq_false, w32_id, tLt, fLt, tLe, fEq, itE, and_true, true_and, and_self, and_false, false_and, ↓reduceIte, nat_add, nat_mul3, nat_mul4, nat_mul6, nat_mul15, nat_mul60, nat_cast, nc1, Int.reduceToNat, upE, upN, fill_ne, fill_in, i0, rs, rf, rv, gl, Int.reduceMod] <;> omega)))
      | (with_reducible apply it_2; (first | omega | (simp (disch := omega) only [not_false_eq_true, not_true_eq_false, w32_id, tLt, fLt, tLe, fEq, itE, and_true, true_and, and_self, and_false, false_and, ↓reduceIte, nat_add, nat_mul3, nat_mul4, nat_mul6, nat_mul15, nat_mul60, nat_cast, nc1, Int.reduceToNat, upE, upN, fill_ne, fill_in, i0, rs, rf, rv, gl, Int.reduceMod] <;> omega)))
      | (with_reducible refine cl_go ?_; simp (disch := omega) only [not_false_eq_true, not_true_eq_false, w32_id, tLt, fLt, tLe, fEq, itE, and_true, true_and, and_self, and_false, false_and, ↓reduceIte, nat_add, nat_mul3, nat_mul4, nat_mul6, nat_mul15, nat_mul60, nat_cast, nc1, Int.reduceToNat, upE, upN, fill_ne, fill_in, i0, rs, rf, rv, gl, Int.reduceMod])
      | rw [c_WorldText_takesAboard (by omega), b_WorldText_takesAboard_0]
      | with_reducible exact a1
      | with_reducible exact c1
      | with_reducible exact c3
      | with_reducible exact rm
      | with_reducible exact o1
      | with_reducible exact s1
      | (with_reducible refine rn_go ?_; simp (disch := omega) only [not_false_eq_true, not_true_eq_false, w32_id, tLt, fLt, tLe, fEq, itE, and_true, true_and, and_self, and_false, false_and, ↓reduceIte, nat_add, nat_mul3, nat_mul4, nat_mul6, nat_mul15, nat_mul60, nat_cast, nc1, Int.reduceToNat, upE, upN, fill_ne, fill_in, i0, rs, rf, rv, gl, Int.reduceMod])
      | (with_reducible refine lf_go ?_; simp (disch := omega) only [not_false_eq_true, not_true_eq_false, w32_id, tLt, fLt, tLe, fEq, itE, and_true, true_and, and_self, and_false, false_and, ↓reduceIte, nat_add, nat_mul3, nat_mul4, nat_mul6, nat_mul15, nat_mul60, nat_cast, nc1, Int.reduceToNat, upE, upN, fill_ne, fill_in, i0, rs, rf, rv, gl, Int.reduceMod])
      | with_reducible exact rfl
  left
  refine ⟨qe, ee, Mp, _, Mq, ?_, mo, s2, tk, by have b1 := ta.2.2.2.2.1.bd; have b2 := tb.2.2.2.2.1.bd; have b3 := tc.2.2.2.2.1.bd; have b4 := td.2.2.2.2.1.bd; omega, ?_, w1.trans fp.w, w2.trans fq.w⟩
  · repeat' first
      | (with_reducible apply bR_go; (simp (disch := omega) only [rM L, rK L, rN L, rNf, rNv, rNp, rNd, rRow, rLeg, rMark, nat_cast, Int.reduceToNat, rs, rf, rv, gl, Int.reduceMod]; with_reducible exact rfl))
      | with_reducible apply bI_go
      | with_reducible apply bV_go
      | with_reducible apply bL_go
      | (with_reducible apply it_1; (first | omega | (simp (disch := omega) only [not_false_eq_true, not_true_eq_false, w32_id, tLt, fLt, tLe, fEq, itE, and_true, true_and, and_self, and_false, false_and, ↓reduceIte, nat_add, nat_mul3, nat_mul4, nat_mul6, nat_mul15, nat_mul60, nat_cast, nc1, Int.reduceToNat, upE, upN, fill_ne, fill_in, i0, rs, rf, rv, gl, Int.reduceMod] <;> omega)))
      | (with_reducible apply it_2; (first | omega | (simp (disch := omega) only [not_false_eq_true, not_true_eq_false, w32_id, tLt, fLt, tLe, fEq, itE, and_true, true_and, and_self, and_false, false_and, ↓reduceIte, nat_add, nat_mul3, nat_mul4, nat_mul6, nat_mul15, nat_mul60, nat_cast, nc1, Int.reduceToNat, upE, upN, fill_ne, fill_in, i0, rs, rf, rv, gl, Int.reduceMod] <;> omega)))
      | (with_reducible refine cl_go ?_; simp (disch := omega) only [not_false_eq_true, not_true_eq_false, w32_id, tLt, fLt, tLe, fEq, itE, and_true, true_and, and_self, and_false, false_and, ↓reduceIte, nat_add, nat_mul3, nat_mul4, nat_mul6, nat_mul15, nat_mul60, nat_cast, nc1, Int.reduceToNat, upE, upN, fill_ne, fill_in, i0, rs, rf, rv, gl, Int.reduceMod])
      | rw [c_WorldText_takesAboard (by omega), b_WorldText_takesAboard_0]
      | with_reducible exact a1
      | with_reducible exact c1
      | with_reducible exact c3
      | with_reducible exact rm
      | with_reducible exact o1
      | with_reducible exact s1
      | (with_reducible refine rn_go ?_; simp (disch := omega) only [not_false_eq_true, not_true_eq_false, w32_id, tLt, fLt, tLe, fEq, itE, and_true, true_and, and_self, and_false, false_and, ↓reduceIte, nat_add, nat_mul3, nat_mul4, nat_mul6, nat_mul15, nat_mul60, nat_cast, nc1, Int.reduceToNat, upE, upN, fill_ne, fill_in, i0, rs, rf, rv, gl, Int.reduceMod])
      | (with_reducible refine lf_go ?_; simp (disch := omega) only [not_false_eq_true, not_true_eq_false, w32_id, tLt, fLt, tLe, fEq, itE, and_true, true_and, and_self, and_false, false_and, ↓reduceIte, nat_add, nat_mul3, nat_mul4, nat_mul6, nat_mul15, nat_mul60, nat_cast, nc1, Int.reduceToNat, upE, upN, fill_ne, fill_in, i0, rs, rf, rv, gl, Int.reduceMod])
      | with_reducible exact rfl
  have oQ : ∀ b j, ¬(b = 271 ∧ (12 ≤ j ∧ j ≤ 15 ∨ j = 17 ∨ j = 18)) → ¬(b = 272 ∧ (2854 ≤ j ∧ j ≤ 2856 ∨ j = 2434 + 15 * v + 7 + w)) → Mq b j = M2 b j := fun b j y1 y2 => by
    rw [fq _ _ y1, upN (by omega), ft3 _ _ y1 (by omega), ft2 _ _ y1 (by omega), ft1 _ _ y1 (by omega), fb _ _ y1]
  refine dd_load hD (v := v) (w := w) (x := x) (by omega) (by omega) hx.1 (by rw [hR]; exact hx.2.1) (fun b j y1 y2 y3 => ?_) ?_ (fun k y1 y2 => ?_) ?_ (fun j _ _ => oQ _ _ (by omega) (by omega)) ?_ (oQ _ _ (by omega) (by omega))
  · rw [fp _ _ (by omega), upN (by omega), fa3 _ _ (by omega), oC _ _ (by omega)]
  · rw [fp _ _ (by omega), upE rfl rfl]
    rfl
  · unfold dA
    exact oQ _ _ (by omega) (by omega)
  · unfold dA
    rw [fq _ _ (by omega), show 2288 + (153 + 15 * v + w) = 2434 + 15 * v + 7 + w by omega, upE rfl rfl]
    unfold ldF dA
    rw [show 2288 + (153 + 15 * v + w) = 2434 + 15 * v + 7 + w by omega]
  · rw [fp _ _ (by omega), upN (by omega), fa3 _ _ (by omega), oC _ _ (by omega)]
end

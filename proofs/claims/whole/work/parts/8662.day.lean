/-! A DAY OF A SHIP, in the model: all of it -/
def dayB (A B : Nat → Int) : Nat → Int := if B 0 = -1 then sonB A B 1 else lkB A B
def landB (A B : Nat → Int) : Int := if B 0 = -1 then (if 0 < B 2 - 1 then 0 else 1) else 0
section
variable {M : Mm} {A B : Nat → Int} {L d s : Nat}
theorem m_tail (hd : 10 ≤ d) (h : RwM M A s B) (hs : s < 4) (hI : Inv A) (hl : ∀ g, g < 8 → M 280 g = ld7 (lkB A B) g) (hS : SeaI (lkB A B)) (f : Int) (h2 : 0 ≤ B 2 ∧ B 2 ≤ 20) : (0 ≤ B 1 ∧ B 1 < A 2 → Wp (Run (callD (d - 1)) tb_Mo_passes 104 [vR 12 0 271, vI (s : Int), vI (146 + 15 * (s : Int)), vI 1, vI f, vI 0] [] (SH L) M) (QRow L s M (if 0 < B 2 - 1 then wU (lkB A B) 2 (B 2 - 1) else dutyB A (wU (wU (wU (lkB A B) 2 (B 2 - 1)) 0 (B 1)) 1 (-1)) (flB A (lkB A B))) (some (vI (if 0 < B 2 - 1 then 0 else 1))))) ∧ Wp (Run (callD (d - 1)) tb_Mo_passes 104 [vR 12 0 271, vI (s : Int), vI (146 + 15 * (s : Int)), vI 0, vI f, vI 0] [] (SH L) M) (QRow L s M (lkB A B) (some (vI 0))) := by
  obtain ⟨hC, hG, hN, hPt, -⟩ := hI
  have lp : ∀ z : Int, Run (callD (d - 1)) tb_Mo_passes 104 [vR 12 0 271, vI (s : Int), vI (146 + 15 * (s : Int)), vI z, vI f, vI 0] [] (SH L) M = Run (callD (d - 1)) tb_Mo_passes 104 [vR 12 0 271, vI (s : Int), vI (146 + 15 * (s : Int)), vI z, vI f, vI ((8 : Nat) : Int)] [] (SH L) (fillR M 272 (153 + 15 * s) (ld7 (lkB A B)) 8) := fun z => by
    have st : ∀ k : Nat, k < 8 → Run (callD (d - 1)) tb_Mo_passes 104 [vR 12 0 271, vI (s : Int), vI (146 + 15 * (s : Int)), vI z, vI f, vI (k : Int)] [] (SH L) (fillR M 272 (153 + 15 * s) (ld7 (lkB A B)) k) = Run (callD (d - 1)) tb_Mo_passes 104 [vR 12 0 271, vI (s : Int), vI (146 + 15 * (s : Int)), vI z, vI f, vI ((k + 1 : Nat) : Int)] [] (SH L) (fillR M 272 (153 + 15 * s) (ld7 (lkB A B)) (k + 1)) := by
      intro k hk
      have e0 : fillR M 272 (153 + 15 * s) (ld7 (lkB A B)) k 280 k = ld7 (lkB A B) k := by rw [fillR_ne (by omega)]; exact hl k hk
      rw [b_Mo_passes_104, ← fillR_s M 272 (153 + 15 * s) (ld7 (lkB A B)) k rfl]
      repeat' first
        | (with_reducible apply bR_go; (simp (disch := omega) only [rM L, rK L, rN L, rNf, rNv, rNp, rNd, rRow, rLeg, rMark, nat_cast, Int.reduceToNat, i153, e0]; with_reducible exact rfl))
        | with_reducible apply bI_go
        | with_reducible apply bV_go
        | with_reducible apply bL_go
        | (with_reducible apply it_1; (first | omega | (simp (disch := omega) only [not_false_eq_true, not_true_eq_false, w32_id, tLt, fLt, tLe, fEq, itE, and_true, true_and, and_self, and_false, false_and, ↓reduceIte, nat_add, nat_mul3, nat_mul4, nat_mul6, nat_mul15, nat_mul60, nat_cast, nc1, Int.reduceToNat, upE, upN, fill_ne, fill_in, i0, i153, e0] <;> omega)))
        | (with_reducible apply it_2; (first | omega | (simp (disch := omega) only [not_false_eq_true, not_true_eq_false, w32_id, tLt, fLt, tLe, fEq, itE, and_true, true_and, and_self, and_false, false_and, ↓reduceIte, nat_add, nat_mul3, nat_mul4, nat_mul6, nat_mul15, nat_mul60, nat_cast, nc1, Int.reduceToNat, upE, upN, fill_ne, fill_in, i0, i153, e0] <;> omega)))
        | (with_reducible refine cl_go ?_; simp (disch := omega) only [not_false_eq_true, not_true_eq_false, w32_id, tLt, fLt, tLe, fEq, itE, and_true, true_and, and_self, and_false, false_and, ↓reduceIte, nat_add, nat_mul3, nat_mul4, nat_mul6, nat_mul15, nat_mul60, nat_cast, nc1, Int.reduceToNat, upE, upN, fill_ne, fill_in, i0, i153, e0])
        | (with_reducible refine rn_go ?_; simp (disch := omega) only [not_false_eq_true, not_true_eq_false, w32_id, tLt, fLt, tLe, fEq, itE, and_true, true_and, and_self, and_false, false_and, ↓reduceIte, nat_add, nat_mul3, nat_mul4, nat_mul6, nat_mul15, nat_mul60, nat_cast, nc1, Int.reduceToNat, upE, upN, fill_ne, fill_in, i0, i153, e0])
        | (with_reducible refine lf_go ?_; simp (disch := omega) only [not_false_eq_true, not_true_eq_false, w32_id, tLt, fLt, tLe, fEq, itE, and_true, true_and, and_self, and_false, false_and, ↓reduceIte, nat_add, nat_mul3, nat_mul4, nat_mul6, nat_mul15, nat_mul60, nat_cast, nc1, Int.reduceToNat, upE, upN, fill_ne, fill_in, i0, i153, e0])
        | with_reducible exact rfl
    have e := loop_up (fun k => Run (callD (d - 1)) tb_Mo_passes 104 [vR 12 0 271, vI (s : Int), vI (146 + 15 * (s : Int)), vI z, vI f, vI (k : Int)] [] (SH L) (fillR M 272 (153 + 15 * s) (ld7 (lkB A B)) k)) 8 st 0 (by omega)
    rw [fillR_0] at e
    exact e
  generalize hM4 : fillR M 272 (153 + 15 * s) (ld7 (lkB A B)) 8 = M4 at lp
  have fr : ∀ b j, b ≠ 280 → ¬(b = 272 ∧ 146 + 15 * s ≤ j ∧ j < 161 + 15 * s) → M4 b j = M b j := fun b j q1 q2 => by rw [← hM4]; exact fillR_ne (by omega)
  have h4 : RwM M4 A s (lkB A B) := by
    refine h.cng (fun w hw => ?_) fun j hj => fr 272 j (by omega) (by omega)
    rw [← hM4]
    by_cases e : w < 7
    · rw [fillR_ne (by omega)]
      unfold lkB
      rw [if_neg (by omega)]
      exact h.1 w hw
    · rw [fillR_in rfl (by omega) (by omega)]
      unfold ld7
      congr 1
      omega
  have b2 : lkB A B 2 = B 2 := by unfold lkB; rw [if_neg (by omega)]
  have b1 : lkB A B 1 = B 1 := by unfold lkB; rw [if_neg (by omega)]
  have r2 : M4 272 (148 + 15 * s) = B 2 := by rw [← (j1 s).2.1, h4.1 2 (by omega), b2]
  refine ⟨fun h1 => wp_eq (lp 1) ?_, wp_eq (lp 0) ?_⟩
  · have h5 : RwM (up M4 272 (148 + 15 * s) (B 2 - 1)) A s (wU (lkB A B) 2 (B 2 - 1)) := by
      refine h4.cng (fun w hw => ?_) fun j hj => upN (by omega)
      by_cases e : w = 2
      · subst e; rw [upE rfl (by omega), wUE rfl]
      · rw [upN (by omega), wUN e]; exact h4.1 w hw
    have fr5 : ∀ b j, b ≠ 280 → ¬(b = 272 ∧ 146 + 15 * s ≤ j ∧ j < 161 + 15 * s) → up M4 272 (148 + 15 * s) (B 2 - 1) b j = M b j := fun b j q1 q2 => by rw [upN (by omega)]; exact fr b j q1 q2
    refine wp_eq (b_Mo_passes_104 _ _ _ _ _ _ _ _ _) ?_
    by_cases q : 0 < B 2 - 1
    · rw [if_pos q, if_pos q]
      repeat' first
        | (with_reducible apply wp_bR; (simp (disch := omega) only [rM L, rK L, rN L, rNf, rNv, rNp, rNd, rRow, rLeg, rMark, nat_cast, Int.reduceToNat, j1, r2]; with_reducible exact rfl))
        | with_reducible apply wp_bI
        | with_reducible apply wp_bV
        | with_reducible apply wp_bL
        | with_reducible apply wp_rI
        | with_reducible apply wp_rV
        | with_reducible apply wp_rL
        | (with_reducible apply wp_1; (first | omega | (simp (disch := omega) only [not_false_eq_true, not_true_eq_false, w32_id, tLt, fLt, tLe, fEq, itE, and_true, true_and, and_self, and_false, false_and, ↓reduceIte, nat_add, nat_mul3, nat_mul4, nat_mul6, nat_mul15, nat_mul60, nat_cast, nc1, Int.reduceToNat, upE, upN, fill_ne, fill_in, i0, j1, r2] <;> omega)))
        | (with_reducible apply wp_2; (first | omega | (simp (disch := omega) only [not_false_eq_true, not_true_eq_false, w32_id, tLt, fLt, tLe, fEq, itE, and_true, true_and, and_self, and_false, false_and, ↓reduceIte, nat_add, nat_mul3, nat_mul4, nat_mul6, nat_mul15, nat_mul60, nat_cast, nc1, Int.reduceToNat, upE, upN, fill_ne, fill_in, i0, j1, r2] <;> omega)))
        | (with_reducible apply wp_s; (first | (simp (disch := omega) only [not_false_eq_true, not_true_eq_false, w32_id, tLt, fLt, tLe, fEq, itE, and_true, true_and, and_self, and_false, false_and, ↓reduceIte, nat_add, nat_mul3, nat_mul4, nat_mul6, nat_mul15, nat_mul60, nat_cast, nc1, Int.reduceToNat, upE, upN, fill_ne, fill_in, i0, j1, r2]; with_reducible exact Iff.rfl) | with_reducible exact Iff.rfl); intro hc__; (try subst hc__); rotate_left; intro hc__; rotate_left)
        | (with_reducible apply wp_eq; (with_reducible apply cl_go; simp (disch := omega) only [not_false_eq_true, not_true_eq_false, w32_id, tLt, fLt, tLe, fEq, itE, and_true, true_and, and_self, and_false, false_and, ↓reduceIte, nat_add, nat_mul3, nat_mul4, nat_mul6, nat_mul15, nat_mul60, nat_cast, nc1, Int.reduceToNat, upE, upN, fill_ne, fill_in, i0, j1, r2]; with_reducible exact rfl))
        | (with_reducible apply wp_eq; (with_reducible apply lf_go; simp (disch := omega) only [not_false_eq_true, not_true_eq_false, w32_id, tLt, fLt, tLe, fEq, itE, and_true, true_and, and_self, and_false, false_and, ↓reduceIte, nat_add, nat_mul3, nat_mul4, nat_mul6, nat_mul15, nat_mul60, nat_cast, nc1, Int.reduceToNat, upE, upN, fill_ne, fill_in, i0, j1, r2]; with_reducible exact rfl))
        | with_reducible apply wp_q1
      exact wp_row rfl h5.1 fr5
    · rw [if_neg q, if_neg q]
      repeat' first
        | (with_reducible apply wp_bR; (simp (disch := omega) only [rM L, rK L, rN L, rNf, rNv, rNp, rNd, rRow, rLeg, rMark, nat_cast, Int.reduceToNat, j1, r2]; with_reducible exact rfl))
        | with_reducible apply wp_bI
        | with_reducible apply wp_bV
        | with_reducible apply wp_bL
        | with_reducible apply wp_rI
        | with_reducible apply wp_rV
        | with_reducible apply wp_rL
        | (with_reducible apply wp_1; (first | omega | (simp (disch := omega) only [not_false_eq_true, not_true_eq_false, w32_id, tLt, fLt, tLe, fEq, itE, and_true, true_and, and_self, and_false, false_and, ↓reduceIte, nat_add, nat_mul3, nat_mul4, nat_mul6, nat_mul15, nat_mul60, nat_cast, nc1, Int.reduceToNat, upE, upN, fill_ne, fill_in, i0, j1, r2] <;> omega)))
        | (with_reducible apply wp_2; (first | omega | (simp (disch := omega) only [not_false_eq_true, not_true_eq_false, w32_id, tLt, fLt, tLe, fEq, itE, and_true, true_and, and_self, and_false, false_and, ↓reduceIte, nat_add, nat_mul3, nat_mul4, nat_mul6, nat_mul15, nat_mul60, nat_cast, nc1, Int.reduceToNat, upE, upN, fill_ne, fill_in, i0, j1, r2] <;> omega)))
        | (with_reducible apply wp_s; (first | (simp (disch := omega) only [not_false_eq_true, not_true_eq_false, w32_id, tLt, fLt, tLe, fEq, itE, and_true, true_and, and_self, and_false, false_and, ↓reduceIte, nat_add, nat_mul3, nat_mul4, nat_mul6, nat_mul15, nat_mul60, nat_cast, nc1, Int.reduceToNat, upE, upN, fill_ne, fill_in, i0, j1, r2]; with_reducible exact Iff.rfl) | with_reducible exact Iff.rfl); intro hc__; (try subst hc__); rotate_left; intro hc__; rotate_left)
        | (with_reducible apply wp_eq; (with_reducible apply cl_go; simp (disch := omega) only [not_false_eq_true, not_true_eq_false, w32_id, tLt, fLt, tLe, fEq, itE, and_true, true_and, and_self, and_false, false_and, ↓reduceIte, nat_add, nat_mul3, nat_mul4, nat_mul6, nat_mul15, nat_mul60, nat_cast, nc1, Int.reduceToNat, upE, upN, fill_ne, fill_in, i0, j1, r2]; with_reducible exact rfl))
        | (with_reducible apply wp_eq; (with_reducible apply lf_go; simp (disch := omega) only [not_false_eq_true, not_true_eq_false, w32_id, tLt, fLt, tLe, fEq, itE, and_true, true_and, and_self, and_false, false_and, ↓reduceIte, nat_add, nat_mul3, nat_mul4, nat_mul6, nat_mul15, nat_mul60, nat_cast, nc1, Int.reduceToNat, upE, upN, fill_ne, fill_in, i0, j1, r2]; with_reducible exact rfl))
        | with_reducible apply wp_q1
      have hS5 : SeaI (wU (lkB A B) 2 (B 2 - 1)) := ⟨by rw [wUN (by omega)]; exact hS.1, fun g hg => by unfold ld7; rw [wUN (by omega)]; exact hS.2 g hg⟩
      have c1 : wU (lkB A B) 2 (B 2 - 1) 1 = B 1 := by rw [wUN (by omega)]; exact b1
      have ef : flB A (wU (lkB A B) 2 (B 2 - 1)) = flB A (lkB A B) := flB_congr hC fun g hg => by unfold ld7; rw [wUN (by omega)]
      have e := m_comesIn (L := L) (d := d - 1) (by omega) h5 hs hC hG hN hPt hS5 (by rw [c1]; exact h1.1) (by rw [c1]; exact h1.2)
      rw [c1, ef] at e
      refine wp_qrow e fun M6 hR hf => ?_
      repeat' first
        | (with_reducible apply wp_bR; (simp (disch := omega) only [rM L, rK L, rN L, rNf, rNv, rNp, rNd, rRow, rLeg, rMark, nat_cast, Int.reduceToNat]; with_reducible exact rfl))
        | with_reducible apply wp_bI
        | with_reducible apply wp_bV
        | with_reducible apply wp_bL
        | with_reducible apply wp_rI
        | with_reducible apply wp_rV
        | with_reducible apply wp_rL
        | (with_reducible apply wp_1; (first | omega | (simp (disch := omega) only [not_false_eq_true, not_true_eq_false, w32_id, tLt, fLt, tLe, fEq, itE, and_true, true_and, and_self, and_false, false_and, ↓reduceIte, nat_add, nat_mul3, nat_mul4, nat_mul6, nat_mul15, nat_mul60, nat_cast, nc1, Int.reduceToNat, upE, upN, fill_ne, fill_in, i0] <;> omega)))
        | (with_reducible apply wp_2; (first | omega | (simp (disch := omega) only [not_false_eq_true, not_true_eq_false, w32_id, tLt, fLt, tLe, fEq, itE, and_true, true_and, and_self, and_false, false_and, ↓reduceIte, nat_add, nat_mul3, nat_mul4, nat_mul6, nat_mul15, nat_mul60, nat_cast, nc1, Int.reduceToNat, upE, upN, fill_ne, fill_in, i0] <;> omega)))
        | (with_reducible apply wp_s; (first | (simp (disch := omega) only [not_false_eq_true, not_true_eq_false, w32_id, tLt, fLt, tLe, fEq, itE, and_true, true_and, and_self, and_false, false_and, ↓reduceIte, nat_add, nat_mul3, nat_mul4, nat_mul6, nat_mul15, nat_mul60, nat_cast, nc1, Int.reduceToNat, upE, upN, fill_ne, fill_in, i0]; with_reducible exact Iff.rfl) | with_reducible exact Iff.rfl); intro hc__; (try subst hc__); rotate_left; intro hc__; rotate_left)
        | (with_reducible apply wp_eq; (with_reducible apply cl_go; simp (disch := omega) only [not_false_eq_true, not_true_eq_false, w32_id, tLt, fLt, tLe, fEq, itE, and_true, true_and, and_self, and_false, false_and, ↓reduceIte, nat_add, nat_mul3, nat_mul4, nat_mul6, nat_mul15, nat_mul60, nat_cast, nc1, Int.reduceToNat, upE, upN, fill_ne, fill_in, i0]; with_reducible exact rfl))
        | (with_reducible apply wp_eq; (with_reducible apply lf_go; simp (disch := omega) only [not_false_eq_true, not_true_eq_false, w32_id, tLt, fLt, tLe, fEq, itE, and_true, true_and, and_self, and_false, false_and, ↓reduceIte, nat_add, nat_mul3, nat_mul4, nat_mul6, nat_mul15, nat_mul60, nat_cast, nc1, Int.reduceToNat, upE, upN, fill_ne, fill_in, i0]; with_reducible exact rfl))
        | with_reducible apply wp_q1
      exact wp_row rfl hR fun b j q1 q2 => by rw [hf b j q1 q2]; exact fr5 b j q1 q2
  · refine wp_eq (b_Mo_passes_104 _ _ _ _ _ _ _ _ _) ?_
    repeat' first
      | (with_reducible apply wp_bR; (simp (disch := omega) only [rM L, rK L, rN L, rNf, rNv, rNp, rNd, rRow, rLeg, rMark, nat_cast, Int.reduceToNat]; with_reducible exact rfl))
      | with_reducible apply wp_bI
      | with_reducible apply wp_bV
      | with_reducible apply wp_bL
      | with_reducible apply wp_rI
      | with_reducible apply wp_rV
      | with_reducible apply wp_rL
      | (with_reducible apply wp_1; (first | omega | (simp (disch := omega) only [not_false_eq_true, not_true_eq_false, w32_id, tLt, fLt, tLe, fEq, itE, and_true, true_and, and_self, and_false, false_and, ↓reduceIte, nat_add, nat_mul3, nat_mul4, nat_mul6, nat_mul15, nat_mul60, nat_cast, nc1, Int.reduceToNat, upE, upN, fill_ne, fill_in, i0] <;> omega)))
      | (with_reducible apply wp_2; (first | omega | (simp (disch := omega) only [not_false_eq_true, not_true_eq_false, w32_id, tLt, fLt, tLe, fEq, itE, and_true, true_and, and_self, and_false, false_and, ↓reduceIte, nat_add, nat_mul3, nat_mul4, nat_mul6, nat_mul15, nat_mul60, nat_cast, nc1, Int.reduceToNat, upE, upN, fill_ne, fill_in, i0] <;> omega)))
      | (with_reducible apply wp_s; (first | (simp (disch := omega) only [not_false_eq_true, not_true_eq_false, w32_id, tLt, fLt, tLe, fEq, itE, and_true, true_and, and_self, and_false, false_and, ↓reduceIte, nat_add, nat_mul3, nat_mul4, nat_mul6, nat_mul15, nat_mul60, nat_cast, nc1, Int.reduceToNat, upE, upN, fill_ne, fill_in, i0]; with_reducible exact Iff.rfl) | with_reducible exact Iff.rfl); intro hc__; (try subst hc__); rotate_left; intro hc__; rotate_left)
      | (with_reducible apply wp_eq; (with_reducible apply cl_go; simp (disch := omega) only [not_false_eq_true, not_true_eq_false, w32_id, tLt, fLt, tLe, fEq, itE, and_true, true_and, and_self, and_false, false_and, ↓reduceIte, nat_add, nat_mul3, nat_mul4, nat_mul6, nat_mul15, nat_mul60, nat_cast, nc1, Int.reduceToNat, upE, upN, fill_ne, fill_in, i0]; with_reducible exact rfl))
      | (with_reducible apply wp_eq; (with_reducible apply lf_go; simp (disch := omega) only [not_false_eq_true, not_true_eq_false, w32_id, tLt, fLt, tLe, fEq, itE, and_true, true_and, and_self, and_false, false_and, ↓reduceIte, nat_add, nat_mul3, nat_mul4, nat_mul6, nat_mul15, nat_mul60, nat_cast, nc1, Int.reduceToNat, upE, upN, fill_ne, fill_in, i0]; with_reducible exact rfl))
      | with_reducible apply wp_q1
    exact wp_row rfl h4.1 fr
theorem m_passes (hd : 11 ≤ d) (h : RelM M A) (hs : (s : Int) < A 3) : Wp (callD d m_Mo_passes [vR 12 0 271, vI (s : Int)] (SH L) M) (QRow L s M (dayB A (shp A s)) (some (vI (landB A (shp A s))))) := by
  have hC := h.cn
  have hC' := hC
  unfold Cn at hC'
  have hI := h.2
  have hG := h.gd
  have hN := hI.2.2.1
  have hA := h.1
  have hR := RwM.of h hs
  have hB := h.sh hs
  have hb := hB.1
  generalize hBB : shp A s = B at *
  have r0 : M 272 (146 + 15 * s) = B 0 := hR.1 0 (by omega)
  have r4 : M 272 (150 + 15 * s) = B 4 := by rw [← (j1 s).2.2.1]; exact hR.1 4 (by omega)
  have r5 : M 272 (151 + 15 * s) = B 5 := by rw [← (j1 s).2.2.2.1]; exact hR.1 5 (by omega)
  have hL := hB.ldl
  have hS : SeaI B := ⟨by omega, hL⟩
  have hS' := hS.sd hC hG hN
  have sr : ∀ M' : Mm, callD (d - 1) m_Mo_shipRow [vI (s : Int)] (SH L) M' = some (some (vI (146 + 15 * (s : Int))), SH L, M') := fun M' => by
    repeat' first
      | (with_reducible apply bR_go; (simp (disch := omega) only [rM L, rK L, rN L, rNf, rNv, rNp, rNd, rRow, rLeg, rMark, nat_cast, Int.reduceToNat]; with_reducible exact rfl))
      | with_reducible apply bI_go
      | with_reducible apply bV_go
      | with_reducible apply bL_go
      | (with_reducible apply it_1; (first | omega | (simp (disch := omega) only [not_false_eq_true, not_true_eq_false, w32_id, tLt, fLt, tLe, fEq, itE, and_true, true_and, and_self, and_false, false_and, ↓reduceIte, nat_add, nat_mul3, nat_mul4, nat_mul6, nat_mul15, nat_mul60, nat_cast, nc1, Int.reduceToNat, upE, upN, fill_ne, fill_in, i0] <;> omega)))
      | (with_reducible apply it_2; (first | omega | (simp (disch := omega) only [not_false_eq_true, not_true_eq_false, w32_id, tLt, fLt, tLe, fEq, itE, and_true, true_and, and_self, and_false, false_and, ↓reduceIte, nat_add, nat_mul3, nat_mul4, nat_mul6, nat_mul15, nat_mul60, nat_cast, nc1, Int.reduceToNat, upE, upN, fill_ne, fill_in, i0] <;> omega)))
      | (with_reducible refine cl_go ?_; simp (disch := omega) only [not_false_eq_true, not_true_eq_false, w32_id, tLt, fLt, tLe, fEq, itE, and_true, true_and, and_self, and_false, false_and, ↓reduceIte, nat_add, nat_mul3, nat_mul4, nat_mul6, nat_mul15, nat_mul60, nat_cast, nc1, Int.reduceToNat, upE, upN, fill_ne, fill_in, i0])
      | rw [c_Mo_shipRow (by omega), b_Mo_shipRow_0]
      | (with_reducible refine rn_go ?_; simp (disch := omega) only [not_false_eq_true, not_true_eq_false, w32_id, tLt, fLt, tLe, fEq, itE, and_true, true_and, and_self, and_false, false_and, ↓reduceIte, nat_add, nat_mul3, nat_mul4, nat_mul6, nat_mul15, nat_mul60, nat_cast, nc1, Int.reduceToNat, upE, upN, fill_ne, fill_in, i0])
      | (with_reducible refine lf_go ?_; simp (disch := omega) only [not_false_eq_true, not_true_eq_false, w32_id, tLt, fLt, tLe, fEq, itE, and_true, true_and, and_self, and_false, false_and, ↓reduceIte, nat_add, nat_mul3, nat_mul4, nat_mul6, nat_mul15, nat_mul60, nat_cast, nc1, Int.reduceToNat, upE, upN, fill_ne, fill_in, i0])
      | with_reducible exact rfl
  unfold dayB landB
  by_cases e0 : B 0 = -1
  · rw [if_pos e0, if_pos e0]
    have e2 := q2_flagOf (L := L) (d := d - 1) (by omega) hR (by omega) hC hG hL
    have fb := flB_bd hC B
    generalize hM1 : fillP M 280 (ld7 B) 8 = M1 at e2
    have fr1 : ∀ b j, b ≠ 280 → M1 b j = M b j := fun b j q => by rw [← hM1]; exact fill_ne (by omega)
    have hR1 : RwM M1 A s B := hR.cng (fun w hw => by rw [fr1 _ _ (by omega)]; exact hR.1 w hw) fun j _ => fr1 _ _ (by omega)
    have rest : ∀ M2 : Mm, RwM M2 A s (payB A B (flB A B)) → (∀ b j, b ≠ 280 → ¬(b = 272 ∧ 146 + 15 * s ≤ j ∧ j < 161 + 15 * s) → M2 b j = M b j) → Wp (callD (d - 1) m_Mo_loadsIn [vR 12 0 271, vI (s : Int), vI 1] (SH L) M2) (KV (fun S4 M4 => Run (callD (d - 1)) tb_Mo_passes 104 [vR 12 0 271, vI (s : Int), vI (146 + 15 * (s : Int)), vI 1, vI (flB A B), vI 0] [] S4 M4) (QRow L s M (sonB A B 1) (some (vI (if 0 < B 2 - 1 then 0 else 1))))) := fun M2 hR2 fr2 => by
      have hL2 : Ld (ld7 (payB A B (flB A B))) := fun g hg => by unfold ld7; rw [pay_o (by omega) (by omega)]; exact hL g hg
      rw [q2_loadsIn (by omega) hR2 (by omega) hC hG hL2]
      refine wp_rV ?_
      have hR3 : RwM (fillP M2 280 (ld7 (lkB A (payB A B (flB A B)))) 8) A s (payB A B (flB A B)) := hR2.cng (fun w hw => by rw [fill_ne (by omega)]; exact hR2.1 w hw) fun j _ => fill_ne (by omega)
      have p1 : payB A B (flB A B) 1 = B 1 := pay_o (by omega) (by omega)
      have p2 : payB A B (flB A B) 2 = B 2 := pay_o (by omega) (by omega)
      have t := (m_tail (L := L) (d := d) (by omega) hR3 (by omega) hI (fun g hg => fill_in rfl hg) hS' (flB A B) (by rw [p2]; omega)).1 (by rw [p1]; omega)
      rw [p1, p2] at t
      refine wp_mono t fun r S M' ⟨t1, t2, t3, t4⟩ => ⟨t1, t2, t3, fun b j q1 q2 => by rw [t4 b j q1 q2, fill_ne (by omega)]; exact fr2 b j q1 q2⟩
    by_cases ef : flB A B = -1
    · have pe : payB A B (flB A B) = B := by unfold payB; rw [if_pos ef]
      rw [pe] at rest
      repeat' first
        | (with_reducible apply wp_bR; (simp (disch := omega) only [rM L, rK L, rN L, rNf, rNv, rNp, rNd, rRow, rLeg, rMark, nat_cast, Int.reduceToNat, r0]; with_reducible exact rfl))
        | with_reducible apply wp_bI
        | with_reducible apply wp_bV
        | with_reducible apply wp_bL
        | with_reducible apply wp_rI
        | with_reducible apply wp_rV
        | with_reducible apply wp_rL
        | (with_reducible apply wp_1; (first | omega | (simp (disch := omega) only [not_false_eq_true, not_true_eq_false, w32_id, tLt, fLt, tLe, fEq, itE, and_true, true_and, and_self, and_false, false_and, ↓reduceIte, nat_add, nat_mul3, nat_mul4, nat_mul6, nat_mul15, nat_mul60, nat_cast, nc1, Int.reduceToNat, upE, upN, fill_ne, fill_in, i0, r0] <;> omega)))
        | (with_reducible apply wp_2; (first | omega | (simp (disch := omega) only [not_false_eq_true, not_true_eq_false, w32_id, tLt, fLt, tLe, fEq, itE, and_true, true_and, and_self, and_false, false_and, ↓reduceIte, nat_add, nat_mul3, nat_mul4, nat_mul6, nat_mul15, nat_mul60, nat_cast, nc1, Int.reduceToNat, upE, upN, fill_ne, fill_in, i0, r0] <;> omega)))
        | (with_reducible apply wp_s; (first | (simp (disch := omega) only [not_false_eq_true, not_true_eq_false, w32_id, tLt, fLt, tLe, fEq, itE, and_true, true_and, and_self, and_false, false_and, ↓reduceIte, nat_add, nat_mul3, nat_mul4, nat_mul6, nat_mul15, nat_mul60, nat_cast, nc1, Int.reduceToNat, upE, upN, fill_ne, fill_in, i0, r0]; with_reducible exact Iff.rfl) | with_reducible exact Iff.rfl); intro hc__; (try subst hc__); rotate_left; intro hc__; rotate_left)
        | (with_reducible apply wp_eq; (with_reducible apply cl_go; simp (disch := omega) only [not_false_eq_true, not_true_eq_false, w32_id, tLt, fLt, tLe, fEq, itE, and_true, true_and, and_self, and_false, false_and, ↓reduceIte, nat_add, nat_mul3, nat_mul4, nat_mul6, nat_mul15, nat_mul60, nat_cast, nc1, Int.reduceToNat, upE, upN, fill_ne, fill_in, i0, r0]; with_reducible exact rfl))
        | (with_reducible refine wp_eq (c_Mo_passes (by omega) _ _ _ _) ?_; with_reducible refine wp_eq (b_Mo_passes_0 _ _ _ _ _) ?_)
        | with_reducible refine wp_eq (sr _) ?_
        | with_reducible refine wp_eq (e2) ?_
        | (with_reducible apply wp_eq; (with_reducible apply lf_go; simp (disch := omega) only [not_false_eq_true, not_true_eq_false, w32_id, tLt, fLt, tLe, fEq, itE, and_true, true_and, and_self, and_false, false_and, ↓reduceIte, nat_add, nat_mul3, nat_mul4, nat_mul6, nat_mul15, nat_mul60, nat_cast, nc1, Int.reduceToNat, upE, upN, fill_ne, fill_in, i0, r0]; with_reducible exact rfl))
        | with_reducible apply wp_q1
      exact rest M1 hR1 fun b j q1 _ => fr1 b j q1
    · have nb := hN (flB A B).toNat (by omega)
      have hwg : M1 272 (8 + 4 * (flB A B).toNat) = A (8 + 4 * (flB A B).toNat) := hR1.lo _ (by omega)
      have q4 : M1 272 (150 + 15 * s) = B 4 := by rw [fr1 _ _ (by omega)]; exact r4
      have q5 : M1 272 (151 + 15 * s) = B 5 := by rw [fr1 _ _ (by omega)]; exact r5
      by_cases e4 : B 4 < A (8 + 4 * (flB A B).toNat)
      · have pe : payB A B (flB A B) = wU B 5 (w32 (B 5 + 1)) := by unfold payB; rw [if_neg ef, if_pos e4]
        rw [pe] at rest
        repeat' first
          | (with_reducible apply wp_bR; (simp (disch := omega) only [rM L, rK L, rN L, rNf, rNv, rNp, rNd, rRow, rLeg, rMark, nat_cast, Int.reduceToNat, r0, hwg, q4, q5, j1]; with_reducible exact rfl))
          | with_reducible apply wp_bI
          | with_reducible apply wp_bV
          | with_reducible apply wp_bL
          | with_reducible apply wp_rI
          | with_reducible apply wp_rV
          | with_reducible apply wp_rL
          | (with_reducible apply wp_1; (first | omega | (simp (disch := omega) only [not_false_eq_true, not_true_eq_false, w32_id, tLt, fLt, tLe, fEq, itE, and_true, true_and, and_self, and_false, false_and, ↓reduceIte, nat_add, nat_mul3, nat_mul4, nat_mul6, nat_mul15, nat_mul60, nat_cast, nc1, Int.reduceToNat, upE, upN, fill_ne, fill_in, i0, r0, hwg, q4, q5, j1] <;> omega)))
          | (with_reducible apply wp_2; (first | omega | (simp (disch := omega) only [not_false_eq_true, not_true_eq_false, w32_id, tLt, fLt, tLe, fEq, itE, and_true, true_and, and_self, and_false, false_and, ↓reduceIte, nat_add, nat_mul3, nat_mul4, nat_mul6, nat_mul15, nat_mul60, nat_cast, nc1, Int.reduceToNat, upE, upN, fill_ne, fill_in, i0, r0, hwg, q4, q5, j1] <;> omega)))
          | (with_reducible apply wp_s; (first | (simp (disch := omega) only [not_false_eq_true, not_true_eq_false, w32_id, tLt, fLt, tLe, fEq, itE, and_true, true_and, and_self, and_false, false_and, ↓reduceIte, nat_add, nat_mul3, nat_mul4, nat_mul6, nat_mul15, nat_mul60, nat_cast, nc1, Int.reduceToNat, upE, upN, fill_ne, fill_in, i0, r0, hwg, q4, q5, j1]; with_reducible exact Iff.rfl) | with_reducible exact Iff.rfl); intro hc__; (try subst hc__); rotate_left; intro hc__; rotate_left)
          | (with_reducible apply wp_eq; (with_reducible apply cl_go; simp (disch := omega) only [not_false_eq_true, not_true_eq_false, w32_id, tLt, fLt, tLe, fEq, itE, and_true, true_and, and_self, and_false, false_and, ↓reduceIte, nat_add, nat_mul3, nat_mul4, nat_mul6, nat_mul15, nat_mul60, nat_cast, nc1, Int.reduceToNat, upE, upN, fill_ne, fill_in, i0, r0, hwg, q4, q5, j1]; with_reducible exact rfl))
          | (with_reducible refine wp_eq (c_Mo_passes (by omega) _ _ _ _) ?_; with_reducible refine wp_eq (b_Mo_passes_0 _ _ _ _ _) ?_)
          | (with_reducible refine wp_eq (c_Mo_nationRow (by omega) _ _ _) ?_; with_reducible refine wp_eq (b_Mo_nationRow_0 _ _ _ _) ?_)
          | with_reducible refine wp_eq (sr _) ?_
          | with_reducible refine wp_eq (e2) ?_
          | (with_reducible apply wp_eq; (with_reducible apply lf_go; simp (disch := omega) only [not_false_eq_true, not_true_eq_false, w32_id, tLt, fLt, tLe, fEq, itE, and_true, true_and, and_self, and_false, false_and, ↓reduceIte, nat_add, nat_mul3, nat_mul4, nat_mul6, nat_mul15, nat_mul60, nat_cast, nc1, Int.reduceToNat, upE, upN, fill_ne, fill_in, i0, r0, hwg, q4, q5, j1]; with_reducible exact rfl))
          | with_reducible apply wp_q1
        refine rest _ (hR1.cng (fun w hw => ?_) fun j hj => upN (by omega)) fun b j h1 h2 => ?_
        · by_cases e : w = 5
          · subst e; rw [upE rfl (by omega), wUE rfl]
          · rw [upN (by omega), wUN e]; exact hR1.1 w hw
        · rw [upN (by omega)]; exact fr1 b j h1
      · have pe : payB A B (flB A B) = wU B 4 (B 4 - A (8 + 4 * (flB A B).toNat)) := by unfold payB; rw [if_neg ef, if_neg e4]
        rw [pe] at rest
        repeat' first
          | (with_reducible apply wp_bR; (simp (disch := omega) only [rM L, rK L, rN L, rNf, rNv, rNp, rNd, rRow, rLeg, rMark, nat_cast, Int.reduceToNat, r0, hwg, q4, q5, j1]; with_reducible exact rfl))
          | with_reducible apply wp_bI
          | with_reducible apply wp_bV
          | with_reducible apply wp_bL
          | with_reducible apply wp_rI
          | with_reducible apply wp_rV
          | with_reducible apply wp_rL
          | (with_reducible apply wp_1; (first | omega | (simp (disch := omega) only [not_false_eq_true, not_true_eq_false, w32_id, tLt, fLt, tLe, fEq, itE, and_true, true_and, and_self, and_false, false_and, ↓reduceIte, nat_add, nat_mul3, nat_mul4, nat_mul6, nat_mul15, nat_mul60, nat_cast, nc1, Int.reduceToNat, upE, upN, fill_ne, fill_in, i0, r0, hwg, q4, q5, j1] <;> omega)))
          | (with_reducible apply wp_2; (first | omega | (simp (disch := omega) only [not_false_eq_true, not_true_eq_false, w32_id, tLt, fLt, tLe, fEq, itE, and_true, true_and, and_self, and_false, false_and, ↓reduceIte, nat_add, nat_mul3, nat_mul4, nat_mul6, nat_mul15, nat_mul60, nat_cast, nc1, Int.reduceToNat, upE, upN, fill_ne, fill_in, i0, r0, hwg, q4, q5, j1] <;> omega)))
          | (with_reducible apply wp_s; (first | (simp (disch := omega) only [not_false_eq_true, not_true_eq_false, w32_id, tLt, fLt, tLe, fEq, itE, and_true, true_and, and_self, and_false, false_and, ↓reduceIte, nat_add, nat_mul3, nat_mul4, nat_mul6, nat_mul15, nat_mul60, nat_cast, nc1, Int.reduceToNat, upE, upN, fill_ne, fill_in, i0, r0, hwg, q4, q5, j1]; with_reducible exact Iff.rfl) | with_reducible exact Iff.rfl); intro hc__; (try subst hc__); rotate_left; intro hc__; rotate_left)
          | (with_reducible apply wp_eq; (with_reducible apply cl_go; simp (disch := omega) only [not_false_eq_true, not_true_eq_false, w32_id, tLt, fLt, tLe, fEq, itE, and_true, true_and, and_self, and_false, false_and, ↓reduceIte, nat_add, nat_mul3, nat_mul4, nat_mul6, nat_mul15, nat_mul60, nat_cast, nc1, Int.reduceToNat, upE, upN, fill_ne, fill_in, i0, r0, hwg, q4, q5, j1]; with_reducible exact rfl))
          | (with_reducible refine wp_eq (c_Mo_passes (by omega) _ _ _ _) ?_; with_reducible refine wp_eq (b_Mo_passes_0 _ _ _ _ _) ?_)
          | (with_reducible refine wp_eq (c_Mo_nationRow (by omega) _ _ _) ?_; with_reducible refine wp_eq (b_Mo_nationRow_0 _ _ _ _) ?_)
          | with_reducible refine wp_eq (sr _) ?_
          | with_reducible refine wp_eq (e2) ?_
          | (with_reducible apply wp_eq; (with_reducible apply lf_go; simp (disch := omega) only [not_false_eq_true, not_true_eq_false, w32_id, tLt, fLt, tLe, fEq, itE, and_true, true_and, and_self, and_false, false_and, ↓reduceIte, nat_add, nat_mul3, nat_mul4, nat_mul6, nat_mul15, nat_mul60, nat_cast, nc1, Int.reduceToNat, upE, upN, fill_ne, fill_in, i0, r0, hwg, q4, q5, j1]; with_reducible exact rfl))
          | with_reducible apply wp_q1
        refine rest _ (hR1.cng (fun w hw => ?_) fun j hj => upN (by omega)) fun b j h1 h2 => ?_
        · by_cases e : w = 4
          · subst e; rw [upE rfl (by omega), wUE rfl]
          · rw [upN (by omega), wUN e]; exact hR1.1 w hw
        · rw [upN (by omega)]; exact fr1 b j h1
  · rw [if_neg e0, if_neg e0]
    have hSl : SeaI (lkB A B) := by
      refine ⟨by unfold lkB; rw [if_neg (by omega)]; omega, fun g hg => ?_⟩
      have lb := hL g hg
      unfold ld7 at lb ⊢
      unfold lkB
      split
      · next e =>
        have := hG g (by rw [show 7 + g - 7 = g by omega] at e; exact e.2.2)
        rw [show 7 + g - 7 = g by omega]
        omega
      · exact lb
    have li := q2_loadsIn (L := L) (d := d - 1) (by omega) hR (by omega) hC hG hL
    repeat' first
      | (with_reducible apply wp_bR; (simp (disch := omega) only [rM L, rK L, rN L, rNf, rNv, rNp, rNd, rRow, rLeg, rMark, nat_cast, Int.reduceToNat, r0]; with_reducible exact rfl))
      | with_reducible apply wp_bI
      | with_reducible apply wp_bV
      | with_reducible apply wp_bL
      | with_reducible apply wp_rI
      | with_reducible apply wp_rV
      | with_reducible apply wp_rL
      | (with_reducible apply wp_1; (first | omega | (simp (disch := omega) only [not_false_eq_true, not_true_eq_false, w32_id, tLt, fLt, tLe, fEq, itE, and_true, true_and, and_self, and_false, false_and, ↓reduceIte, nat_add, nat_mul3, nat_mul4, nat_mul6, nat_mul15, nat_mul60, nat_cast, nc1, Int.reduceToNat, upE, upN, fill_ne, fill_in, i0, r0] <;> omega)))
      | (with_reducible apply wp_2; (first | omega | (simp (disch := omega) only [not_false_eq_true, not_true_eq_false, w32_id, tLt, fLt, tLe, fEq, itE, and_true, true_and, and_self, and_false, false_and, ↓reduceIte, nat_add, nat_mul3, nat_mul4, nat_mul6, nat_mul15, nat_mul60, nat_cast, nc1, Int.reduceToNat, upE, upN, fill_ne, fill_in, i0, r0] <;> omega)))
      | (with_reducible apply wp_s; (first | (simp (disch := omega) only [not_false_eq_true, not_true_eq_false, w32_id, tLt, fLt, tLe, fEq, itE, and_true, true_and, and_self, and_false, false_and, ↓reduceIte, nat_add, nat_mul3, nat_mul4, nat_mul6, nat_mul15, nat_mul60, nat_cast, nc1, Int.reduceToNat, upE, upN, fill_ne, fill_in, i0, r0]; with_reducible exact Iff.rfl) | with_reducible exact Iff.rfl); intro hc__; (try subst hc__); rotate_left; intro hc__; rotate_left)
      | (with_reducible apply wp_eq; (with_reducible apply cl_go; simp (disch := omega) only [not_false_eq_true, not_true_eq_false, w32_id, tLt, fLt, tLe, fEq, itE, and_true, true_and, and_self, and_false, false_and, ↓reduceIte, nat_add, nat_mul3, nat_mul4, nat_mul6, nat_mul15, nat_mul60, nat_cast, nc1, Int.reduceToNat, upE, upN, fill_ne, fill_in, i0, r0]; with_reducible exact rfl))
      | (with_reducible refine wp_eq (c_Mo_passes (by omega) _ _ _ _) ?_; with_reducible refine wp_eq (b_Mo_passes_0 _ _ _ _ _) ?_)
      | with_reducible refine wp_eq (sr _) ?_
      | with_reducible refine wp_eq (li) ?_
      | (with_reducible apply wp_eq; (with_reducible apply lf_go; simp (disch := omega) only [not_false_eq_true, not_true_eq_false, w32_id, tLt, fLt, tLe, fEq, itE, and_true, true_and, and_self, and_false, false_and, ↓reduceIte, nat_add, nat_mul3, nat_mul4, nat_mul6, nat_mul15, nat_mul60, nat_cast, nc1, Int.reduceToNat, upE, upN, fill_ne, fill_in, i0, r0]; with_reducible exact rfl))
      | with_reducible apply wp_q1
    have hR3 : RwM (fillP M 280 (ld7 (lkB A B)) 8) A s B := hR.cng (fun w hw => by rw [fill_ne (by omega)]; exact hR.1 w hw) fun j _ => fill_ne (by omega)
    have t := (m_tail (L := L) (d := d) (by omega) hR3 (by omega) hI (fun g hg => fill_in rfl hg) hSl (-1) (by omega)).2
    exact wp_mono t fun r S M' ⟨t1, t2, t3, t4⟩ => ⟨t1, t2, t3, fun b j q1 q2 => by rw [t4 b j q1 q2, fill_ne (by omega)]⟩
end

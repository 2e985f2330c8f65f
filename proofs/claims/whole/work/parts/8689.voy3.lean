/-! THE VOYAGE THAT GAINS MOST: the class's search -/
def gdI (x : Int) : Int := if x % 9 = 8 then -1 else x % 9
section
variable {A : Nat → Int} {L : Nat}
/-- what a search from a leg on leaves as it was -/
def smS (leg : Nat) (M M' : Mm) : Prop := ∀ b j, ¬(118 + 2 * leg ≤ b ∧ b ≤ 125) → b ≠ 48 → ¬(b = 116 ∧ (j = 2 ∨ j = 3) ∧ leg = 0) → M' b j = M b j
theorem smS.tr {leg leg' : Nat} {M M1 M2 : Mm} (h1 : smS leg M M1) (h2 : smS leg' M1 M2) (hl : leg ≤ leg') (h0 : leg' = 0 → leg = 0) : smS leg M M2 := fun b j q1 q2 q3 => by rw [h2 b j (by omega) q2 (fun e => q3 ⟨e.1, e.2.1, h0 e.2.2⟩)]; exact h1 b j q1 q2 q3
theorem VsW.sm {leg leg' v : Nat} {M M' : Mm} {B : Nat → Int} (h : VsW M v B) (hf : smS leg' M M') (hv : v = 118 + 2 * leg) (hl : leg < leg') : VsW M' v B := by
  refine ⟨fun w hw => ?_, fun g hg => ?_⟩
  · rw [hf _ _ (by omega) (by omega) (by omega)]; exact h.1 w hw
  · rw [hf _ _ (by omega) (by omega) (by omega)]; exact h.2 g hg
theorem o_most (hI : Inv A) : ∀ (n leg legs d : Nat) (M : Mm) (B : Nat → Int), leg + n = legs → legs ≤ 3 → 10 + n ≤ d → ChW M 19 A → VsW M (118 + 2 * leg) B → Sh1 A B → 0 ≤ B 0 → Wp (callD d m_Search_mostCoins [vR 4 0 116, vR 0 0 19, vI (leg : Int), vI (legs : Int)] (SH L) M) (fun r S M' => r = some (vI (vo A n (selB A B))) ∧ S = SH L ∧ smS leg M M' ∧ (leg = 0 → ∀ m, n = m + 1 → vo A n (selB A B) ≠ -1 → M' 116 2 = fa (voF A m (selB A B)) 54 / 9 ∧ M' 116 3 = gdI (fa (voF A m (selB A B)) 54))) := by
  intro n
  induction n with
  | zero =>
    intro leg legs d M B hle hl3 hd hA hV hB h0
    have r1 := rLeg (L := L) (k := leg) (by omega)
    repeat' first
      | (with_reducible apply wp_bR; (simp (disch := omega) only [rM L, rK L, rN L, rNf, rNv, rNp, rNd, rRow, rLeg, rMark, nat_cast, Int.reduceToNat, r1]; with_reducible exact rfl))
      | with_reducible apply wp_bI
      | with_reducible apply wp_bV
      | with_reducible apply wp_bL
      | with_reducible apply wp_rI
      | with_reducible apply wp_rV
      | with_reducible apply wp_rL
      | (with_reducible apply wp_1; (first | omega | (simp (disch := omega) only [not_false_eq_true, not_true_eq_false, w32_id, tLt, fLt, tLe, fEq, itE, and_true, true_and, and_self, and_false, false_and, ↓reduceIte, nat_add, nat_mul3, nat_mul4, nat_mul6, nat_mul15, nat_mul60, nat_cast, nc1, Int.reduceToNat, upE, upN, fill_ne, fill_in, i0, r1] <;> omega)))
      | (with_reducible apply wp_2; (first | omega | (simp (disch := omega) only [not_false_eq_true, not_true_eq_false, w32_id, tLt, fLt, tLe, fEq, itE, and_true, true_and, and_self, and_false, false_and, ↓reduceIte, nat_add, nat_mul3, nat_mul4, nat_mul6, nat_mul15, nat_mul60, nat_cast, nc1, Int.reduceToNat, upE, upN, fill_ne, fill_in, i0, r1] <;> omega)))
      | (with_reducible apply wp_s; (first | (simp (disch := omega) only [not_false_eq_true, not_true_eq_false, w32_id, tLt, fLt, tLe, fEq, itE, and_true, true_and, and_self, and_false, false_and, ↓reduceIte, nat_add, nat_mul3, nat_mul4, nat_mul6, nat_mul15, nat_mul60, nat_cast, nc1, Int.reduceToNat, upE, upN, fill_ne, fill_in, i0, r1]; with_reducible exact Iff.rfl) | with_reducible exact Iff.rfl); intro hc__; (try subst hc__); rotate_left; intro hc__; rotate_left)
      | (with_reducible apply wp_eq; (with_reducible apply cl_go; simp (disch := omega) only [not_false_eq_true, not_true_eq_false, w32_id, tLt, fLt, tLe, fEq, itE, and_true, true_and, and_self, and_false, false_and, ↓reduceIte, nat_add, nat_mul3, nat_mul4, nat_mul6, nat_mul15, nat_mul60, nat_cast, nc1, Int.reduceToNat, upE, upN, fill_ne, fill_in, i0, r1]; with_reducible exact rfl))
      | (with_reducible refine wp_eq (c_Search_mostCoins (by omega) _ _ _ _ _ _) ?_; with_reducible refine wp_eq (b_Search_mostCoins_0 _ _ _ _ _ _ _) ?_)
      | (with_reducible apply wp_eq; (with_reducible apply lf_go; simp (disch := omega) only [not_false_eq_true, not_true_eq_false, w32_id, tLt, fLt, tLe, fEq, itE, and_true, true_and, and_self, and_false, false_and, ↓reduceIte, nat_add, nat_mul3, nat_mul4, nat_mul6, nat_mul15, nat_mul60, nat_cast, nc1, Int.reduceToNat, upE, upN, fill_ne, fill_in, i0, r1]; with_reducible exact rfl))
      | with_reducible apply wp_q1
    refine wp_qv (v_sellsAll (by omega) (by unfold isV; omega) (by unfold apt; omega) hA hI hV hB h0) fun M1 hV1 f1 => ?_
    have w4 := hV1.1 4 (by omega)
    repeat' first
      | (with_reducible apply wp_bR; (simp (disch := omega) only [rM L, rK L, rN L, rNf, rNv, rNp, rNd, rRow, rLeg, rMark, nat_cast, Int.reduceToNat, w4]; with_reducible exact rfl))
      | with_reducible apply wp_bI
      | with_reducible apply wp_bV
      | with_reducible apply wp_bL
      | with_reducible apply wp_rI
      | with_reducible apply wp_rV
      | with_reducible apply wp_rL
      | (with_reducible apply wp_1; (first | omega | (simp (disch := omega) only [not_false_eq_true, not_true_eq_false, w32_id, tLt, fLt, tLe, fEq, itE, and_true, true_and, and_self, and_false, false_and, ↓reduceIte, nat_add, nat_mul3, nat_mul4, nat_mul6, nat_mul15, nat_mul60, nat_cast, nc1, Int.reduceToNat, upE, upN, fill_ne, fill_in, i0, w4] <;> omega)))
      | (with_reducible apply wp_2; (first | omega | (simp (disch := omega) only [not_false_eq_true, not_true_eq_false, w32_id, tLt, fLt, tLe, fEq, itE, and_true, true_and, and_self, and_false, false_and, ↓reduceIte, nat_add, nat_mul3, nat_mul4, nat_mul6, nat_mul15, nat_mul60, nat_cast, nc1, Int.reduceToNat, upE, upN, fill_ne, fill_in, i0, w4] <;> omega)))
      | (with_reducible apply wp_s; (first | (simp (disch := omega) only [not_false_eq_true, not_true_eq_false, w32_id, tLt, fLt, tLe, fEq, itE, and_true, true_and, and_self, and_false, false_and, ↓reduceIte, nat_add, nat_mul3, nat_mul4, nat_mul6, nat_mul15, nat_mul60, nat_cast, nc1, Int.reduceToNat, upE, upN, fill_ne, fill_in, i0, w4]; with_reducible exact Iff.rfl) | with_reducible exact Iff.rfl); intro hc__; (try subst hc__); rotate_left; intro hc__; rotate_left)
      | (with_reducible apply wp_eq; (with_reducible apply cl_go; simp (disch := omega) only [not_false_eq_true, not_true_eq_false, w32_id, tLt, fLt, tLe, fEq, itE, and_true, true_and, and_self, and_false, false_and, ↓reduceIte, nat_add, nat_mul3, nat_mul4, nat_mul6, nat_mul15, nat_mul60, nat_cast, nc1, Int.reduceToNat, upE, upN, fill_ne, fill_in, i0, w4]; with_reducible exact rfl))
      | (with_reducible apply wp_eq; (with_reducible apply lf_go; simp (disch := omega) only [not_false_eq_true, not_true_eq_false, w32_id, tLt, fLt, tLe, fEq, itE, and_true, true_and, and_self, and_false, false_and, ↓reduceIte, nat_add, nat_mul3, nat_mul4, nat_mul6, nat_mul15, nat_mul60, nat_cast, nc1, Int.reduceToNat, upE, upN, fill_ne, fill_in, i0, w4]; with_reducible exact rfl))
      | with_reducible apply wp_q1
    exact ⟨_, _, _, rfl, rfl, rfl, fun b j q1 q2 q3 => f1 b j (by omega) (by omega) q2, fun _ m e => by omega⟩
  | succ n IH =>
    intro leg legs d M B hle hl3 hd hA hV hB h0
    have hC := hI.1
    unfold Cn at hC
    have r1 := rLeg (L := L) (k := leg) (by omega)
    repeat' first
      | (with_reducible apply wp_bR; (simp (disch := omega) only [rM L, rK L, rN L, rNf, rNv, rNp, rNd, rRow, rLeg, rMark, nat_cast, Int.reduceToNat, r1]; with_reducible exact rfl))
      | with_reducible apply wp_bI
      | with_reducible apply wp_bV
      | with_reducible apply wp_bL
      | with_reducible apply wp_rI
      | with_reducible apply wp_rV
      | with_reducible apply wp_rL
      | (with_reducible apply wp_1; (first | omega | (simp (disch := omega) only [not_false_eq_true, not_true_eq_false, w32_id, tLt, fLt, tLe, fEq, itE, and_true, true_and, and_self, and_false, false_and, ↓reduceIte, nat_add, nat_mul3, nat_mul4, nat_mul6, nat_mul15, nat_mul60, nat_cast, nc1, Int.reduceToNat, upE, upN, fill_ne, fill_in, i0, r1] <;> omega)))
      | (with_reducible apply wp_2; (first | omega | (simp (disch := omega) only [not_false_eq_true, not_true_eq_false, w32_id, tLt, fLt, tLe, fEq, itE, and_true, true_and, and_self, and_false, false_and, ↓reduceIte, nat_add, nat_mul3, nat_mul4, nat_mul6, nat_mul15, nat_mul60, nat_cast, nc1, Int.reduceToNat, upE, upN, fill_ne, fill_in, i0, r1] <;> omega)))
      | (with_reducible apply wp_s; (first | (simp (disch := omega) only [not_false_eq_true, not_true_eq_false, w32_id, tLt, fLt, tLe, fEq, itE, and_true, true_and, and_self, and_false, false_and, ↓reduceIte, nat_add, nat_mul3, nat_mul4, nat_mul6, nat_mul15, nat_mul60, nat_cast, nc1, Int.reduceToNat, upE, upN, fill_ne, fill_in, i0, r1]; with_reducible exact Iff.rfl) | with_reducible exact Iff.rfl); intro hc__; (try subst hc__); rotate_left; intro hc__; rotate_left)
      | (with_reducible apply wp_eq; (with_reducible apply cl_go; simp (disch := omega) only [not_false_eq_true, not_true_eq_false, w32_id, tLt, fLt, tLe, fEq, itE, and_true, true_and, and_self, and_false, false_and, ↓reduceIte, nat_add, nat_mul3, nat_mul4, nat_mul6, nat_mul15, nat_mul60, nat_cast, nc1, Int.reduceToNat, upE, upN, fill_ne, fill_in, i0, r1]; with_reducible exact rfl))
      | (with_reducible refine wp_eq (c_Search_mostCoins (by omega) _ _ _ _ _ _) ?_; with_reducible refine wp_eq (b_Search_mostCoins_0 _ _ _ _ _ _ _) ?_)
      | (with_reducible apply wp_eq; (with_reducible apply lf_go; simp (disch := omega) only [not_false_eq_true, not_true_eq_false, w32_id, tLt, fLt, tLe, fEq, itE, and_true, true_and, and_self, and_false, false_and, ↓reduceIte, nat_add, nat_mul3, nat_mul4, nat_mul6, nat_mul15, nat_mul60, nat_cast, nc1, Int.reduceToNat, upE, upN, fill_ne, fill_in, i0, r1]; with_reducible exact rfl))
      | with_reducible apply wp_q1
    refine wp_qv (v_sellsAll (by omega) (by unfold isV; omega) (by unfold apt; omega) hA hI hV hB h0) fun M0 hV0 f0 => ?_
    have hX := hB.sel hI h0
    have hX0 : 0 ≤ selB A B 0 := by rw [sel_0 _ _ (by omega)]; exact h0
    have hXb := hX.1
    generalize selB A B = X at hV0 hX hX0 hXb
    have g0 : smS leg M M0 := fun b j q1 q2 q3 => f0 b j (by omega) (by omega) q2
    clear hV hB h0
    repeat' first
      | (with_reducible apply wp_bR; (simp (disch := omega) only [rM L, rK L, rN L, rNf, rNv, rNp, rNd, rRow, rLeg, rMark, nat_cast, Int.reduceToNat]; with_reducible exact rfl))
      | with_reducible apply wp_bI
      | with_reducible apply wp_bV
      | with_reducible apply wp_bL
      | with_reducible apply wp_rI
      | with_reducible apply wp_rV
      | with_reducible apply wp_rL
      | (with_reducible apply wp_1; (first | omega | (simp (disch := omega) only [not_false_eq_true, not_true_eq_false, w32_id, tLt, fLt, tLe, fEq, itE, and_true, true_and, and_self, and_false, false_and, ↓reduceIte, nat_add, nat_mul3, nat_mul4, nat_mul6, nat_mul15, nat_mul60, nat_cast, nc1, Int.reduceToNat, upE, upN, fill_ne, fill_in, i0] <;> omega)))
      | (with_reducible apply wp_2; (first | omega | (simp (disch := omega) only [not_false_eq_true, not_true_eq_false, w32_id, tLt, fLt, tLe, fEq, itE, and_true, true_and, and_self, and_false, false_and, ↓reduceIte, nat_add, nat_mul3, nat_mul4, nat_mul6, nat_mul15, nat_mul60, nat_cast, nc1, Int.reduceToNat, upE, upN, fill_ne, fill_in, i0] <;> omega)))
      | (with_reducible apply wp_s; (first | (simp (disch := omega) only [not_false_eq_true, not_true_eq_false, w32_id, tLt, fLt, tLe, fEq, itE, and_true, true_and, and_self, and_false, false_and, ↓reduceIte, nat_add, nat_mul3, nat_mul4, nat_mul6, nat_mul15, nat_mul60, nat_cast, nc1, Int.reduceToNat, upE, upN, fill_ne, fill_in, i0]; with_reducible exact Iff.rfl) | with_reducible exact Iff.rfl); intro hc__; (try subst hc__); rotate_left; intro hc__; rotate_left)
      | (with_reducible apply wp_eq; (with_reducible apply cl_go; simp (disch := omega) only [not_false_eq_true, not_true_eq_false, w32_id, tLt, fLt, tLe, fEq, itE, and_true, true_and, and_self, and_false, false_and, ↓reduceIte, nat_add, nat_mul3, nat_mul4, nat_mul6, nat_mul15, nat_mul60, nat_cast, nc1, Int.reduceToNat, upE, upN, fill_ne, fill_in, i0]; with_reducible exact rfl))
      | (with_reducible apply wp_eq; (with_reducible apply lf_go; simp (disch := omega) only [not_false_eq_true, not_true_eq_false, w32_id, tLt, fLt, tLe, fEq, itE, and_true, true_and, and_self, and_false, false_and, ↓reduceIte, nat_add, nat_mul3, nat_mul4, nat_mul6, nat_mul15, nat_mul60, nat_cast, nc1, Int.reduceToNat, upE, upN, fill_ne, fill_in, i0]; with_reducible exact rfl))
      | with_reducible apply wp_q1
    rw [vo_s]
    generalize hF : voF A n X = F
    have hFv : ∀ p g : Nat, g < 9 → F (9 * p + g) = if (p : Int) < A 2 ∧ okLeg A X p g then vo A n (selB A (legB A (gdB A X g) p)) else -1 := fun p g hg => by
      rw [← hF]
      unfold voF
      rw [show (9 * p + g) / 9 = p by omega, show (9 * p + g) % 9 = g by omega]
    refine wp_loop (α := Mm × AV × AV × AV) (G := fun p m => Run (callD (d - 1)) tb_Search_mostCoins 36 [vR 4 0 116, vR 0 0 19, vI (leg : Int), vI (legs : Int), vR 8 0 (118 + 2 * leg), vI (fm F (9 * p)), vI (p : Int), m.2.1, m.2.2.1, m.2.2.2] [] (SH L) m.1) (I := fun p m => smS leg M m.1 ∧ VsW m.1 (118 + 2 * leg) X ∧ (leg = 0 → fm F (9 * p) ≠ -1 → m.1 116 2 = fa F (9 * p) / 9 ∧ m.1 116 3 = gdI (fa F (9 * p)))) (A 2).toNat ?_ ?_ 0 (M0, vU, vU, vU) (by omega) ⟨g0, hV0, fun _ e => absurd rfl e⟩
    · intro p ⟨M1, z1, z2, z3⟩ hp ⟨f1, v1, b1⟩ ih
      have f1 : smS leg M M1 := f1
      have v1 : VsW M1 (118 + 2 * leg) X := v1
      have b1 : leg = 0 → fm F (9 * p) ≠ -1 → M1 116 2 = fa F (9 * p) / 9 ∧ M1 116 3 = gdI (fa F (9 * p)) := b1
      have hA1 : ChW M1 19 A := hA.frame hI.1 fun b j q1 q2 => f1 b j (by omega) (by omega) (by omega)
      have hct1 : ∀ k, k < 4 → M1 20 k = A k := hA1.1
      have w0 : M1 (118 + 2 * leg) 0 = X 0 := v1.1 0 (by omega)
      have hwy : M1 (42 + (X 0).toNat) p = way A X p := hA1.2.2.2.2.2.2 _ _ (by omega) (by omega)
      have rd := rCd (L := L) ch19 (k := (X 0).toNat) (by omega)
      by_cases c : way A X p = 0
      · have sk := fm_skip (f := F) (k := 9 * p) 9 fun i h1 h2 => by
          have := hFv p (i - 9 * p) (by omega)
          rw [show 9 * p + (i - 9 * p) = i by omega] at this
          rw [this, if_neg (fun q => q.2.1 c)]
        refine wp_eq (b_Search_mostCoins_36 _ _ _ _ _ _ _ _ _ _ _ _ _) ?_
        repeat' first
          | (with_reducible apply wp_bR; (simp (disch := omega) only [rM L, rK L, rN L, rNf, rNv, rNp, rNd, rRow, rLeg, rMark, nat_cast, Int.reduceToNat, hct1, w0, hwy, rd]; with_reducible exact rfl))
          | with_reducible apply wp_bI
          | with_reducible apply wp_bV
          | with_reducible apply wp_bL
          | with_reducible apply wp_rI
          | with_reducible apply wp_rV
          | with_reducible apply wp_rL
          | (with_reducible apply wp_1; (first | omega | (simp (disch := omega) only [not_false_eq_true, not_true_eq_false, w32_id, tLt, fLt, tLe, fEq, itE, and_true, true_and, and_self, and_false, false_and, ↓reduceIte, nat_add, nat_mul3, nat_mul4, nat_mul6, nat_mul15, nat_mul60, nat_cast, nc1, Int.reduceToNat, upE, upN, fill_ne, fill_in, i0, hct1, w0, hwy, rd] <;> omega)))
          | (with_reducible apply wp_2; (first | omega | (simp (disch := omega) only [not_false_eq_true, not_true_eq_false, w32_id, tLt, fLt, tLe, fEq, itE, and_true, true_and, and_self, and_false, false_and, ↓reduceIte, nat_add, nat_mul3, nat_mul4, nat_mul6, nat_mul15, nat_mul60, nat_cast, nc1, Int.reduceToNat, upE, upN, fill_ne, fill_in, i0, hct1, w0, hwy, rd] <;> omega)))
          | (with_reducible apply wp_s; (first | (simp (disch := omega) only [not_false_eq_true, not_true_eq_false, w32_id, tLt, fLt, tLe, fEq, itE, and_true, true_and, and_self, and_false, false_and, ↓reduceIte, nat_add, nat_mul3, nat_mul4, nat_mul6, nat_mul15, nat_mul60, nat_cast, nc1, Int.reduceToNat, upE, upN, fill_ne, fill_in, i0, hct1, w0, hwy, rd]; with_reducible exact Iff.rfl) | with_reducible exact Iff.rfl); intro hc__; (try subst hc__); rotate_left; intro hc__; rotate_left)
          | (with_reducible apply wp_eq; (with_reducible apply cl_go; simp (disch := omega) only [not_false_eq_true, not_true_eq_false, w32_id, tLt, fLt, tLe, fEq, itE, and_true, true_and, and_self, and_false, false_and, ↓reduceIte, nat_add, nat_mul3, nat_mul4, nat_mul6, nat_mul15, nat_mul60, nat_cast, nc1, Int.reduceToNat, upE, upN, fill_ne, fill_in, i0, hct1, w0, hwy, rd]; with_reducible exact rfl))
          | (with_reducible apply wp_eq; (with_reducible apply lf_go; simp (disch := omega) only [not_false_eq_true, not_true_eq_false, w32_id, tLt, fLt, tLe, fEq, itE, and_true, true_and, and_self, and_false, false_and, ↓reduceIte, nat_add, nat_mul3, nat_mul4, nat_mul6, nat_mul15, nat_mul60, nat_cast, nc1, Int.reduceToNat, upE, upN, fill_ne, fill_in, i0, hct1, w0, hwy, rd]; with_reducible exact rfl))
          | with_reducible apply wp_q1
        simp (disch := omega) only [not_false_eq_true, not_true_eq_false, w32_id, tLt, fLt, tLe, fEq, itE, and_true, true_and, and_self, and_false, false_and, ↓reduceIte, nat_add, nat_mul3, nat_mul4, nat_mul6, nat_mul15, nat_mul60, nat_cast, nc1, Int.reduceToNat, upE, upN, fill_ne, fill_in, i0]
        rw [show 9 * p + 9 = 9 * (p + 1) by omega] at sk
        rw [← sk.1]
        exact ih (M1, _, _, _) ⟨f1, v1, fun e q => by rw [sk.1] at q; rw [sk.2]; exact b1 e q⟩
      · refine wp_eq (b_Search_mostCoins_36 _ _ _ _ _ _ _ _ _ _ _ _ _) ?_
        repeat' first
          | (with_reducible apply wp_bR; (simp (disch := omega) only [rM L, rK L, rN L, rNf, rNv, rNp, rNd, rRow, rLeg, rMark, nat_cast, Int.reduceToNat, hct1, w0, hwy, rd]; with_reducible exact rfl))
          | with_reducible apply wp_bI
          | with_reducible apply wp_bV
          | with_reducible apply wp_bL
          | with_reducible apply wp_rI
          | with_reducible apply wp_rV
          | with_reducible apply wp_rL
          | (with_reducible apply wp_1; (first | omega | (simp (disch := omega) only [not_false_eq_true, not_true_eq_false, w32_id, tLt, fLt, tLe, fEq, itE, and_true, true_and, and_self, and_false, false_and, ↓reduceIte, nat_add, nat_mul3, nat_mul4, nat_mul6, nat_mul15, nat_mul60, nat_cast, nc1, Int.reduceToNat, upE, upN, fill_ne, fill_in, i0, hct1, w0, hwy, rd] <;> omega)))
          | (with_reducible apply wp_2; (first | omega | (simp (disch := omega) only [not_false_eq_true, not_true_eq_false, w32_id, tLt, fLt, tLe, fEq, itE, and_true, true_and, and_self, and_false, false_and, ↓reduceIte, nat_add, nat_mul3, nat_mul4, nat_mul6, nat_mul15, nat_mul60, nat_cast, nc1, Int.reduceToNat, upE, upN, fill_ne, fill_in, i0, hct1, w0, hwy, rd] <;> omega)))
          | (with_reducible apply wp_s; (first | (simp (disch := omega) only [not_false_eq_true, not_true_eq_false, w32_id, tLt, fLt, tLe, fEq, itE, and_true, true_and, and_self, and_false, false_and, ↓reduceIte, nat_add, nat_mul3, nat_mul4, nat_mul6, nat_mul15, nat_mul60, nat_cast, nc1, Int.reduceToNat, upE, upN, fill_ne, fill_in, i0, hct1, w0, hwy, rd]; with_reducible exact Iff.rfl) | with_reducible exact Iff.rfl); intro hc__; (try subst hc__); rotate_left; intro hc__; rotate_left)
          | (with_reducible apply wp_eq; (with_reducible apply cl_go; simp (disch := omega) only [not_false_eq_true, not_true_eq_false, w32_id, tLt, fLt, tLe, fEq, itE, and_true, true_and, and_self, and_false, false_and, ↓reduceIte, nat_add, nat_mul3, nat_mul4, nat_mul6, nat_mul15, nat_mul60, nat_cast, nc1, Int.reduceToNat, upE, upN, fill_ne, fill_in, i0, hct1, w0, hwy, rd]; with_reducible exact rfl))
          | (with_reducible apply wp_eq; (with_reducible apply lf_go; simp (disch := omega) only [not_false_eq_true, not_true_eq_false, w32_id, tLt, fLt, tLe, fEq, itE, and_true, true_and, and_self, and_false, false_and, ↓reduceIte, nat_add, nat_mul3, nat_mul4, nat_mul6, nat_mul15, nat_mul60, nat_cast, nc1, Int.reduceToNat, upE, upN, fill_ne, fill_in, i0, hct1, w0, hwy, rd]; with_reducible exact rfl))
          | with_reducible apply wp_q1
        -- one choice: from the call of goes on
        have one : ∀ (g : Nat) (x : Int) (M2 : Mm), (g = 8 ∧ x = -1 ∨ (g : Int) < A 1 ∧ x = (g : Int)) → smS leg M M2 → VsW M2 (118 + 2 * leg) X → (leg = 0 → fm F (9 * p + g) ≠ -1 → M2 116 2 = fa F (9 * p + g) / 9 ∧ M2 116 3 = gdI (fa F (9 * p + g))) → ∃ M3, Wp (callD (d - 1) m_Search_goes [vR 4 0 116, vR 0 0 19, vI (leg : Int), vI (p : Int), vI x] (SH L) M2) (fun r S M' => r = some (vI (if okLeg A X p g then 1 else 0)) ∧ S = SH L ∧ M' = M3) ∧ smS leg M M3 ∧ VsW M3 (118 + 2 * leg) X ∧ (∀ j, M3 116 j = M2 116 j) ∧ (okLeg A X p g → Wp (callD (d - 1) m_Search_mostCoins [vR 4 0 116, vR 0 0 19, vI ((leg + 1 : Nat) : Int), vI (legs : Int)] (SH L) M3) (fun r S M' => r = some (vI (F (9 * p + g))) ∧ S = SH L ∧ smS leg M M' ∧ VsW M' (118 + 2 * leg) X ∧ ∀ j, M' 116 j = M2 116 j)) := by
          intro g x M2 hx f2 v2 b2
          have hA2 : ChW M2 19 A := hA.frame hI.1 fun b j q1 q2 => f2 b j (by omega) (by omega) (by omega)
          obtain ⟨r, S, M3, e, rfl, rfl, f3, c3⟩ := o_goes (L := L) (d := d - 1) (by omega) hA2 hI (leg := leg) (by omega) v2 hX hX0 (p := p) (g := g) (x := x) (by omega) c hx
          have f3' : smS (leg + 1) M2 M3 := fun b j q1 q2 q3 => f3 b j (by omega) (by omega) q2
          refine ⟨M3, ⟨_, _, _, e, rfl, rfl, rfl⟩, f2.tr f3' (by omega) (by omega), v2.sm f3' rfl (by omega), fun j => f3' _ _ (by omega) (by omega) (by omega), fun ok => ?_⟩
          have s := hX.next hI hX0 (p := p) (g := g) (by omega) ok
          have hA3 : ChW M3 19 A := hA2.frame hI.1 fun b j q1 q2 => f3 b j (by omega) (by omega) (by omega)
          refine wp_mono (IH (leg + 1) legs (d - 1) M3 _ (by omega) hl3 (by omega) hA3 (c3 ok) s.1 (by rw [s.2]; omega)) ?_
          rintro r S M4 ⟨rfl, rfl, f4, -⟩
          refine ⟨by rw [hFv p g (by omega), if_pos ⟨by omega, ok⟩], rfl, (f2.tr f3' (by omega) (by omega)).tr f4 (by omega) (by omega), (v2.sm f3' rfl (by omega)).sm f4 rfl (by omega), fun j => by rw [f4 _ _ (by omega) (by omega) (by omega)]; exact f3' _ _ (by omega) (by omega) (by omega)⟩
        refine wp_loop (α := Mm × AV × AV) (G := fun g m => Run (callD (d - 1)) tb_Search_mostCoins 69 [vR 4 0 116, vR 0 0 19, vI (leg : Int), vI (legs : Int), vR 8 0 (118 + 2 * leg), vI (fm F (9 * p + g)), vI (p : Int), vI (g : Int), m.2.1, m.2.2] [] (SH L) m.1) (I := fun g m => smS leg M m.1 ∧ VsW m.1 (118 + 2 * leg) X ∧ (leg = 0 → fm F (9 * p + g) ≠ -1 → m.1 116 2 = fa F (9 * p + g) / 9 ∧ m.1 116 3 = gdI (fa F (9 * p + g)))) (A 1).toNat ?_ ?_ 0 (M1, z2, z3) (by omega) ⟨f1, v1, b1⟩
        · intro g ⟨M2, y1, y2⟩ hg ⟨f2, v2, b2⟩ ih
          have f2 : smS leg M M2 := f2
          have v2 : VsW M2 (118 + 2 * leg) X := v2
          have b2 : leg = 0 → fm F (9 * p + g) ≠ -1 → M2 116 2 = fa F (9 * p + g) / 9 ∧ M2 116 3 = gdI (fa F (9 * p + g)) := b2
          have hct2 : ∀ k, k < 4 → M2 20 k = A k := fun k hk => by rw [f2 _ _ (by omega) (by omega) (by omega)]; exact hA.1 k hk
          obtain ⟨M3, w3, f3, v3, e3, go⟩ := one g (g : Int) M2 (Or.inr ⟨by omega, rfl⟩) f2 v2 b2
          have w3 := wp_un w3
          have ge := fm_ge F (9 * p + g)
          have es1 := fm_s F (9 * p + g)
          have ea1 := fa_s F (9 * p + g)
          rw [Nat.add_assoc] at es1 ea1
          by_cases ok : okLeg A X p g
          · rw [if_pos ok] at w3
            refine wp_eq (b_Search_mostCoins_69 _ _ _ _ _ _ _ _ _ _ _ _ _) ?_
            repeat' first
              | (with_reducible apply wp_bR; (simp (disch := omega) only [rM L, rK L, rN L, rNf, rNv, rNp, rNd, rRow, rLeg, rMark, nat_cast, Int.reduceToNat, hct2]; with_reducible exact rfl))
              | with_reducible apply wp_bI
              | with_reducible apply wp_bV
              | with_reducible apply wp_bL
              | with_reducible apply wp_rI
              | with_reducible apply wp_rV
              | with_reducible apply wp_rL
              | (with_reducible apply wp_1; (first | omega | (simp (disch := omega) only [not_false_eq_true, not_true_eq_false, w32_id, tLt, fLt, tLe, fEq, itE, and_true, true_and, and_self, and_false, false_and, ↓reduceIte, nat_add, nat_mul3, nat_mul4, nat_mul6, nat_mul15, nat_mul60, nat_cast, nc1, Int.reduceToNat, upE, upN, fill_ne, fill_in, i0, hct2] <;> omega)))
              | (with_reducible apply wp_2; (first | omega | (simp (disch := omega) only [not_false_eq_true, not_true_eq_false, w32_id, tLt, fLt, tLe, fEq, itE, and_true, true_and, and_self, and_false, false_and, ↓reduceIte, nat_add, nat_mul3, nat_mul4, nat_mul6, nat_mul15, nat_mul60, nat_cast, nc1, Int.reduceToNat, upE, upN, fill_ne, fill_in, i0, hct2] <;> omega)))
              | (with_reducible apply wp_s; (first | (simp (disch := omega) only [not_false_eq_true, not_true_eq_false, w32_id, tLt, fLt, tLe, fEq, itE, and_true, true_and, and_self, and_false, false_and, ↓reduceIte, nat_add, nat_mul3, nat_mul4, nat_mul6, nat_mul15, nat_mul60, nat_cast, nc1, Int.reduceToNat, upE, upN, fill_ne, fill_in, i0, hct2]; with_reducible exact Iff.rfl) | with_reducible exact Iff.rfl); intro hc__; (try subst hc__); rotate_left; intro hc__; rotate_left)
              | (with_reducible apply wp_eq; (with_reducible apply cl_go; simp (disch := omega) only [not_false_eq_true, not_true_eq_false, w32_id, tLt, fLt, tLe, fEq, itE, and_true, true_and, and_self, and_false, false_and, ↓reduceIte, nat_add, nat_mul3, nat_mul4, nat_mul6, nat_mul15, nat_mul60, nat_cast, nc1, Int.reduceToNat, upE, upN, fill_ne, fill_in, i0, hct2]; with_reducible exact rfl))
              | with_reducible refine wp_eq (w3) ?_
              | (with_reducible apply wp_eq; (with_reducible apply lf_go; simp (disch := omega) only [not_false_eq_true, not_true_eq_false, w32_id, tLt, fLt, tLe, fEq, itE, and_true, true_and, and_self, and_false, false_and, ↓reduceIte, nat_add, nat_mul3, nat_mul4, nat_mul6, nat_mul15, nat_mul60, nat_cast, nc1, Int.reduceToNat, upE, upN, fill_ne, fill_in, i0, hct2]; with_reducible exact rfl))
              | with_reducible apply wp_q1
            refine wp_mono (go ok) ?_
            rintro r S M4 ⟨rfl, rfl, f4, v4, e4⟩
            refine ⟨_, rfl, ?_⟩
            by_cases lt : fm F (9 * p + g) < F (9 * p + g)
            · rw [if_pos lt] at es1 ea1
              have es := es1
              by_cases l0 : leg = 0
              · have hct4 : ∀ k, k < 4 → M4 20 k = A k := fun k hk => by rw [f4 _ _ (by omega) (by omega) (by omega)]; exact hA.1 k hk
                repeat' first
                  | (with_reducible apply wp_bR; (simp (disch := omega) only [rM L, rK L, rN L, rNf, rNv, rNp, rNd, rRow, rLeg, rMark, nat_cast, Int.reduceToNat]; with_reducible exact rfl))
                  | with_reducible apply wp_bI
                  | with_reducible apply wp_bV
                  | with_reducible apply wp_bL
                  | with_reducible apply wp_rI
                  | with_reducible apply wp_rV
                  | with_reducible apply wp_rL
                  | (with_reducible apply wp_1; (first | omega | (simp (disch := omega) only [not_false_eq_true, not_true_eq_false, w32_id, tLt, fLt, tLe, fEq, itE, and_true, true_and, and_self, and_false, false_and, ↓reduceIte, nat_add, nat_mul3, nat_mul4, nat_mul6, nat_mul15, nat_mul60, nat_cast, nc1, Int.reduceToNat, upE, upN, fill_ne, fill_in, i0] <;> omega)))
                  | (with_reducible apply wp_2; (first | omega | (simp (disch := omega) only [not_false_eq_true, not_true_eq_false, w32_id, tLt, fLt, tLe, fEq, itE, and_true, true_and, and_self, and_false, false_and, ↓reduceIte, nat_add, nat_mul3, nat_mul4, nat_mul6, nat_mul15, nat_mul60, nat_cast, nc1, Int.reduceToNat, upE, upN, fill_ne, fill_in, i0] <;> omega)))
                  | (with_reducible apply wp_s; (first | (simp (disch := omega) only [not_false_eq_true, not_true_eq_false, w32_id, tLt, fLt, tLe, fEq, itE, and_true, true_and, and_self, and_false, false_and, ↓reduceIte, nat_add, nat_mul3, nat_mul4, nat_mul6, nat_mul15, nat_mul60, nat_cast, nc1, Int.reduceToNat, upE, upN, fill_ne, fill_in, i0]; with_reducible exact Iff.rfl) | with_reducible exact Iff.rfl); intro hc__; (try subst hc__); rotate_left; intro hc__; rotate_left)
                  | (with_reducible apply wp_eq; (with_reducible apply cl_go; simp (disch := omega) only [not_false_eq_true, not_true_eq_false, w32_id, tLt, fLt, tLe, fEq, itE, and_true, true_and, and_self, and_false, false_and, ↓reduceIte, nat_add, nat_mul3, nat_mul4, nat_mul6, nat_mul15, nat_mul60, nat_cast, nc1, Int.reduceToNat, upE, upN, fill_ne, fill_in, i0]; with_reducible exact rfl))
                  | (with_reducible refine wp_eq (c_Search_noteFirstLeg (by omega) _ _ _ _ _ _) ?_; with_reducible refine wp_eq (b_Search_noteFirstLeg_0 _ _ _ _ _ _ _) ?_)
                  | (with_reducible apply wp_eq; (with_reducible apply lf_go; simp (disch := omega) only [not_false_eq_true, not_true_eq_false, w32_id, tLt, fLt, tLe, fEq, itE, and_true, true_and, and_self, and_false, false_and, ↓reduceIte, nat_add, nat_mul3, nat_mul4, nat_mul6, nat_mul15, nat_mul60, nat_cast, nc1, Int.reduceToNat, upE, upN, fill_ne, fill_in, i0]; with_reducible exact rfl))
                  | with_reducible apply wp_q1
                apply wp_nx3 ih
                · simp (disch := omega) only [not_false_eq_true, not_true_eq_false, w32_id, tLt, fLt, tLe, fEq, itE, and_true, true_and, and_self, and_false, false_and, ↓reduceIte, nat_add, nat_mul3, nat_mul4, nat_mul6, nat_mul15, nat_mul60, nat_cast, nc1, Int.reduceToNat, upE, upN, fill_ne, fill_in, i0, es]
                  with_reducible rfl
                · exact ⟨fun b j q1 q2 q3 => by dsimp only; rw [upN (by omega), upN (by omega)]; exact f4 b j q1 q2 q3, ⟨fun w hw => by dsimp only; rw [upN (by omega), upN (by omega)]; exact v4.1 w hw, fun k hk => by dsimp only; rw [upN (by omega), upN (by omega)]; exact v4.2 k hk⟩, fun _ _ => by dsimp only; rw [ea1, upN (by omega), upE rfl rfl, upE rfl rfl]; exact ⟨by omega, by unfold gdI; rw [if_neg (by omega)]; omega⟩⟩
              · have hct4 : ∀ k, k < 4 → M4 20 k = A k := fun k hk => by rw [f4 _ _ (by omega) (by omega) (by omega)]; exact hA.1 k hk
                repeat' first
                  | (with_reducible apply wp_bR; (simp (disch := omega) only [rM L, rK L, rN L, rNf, rNv, rNp, rNd, rRow, rLeg, rMark, nat_cast, Int.reduceToNat]; with_reducible exact rfl))
                  | with_reducible apply wp_bI
                  | with_reducible apply wp_bV
                  | with_reducible apply wp_bL
                  | with_reducible apply wp_rI
                  | with_reducible apply wp_rV
                  | with_reducible apply wp_rL
                  | (with_reducible apply wp_1; (first | omega | (simp (disch := omega) only [not_false_eq_true, not_true_eq_false, w32_id, tLt, fLt, tLe, fEq, itE, and_true, true_and, and_self, and_false, false_and, ↓reduceIte, nat_add, nat_mul3, nat_mul4, nat_mul6, nat_mul15, nat_mul60, nat_cast, nc1, Int.reduceToNat, upE, upN, fill_ne, fill_in, i0] <;> omega)))
                  | (with_reducible apply wp_2; (first | omega | (simp (disch := omega) only [not_false_eq_true, not_true_eq_false, w32_id, tLt, fLt, tLe, fEq, itE, and_true, true_and, and_self, and_false, false_and, ↓reduceIte, nat_add, nat_mul3, nat_mul4, nat_mul6, nat_mul15, nat_mul60, nat_cast, nc1, Int.reduceToNat, upE, upN, fill_ne, fill_in, i0] <;> omega)))
                  | (with_reducible apply wp_s; (first | (simp (disch := omega) only [not_false_eq_true, not_true_eq_false, w32_id, tLt, fLt, tLe, fEq, itE, and_true, true_and, and_self, and_false, false_and, ↓reduceIte, nat_add, nat_mul3, nat_mul4, nat_mul6, nat_mul15, nat_mul60, nat_cast, nc1, Int.reduceToNat, upE, upN, fill_ne, fill_in, i0]; with_reducible exact Iff.rfl) | with_reducible exact Iff.rfl); intro hc__; (try subst hc__); rotate_left; intro hc__; rotate_left)
                  | (with_reducible apply wp_eq; (with_reducible apply cl_go; simp (disch := omega) only [not_false_eq_true, not_true_eq_false, w32_id, tLt, fLt, tLe, fEq, itE, and_true, true_and, and_self, and_false, false_and, ↓reduceIte, nat_add, nat_mul3, nat_mul4, nat_mul6, nat_mul15, nat_mul60, nat_cast, nc1, Int.reduceToNat, upE, upN, fill_ne, fill_in, i0]; with_reducible exact rfl))
                  | (with_reducible refine wp_eq (c_Search_noteFirstLeg (by omega) _ _ _ _ _ _) ?_; with_reducible refine wp_eq (b_Search_noteFirstLeg_0 _ _ _ _ _ _ _) ?_)
                  | (with_reducible apply wp_eq; (with_reducible apply lf_go; simp (disch := omega) only [not_false_eq_true, not_true_eq_false, w32_id, tLt, fLt, tLe, fEq, itE, and_true, true_and, and_self, and_false, false_and, ↓reduceIte, nat_add, nat_mul3, nat_mul4, nat_mul6, nat_mul15, nat_mul60, nat_cast, nc1, Int.reduceToNat, upE, upN, fill_ne, fill_in, i0]; with_reducible exact rfl))
                  | with_reducible apply wp_q1
                apply wp_nx3 ih
                · simp (disch := omega) only [not_false_eq_true, not_true_eq_false, w32_id, tLt, fLt, tLe, fEq, itE, and_true, true_and, and_self, and_false, false_and, ↓reduceIte, nat_add, nat_mul3, nat_mul4, nat_mul6, nat_mul15, nat_mul60, nat_cast, nc1, Int.reduceToNat, upE, upN, fill_ne, fill_in, i0, es]
                  with_reducible rfl
                · exact ⟨f4, v4, fun e => absurd e l0⟩
            · rw [if_neg lt] at es1 ea1
              have es := es1
              have hct4 : ∀ k, k < 4 → M4 20 k = A k := fun k hk => by rw [f4 _ _ (by omega) (by omega) (by omega)]; exact hA.1 k hk
              repeat' first
                | (with_reducible apply wp_bR; (simp (disch := omega) only [rM L, rK L, rN L, rNf, rNv, rNp, rNd, rRow, rLeg, rMark, nat_cast, Int.reduceToNat]; with_reducible exact rfl))
                | with_reducible apply wp_bI
                | with_reducible apply wp_bV
                | with_reducible apply wp_bL
                | with_reducible apply wp_rI
                | with_reducible apply wp_rV
                | with_reducible apply wp_rL
                | (with_reducible apply wp_1; (first | omega | (simp (disch := omega) only [not_false_eq_true, not_true_eq_false, w32_id, tLt, fLt, tLe, fEq, itE, and_true, true_and, and_self, and_false, false_and, ↓reduceIte, nat_add, nat_mul3, nat_mul4, nat_mul6, nat_mul15, nat_mul60, nat_cast, nc1, Int.reduceToNat, upE, upN, fill_ne, fill_in, i0] <;> omega)))
                | (with_reducible apply wp_2; (first | omega | (simp (disch := omega) only [not_false_eq_true, not_true_eq_false, w32_id, tLt, fLt, tLe, fEq, itE, and_true, true_and, and_self, and_false, false_and, ↓reduceIte, nat_add, nat_mul3, nat_mul4, nat_mul6, nat_mul15, nat_mul60, nat_cast, nc1, Int.reduceToNat, upE, upN, fill_ne, fill_in, i0] <;> omega)))
                | (with_reducible apply wp_s; (first | (simp (disch := omega) only [not_false_eq_true, not_true_eq_false, w32_id, tLt, fLt, tLe, fEq, itE, and_true, true_and, and_self, and_false, false_and, ↓reduceIte, nat_add, nat_mul3, nat_mul4, nat_mul6, nat_mul15, nat_mul60, nat_cast, nc1, Int.reduceToNat, upE, upN, fill_ne, fill_in, i0]; with_reducible exact Iff.rfl) | with_reducible exact Iff.rfl); intro hc__; (try subst hc__); rotate_left; intro hc__; rotate_left)
                | (with_reducible apply wp_eq; (with_reducible apply cl_go; simp (disch := omega) only [not_false_eq_true, not_true_eq_false, w32_id, tLt, fLt, tLe, fEq, itE, and_true, true_and, and_self, and_false, false_and, ↓reduceIte, nat_add, nat_mul3, nat_mul4, nat_mul6, nat_mul15, nat_mul60, nat_cast, nc1, Int.reduceToNat, upE, upN, fill_ne, fill_in, i0]; with_reducible exact rfl))
                | (with_reducible apply wp_eq; (with_reducible apply lf_go; simp (disch := omega) only [not_false_eq_true, not_true_eq_false, w32_id, tLt, fLt, tLe, fEq, itE, and_true, true_and, and_self, and_false, false_and, ↓reduceIte, nat_add, nat_mul3, nat_mul4, nat_mul6, nat_mul15, nat_mul60, nat_cast, nc1, Int.reduceToNat, upE, upN, fill_ne, fill_in, i0]; with_reducible exact rfl))
                | with_reducible apply wp_q1
              apply wp_nx3 ih
              · simp (disch := omega) only [not_false_eq_true, not_true_eq_false, w32_id, tLt, fLt, tLe, fEq, itE, and_true, true_and, and_self, and_false, false_and, ↓reduceIte, nat_add, nat_mul3, nat_mul4, nat_mul6, nat_mul15, nat_mul60, nat_cast, nc1, Int.reduceToNat, upE, upN, fill_ne, fill_in, i0, es]
                with_reducible rfl
              · exact ⟨f4, v4, fun e q => by rw [es1] at q; rw [ea1]; dsimp only; rw [e4 2, e4 3]; exact b2 e q⟩
          · have fn : F (9 * p + g) = -1 := by rw [hFv p g (by omega), if_neg (fun q => ok q.2)]
            rw [fn, if_neg (by omega)] at es1 ea1
            have es := es1
            rw [if_neg ok] at w3
            have hct3 : ∀ k, k < 4 → M3 20 k = A k := fun k hk => by rw [f3 _ _ (by omega) (by omega) (by omega)]; exact hA.1 k hk
            refine wp_eq (b_Search_mostCoins_69 _ _ _ _ _ _ _ _ _ _ _ _ _) ?_
            repeat' first
              | (with_reducible apply wp_bR; (simp (disch := omega) only [rM L, rK L, rN L, rNf, rNv, rNp, rNd, rRow, rLeg, rMark, nat_cast, Int.reduceToNat, hct2]; with_reducible exact rfl))
              | with_reducible apply wp_bI
              | with_reducible apply wp_bV
              | with_reducible apply wp_bL
              | with_reducible apply wp_rI
              | with_reducible apply wp_rV
              | with_reducible apply wp_rL
              | (with_reducible apply wp_1; (first | omega | (simp (disch := omega) only [not_false_eq_true, not_true_eq_false, w32_id, tLt, fLt, tLe, fEq, itE, and_true, true_and, and_self, and_false, false_and, ↓reduceIte, nat_add, nat_mul3, nat_mul4, nat_mul6, nat_mul15, nat_mul60, nat_cast, nc1, Int.reduceToNat, upE, upN, fill_ne, fill_in, i0, hct2] <;> omega)))
              | (with_reducible apply wp_2; (first | omega | (simp (disch := omega) only [not_false_eq_true, not_true_eq_false, w32_id, tLt, fLt, tLe, fEq, itE, and_true, true_and, and_self, and_false, false_and, ↓reduceIte, nat_add, nat_mul3, nat_mul4, nat_mul6, nat_mul15, nat_mul60, nat_cast, nc1, Int.reduceToNat, upE, upN, fill_ne, fill_in, i0, hct2] <;> omega)))
              | (with_reducible apply wp_s; (first | (simp (disch := omega) only [not_false_eq_true, not_true_eq_false, w32_id, tLt, fLt, tLe, fEq, itE, and_true, true_and, and_self, and_false, false_and, ↓reduceIte, nat_add, nat_mul3, nat_mul4, nat_mul6, nat_mul15, nat_mul60, nat_cast, nc1, Int.reduceToNat, upE, upN, fill_ne, fill_in, i0, hct2]; with_reducible exact Iff.rfl) | with_reducible exact Iff.rfl); intro hc__; (try subst hc__); rotate_left; intro hc__; rotate_left)
              | (with_reducible apply wp_eq; (with_reducible apply cl_go; simp (disch := omega) only [not_false_eq_true, not_true_eq_false, w32_id, tLt, fLt, tLe, fEq, itE, and_true, true_and, and_self, and_false, false_and, ↓reduceIte, nat_add, nat_mul3, nat_mul4, nat_mul6, nat_mul15, nat_mul60, nat_cast, nc1, Int.reduceToNat, upE, upN, fill_ne, fill_in, i0, hct2]; with_reducible exact rfl))
              | with_reducible refine wp_eq (w3) ?_
              | (with_reducible apply wp_eq; (with_reducible apply lf_go; simp (disch := omega) only [not_false_eq_true, not_true_eq_false, w32_id, tLt, fLt, tLe, fEq, itE, and_true, true_and, and_self, and_false, false_and, ↓reduceIte, nat_add, nat_mul3, nat_mul4, nat_mul6, nat_mul15, nat_mul60, nat_cast, nc1, Int.reduceToNat, upE, upN, fill_ne, fill_in, i0, hct2]; with_reducible exact rfl))
              | with_reducible apply wp_q1
            apply wp_nx3 ih
            · simp (disch := omega) only [not_false_eq_true, not_true_eq_false, w32_id, tLt, fLt, tLe, fEq, itE, and_true, true_and, and_self, and_false, false_and, ↓reduceIte, nat_add, nat_mul3, nat_mul4, nat_mul6, nat_mul15, nat_mul60, nat_cast, nc1, Int.reduceToNat, upE, upN, fill_ne, fill_in, i0, es]
              with_reducible rfl
            · exact ⟨f3, v3, fun e q => by rw [es1] at q; rw [ea1]; dsimp only; rw [e3 2, e3 3]; exact b2 e q⟩
        · intro ⟨M2, y1, y2⟩ ⟨f2, v2, b2⟩
          have sk := fm_skip (f := F) (k := 9 * p + (A 1).toNat) (8 - (A 1).toNat) fun i h1 h2 => by
            have := hFv p (i - 9 * p) (by omega)
            rw [show 9 * p + (i - 9 * p) = i by omega] at this
            rw [this, if_neg (fun q => by rcases q.2.2 with e | e <;> omega)]
          rw [show 9 * p + (A 1).toNat + (8 - (A 1).toNat) = 9 * p + 8 by omega] at sk
          have f2 : smS leg M M2 := f2
          have v2 : VsW M2 (118 + 2 * leg) X := v2
          have b2 : leg = 0 → fm F (9 * p + (A 1).toNat) ≠ -1 → M2 116 2 = fa F (9 * p + (A 1).toNat) / 9 ∧ M2 116 3 = gdI (fa F (9 * p + (A 1).toNat)) := b2
          rw [← sk.1, ← sk.2] at b2
          have hct2 : ∀ k, k < 4 → M2 20 k = A k := fun k hk => by rw [f2 _ _ (by omega) (by omega) (by omega)]; exact hA.1 k hk
          dsimp only
          rw [← sk.1]
          obtain ⟨M3, w3, f3, v3, e3, go⟩ := one 8 (-1) M2 (Or.inl ⟨rfl, rfl⟩) f2 v2 b2
          have w3 := wp_un w3
          have ge := fm_ge F (9 * p + 8)
          have es1 := fm_s F (9 * p + 8)
          have ea1 := fa_s F (9 * p + 8)
          rw [show 9 * p + 8 + 1 = 9 * (p + 1) by omega] at es1 ea1
          by_cases ok : okLeg A X p 8
          · rw [if_pos ok] at w3
            refine wp_eq (b_Search_mostCoins_69 _ _ _ _ _ _ _ _ _ _ _ _ _) ?_
            repeat' first
              | (with_reducible apply wp_bR; (simp (disch := omega) only [rM L, rK L, rN L, rNf, rNv, rNp, rNd, rRow, rLeg, rMark, nat_cast, Int.reduceToNat, hct2]; with_reducible exact rfl))
              | with_reducible apply wp_bI
              | with_reducible apply wp_bV
              | with_reducible apply wp_bL
              | with_reducible apply wp_rI
              | with_reducible apply wp_rV
              | with_reducible apply wp_rL
              | (with_reducible apply wp_1; (first | omega | (simp (disch := omega) only [not_false_eq_true, not_true_eq_false, w32_id, tLt, fLt, tLe, fEq, itE, and_true, true_and, and_self, and_false, false_and, ↓reduceIte, nat_add, nat_mul3, nat_mul4, nat_mul6, nat_mul15, nat_mul60, nat_cast, nc1, Int.reduceToNat, upE, upN, fill_ne, fill_in, i0, hct2] <;> omega)))
              | (with_reducible apply wp_2; (first | omega | (simp (disch := omega) only [not_false_eq_true, not_true_eq_false, w32_id, tLt, fLt, tLe, fEq, itE, and_true, true_and, and_self, and_false, false_and, ↓reduceIte, nat_add, nat_mul3, nat_mul4, nat_mul6, nat_mul15, nat_mul60, nat_cast, nc1, Int.reduceToNat, upE, upN, fill_ne, fill_in, i0, hct2] <;> omega)))
              | (with_reducible apply wp_s; (first | (simp (disch := omega) only [not_false_eq_true, not_true_eq_false, w32_id, tLt, fLt, tLe, fEq, itE, and_true, true_and, and_self, and_false, false_and, ↓reduceIte, nat_add, nat_mul3, nat_mul4, nat_mul6, nat_mul15, nat_mul60, nat_cast, nc1, Int.reduceToNat, upE, upN, fill_ne, fill_in, i0, hct2]; with_reducible exact Iff.rfl) | with_reducible exact Iff.rfl); intro hc__; (try subst hc__); rotate_left; intro hc__; rotate_left)
              | (with_reducible apply wp_eq; (with_reducible apply cl_go; simp (disch := omega) only [not_false_eq_true, not_true_eq_false, w32_id, tLt, fLt, tLe, fEq, itE, and_true, true_and, and_self, and_false, false_and, ↓reduceIte, nat_add, nat_mul3, nat_mul4, nat_mul6, nat_mul15, nat_mul60, nat_cast, nc1, Int.reduceToNat, upE, upN, fill_ne, fill_in, i0, hct2]; with_reducible exact rfl))
              | with_reducible refine wp_eq (w3) ?_
              | (with_reducible apply wp_eq; (with_reducible apply lf_go; simp (disch := omega) only [not_false_eq_true, not_true_eq_false, w32_id, tLt, fLt, tLe, fEq, itE, and_true, true_and, and_self, and_false, false_and, ↓reduceIte, nat_add, nat_mul3, nat_mul4, nat_mul6, nat_mul15, nat_mul60, nat_cast, nc1, Int.reduceToNat, upE, upN, fill_ne, fill_in, i0, hct2]; with_reducible exact rfl))
              | with_reducible apply wp_q1
            refine wp_mono (go ok) ?_
            rintro r S M4 ⟨rfl, rfl, f4, v4, e4⟩
            refine ⟨_, rfl, ?_⟩
            by_cases lt : fm F (9 * p + 8) < F (9 * p + 8)
            · rw [if_pos lt] at es1 ea1
              have es := es1
              have es' := es1.symm
              by_cases l0 : leg = 0
              · have hct4 : ∀ k, k < 4 → M4 20 k = A k := fun k hk => by rw [f4 _ _ (by omega) (by omega) (by omega)]; exact hA.1 k hk
                repeat' first
                  | (with_reducible apply wp_bR; (simp (disch := omega) only [rM L, rK L, rN L, rNf, rNv, rNp, rNd, rRow, rLeg, rMark, nat_cast, Int.reduceToNat]; with_reducible exact rfl))
                  | with_reducible apply wp_bI
                  | with_reducible apply wp_bV
                  | with_reducible apply wp_bL
                  | with_reducible apply wp_rI
                  | with_reducible apply wp_rV
                  | with_reducible apply wp_rL
                  | (with_reducible apply wp_1; (first | omega | (simp (disch := omega) only [not_false_eq_true, not_true_eq_false, w32_id, tLt, fLt, tLe, fEq, itE, and_true, true_and, and_self, and_false, false_and, ↓reduceIte, nat_add, nat_mul3, nat_mul4, nat_mul6, nat_mul15, nat_mul60, nat_cast, nc1, Int.reduceToNat, upE, upN, fill_ne, fill_in, i0] <;> omega)))
                  | (with_reducible apply wp_2; (first | omega | (simp (disch := omega) only [not_false_eq_true, not_true_eq_false, w32_id, tLt, fLt, tLe, fEq, itE, and_true, true_and, and_self, and_false, false_and, ↓reduceIte, nat_add, nat_mul3, nat_mul4, nat_mul6, nat_mul15, nat_mul60, nat_cast, nc1, Int.reduceToNat, upE, upN, fill_ne, fill_in, i0] <;> omega)))
                  | (with_reducible apply wp_s; (first | (simp (disch := omega) only [not_false_eq_true, not_true_eq_false, w32_id, tLt, fLt, tLe, fEq, itE, and_true, true_and, and_self, and_false, false_and, ↓reduceIte, nat_add, nat_mul3, nat_mul4, nat_mul6, nat_mul15, nat_mul60, nat_cast, nc1, Int.reduceToNat, upE, upN, fill_ne, fill_in, i0]; with_reducible exact Iff.rfl) | with_reducible exact Iff.rfl); intro hc__; (try subst hc__); rotate_left; intro hc__; rotate_left)
                  | (with_reducible apply wp_eq; (with_reducible apply cl_go; simp (disch := omega) only [not_false_eq_true, not_true_eq_false, w32_id, tLt, fLt, tLe, fEq, itE, and_true, true_and, and_self, and_false, false_and, ↓reduceIte, nat_add, nat_mul3, nat_mul4, nat_mul6, nat_mul15, nat_mul60, nat_cast, nc1, Int.reduceToNat, upE, upN, fill_ne, fill_in, i0]; with_reducible exact rfl))
                  | (with_reducible refine wp_eq (c_Search_noteFirstLeg (by omega) _ _ _ _ _ _) ?_; with_reducible refine wp_eq (b_Search_noteFirstLeg_0 _ _ _ _ _ _ _) ?_)
                  | (with_reducible apply wp_eq; (with_reducible apply lf_go; simp (disch := omega) only [not_false_eq_true, not_true_eq_false, w32_id, tLt, fLt, tLe, fEq, itE, and_true, true_and, and_self, and_false, false_and, ↓reduceIte, nat_add, nat_mul3, nat_mul4, nat_mul6, nat_mul15, nat_mul60, nat_cast, nc1, Int.reduceToNat, upE, upN, fill_ne, fill_in, i0]; with_reducible exact rfl))
                  | with_reducible apply wp_q1
                simp (disch := omega) only [not_false_eq_true, not_true_eq_false, w32_id, tLt, fLt, tLe, fEq, itE, and_true, true_and, and_self, and_false, false_and, ↓reduceIte, nat_add, nat_mul3, nat_mul4, nat_mul6, nat_mul15, nat_mul60, nat_cast, nc1, Int.reduceToNat, upE, upN, fill_ne, fill_in, i0]
                refine wp_eq (b_Search_mostCoins_69 _ _ _ _ _ _ _ _ _ _ _ _ _) ?_
                repeat' first
                  | (with_reducible apply wp_bR; (simp (disch := omega) only [rM L, rK L, rN L, rNf, rNv, rNp, rNd, rRow, rLeg, rMark, nat_cast, Int.reduceToNat, hct4]; with_reducible exact rfl))
                  | with_reducible apply wp_bI
                  | with_reducible apply wp_bV
                  | with_reducible apply wp_bL
                  | with_reducible apply wp_rI
                  | with_reducible apply wp_rV
                  | with_reducible apply wp_rL
                  | (with_reducible apply wp_1; (first | omega | (simp (disch := omega) only [not_false_eq_true, not_true_eq_false, w32_id, tLt, fLt, tLe, fEq, itE, and_true, true_and, and_self, and_false, false_and, ↓reduceIte, nat_add, nat_mul3, nat_mul4, nat_mul6, nat_mul15, nat_mul60, nat_cast, nc1, Int.reduceToNat, upE, upN, fill_ne, fill_in, i0, hct4] <;> omega)))
                  | (with_reducible apply wp_2; (first | omega | (simp (disch := omega) only [not_false_eq_true, not_true_eq_false, w32_id, tLt, fLt, tLe, fEq, itE, and_true, true_and, and_self, and_false, false_and, ↓reduceIte, nat_add, nat_mul3, nat_mul4, nat_mul6, nat_mul15, nat_mul60, nat_cast, nc1, Int.reduceToNat, upE, upN, fill_ne, fill_in, i0, hct4] <;> omega)))
                  | (with_reducible apply wp_s; (first | (simp (disch := omega) only [not_false_eq_true, not_true_eq_false, w32_id, tLt, fLt, tLe, fEq, itE, and_true, true_and, and_self, and_false, false_and, ↓reduceIte, nat_add, nat_mul3, nat_mul4, nat_mul6, nat_mul15, nat_mul60, nat_cast, nc1, Int.reduceToNat, upE, upN, fill_ne, fill_in, i0, hct4]; with_reducible exact Iff.rfl) | with_reducible exact Iff.rfl); intro hc__; (try subst hc__); rotate_left; intro hc__; rotate_left)
                  | (with_reducible apply wp_eq; (with_reducible apply cl_go; simp (disch := omega) only [not_false_eq_true, not_true_eq_false, w32_id, tLt, fLt, tLe, fEq, itE, and_true, true_and, and_self, and_false, false_and, ↓reduceIte, nat_add, nat_mul3, nat_mul4, nat_mul6, nat_mul15, nat_mul60, nat_cast, nc1, Int.reduceToNat, upE, upN, fill_ne, fill_in, i0, hct4]; with_reducible exact rfl))
                  | (with_reducible apply wp_eq; (with_reducible apply lf_go; simp (disch := omega) only [not_false_eq_true, not_true_eq_false, w32_id, tLt, fLt, tLe, fEq, itE, and_true, true_and, and_self, and_false, false_and, ↓reduceIte, nat_add, nat_mul3, nat_mul4, nat_mul6, nat_mul15, nat_mul60, nat_cast, nc1, Int.reduceToNat, upE, upN, fill_ne, fill_in, i0, hct4]; with_reducible exact rfl))
                  | with_reducible apply wp_q1
                simp (disch := omega) only [not_false_eq_true, not_true_eq_false, w32_id, tLt, fLt, tLe, fEq, itE, and_true, true_and, and_self, and_false, false_and, ↓reduceIte, nat_add, nat_mul3, nat_mul4, nat_mul6, nat_mul15, nat_mul60, nat_cast, nc1, Int.reduceToNat, upE, upN, fill_ne, fill_in, i0]
                rw [es']
                exact ih (up (up M4 116 2 (p : Int)) 116 3 (-1), _, _, _) ⟨fun b j q1 q2 q3 => by dsimp only; rw [upN (by omega), upN (by omega)]; exact f4 b j q1 q2 q3, ⟨fun w hw => by dsimp only; rw [upN (by omega), upN (by omega)]; exact v4.1 w hw, fun k hk => by dsimp only; rw [upN (by omega), upN (by omega)]; exact v4.2 k hk⟩, fun _ _ => by dsimp only; rw [ea1, upN (by omega), upE rfl rfl, upE rfl rfl]; exact ⟨by omega, by unfold gdI; rw [if_pos (by omega)]⟩⟩
              · have hct4 : ∀ k, k < 4 → M4 20 k = A k := fun k hk => by rw [f4 _ _ (by omega) (by omega) (by omega)]; exact hA.1 k hk
                repeat' first
                  | (with_reducible apply wp_bR; (simp (disch := omega) only [rM L, rK L, rN L, rNf, rNv, rNp, rNd, rRow, rLeg, rMark, nat_cast, Int.reduceToNat]; with_reducible exact rfl))
                  | with_reducible apply wp_bI
                  | with_reducible apply wp_bV
                  | with_reducible apply wp_bL
                  | with_reducible apply wp_rI
                  | with_reducible apply wp_rV
                  | with_reducible apply wp_rL
                  | (with_reducible apply wp_1; (first | omega | (simp (disch := omega) only [not_false_eq_true, not_true_eq_false, w32_id, tLt, fLt, tLe, fEq, itE, and_true, true_and, and_self, and_false, false_and, ↓reduceIte, nat_add, nat_mul3, nat_mul4, nat_mul6, nat_mul15, nat_mul60, nat_cast, nc1, Int.reduceToNat, upE, upN, fill_ne, fill_in, i0] <;> omega)))
                  | (with_reducible apply wp_2; (first | omega | (simp (disch := omega) only [not_false_eq_true, not_true_eq_false, w32_id, tLt, fLt, tLe, fEq, itE, and_true, true_and, and_self, and_false, false_and, ↓reduceIte, nat_add, nat_mul3, nat_mul4, nat_mul6, nat_mul15, nat_mul60, nat_cast, nc1, Int.reduceToNat, upE, upN, fill_ne, fill_in, i0] <;> omega)))
                  | (with_reducible apply wp_s; (first | (simp (disch := omega) only [not_false_eq_true, not_true_eq_false, w32_id, tLt, fLt, tLe, fEq, itE, and_true, true_and, and_self, and_false, false_and, ↓reduceIte, nat_add, nat_mul3, nat_mul4, nat_mul6, nat_mul15, nat_mul60, nat_cast, nc1, Int.reduceToNat, upE, upN, fill_ne, fill_in, i0]; with_reducible exact Iff.rfl) | with_reducible exact Iff.rfl); intro hc__; (try subst hc__); rotate_left; intro hc__; rotate_left)
                  | (with_reducible apply wp_eq; (with_reducible apply cl_go; simp (disch := omega) only [not_false_eq_true, not_true_eq_false, w32_id, tLt, fLt, tLe, fEq, itE, and_true, true_and, and_self, and_false, false_and, ↓reduceIte, nat_add, nat_mul3, nat_mul4, nat_mul6, nat_mul15, nat_mul60, nat_cast, nc1, Int.reduceToNat, upE, upN, fill_ne, fill_in, i0]; with_reducible exact rfl))
                  | (with_reducible refine wp_eq (c_Search_noteFirstLeg (by omega) _ _ _ _ _ _) ?_; with_reducible refine wp_eq (b_Search_noteFirstLeg_0 _ _ _ _ _ _ _) ?_)
                  | (with_reducible apply wp_eq; (with_reducible apply lf_go; simp (disch := omega) only [not_false_eq_true, not_true_eq_false, w32_id, tLt, fLt, tLe, fEq, itE, and_true, true_and, and_self, and_false, false_and, ↓reduceIte, nat_add, nat_mul3, nat_mul4, nat_mul6, nat_mul15, nat_mul60, nat_cast, nc1, Int.reduceToNat, upE, upN, fill_ne, fill_in, i0]; with_reducible exact rfl))
                  | with_reducible apply wp_q1
                simp (disch := omega) only [not_false_eq_true, not_true_eq_false, w32_id, tLt, fLt, tLe, fEq, itE, and_true, true_and, and_self, and_false, false_and, ↓reduceIte, nat_add, nat_mul3, nat_mul4, nat_mul6, nat_mul15, nat_mul60, nat_cast, nc1, Int.reduceToNat, upE, upN, fill_ne, fill_in, i0]
                refine wp_eq (b_Search_mostCoins_69 _ _ _ _ _ _ _ _ _ _ _ _ _) ?_
                repeat' first
                  | (with_reducible apply wp_bR; (simp (disch := omega) only [rM L, rK L, rN L, rNf, rNv, rNp, rNd, rRow, rLeg, rMark, nat_cast, Int.reduceToNat, hct4]; with_reducible exact rfl))
                  | with_reducible apply wp_bI
                  | with_reducible apply wp_bV
                  | with_reducible apply wp_bL
                  | with_reducible apply wp_rI
                  | with_reducible apply wp_rV
                  | with_reducible apply wp_rL
                  | (with_reducible apply wp_1; (first | omega | (simp (disch := omega) only [not_false_eq_true, not_true_eq_false, w32_id, tLt, fLt, tLe, fEq, itE, and_true, true_and, and_self, and_false, false_and, ↓reduceIte, nat_add, nat_mul3, nat_mul4, nat_mul6, nat_mul15, nat_mul60, nat_cast, nc1, Int.reduceToNat, upE, upN, fill_ne, fill_in, i0, hct4] <;> omega)))
                  | (with_reducible apply wp_2; (first | omega | (simp (disch := omega) only [not_false_eq_true, not_true_eq_false, w32_id, tLt, fLt, tLe, fEq, itE, and_true, true_and, and_self, and_false, false_and, ↓reduceIte, nat_add, nat_mul3, nat_mul4, nat_mul6, nat_mul15, nat_mul60, nat_cast, nc1, Int.reduceToNat, upE, upN, fill_ne, fill_in, i0, hct4] <;> omega)))
                  | (with_reducible apply wp_s; (first | (simp (disch := omega) only [not_false_eq_true, not_true_eq_false, w32_id, tLt, fLt, tLe, fEq, itE, and_true, true_and, and_self, and_false, false_and, ↓reduceIte, nat_add, nat_mul3, nat_mul4, nat_mul6, nat_mul15, nat_mul60, nat_cast, nc1, Int.reduceToNat, upE, upN, fill_ne, fill_in, i0, hct4]; with_reducible exact Iff.rfl) | with_reducible exact Iff.rfl); intro hc__; (try subst hc__); rotate_left; intro hc__; rotate_left)
                  | (with_reducible apply wp_eq; (with_reducible apply cl_go; simp (disch := omega) only [not_false_eq_true, not_true_eq_false, w32_id, tLt, fLt, tLe, fEq, itE, and_true, true_and, and_self, and_false, false_and, ↓reduceIte, nat_add, nat_mul3, nat_mul4, nat_mul6, nat_mul15, nat_mul60, nat_cast, nc1, Int.reduceToNat, upE, upN, fill_ne, fill_in, i0, hct4]; with_reducible exact rfl))
                  | (with_reducible apply wp_eq; (with_reducible apply lf_go; simp (disch := omega) only [not_false_eq_true, not_true_eq_false, w32_id, tLt, fLt, tLe, fEq, itE, and_true, true_and, and_self, and_false, false_and, ↓reduceIte, nat_add, nat_mul3, nat_mul4, nat_mul6, nat_mul15, nat_mul60, nat_cast, nc1, Int.reduceToNat, upE, upN, fill_ne, fill_in, i0, hct4]; with_reducible exact rfl))
                  | with_reducible apply wp_q1
                simp (disch := omega) only [not_false_eq_true, not_true_eq_false, w32_id, tLt, fLt, tLe, fEq, itE, and_true, true_and, and_self, and_false, false_and, ↓reduceIte, nat_add, nat_mul3, nat_mul4, nat_mul6, nat_mul15, nat_mul60, nat_cast, nc1, Int.reduceToNat, upE, upN, fill_ne, fill_in, i0]
                rw [es']
                exact ih (_, _, _, _) ⟨f4, v4, fun e => absurd e l0⟩
            · rw [if_neg lt] at es1 ea1
              have es := es1
              have es' := es1.symm
              have hct4 : ∀ k, k < 4 → M4 20 k = A k := fun k hk => by rw [f4 _ _ (by omega) (by omega) (by omega)]; exact hA.1 k hk
              repeat' first
                | (with_reducible apply wp_bR; (simp (disch := omega) only [rM L, rK L, rN L, rNf, rNv, rNp, rNd, rRow, rLeg, rMark, nat_cast, Int.reduceToNat]; with_reducible exact rfl))
                | with_reducible apply wp_bI
                | with_reducible apply wp_bV
                | with_reducible apply wp_bL
                | with_reducible apply wp_rI
                | with_reducible apply wp_rV
                | with_reducible apply wp_rL
                | (with_reducible apply wp_1; (first | omega | (simp (disch := omega) only [not_false_eq_true, not_true_eq_false, w32_id, tLt, fLt, tLe, fEq, itE, and_true, true_and, and_self, and_false, false_and, ↓reduceIte, nat_add, nat_mul3, nat_mul4, nat_mul6, nat_mul15, nat_mul60, nat_cast, nc1, Int.reduceToNat, upE, upN, fill_ne, fill_in, i0] <;> omega)))
                | (with_reducible apply wp_2; (first | omega | (simp (disch := omega) only [not_false_eq_true, not_true_eq_false, w32_id, tLt, fLt, tLe, fEq, itE, and_true, true_and, and_self, and_false, false_and, ↓reduceIte, nat_add, nat_mul3, nat_mul4, nat_mul6, nat_mul15, nat_mul60, nat_cast, nc1, Int.reduceToNat, upE, upN, fill_ne, fill_in, i0] <;> omega)))
                | (with_reducible apply wp_s; (first | (simp (disch := omega) only [not_false_eq_true, not_true_eq_false, w32_id, tLt, fLt, tLe, fEq, itE, and_true, true_and, and_self, and_false, false_and, ↓reduceIte, nat_add, nat_mul3, nat_mul4, nat_mul6, nat_mul15, nat_mul60, nat_cast, nc1, Int.reduceToNat, upE, upN, fill_ne, fill_in, i0]; with_reducible exact Iff.rfl) | with_reducible exact Iff.rfl); intro hc__; (try subst hc__); rotate_left; intro hc__; rotate_left)
                | (with_reducible apply wp_eq; (with_reducible apply cl_go; simp (disch := omega) only [not_false_eq_true, not_true_eq_false, w32_id, tLt, fLt, tLe, fEq, itE, and_true, true_and, and_self, and_false, false_and, ↓reduceIte, nat_add, nat_mul3, nat_mul4, nat_mul6, nat_mul15, nat_mul60, nat_cast, nc1, Int.reduceToNat, upE, upN, fill_ne, fill_in, i0]; with_reducible exact rfl))
                | (with_reducible apply wp_eq; (with_reducible apply lf_go; simp (disch := omega) only [not_false_eq_true, not_true_eq_false, w32_id, tLt, fLt, tLe, fEq, itE, and_true, true_and, and_self, and_false, false_and, ↓reduceIte, nat_add, nat_mul3, nat_mul4, nat_mul6, nat_mul15, nat_mul60, nat_cast, nc1, Int.reduceToNat, upE, upN, fill_ne, fill_in, i0]; with_reducible exact rfl))
                | with_reducible apply wp_q1
              simp (disch := omega) only [not_false_eq_true, not_true_eq_false, w32_id, tLt, fLt, tLe, fEq, itE, and_true, true_and, and_self, and_false, false_and, ↓reduceIte, nat_add, nat_mul3, nat_mul4, nat_mul6, nat_mul15, nat_mul60, nat_cast, nc1, Int.reduceToNat, upE, upN, fill_ne, fill_in, i0]
              refine wp_eq (b_Search_mostCoins_69 _ _ _ _ _ _ _ _ _ _ _ _ _) ?_
              repeat' first
                | (with_reducible apply wp_bR; (simp (disch := omega) only [rM L, rK L, rN L, rNf, rNv, rNp, rNd, rRow, rLeg, rMark, nat_cast, Int.reduceToNat, hct4]; with_reducible exact rfl))
                | with_reducible apply wp_bI
                | with_reducible apply wp_bV
                | with_reducible apply wp_bL
                | with_reducible apply wp_rI
                | with_reducible apply wp_rV
                | with_reducible apply wp_rL
                | (with_reducible apply wp_1; (first | omega | (simp (disch := omega) only [not_false_eq_true, not_true_eq_false, w32_id, tLt, fLt, tLe, fEq, itE, and_true, true_and, and_self, and_false, false_and, ↓reduceIte, nat_add, nat_mul3, nat_mul4, nat_mul6, nat_mul15, nat_mul60, nat_cast, nc1, Int.reduceToNat, upE, upN, fill_ne, fill_in, i0, hct4] <;> omega)))
                | (with_reducible apply wp_2; (first | omega | (simp (disch := omega) only [not_false_eq_true, not_true_eq_false, w32_id, tLt, fLt, tLe, fEq, itE, and_true, true_and, and_self, and_false, false_and, ↓reduceIte, nat_add, nat_mul3, nat_mul4, nat_mul6, nat_mul15, nat_mul60, nat_cast, nc1, Int.reduceToNat, upE, upN, fill_ne, fill_in, i0, hct4] <;> omega)))
                | (with_reducible apply wp_s; (first | (simp (disch := omega) only [not_false_eq_true, not_true_eq_false, w32_id, tLt, fLt, tLe, fEq, itE, and_true, true_and, and_self, and_false, false_and, ↓reduceIte, nat_add, nat_mul3, nat_mul4, nat_mul6, nat_mul15, nat_mul60, nat_cast, nc1, Int.reduceToNat, upE, upN, fill_ne, fill_in, i0, hct4]; with_reducible exact Iff.rfl) | with_reducible exact Iff.rfl); intro hc__; (try subst hc__); rotate_left; intro hc__; rotate_left)
                | (with_reducible apply wp_eq; (with_reducible apply cl_go; simp (disch := omega) only [not_false_eq_true, not_true_eq_false, w32_id, tLt, fLt, tLe, fEq, itE, and_true, true_and, and_self, and_false, false_and, ↓reduceIte, nat_add, nat_mul3, nat_mul4, nat_mul6, nat_mul15, nat_mul60, nat_cast, nc1, Int.reduceToNat, upE, upN, fill_ne, fill_in, i0, hct4]; with_reducible exact rfl))
                | (with_reducible apply wp_eq; (with_reducible apply lf_go; simp (disch := omega) only [not_false_eq_true, not_true_eq_false, w32_id, tLt, fLt, tLe, fEq, itE, and_true, true_and, and_self, and_false, false_and, ↓reduceIte, nat_add, nat_mul3, nat_mul4, nat_mul6, nat_mul15, nat_mul60, nat_cast, nc1, Int.reduceToNat, upE, upN, fill_ne, fill_in, i0, hct4]; with_reducible exact rfl))
                | with_reducible apply wp_q1
              simp (disch := omega) only [not_false_eq_true, not_true_eq_false, w32_id, tLt, fLt, tLe, fEq, itE, and_true, true_and, and_self, and_false, false_and, ↓reduceIte, nat_add, nat_mul3, nat_mul4, nat_mul6, nat_mul15, nat_mul60, nat_cast, nc1, Int.reduceToNat, upE, upN, fill_ne, fill_in, i0]
              rw [es']
              exact ih (_, _, _, _) ⟨f4, v4, fun e q => by rw [es1] at q; rw [ea1]; dsimp only; rw [e4 2, e4 3]; exact b2 e q⟩
          · exact absurd ⟨c, Or.inl rfl⟩ ok
    · intro ⟨M1, z1, z2, z3⟩ ⟨f1, v1, b1⟩
      have f1 : smS leg M M1 := f1
      have b1 : leg = 0 → fm F (9 * (A 2).toNat) ≠ -1 → M1 116 2 = fa F (9 * (A 2).toNat) / 9 ∧ M1 116 3 = gdI (fa F (9 * (A 2).toNat)) := b1
      have hA1 : ChW M1 19 A := hA.frame hI.1 fun b j q1 q2 => f1 b j (by omega) (by omega) (by omega)
      have hct1 : ∀ k, k < 4 → M1 20 k = A k := hA1.1
      have sk := fm_skip (f := F) (k := 9 * (A 2).toNat) (54 - 9 * (A 2).toNat) fun i h1 h2 => by
        rw [← hF]
        unfold voF
        rw [if_neg (fun q => by omega)]
      rw [show 9 * (A 2).toNat + (54 - 9 * (A 2).toNat) = 54 by omega] at sk
      refine wp_eq (b_Search_mostCoins_36 _ _ _ _ _ _ _ _ _ _ _ _ _) ?_
      repeat' first
        | (with_reducible apply wp_bR; (simp (disch := omega) only [rM L, rK L, rN L, rNf, rNv, rNp, rNd, rRow, rLeg, rMark, nat_cast, Int.reduceToNat, hct1]; with_reducible exact rfl))
        | with_reducible apply wp_bI
        | with_reducible apply wp_bV
        | with_reducible apply wp_bL
        | with_reducible apply wp_rI
        | with_reducible apply wp_rV
        | with_reducible apply wp_rL
        | (with_reducible apply wp_1; (first | omega | (simp (disch := omega) only [not_false_eq_true, not_true_eq_false, w32_id, tLt, fLt, tLe, fEq, itE, and_true, true_and, and_self, and_false, false_and, ↓reduceIte, nat_add, nat_mul3, nat_mul4, nat_mul6, nat_mul15, nat_mul60, nat_cast, nc1, Int.reduceToNat, upE, upN, fill_ne, fill_in, i0, hct1] <;> omega)))
        | (with_reducible apply wp_2; (first | omega | (simp (disch := omega) only [not_false_eq_true, not_true_eq_false, w32_id, tLt, fLt, tLe, fEq, itE, and_true, true_and, and_self, and_false, false_and, ↓reduceIte, nat_add, nat_mul3, nat_mul4, nat_mul6, nat_mul15, nat_mul60, nat_cast, nc1, Int.reduceToNat, upE, upN, fill_ne, fill_in, i0, hct1] <;> omega)))
        | (with_reducible apply wp_s; (first | (simp (disch := omega) only [not_false_eq_true, not_true_eq_false, w32_id, tLt, fLt, tLe, fEq, itE, and_true, true_and, and_self, and_false, false_and, ↓reduceIte, nat_add, nat_mul3, nat_mul4, nat_mul6, nat_mul15, nat_mul60, nat_cast, nc1, Int.reduceToNat, upE, upN, fill_ne, fill_in, i0, hct1]; with_reducible exact Iff.rfl) | with_reducible exact Iff.rfl); intro hc__; (try subst hc__); rotate_left; intro hc__; rotate_left)
        | (with_reducible apply wp_eq; (with_reducible apply cl_go; simp (disch := omega) only [not_false_eq_true, not_true_eq_false, w32_id, tLt, fLt, tLe, fEq, itE, and_true, true_and, and_self, and_false, false_and, ↓reduceIte, nat_add, nat_mul3, nat_mul4, nat_mul6, nat_mul15, nat_mul60, nat_cast, nc1, Int.reduceToNat, upE, upN, fill_ne, fill_in, i0, hct1]; with_reducible exact rfl))
        | (with_reducible apply wp_eq; (with_reducible apply lf_go; simp (disch := omega) only [not_false_eq_true, not_true_eq_false, w32_id, tLt, fLt, tLe, fEq, itE, and_true, true_and, and_self, and_false, false_and, ↓reduceIte, nat_add, nat_mul3, nat_mul4, nat_mul6, nat_mul15, nat_mul60, nat_cast, nc1, Int.reduceToNat, upE, upN, fill_ne, fill_in, i0, hct1]; with_reducible exact rfl))
        | with_reducible apply wp_q1
      refine ⟨_, _, _, rfl, by rw [sk.1], rfl, f1, fun e m hm q => ?_⟩
      obtain rfl : n = m := by omega
      rw [hF, sk.2]
      rw [sk.1] at q
      exact b1 e q
end

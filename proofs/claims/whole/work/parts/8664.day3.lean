/-! A DAY OF ALL SHIPS: the class, the model, the call -/
def QD (L : Nat) (P : Mm → Prop) (r : Int) : Option AV → Sp → Mm → Prop := fun r' S M' => r' = some (vI r) ∧ S = SH L ∧ P M'
theorem wp_d {L : Nat} {M : Mm} {P : Mm → Prop} {r r' : Int} (hr : r' = r) (h : P M) : Wp (some (some (vI r'), SH L, M)) (QD L P r) := by
  subst hr
  exact ⟨_, _, _, rfl, rfl, rfl, h⟩
theorem wp_qd {L : Nat} {P : Mm → Prop} {r : Int} {o : Option Rs} {Q : Option AV → Sp → Mm → Prop} (h : Wp o (QD L P r)) (h' : ∀ M', P M' → Wp (some (some (vI r), SH L, M')) Q) : Wp o Q := by
  obtain ⟨_, _, M', e, rfl, rfl, h1⟩ := h
  rw [e]
  exact h' M' h1
section
variable {M : Mm} {A : Nat → Int} {L d : Nat}
theorem dyD_lo (hC : Cn A) {k : Nat} (h : k < 146 ∨ 206 ≤ k) (h5 : k ≠ 5) : dyD A k = A k := by
  unfold Cn at hC
  unfold dyD
  rw [wUN h5]
  exact dyS_lo A _ k h (by omega)
theorem Inv.date (hI : Inv A) {x : Int} (h0 : 0 ≤ x) (h1 : x ≤ 9999) : Inv (wU A 5 x) := by
  obtain ⟨i1, i2, i3, i4, i5, i6, i7, i8, i9⟩ := hI
  have hC := i1
  unfold Cn at hC
  refine ⟨?_, fun g hg => ?_, fun n hn => ?_, fun p hp => ?_, fun p g hp hg => ?_, fun p q hp hq => ?_, fun i hi => ?_, ?_, fun a b ha hb => ?_⟩
  · unfold Cn
    rw [wUN (by omega), wUN (by omega), wUN (by omega), wUN (by omega), wUN (by omega)]
    omega
  · rw [wUN (by omega)] at hg
    rw [wUN (by omega), wUN (by omega), wUN (by omega), wUN (by omega)]
    exact i2 g hg
  · rw [wUN (by omega)] at hn
    rw [wUN (by omega), wUN (by omega), wUN (by omega), wUN (by omega)]
    exact i3 n hn
  · rw [wUN (by omega)] at hp
    rw [wUN (by omega), wUN (by omega)]
    exact i4 p hp
  · rw [wUN (by omega)]
    exact i5 p g hp hg
  · rw [wUN (by omega), wUN (by omega), wUN (by omega)]
    exact i6 p q hp hq
  · rw [wUN (by omega)] at hi
    exact (i7 i hi).congr (wUN (by omega)) (wUN (by omega)) fun w _ => wUN (by omega)
  · rw [wUE rfl]
    exact ⟨h0, h1⟩
  · rw [wUN (by omega)] at ha hb
    rw [wUN (by omega), wUN (by omega)]
    exact i9 a b ha hb
theorem dyD_inv (hI : Inv A) (h5 : A 5 + 1 ≤ 9999) : Inv (dyD A) := by
  have hC := hI.1
  unfold Cn at hC
  have := hI.2.2.2.2.2.2.2.1
  exact (dyS_inv hI _ (by omega)).date (by omega) h5
theorem c_day (hd : 6 ≤ d) (h : RelC M A) (h5 : A 5 + 1 ≤ 9999) : Wp (callD d m_State_passDay [vR 5 0 18] (SH L) M) (QD L (fun M' => RelC M' (dyD A) ∧ FrC M M') (orV (dl A) (A 3).toNat)) := by
  have hI := h.2.2.2
  have hC := hI.1
  have hC' := hC
  unfold Cn at hC'
  have i8 := hI.2.2.2.2.2.2.2.1
  repeat' first
    | (with_reducible apply wp_bR; (simp (disch := omega) only [rM L, rK L, rN L, rNf, rNv, rNp, rNd, rRow, rLeg, rMark, nat_cast, Int.reduceToNat]; with_reducible exact rfl))
    | with_reducible apply wp_bI
    | with_reducible apply wp_bV
    | with_reducible apply wp_bL
    | with_reducible apply wp_rI
    | with_reducible apply wp_rV
    | with_reducible apply wp_rL
    | (with_reducible apply wp_1; (first | omega | (simp (disch := omega) only [not_false_eq_true, not_true_eq_false, w32_id, tLt, fLt, tLe, fEq, itE, and_true, true_and, and_self, and_false, false_and, ↓reduceIte, nat_add, nat_mul3, nat_mul4, nat_mul6, nat_mul15, nat_mul60, nat_cast, nc1, Int.reduceToNat, upE, upN, fill_ne, fill_in, i0] <;> omega)))
    | (with_reducible apply wp_2; (first | omega | (simp (disch := omega) only [not_false_eq_true, not_true_eq_false, w32_id, tLt, fLt, tLe, fEq, itE, and_true, true_and, and_self, and_false, false_and, ↓reduceIte, nat_add, nat_mul3, nat_mul4, nat_mul6, nat_mul15, nat_mul60, nat_cast, nc1, Int.reduceToNat, upE, upN, fill_ne, fill_in, i0] <;> omega)))
    | (with_reducible apply wp_s; (first | (simp (disch := omega) only [not_false_eq_true, not_true_eq_false, w32_id, tLt, fLt, tLe, fEq, itE, and_true, true_and, and_self, and_false, false_and, ↓reduceIte, nat_add, nat_mul3, nat_mul4, nat_mul6, nat_mul15, nat_mul60, nat_cast, nc1, Int.reduceToNat, upE, upN, fill_ne, fill_in, i0]; with_reducible exact Iff.rfl) | with_reducible exact Iff.rfl); intro hc__; (try subst hc__); rotate_left; intro hc__; rotate_left)
    | (with_reducible apply wp_eq; (with_reducible apply cl_go; simp (disch := omega) only [not_false_eq_true, not_true_eq_false, w32_id, tLt, fLt, tLe, fEq, itE, and_true, true_and, and_self, and_false, false_and, ↓reduceIte, nat_add, nat_mul3, nat_mul4, nat_mul6, nat_mul15, nat_mul60, nat_cast, nc1, Int.reduceToNat, upE, upN, fill_ne, fill_in, i0]; with_reducible exact rfl))
    | (with_reducible refine wp_eq (c_State_passDay (by omega) _ _ _) ?_; with_reducible refine wp_eq (b_State_passDay_0 _ _ _ _) ?_)
    | (with_reducible apply wp_eq; (with_reducible apply lf_go; simp (disch := omega) only [not_false_eq_true, not_true_eq_false, w32_id, tLt, fLt, tLe, fEq, itE, and_true, true_and, and_self, and_false, false_and, ↓reduceIte, nat_add, nat_mul3, nat_mul4, nat_mul6, nat_mul15, nat_mul60, nat_cast, nc1, Int.reduceToNat, upE, upN, fill_ne, fill_in, i0]; with_reducible exact rfl))
    | with_reducible apply wp_q1
  refine wp_loop (α := Mm) (G := fun k a => Run (callD (d - 1)) tb_State_passDay 4 [vR 5 0 18, vI (orV (dl A) k), vI (k : Int)] [] (SH L) a) (I := fun k a => RelC a (dyS A k) ∧ FrC M a) (A 3).toNat ?_ ?_ 0 M (by omega) ⟨h, fun _ _ _ _ _ => rfl⟩
  · intro k M1 hk ⟨h1, hf⟩ ih
    have lo : ∀ j, j < 146 → dyS A k j = A j := fun j hj => dyS_lo A k j (by omega) (by omega)
    have a3 := lo 3 (by omega)
    have hct : M1 20 3 = A 3 := by rw [← a3]; exact h1.1.1 3 (by omega)
    have hI1 := h1.2.2.2
    have hB := hI1.2.2.2.2.2.2.1 k (by omega)
    have hV := h1.vs (s := k) (by omega)
    have hp : M1 (57 + 2 * k) 0 = shp (dyS A k) k 0 := hV.1 0 (by omega)
    have hday := hB.day hI1
    have nxt : ∀ M2 : Mm, VsW M2 (57 + 2 * k) (dayB (dyS A k) (shp (dyS A k) k)) → (∀ b j, b ≠ 57 + 2 * k → b ≠ 57 + 2 * k + 1 → b ≠ 19 + 29 → M2 b j = M1 b j) → RelC M2 (dyS A (k + 1)) ∧ FrC M M2 := fun M2 q1 q2 => ⟨h1.put (by omega) hday q1 q2, fun b j r1 r2 r3 => by rw [q2 b j (by omega) (by omega) (by omega)]; exact hf b j r1 r2 r3⟩
    have dle : dl A k = landB (dyS A k) (shp (dyS A k) k) := rfl
    generalize shp (dyS A k) k = B at *
    have hb := hB.1
    have apt' : apt (57 + 2 * k) 19 := by unfold apt; omega
    unfold dayB at nxt
    unfold landB at dle
    refine wp_eq (b_State_passDay_4 _ _ _ _ _ _) ?_
    by_cases e0 : B 0 = -1
    · rw [if_pos e0] at nxt dle
      have m1 : (min 1 (B 2)).toNat = 1 := by omega
      have vs := v_sailsOn (L := L) (d := d - 1) (x := 1) (by omega) ch19 (isV_now (by omega)) apt' h1.1 hI1 hV ⟨by omega, hB.ldl⟩ (by omega) (by omega) (by omega)
      rw [m1] at vs
      have c1 : ((1 : Nat) : Int) = 1 := rfl
      rw [c1] at vs
      repeat' first
        | (with_reducible apply wp_bR; (simp (disch := omega) only [rM L, rK L, rN L, rNf, rNv, rNp, rNd, rRow, rLeg, rMark, nat_cast, Int.reduceToNat, hct, hp]; with_reducible exact rfl))
        | with_reducible apply wp_bI
        | with_reducible apply wp_bV
        | with_reducible apply wp_bL
        | with_reducible apply wp_rI
        | with_reducible apply wp_rV
        | with_reducible apply wp_rL
        | (with_reducible apply wp_1; (first | omega | (simp (disch := omega) only [not_false_eq_true, not_true_eq_false, w32_id, tLt, fLt, tLe, fEq, itE, and_true, true_and, and_self, and_false, false_and, ↓reduceIte, nat_add, nat_mul3, nat_mul4, nat_mul6, nat_mul15, nat_mul60, nat_cast, nc1, Int.reduceToNat, upE, upN, fill_ne, fill_in, i0, hct, hp] <;> omega)))
        | (with_reducible apply wp_2; (first | omega | (simp (disch := omega) only [not_false_eq_true, not_true_eq_false, w32_id, tLt, fLt, tLe, fEq, itE, and_true, true_and, and_self, and_false, false_and, ↓reduceIte, nat_add, nat_mul3, nat_mul4, nat_mul6, nat_mul15, nat_mul60, nat_cast, nc1, Int.reduceToNat, upE, upN, fill_ne, fill_in, i0, hct, hp] <;> omega)))
        | (with_reducible apply wp_s; (first | (simp (disch := omega) only [not_false_eq_true, not_true_eq_false, w32_id, tLt, fLt, tLe, fEq, itE, and_true, true_and, and_self, and_false, false_and, ↓reduceIte, nat_add, nat_mul3, nat_mul4, nat_mul6, nat_mul15, nat_mul60, nat_cast, nc1, Int.reduceToNat, upE, upN, fill_ne, fill_in, i0, hct, hp]; with_reducible exact Iff.rfl) | with_reducible exact Iff.rfl); intro hc__; (try subst hc__); rotate_left; intro hc__; rotate_left)
        | (with_reducible apply wp_eq; (with_reducible apply cl_go; simp (disch := omega) only [not_false_eq_true, not_true_eq_false, w32_id, tLt, fLt, tLe, fEq, itE, and_true, true_and, and_self, and_false, false_and, ↓reduceIte, nat_add, nat_mul3, nat_mul4, nat_mul6, nat_mul15, nat_mul60, nat_cast, nc1, Int.reduceToNat, upE, upN, fill_ne, fill_in, i0, hct, hp]; with_reducible exact rfl))
        | (with_reducible apply wp_eq; (with_reducible apply lf_go; simp (disch := omega) only [not_false_eq_true, not_true_eq_false, w32_id, tLt, fLt, tLe, fEq, itE, and_true, true_and, and_self, and_false, false_and, ↓reduceIte, nat_add, nat_mul3, nat_mul4, nat_mul6, nat_mul15, nat_mul60, nat_cast, nc1, Int.reduceToNat, upE, upN, fill_ne, fill_in, i0, hct, hp]; with_reducible exact rfl))
        | with_reducible apply wp_q1
      refine wp_qv vs fun M2 q1 q2 => ?_
      by_cases q : 0 < B 2 - 1
      · rw [if_pos q] at dle ⊢
        repeat' first
          | (with_reducible apply wp_bR; (simp (disch := omega) only [rM L, rK L, rN L, rNf, rNv, rNp, rNd, rRow, rLeg, rMark, nat_cast, Int.reduceToNat]; with_reducible exact rfl))
          | with_reducible apply wp_bI
          | with_reducible apply wp_bV
          | with_reducible apply wp_bL
          | with_reducible apply wp_rI
          | with_reducible apply wp_rV
          | with_reducible apply wp_rL
          | (with_reducible apply wp_1; (first | omega | (simp (disch := omega) only [not_false_eq_true, not_true_eq_false, w32_id, tLt, fLt, tLe, fEq, itE, and_true, true_and, and_self, and_false, false_and, ↓reduceIte, nat_add, nat_mul3, nat_mul4, nat_mul6, nat_mul15, nat_mul60, nat_cast, nc1, Int.reduceToNat, upE, upN, fill_ne, fill_in, i0] <;> omega)))
          | (with_reducible apply wp_2; (first | omega | (simp (disch := omega) only [not_false_eq_true, not_true_eq_false, w32_id, tLt, fLt, tLe, fEq, itE, and_true, true_and, and_self, and_false, false_and, ↓reduceIte, nat_add, nat_mul3, nat_mul4, nat_mul6, nat_mul15, nat_mul60, nat_cast, nc1, Int.reduceToNat, upE, upN, fill_ne, fill_in, i0] <;> omega)))
          | (with_reducible apply wp_s; (first | (simp (disch := omega) only [not_false_eq_true, not_true_eq_false, w32_id, tLt, fLt, tLe, fEq, itE, and_true, true_and, and_self, and_false, false_and, ↓reduceIte, nat_add, nat_mul3, nat_mul4, nat_mul6, nat_mul15, nat_mul60, nat_cast, nc1, Int.reduceToNat, upE, upN, fill_ne, fill_in, i0]; with_reducible exact Iff.rfl) | with_reducible exact Iff.rfl); intro hc__; (try subst hc__); rotate_left; intro hc__; rotate_left)
          | (with_reducible apply wp_eq; (with_reducible apply cl_go; simp (disch := omega) only [not_false_eq_true, not_true_eq_false, w32_id, tLt, fLt, tLe, fEq, itE, and_true, true_and, and_self, and_false, false_and, ↓reduceIte, nat_add, nat_mul3, nat_mul4, nat_mul6, nat_mul15, nat_mul60, nat_cast, nc1, Int.reduceToNat, upE, upN, fill_ne, fill_in, i0]; with_reducible exact rfl))
          | (with_reducible apply wp_eq; (with_reducible apply lf_go; simp (disch := omega) only [not_false_eq_true, not_true_eq_false, w32_id, tLt, fLt, tLe, fEq, itE, and_true, true_and, and_self, and_false, false_and, ↓reduceIte, nat_add, nat_mul3, nat_mul4, nat_mul6, nat_mul15, nat_mul60, nat_cast, nc1, Int.reduceToNat, upE, upN, fill_ne, fill_in, i0]; with_reducible exact rfl))
          | with_reducible apply wp_q1
        all_goals (apply wp_nx ih; (first | with_reducible rfl | (simp (disch := omega) only [not_false_eq_true, not_true_eq_false, w32_id, tLt, fLt, tLe, fEq, itE, and_true, true_and, and_self, and_false, false_and, ↓reduceIte, nat_add, nat_mul3, nat_mul4, nat_mul6, nat_mul15, nat_mul60, nat_cast, nc1, Int.reduceToNat, upE, upN, fill_ne, fill_in, i0, orV_s]; (try with_reducible rfl))); exact nxt _ q1 q2)
      · rw [if_neg q] at dle ⊢
        repeat' first
          | (with_reducible apply wp_bR; (simp (disch := omega) only [rM L, rK L, rN L, rNf, rNv, rNp, rNd, rRow, rLeg, rMark, nat_cast, Int.reduceToNat]; with_reducible exact rfl))
          | with_reducible apply wp_bI
          | with_reducible apply wp_bV
          | with_reducible apply wp_bL
          | with_reducible apply wp_rI
          | with_reducible apply wp_rV
          | with_reducible apply wp_rL
          | (with_reducible apply wp_1; (first | omega | (simp (disch := omega) only [not_false_eq_true, not_true_eq_false, w32_id, tLt, fLt, tLe, fEq, itE, and_true, true_and, and_self, and_false, false_and, ↓reduceIte, nat_add, nat_mul3, nat_mul4, nat_mul6, nat_mul15, nat_mul60, nat_cast, nc1, Int.reduceToNat, upE, upN, fill_ne, fill_in, i0] <;> omega)))
          | (with_reducible apply wp_2; (first | omega | (simp (disch := omega) only [not_false_eq_true, not_true_eq_false, w32_id, tLt, fLt, tLe, fEq, itE, and_true, true_and, and_self, and_false, false_and, ↓reduceIte, nat_add, nat_mul3, nat_mul4, nat_mul6, nat_mul15, nat_mul60, nat_cast, nc1, Int.reduceToNat, upE, upN, fill_ne, fill_in, i0] <;> omega)))
          | (with_reducible apply wp_s; (first | (simp (disch := omega) only [not_false_eq_true, not_true_eq_false, w32_id, tLt, fLt, tLe, fEq, itE, and_true, true_and, and_self, and_false, false_and, ↓reduceIte, nat_add, nat_mul3, nat_mul4, nat_mul6, nat_mul15, nat_mul60, nat_cast, nc1, Int.reduceToNat, upE, upN, fill_ne, fill_in, i0]; with_reducible exact Iff.rfl) | with_reducible exact Iff.rfl); intro hc__; (try subst hc__); rotate_left; intro hc__; rotate_left)
          | (with_reducible apply wp_eq; (with_reducible apply cl_go; simp (disch := omega) only [not_false_eq_true, not_true_eq_false, w32_id, tLt, fLt, tLe, fEq, itE, and_true, true_and, and_self, and_false, false_and, ↓reduceIte, nat_add, nat_mul3, nat_mul4, nat_mul6, nat_mul15, nat_mul60, nat_cast, nc1, Int.reduceToNat, upE, upN, fill_ne, fill_in, i0]; with_reducible exact rfl))
          | (with_reducible apply wp_eq; (with_reducible apply lf_go; simp (disch := omega) only [not_false_eq_true, not_true_eq_false, w32_id, tLt, fLt, tLe, fEq, itE, and_true, true_and, and_self, and_false, false_and, ↓reduceIte, nat_add, nat_mul3, nat_mul4, nat_mul6, nat_mul15, nat_mul60, nat_cast, nc1, Int.reduceToNat, upE, upN, fill_ne, fill_in, i0]; with_reducible exact rfl))
          | with_reducible apply wp_q1
        all_goals (apply wp_nx ih; (first | with_reducible rfl | (simp (disch := omega) only [not_false_eq_true, not_true_eq_false, w32_id, tLt, fLt, tLe, fEq, itE, and_true, true_and, and_self, and_false, false_and, ↓reduceIte, nat_add, nat_mul3, nat_mul4, nat_mul6, nat_mul15, nat_mul60, nat_cast, nc1, Int.reduceToNat, upE, upN, fill_ne, fill_in, i0, orV_s]; (try with_reducible rfl))); exact nxt _ q1 q2)
    · rw [if_neg e0] at nxt dle
      have e2 := v_leaks (L := L) (d := d - 1) (by omega) ch19 (isV_now (k := k) (by omega)) apt' h1.1 hI1.1 hI1.2.1 hV hB.ldl
      repeat' first
        | (with_reducible apply wp_bR; (simp (disch := omega) only [rM L, rK L, rN L, rNf, rNv, rNp, rNd, rRow, rLeg, rMark, nat_cast, Int.reduceToNat, hct, hp]; with_reducible exact rfl))
        | with_reducible apply wp_bI
        | with_reducible apply wp_bV
        | with_reducible apply wp_bL
        | with_reducible apply wp_rI
        | with_reducible apply wp_rV
        | with_reducible apply wp_rL
        | (with_reducible apply wp_1; (first | omega | (simp (disch := omega) only [not_false_eq_true, not_true_eq_false, w32_id, tLt, fLt, tLe, fEq, itE, and_true, true_and, and_self, and_false, false_and, ↓reduceIte, nat_add, nat_mul3, nat_mul4, nat_mul6, nat_mul15, nat_mul60, nat_cast, nc1, Int.reduceToNat, upE, upN, fill_ne, fill_in, i0, hct, hp] <;> omega)))
        | (with_reducible apply wp_2; (first | omega | (simp (disch := omega) only [not_false_eq_true, not_true_eq_false, w32_id, tLt, fLt, tLe, fEq, itE, and_true, true_and, and_self, and_false, false_and, ↓reduceIte, nat_add, nat_mul3, nat_mul4, nat_mul6, nat_mul15, nat_mul60, nat_cast, nc1, Int.reduceToNat, upE, upN, fill_ne, fill_in, i0, hct, hp] <;> omega)))
        | (with_reducible apply wp_s; (first | (simp (disch := omega) only [not_false_eq_true, not_true_eq_false, w32_id, tLt, fLt, tLe, fEq, itE, and_true, true_and, and_self, and_false, false_and, ↓reduceIte, nat_add, nat_mul3, nat_mul4, nat_mul6, nat_mul15, nat_mul60, nat_cast, nc1, Int.reduceToNat, upE, upN, fill_ne, fill_in, i0, hct, hp]; with_reducible exact Iff.rfl) | with_reducible exact Iff.rfl); intro hc__; (try subst hc__); rotate_left; intro hc__; rotate_left)
        | (with_reducible apply wp_eq; (with_reducible apply cl_go; simp (disch := omega) only [not_false_eq_true, not_true_eq_false, w32_id, tLt, fLt, tLe, fEq, itE, and_true, true_and, and_self, and_false, false_and, ↓reduceIte, nat_add, nat_mul3, nat_mul4, nat_mul6, nat_mul15, nat_mul60, nat_cast, nc1, Int.reduceToNat, upE, upN, fill_ne, fill_in, i0, hct, hp]; with_reducible exact rfl))
        | with_reducible refine wp_eq (e2) ?_
        | (with_reducible apply wp_eq; (with_reducible apply lf_go; simp (disch := omega) only [not_false_eq_true, not_true_eq_false, w32_id, tLt, fLt, tLe, fEq, itE, and_true, true_and, and_self, and_false, false_and, ↓reduceIte, nat_add, nat_mul3, nat_mul4, nat_mul6, nat_mul15, nat_mul60, nat_cast, nc1, Int.reduceToNat, upE, upN, fill_ne, fill_in, i0, hct, hp]; with_reducible exact rfl))
        | with_reducible apply wp_q1
      all_goals (apply wp_nx ih; (first | with_reducible rfl | (simp (disch := omega) only [not_false_eq_true, not_true_eq_false, w32_id, tLt, fLt, tLe, fEq, itE, and_true, true_and, and_self, and_false, false_and, ↓reduceIte, nat_add, nat_mul3, nat_mul4, nat_mul6, nat_mul15, nat_mul60, nat_cast, nc1, Int.reduceToNat, upE, upN, fill_ne, fill_in, i0, orV_s]; (try with_reducible rfl))); exact nxt _ (v_leaksV hI1.1 hV) (fun b j r1 r2 r3 => fill_ne (by omega)))
  · intro M1 ⟨h1, hf⟩
    have lo : ∀ j, j < 146 → dyS A (A 3).toNat j = A j := fun j hj => dyS_lo A _ j (by omega) (by omega)
    have hct : M1 20 3 = A 3 := by rw [← lo 3 (by omega)]; exact h1.1.1 3 (by omega)
    have hdt : M1 18 3 = A 5 := by rw [← lo 5 (by omega)]; exact h1.2.1
    refine wp_eq (b_State_passDay_4 _ _ _ _ _ _) ?_
    repeat' first
      | (with_reducible apply wp_bR; (simp (disch := omega) only [rM L, rK L, rN L, rNf, rNv, rNp, rNd, rRow, rLeg, rMark, nat_cast, Int.reduceToNat, hct, hdt]; with_reducible exact rfl))
      | with_reducible apply wp_bI
      | with_reducible apply wp_bV
      | with_reducible apply wp_bL
      | with_reducible apply wp_rI
      | with_reducible apply wp_rV
      | with_reducible apply wp_rL
      | (with_reducible apply wp_1; (first | omega | (simp (disch := omega) only [not_false_eq_true, not_true_eq_false, w32_id, tLt, fLt, tLe, fEq, itE, and_true, true_and, and_self, and_false, false_and, ↓reduceIte, nat_add, nat_mul3, nat_mul4, nat_mul6, nat_mul15, nat_mul60, nat_cast, nc1, Int.reduceToNat, upE, upN, fill_ne, fill_in, i0, hct, hdt] <;> omega)))
      | (with_reducible apply wp_2; (first | omega | (simp (disch := omega) only [not_false_eq_true, not_true_eq_false, w32_id, tLt, fLt, tLe, fEq, itE, and_true, true_and, and_self, and_false, false_and, ↓reduceIte, nat_add, nat_mul3, nat_mul4, nat_mul6, nat_mul15, nat_mul60, nat_cast, nc1, Int.reduceToNat, upE, upN, fill_ne, fill_in, i0, hct, hdt] <;> omega)))
      | (with_reducible apply wp_s; (first | (simp (disch := omega) only [not_false_eq_true, not_true_eq_false, w32_id, tLt, fLt, tLe, fEq, itE, and_true, true_and, and_self, and_false, false_and, ↓reduceIte, nat_add, nat_mul3, nat_mul4, nat_mul6, nat_mul15, nat_mul60, nat_cast, nc1, Int.reduceToNat, upE, upN, fill_ne, fill_in, i0, hct, hdt]; with_reducible exact Iff.rfl) | with_reducible exact Iff.rfl); intro hc__; (try subst hc__); rotate_left; intro hc__; rotate_left)
      | (with_reducible apply wp_eq; (with_reducible apply cl_go; simp (disch := omega) only [not_false_eq_true, not_true_eq_false, w32_id, tLt, fLt, tLe, fEq, itE, and_true, true_and, and_self, and_false, false_and, ↓reduceIte, nat_add, nat_mul3, nat_mul4, nat_mul6, nat_mul15, nat_mul60, nat_cast, nc1, Int.reduceToNat, upE, upN, fill_ne, fill_in, i0, hct, hdt]; with_reducible exact rfl))
      | (with_reducible apply wp_eq; (with_reducible apply lf_go; simp (disch := omega) only [not_false_eq_true, not_true_eq_false, w32_id, tLt, fLt, tLe, fEq, itE, and_true, true_and, and_self, and_false, false_and, ↓reduceIte, nat_add, nat_mul3, nat_mul4, nat_mul6, nat_mul15, nat_mul60, nat_cast, nc1, Int.reduceToNat, upE, upN, fill_ne, fill_in, i0, hct, hdt]; with_reducible exact rfl))
      | with_reducible apply wp_q1
    refine wp_d rfl ⟨?_, fun b j r1 r2 r3 => by rw [upN (by omega)]; exact hf b j r1 r2 r3⟩
    obtain ⟨⟨c1, c2, c3, c4, c5, c6, c7⟩, g2, g3, g4⟩ := h1
    unfold dyD
    refine ⟨⟨fun k hk => ?_, ?_, fun n hn => ?_, fun g hg => ?_, fun p hp => ?_, fun p g hp hg => ?_, fun p q hp hq => ?_⟩, ?_, fun i hi => ⟨fun w hw => ?_, fun g hg => ?_⟩, dyD_inv hI h5⟩
    · rw [upN (by omega), wUN (by omega)]; exact c1 k hk
    · rw [upN (by omega), wUN (by omega)]; exact c2
    · rw [wUN (by omega)] at hn
      rw [upN (by omega), upN (by omega), upN (by omega), upN (by omega), wUN (by omega), wUN (by omega), wUN (by omega), wUN (by omega)]
      exact c3 n hn
    · rw [wUN (by omega)] at hg
      rw [upN (by omega), upN (by omega), upN (by omega), wUN (by omega), wUN (by omega), wUN (by omega)]
      exact c4 g hg
    · rw [wUN (by omega)] at hp
      rw [upN (by omega), wUN (by omega)]; exact c5 p hp
    · rw [upN (by omega), wUN (by omega)]; exact c6 p g hp hg
    · rw [upN (by omega), wUN (by omega)]; exact c7 p q hp hq
    · rw [upE rfl rfl, wUE rfl]
    · rw [wUN (by omega)] at hi
      rw [upN (by omega), wUN (by omega)]; exact (g3 i hi).1 w hw
    · rw [wUN (by omega)] at hi
      rw [upN (by omega), wUN (by omega)]; exact (g3 i hi).2 g hg
theorem m_day (hd : 13 ≤ d) (h : RelM M A) (h5 : A 5 + 1 ≤ 9999) : Wp (callD d m_Mo_dayGoes [vR 12 0 271] (SH L) M) (QD L (fun M' => RelM M' (dyD A) ∧ FrM M M') (orV (dl A) (A 3).toNat)) := by
  have hI := h.2
  have hC := hI.1
  have hC' := hC
  unfold Cn at hC'
  have i8 := hI.2.2.2.2.2.2.2.1
  repeat' first
    | (with_reducible apply wp_bR; (simp (disch := omega) only [rM L, rK L, rN L, rNf, rNv, rNp, rNd, rRow, rLeg, rMark, nat_cast, Int.reduceToNat]; with_reducible exact rfl))
    | with_reducible apply wp_bI
    | with_reducible apply wp_bV
    | with_reducible apply wp_bL
    | with_reducible apply wp_rI
    | with_reducible apply wp_rV
    | with_reducible apply wp_rL
    | (with_reducible apply wp_1; (first | omega | (simp (disch := omega) only [not_false_eq_true, not_true_eq_false, w32_id, tLt, fLt, tLe, fEq, itE, and_true, true_and, and_self, and_false, false_and, ↓reduceIte, nat_add, nat_mul3, nat_mul4, nat_mul6, nat_mul15, nat_mul60, nat_cast, nc1, Int.reduceToNat, upE, upN, fill_ne, fill_in, i0] <;> omega)))
    | (with_reducible apply wp_2; (first | omega | (simp (disch := omega) only [not_false_eq_true, not_true_eq_false, w32_id, tLt, fLt, tLe, fEq, itE, and_true, true_and, and_self, and_false, false_and, ↓reduceIte, nat_add, nat_mul3, nat_mul4, nat_mul6, nat_mul15, nat_mul60, nat_cast, nc1, Int.reduceToNat, upE, upN, fill_ne, fill_in, i0] <;> omega)))
    | (with_reducible apply wp_s; (first | (simp (disch := omega) only [not_false_eq_true, not_true_eq_false, w32_id, tLt, fLt, tLe, fEq, itE, and_true, true_and, and_self, and_false, false_and, ↓reduceIte, nat_add, nat_mul3, nat_mul4, nat_mul6, nat_mul15, nat_mul60, nat_cast, nc1, Int.reduceToNat, upE, upN, fill_ne, fill_in, i0]; with_reducible exact Iff.rfl) | with_reducible exact Iff.rfl); intro hc__; (try subst hc__); rotate_left; intro hc__; rotate_left)
    | (with_reducible apply wp_eq; (with_reducible apply cl_go; simp (disch := omega) only [not_false_eq_true, not_true_eq_false, w32_id, tLt, fLt, tLe, fEq, itE, and_true, true_and, and_self, and_false, false_and, ↓reduceIte, nat_add, nat_mul3, nat_mul4, nat_mul6, nat_mul15, nat_mul60, nat_cast, nc1, Int.reduceToNat, upE, upN, fill_ne, fill_in, i0]; with_reducible exact rfl))
    | (with_reducible refine wp_eq (c_Mo_dayGoes (by omega) _ _ _) ?_; with_reducible refine wp_eq (b_Mo_dayGoes_0 _ _ _ _) ?_)
    | (with_reducible apply wp_eq; (with_reducible apply lf_go; simp (disch := omega) only [not_false_eq_true, not_true_eq_false, w32_id, tLt, fLt, tLe, fEq, itE, and_true, true_and, and_self, and_false, false_and, ↓reduceIte, nat_add, nat_mul3, nat_mul4, nat_mul6, nat_mul15, nat_mul60, nat_cast, nc1, Int.reduceToNat, upE, upN, fill_ne, fill_in, i0]; with_reducible exact rfl))
    | with_reducible apply wp_q1
  refine wp_loop (α := Mm) (G := fun k a => Run (callD (d - 1)) tb_Mo_dayGoes 4 [vR 12 0 271, vI (orV (dl A) k), vI (k : Int)] [] (SH L) a) (I := fun k a => RelM a (dyS A k) ∧ FrM M a) (A 3).toNat ?_ ?_ 0 M (by omega) ⟨h, fun _ _ _ _ => rfl⟩
  · intro k M1 hk ⟨h1, hf⟩ ih
    have a3 := dyS_lo A k 3 (by omega) (by omega)
    have hct : M1 272 3 = A 3 := by rw [← a3]; exact h1.1 3 (by omega)
    have hI1 := h1.2
    have e0 := orV_0 (dl A) (k := k) (by omega)
    have mp := m_passes (L := L) (d := d - 1) (s := k) (by omega) h1 (by omega)
    have dle : dl A k = landB (dyS A k) (shp (dyS A k) k) := rfl
    have hday := (hI1.2.2.2.2.2.2.1 k (by omega)).day hI1
    have nxt : ∀ M2 : Mm, (∀ w, w < 15 → M2 272 (146 + 15 * k + w) = dayB (dyS A k) (shp (dyS A k) k) w) → (∀ b j, b ≠ 280 → ¬(b = 272 ∧ 146 + 15 * k ≤ j ∧ j < 161 + 15 * k) → M2 b j = M1 b j) → RelM M2 (dyS A (k + 1)) ∧ FrM M M2 := fun M2 q1 q2 => by
      refine ⟨⟨fun j hj => ?_, hI1.put (by omega) hday⟩, fun b j r1 r2 => by rw [q2 b j r1 (by omega)]; exact hf b j r1 r2⟩
      show M2 272 j = putS (dyS A k) k _ j
      by_cases q : 146 + 15 * k ≤ j ∧ j < 161 + 15 * k
      · obtain ⟨w, rfl⟩ : ∃ w, j = 146 + 15 * k + w := ⟨j - (146 + 15 * k), by omega⟩
        rw [putS_in (by omega)]
        exact q1 w (by omega)
      · rw [putS_ne (by omega), q2 272 j (by omega) (by omega)]
        exact h1.1 j hj
    rw [← dle] at mp
    have l01 : dl A k = 0 ∨ dl A k = 1 := by
      rw [dle]
      unfold landB
      split
      · split
        · left; rfl
        · right; rfl
      · left; rfl
    refine wp_eq (b_Mo_dayGoes_4 _ _ _ _ _ _) ?_
    repeat' first
      | (with_reducible apply wp_bR; (simp (disch := omega) only [rM L, rK L, rN L, rNf, rNv, rNp, rNd, rRow, rLeg, rMark, nat_cast, Int.reduceToNat, hct]; with_reducible exact rfl))
      | with_reducible apply wp_bI
      | with_reducible apply wp_bV
      | with_reducible apply wp_bL
      | with_reducible apply wp_rI
      | with_reducible apply wp_rV
      | with_reducible apply wp_rL
      | (with_reducible apply wp_1; (first | omega | (simp (disch := omega) only [not_false_eq_true, not_true_eq_false, w32_id, tLt, fLt, tLe, fEq, itE, and_true, true_and, and_self, and_false, false_and, ↓reduceIte, nat_add, nat_mul3, nat_mul4, nat_mul6, nat_mul15, nat_mul60, nat_cast, nc1, Int.reduceToNat, upE, upN, fill_ne, fill_in, i0, hct] <;> omega)))
      | (with_reducible apply wp_2; (first | omega | (simp (disch := omega) only [not_false_eq_true, not_true_eq_false, w32_id, tLt, fLt, tLe, fEq, itE, and_true, true_and, and_self, and_false, false_and, ↓reduceIte, nat_add, nat_mul3, nat_mul4, nat_mul6, nat_mul15, nat_mul60, nat_cast, nc1, Int.reduceToNat, upE, upN, fill_ne, fill_in, i0, hct] <;> omega)))
      | (with_reducible apply wp_s; (first | (simp (disch := omega) only [not_false_eq_true, not_true_eq_false, w32_id, tLt, fLt, tLe, fEq, itE, and_true, true_and, and_self, and_false, false_and, ↓reduceIte, nat_add, nat_mul3, nat_mul4, nat_mul6, nat_mul15, nat_mul60, nat_cast, nc1, Int.reduceToNat, upE, upN, fill_ne, fill_in, i0, hct]; with_reducible exact Iff.rfl) | with_reducible exact Iff.rfl); intro hc__; (try subst hc__); rotate_left; intro hc__; rotate_left)
      | (with_reducible apply wp_eq; (with_reducible apply cl_go; simp (disch := omega) only [not_false_eq_true, not_true_eq_false, w32_id, tLt, fLt, tLe, fEq, itE, and_true, true_and, and_self, and_false, false_and, ↓reduceIte, nat_add, nat_mul3, nat_mul4, nat_mul6, nat_mul15, nat_mul60, nat_cast, nc1, Int.reduceToNat, upE, upN, fill_ne, fill_in, i0, hct]; with_reducible exact rfl))
      | (with_reducible apply wp_eq; (with_reducible apply lf_go; simp (disch := omega) only [not_false_eq_true, not_true_eq_false, w32_id, tLt, fLt, tLe, fEq, itE, and_true, true_and, and_self, and_false, false_and, ↓reduceIte, nat_add, nat_mul3, nat_mul4, nat_mul6, nat_mul15, nat_mul60, nat_cast, nc1, Int.reduceToNat, upE, upN, fill_ne, fill_in, i0, hct]; with_reducible exact rfl))
      | with_reducible apply wp_q1
    refine wp_qrow mp fun M2 q1 q2 => ?_
    rcases l01 with l | l
    · rw [l]
      repeat' first
        | (with_reducible apply wp_bR; (simp (disch := omega) only [rM L, rK L, rN L, rNf, rNv, rNp, rNd, rRow, rLeg, rMark, nat_cast, Int.reduceToNat]; with_reducible exact rfl))
        | with_reducible apply wp_bI
        | with_reducible apply wp_bV
        | with_reducible apply wp_bL
        | with_reducible apply wp_rI
        | with_reducible apply wp_rV
        | with_reducible apply wp_rL
        | (with_reducible apply wp_1; (first | omega | (simp (disch := omega) only [not_false_eq_true, not_true_eq_false, w32_id, tLt, fLt, tLe, fEq, itE, and_true, true_and, and_self, and_false, false_and, ↓reduceIte, nat_add, nat_mul3, nat_mul4, nat_mul6, nat_mul15, nat_mul60, nat_cast, nc1, Int.reduceToNat, upE, upN, fill_ne, fill_in, i0] <;> omega)))
        | (with_reducible apply wp_2; (first | omega | (simp (disch := omega) only [not_false_eq_true, not_true_eq_false, w32_id, tLt, fLt, tLe, fEq, itE, and_true, true_and, and_self, and_false, false_and, ↓reduceIte, nat_add, nat_mul3, nat_mul4, nat_mul6, nat_mul15, nat_mul60, nat_cast, nc1, Int.reduceToNat, upE, upN, fill_ne, fill_in, i0] <;> omega)))
        | (with_reducible apply wp_s; (first | (simp (disch := omega) only [not_false_eq_true, not_true_eq_false, w32_id, tLt, fLt, tLe, fEq, itE, and_true, true_and, and_self, and_false, false_and, ↓reduceIte, nat_add, nat_mul3, nat_mul4, nat_mul6, nat_mul15, nat_mul60, nat_cast, nc1, Int.reduceToNat, upE, upN, fill_ne, fill_in, i0]; with_reducible exact Iff.rfl) | with_reducible exact Iff.rfl); intro hc__; (try subst hc__); rotate_left; intro hc__; rotate_left)
        | (with_reducible apply wp_eq; (with_reducible apply cl_go; simp (disch := omega) only [not_false_eq_true, not_true_eq_false, w32_id, tLt, fLt, tLe, fEq, itE, and_true, true_and, and_self, and_false, false_and, ↓reduceIte, nat_add, nat_mul3, nat_mul4, nat_mul6, nat_mul15, nat_mul60, nat_cast, nc1, Int.reduceToNat, upE, upN, fill_ne, fill_in, i0]; with_reducible exact rfl))
        | (with_reducible apply wp_eq; (with_reducible apply lf_go; simp (disch := omega) only [not_false_eq_true, not_true_eq_false, w32_id, tLt, fLt, tLe, fEq, itE, and_true, true_and, and_self, and_false, false_and, ↓reduceIte, nat_add, nat_mul3, nat_mul4, nat_mul6, nat_mul15, nat_mul60, nat_cast, nc1, Int.reduceToNat, upE, upN, fill_ne, fill_in, i0]; with_reducible exact rfl))
        | with_reducible apply wp_q1
      all_goals (apply wp_nx ih; (first | with_reducible rfl | (simp (disch := omega) only [not_false_eq_true, not_true_eq_false, w32_id, tLt, fLt, tLe, fEq, itE, and_true, true_and, and_self, and_false, false_and, ↓reduceIte, nat_add, nat_mul3, nat_mul4, nat_mul6, nat_mul15, nat_mul60, nat_cast, nc1, Int.reduceToNat, upE, upN, fill_ne, fill_in, i0, orV_s, e0]; (try with_reducible rfl))); exact nxt _ q1 q2)
    · rw [l]
      repeat' first
        | (with_reducible apply wp_bR; (simp (disch := omega) only [rM L, rK L, rN L, rNf, rNv, rNp, rNd, rRow, rLeg, rMark, nat_cast, Int.reduceToNat]; with_reducible exact rfl))
        | with_reducible apply wp_bI
        | with_reducible apply wp_bV
        | with_reducible apply wp_bL
        | with_reducible apply wp_rI
        | with_reducible apply wp_rV
        | with_reducible apply wp_rL
        | (with_reducible apply wp_1; (first | omega | (simp (disch := omega) only [not_false_eq_true, not_true_eq_false, w32_id, tLt, fLt, tLe, fEq, itE, and_true, true_and, and_self, and_false, false_and, ↓reduceIte, nat_add, nat_mul3, nat_mul4, nat_mul6, nat_mul15, nat_mul60, nat_cast, nc1, Int.reduceToNat, upE, upN, fill_ne, fill_in, i0] <;> omega)))
        | (with_reducible apply wp_2; (first | omega | (simp (disch := omega) only [not_false_eq_true, not_true_eq_false, w32_id, tLt, fLt, tLe, fEq, itE, and_true, true_and, and_self, and_false, false_and, ↓reduceIte, nat_add, nat_mul3, nat_mul4, nat_mul6, nat_mul15, nat_mul60, nat_cast, nc1, Int.reduceToNat, upE, upN, fill_ne, fill_in, i0] <;> omega)))
        | (with_reducible apply wp_s; (first | (simp (disch := omega) only [not_false_eq_true, not_true_eq_false, w32_id, tLt, fLt, tLe, fEq, itE, and_true, true_and, and_self, and_false, false_and, ↓reduceIte, nat_add, nat_mul3, nat_mul4, nat_mul6, nat_mul15, nat_mul60, nat_cast, nc1, Int.reduceToNat, upE, upN, fill_ne, fill_in, i0]; with_reducible exact Iff.rfl) | with_reducible exact Iff.rfl); intro hc__; (try subst hc__); rotate_left; intro hc__; rotate_left)
        | (with_reducible apply wp_eq; (with_reducible apply cl_go; simp (disch := omega) only [not_false_eq_true, not_true_eq_false, w32_id, tLt, fLt, tLe, fEq, itE, and_true, true_and, and_self, and_false, false_and, ↓reduceIte, nat_add, nat_mul3, nat_mul4, nat_mul6, nat_mul15, nat_mul60, nat_cast, nc1, Int.reduceToNat, upE, upN, fill_ne, fill_in, i0]; with_reducible exact rfl))
        | (with_reducible apply wp_eq; (with_reducible apply lf_go; simp (disch := omega) only [not_false_eq_true, not_true_eq_false, w32_id, tLt, fLt, tLe, fEq, itE, and_true, true_and, and_self, and_false, false_and, ↓reduceIte, nat_add, nat_mul3, nat_mul4, nat_mul6, nat_mul15, nat_mul60, nat_cast, nc1, Int.reduceToNat, upE, upN, fill_ne, fill_in, i0]; with_reducible exact rfl))
        | with_reducible apply wp_q1
      all_goals (apply wp_nx ih; (first | with_reducible rfl | (simp (disch := omega) only [not_false_eq_true, not_true_eq_false, w32_id, tLt, fLt, tLe, fEq, itE, and_true, true_and, and_self, and_false, false_and, ↓reduceIte, nat_add, nat_mul3, nat_mul4, nat_mul6, nat_mul15, nat_mul60, nat_cast, nc1, Int.reduceToNat, upE, upN, fill_ne, fill_in, i0, orV_s]; (try with_reducible rfl))); exact nxt _ q1 q2)
  · intro M1 ⟨h1, hf⟩
    have a3 := dyS_lo A (A 3).toNat 3 (by omega) (by omega)
    have a5 := dyS_lo A (A 3).toNat 5 (by omega) (by omega)
    have hct : M1 272 3 = A 3 := by rw [← a3]; exact h1.1 3 (by omega)
    have hdt : M1 272 5 = A 5 := by rw [← a5]; exact h1.1 5 (by omega)
    refine wp_eq (b_Mo_dayGoes_4 _ _ _ _ _ _) ?_
    repeat' first
      | (with_reducible apply wp_bR; (simp (disch := omega) only [rM L, rK L, rN L, rNf, rNv, rNp, rNd, rRow, rLeg, rMark, nat_cast, Int.reduceToNat, hct, hdt]; with_reducible exact rfl))
      | with_reducible apply wp_bI
      | with_reducible apply wp_bV
      | with_reducible apply wp_bL
      | with_reducible apply wp_rI
      | with_reducible apply wp_rV
      | with_reducible apply wp_rL
      | (with_reducible apply wp_1; (first | omega | (simp (disch := omega) only [not_false_eq_true, not_true_eq_false, w32_id, tLt, fLt, tLe, fEq, itE, and_true, true_and, and_self, and_false, false_and, ↓reduceIte, nat_add, nat_mul3, nat_mul4, nat_mul6, nat_mul15, nat_mul60, nat_cast, nc1, Int.reduceToNat, upE, upN, fill_ne, fill_in, i0, hct, hdt] <;> omega)))
      | (with_reducible apply wp_2; (first | omega | (simp (disch := omega) only [not_false_eq_true, not_true_eq_false, w32_id, tLt, fLt, tLe, fEq, itE, and_true, true_and, and_self, and_false, false_and, ↓reduceIte, nat_add, nat_mul3, nat_mul4, nat_mul6, nat_mul15, nat_mul60, nat_cast, nc1, Int.reduceToNat, upE, upN, fill_ne, fill_in, i0, hct, hdt] <;> omega)))
      | (with_reducible apply wp_s; (first | (simp (disch := omega) only [not_false_eq_true, not_true_eq_false, w32_id, tLt, fLt, tLe, fEq, itE, and_true, true_and, and_self, and_false, false_and, ↓reduceIte, nat_add, nat_mul3, nat_mul4, nat_mul6, nat_mul15, nat_mul60, nat_cast, nc1, Int.reduceToNat, upE, upN, fill_ne, fill_in, i0, hct, hdt]; with_reducible exact Iff.rfl) | with_reducible exact Iff.rfl); intro hc__; (try subst hc__); rotate_left; intro hc__; rotate_left)
      | (with_reducible apply wp_eq; (with_reducible apply cl_go; simp (disch := omega) only [not_false_eq_true, not_true_eq_false, w32_id, tLt, fLt, tLe, fEq, itE, and_true, true_and, and_self, and_false, false_and, ↓reduceIte, nat_add, nat_mul3, nat_mul4, nat_mul6, nat_mul15, nat_mul60, nat_cast, nc1, Int.reduceToNat, upE, upN, fill_ne, fill_in, i0, hct, hdt]; with_reducible exact rfl))
      | (with_reducible apply wp_eq; (with_reducible apply lf_go; simp (disch := omega) only [not_false_eq_true, not_true_eq_false, w32_id, tLt, fLt, tLe, fEq, itE, and_true, true_and, and_self, and_false, false_and, ↓reduceIte, nat_add, nat_mul3, nat_mul4, nat_mul6, nat_mul15, nat_mul60, nat_cast, nc1, Int.reduceToNat, upE, upN, fill_ne, fill_in, i0, hct, hdt]; with_reducible exact rfl))
      | with_reducible apply wp_q1
    refine wp_d rfl ⟨⟨fun j hj => ?_, dyD_inv hI h5⟩, fun b j r1 r2 => by rw [upN (by omega)]; exact hf b j r1 r2⟩
    unfold dyD
    by_cases q : j = 5
    · subst q; rw [upE rfl rfl, wUE rfl]
    · rw [upN (by omega), wUN q]
      exact h1.1 j hj
end

/-! A TEXT BEGINS; the draft is cleared -/
theorem w8_id {x : Int} (h0 : -128 ≤ x) (h1 : x ≤ 127) : w8 x = x := by
  unfold w8
  exact Int.bmod_eq_of_le (by omega) (by omega)
section
variable {bt : Nat → Int} {n q e : Nat} {M M1 M2 : Mm} {L d d1 d2 d3 : Nat}
theorem c_begin (hd : 3 ≤ d) (h9 : n ≤ 900) (hb : ∀ k, k < n → M 13 k = bt k ∧ -128 ≤ bt k ∧ bt k ≤ 127) (hw : ∀ w, w < 31 → M 14 w = wcode w) (hN : NT bt n 0 q e) : ∃ Ma, callD d m_Tape_begin [vR 6 0 12, vI (n : Int)] (SH L) M = some (none, SH L, Ma) ∧ TB bt n Ma ∧ TC bt n q e Ma ∧ Ma 12 5 = 0 ∧ ∀ b j, ¬(b = 12 ∧ 3 ≤ j) → Ma b j = M b j := by
  have f0 : ∀ b j, ¬(b = 12 ∧ 3 ≤ j) → up (up (up (up M 12 3 (n : Int)) 12 4 0) 12 5 0) 12 6 (-1) b j = M b j := fun b j y => by rw [upN (by omega), upN (by omega), upN (by omega), upN (by omega)]
  have tb : TB bt n (up (up (up (up M 12 3 (n : Int)) 12 4 0) 12 5 0) 12 6 (-1)) := ⟨by rw [upN (by omega), upN (by omega), upN (by omega), upE rfl rfl], h9, fun k hk => by rw [f0 _ _ (by omega)]; exact hb k hk, fun w hw' => by rw [f0 _ _ (by omega)]; exact hw w hw'⟩
  obtain ⟨_, _, Ma, c, rfl, rfl, f, t⟩ := c_adv (L := L) (d := d - 1) (by omega) tb (p := 0) (by rw [upN (by omega), upN (by omega), upE rfl rfl]; rfl) hN
  refine ⟨Ma, ?_, tb.fr fun b j hb => f b j (by omega), t, by rw [f _ _ (by omega), upN (by omega), upE rfl rfl], fun b j y => by rw [f b j (by omega)]; exact f0 b j y⟩
  repeat' first
    | (with_reducible apply bR_go; (simp (disch := omega) only [rM L, rK L, rN L, rNf, rNv, rNp, rNd, rRow, rLeg, rMark, nat_cast, Int.reduceToNat]; with_reducible exact rfl))
    | with_reducible apply bI_go
    | with_reducible apply bV_go
    | with_reducible apply bL_go
    | (with_reducible apply it_1; (first | omega | (simp (disch := omega) only [not_false_eq_true, not_true_eq_false, w32_id, tLt, fLt, tLe, fEq, itE, and_true, true_and, and_self, and_false, false_and, ↓reduceIte, nat_add, nat_mul3, nat_mul4, nat_mul6, nat_mul15, nat_mul60, nat_cast, nc1, Int.reduceToNat, upE, upN, fill_ne, fill_in, i0] <;> omega)))
    | (with_reducible apply it_2; (first | omega | (simp (disch := omega) only [not_false_eq_true, not_true_eq_false, w32_id, tLt, fLt, tLe, fEq, itE, and_true, true_and, and_self, and_false, false_and, ↓reduceIte, nat_add, nat_mul3, nat_mul4, nat_mul6, nat_mul15, nat_mul60, nat_cast, nc1, Int.reduceToNat, upE, upN, fill_ne, fill_in, i0] <;> omega)))
    | (with_reducible refine cl_go ?_; simp (disch := omega) only [not_false_eq_true, not_true_eq_false, w32_id, tLt, fLt, tLe, fEq, itE, and_true, true_and, and_self, and_false, false_and, ↓reduceIte, nat_add, nat_mul3, nat_mul4, nat_mul6, nat_mul15, nat_mul60, nat_cast, nc1, Int.reduceToNat, upE, upN, fill_ne, fill_in, i0])
    | rw [c_Tape_begin (by omega), b_Tape_begin_0]
    | with_reducible exact c
    | (with_reducible refine rn_go ?_; simp (disch := omega) only [not_false_eq_true, not_true_eq_false, w32_id, tLt, fLt, tLe, fEq, itE, and_true, true_and, and_self, and_false, false_and, ↓reduceIte, nat_add, nat_mul3, nat_mul4, nat_mul6, nat_mul15, nat_mul60, nat_cast, nc1, Int.reduceToNat, upE, upN, fill_ne, fill_in, i0])
    | (with_reducible refine lf_go ?_; simp (disch := omega) only [not_false_eq_true, not_true_eq_false, w32_id, tLt, fLt, tLe, fEq, itE, and_true, true_and, and_self, and_false, false_and, ↓reduceIte, nat_add, nat_mul3, nat_mul4, nat_mul6, nat_mul15, nat_mul60, nat_cast, nc1, Int.reduceToNat, upE, upN, fill_ne, fill_in, i0])
    | with_reducible exact rfl
theorem m_begins (hd : 3 ≤ d) (h9 : n ≤ 900) {most : Int} (hm : (n : Int) ≤ most) (ht : (n : Int) ≤ M 271 10) (hb : ∀ k, k < n → M 277 k = bt k ∧ -128 ≤ bt k ∧ bt k ≤ 127) (hN : NT bt n 0 q e) : ∃ Ma, callD d m_Mo_begins [vR 12 0 271, vI (n : Int), vI most] (SH L) M = some (some (vI 1), SH L, Ma) ∧ TBm bt n Ma ∧ TM bt n q e Ma ∧ (Ma 271 18 = 0 ∧ Ma 271 17 = -1 ∧ Ma 271 10 = 0) ∧ ∀ b j, ¬(b = 271 ∧ 10 ≤ j ∧ j ≤ 19 ∧ j ≠ 16) → b ≠ 278 → Ma b j = M b j := by
  have key : Wp (callD d m_Mo_begins [vR 12 0 271, vI (n : Int), vI most] (SH L) M) (fun r S Ma => r = some (vI 1) ∧ S = SH L ∧ TBm bt n Ma ∧ TM bt n q e Ma ∧ (Ma 271 18 = 0 ∧ Ma 271 17 = -1 ∧ Ma 271 10 = 0) ∧ ∀ b j, ¬(b = 271 ∧ 10 ≤ j ∧ j ≤ 19 ∧ j ≠ 16) → b ≠ 278 → Ma b j = M b j) := by
    repeat' first
      | (with_reducible apply wp_bR; (simp (disch := omega) only [rM L, rK L, rN L, rNf, rNv, rNp, rNd, rRow, rLeg, rMark, nat_cast, Int.reduceToNat]; with_reducible exact rfl))
      | with_reducible apply wp_bI
      | with_reducible apply wp_bV
      | with_reducible apply wp_bL
      | with_reducible apply wp_rI
      | with_reducible apply wp_rV
      | with_reducible apply wp_rL
      | (with_reducible apply wp_1; (first | omega | (simp (disch := omega) only [not_false_eq_true, not_true_eq_false, w32_id, tLt, fLt, tLe, fEq, itE, and_true, true_and, and_self, and_false, false_and, ↓reduceIte, nat_add, nat_mul3, nat_mul4, nat_mul6, nat_mul15, nat_mul60, nat_cast, nc1, Int.reduceToNat, upE, upN, fill_ne, fill_in, i0] <;> omega)))
      | (with_reducible apply wp_2; (first | omega | (simp (disch := omega) only [not_false_eq_true, not_true_eq_false, w32_id, tLt, fLt, tLe, fEq, itE, and_true, true_and, and_self, and_false, false_and, ↓reduceIte, nat_add, nat_mul3, nat_mul4, nat_mul6, nat_mul15, nat_mul60, nat_cast, nc1, Int.reduceToNat, upE, upN, fill_ne, fill_in, i0] <;> omega)))
      | (with_reducible apply wp_s; (first | (simp (disch := omega) only [not_false_eq_true, not_true_eq_false, w32_id, tLt, fLt, tLe, fEq, itE, and_true, true_and, and_self, and_false, false_and, ↓reduceIte, nat_add, nat_mul3, nat_mul4, nat_mul6, nat_mul15, nat_mul60, nat_cast, nc1, Int.reduceToNat, upE, upN, fill_ne, fill_in, i0]; with_reducible exact Iff.rfl) | with_reducible exact Iff.rfl); intro hc__; (try subst hc__); rotate_left; intro hc__; rotate_left)
      | (with_reducible apply wp_eq; (with_reducible apply cl_go; simp (disch := omega) only [not_false_eq_true, not_true_eq_false, w32_id, tLt, fLt, tLe, fEq, itE, and_true, true_and, and_self, and_false, false_and, ↓reduceIte, nat_add, nat_mul3, nat_mul4, nat_mul6, nat_mul15, nat_mul60, nat_cast, nc1, Int.reduceToNat, upE, upN, fill_ne, fill_in, i0]; with_reducible exact rfl))
      | (with_reducible refine wp_eq (c_Mo_begins (by omega) _ _ _ _ _) ?_; with_reducible refine wp_eq (b_Mo_begins_0 _ _ _ _ _ _) ?_)
      | (with_reducible apply wp_eq; (with_reducible apply lf_go; simp (disch := omega) only [not_false_eq_true, not_true_eq_false, w32_id, tLt, fLt, tLe, fEq, itE, and_true, true_and, and_self, and_false, false_and, ↓reduceIte, nat_add, nat_mul3, nat_mul4, nat_mul6, nat_mul15, nat_mul60, nat_cast, nc1, Int.reduceToNat, upE, upN, fill_ne, fill_in, i0]; with_reducible exact rfl))
      | with_reducible apply wp_q1
    refine wp_loop (α := Mm) (G := fun i a => Run (callD (d - 1)) tb_Mo_begins 26 [vR 12 0 271, vI (n : Int), vI most, vI (i : Int)] [] (SH L) a) (I := fun i a => a 271 11 = (n : Int) ∧ (∀ k, k < i → a 278 k = bt k) ∧ ∀ b j, ¬(b = 271 ∧ j = 11) → b ≠ 278 → a b j = M b j) n ?_ ?_ 0 _ (by omega) ⟨upE rfl rfl, fun _ h => by omega, fun b j y1 y2 => upN (by omega)⟩
    · intro i Mb hi ⟨i1, i2, i3⟩ ih
      have bi := hb i hi
      have e7 : Mb 277 i = bt i := by rw [i3 _ _ (by omega) (by omega)]; exact bi.1
      have e8 : w8 (bt i) = bt i := w8_id bi.2.1 bi.2.2
      refine wp_eq (b_Mo_begins_26 _ _ _ _ _ _ _) ?_
      repeat' first
        | (with_reducible apply wp_bR; (simp (disch := omega) only [rM L, rK L, rN L, rNf, rNv, rNp, rNd, rRow, rLeg, rMark, nat_cast, Int.reduceToNat]; with_reducible exact rfl))
        | with_reducible apply wp_bI
        | with_reducible apply wp_bV
        | with_reducible apply wp_bL
        | with_reducible apply wp_rI
        | with_reducible apply wp_rV
        | with_reducible apply wp_rL
        | (with_reducible apply wp_1; (first | omega | (simp (disch := omega) only [not_false_eq_true, not_true_eq_false, w32_id, tLt, fLt, tLe, fEq, itE, and_true, true_and, and_self, and_false, false_and, ↓reduceIte, nat_add, nat_mul3, nat_mul4, nat_mul6, nat_mul15, nat_mul60, nat_cast, nc1, Int.reduceToNat, upE, upN, fill_ne, fill_in, i0] <;> omega)))
        | (with_reducible apply wp_2; (first | omega | (simp (disch := omega) only [not_false_eq_true, not_true_eq_false, w32_id, tLt, fLt, tLe, fEq, itE, and_true, true_and, and_self, and_false, false_and, ↓reduceIte, nat_add, nat_mul3, nat_mul4, nat_mul6, nat_mul15, nat_mul60, nat_cast, nc1, Int.reduceToNat, upE, upN, fill_ne, fill_in, i0] <;> omega)))
        | (with_reducible apply wp_s; (first | (simp (disch := omega) only [not_false_eq_true, not_true_eq_false, w32_id, tLt, fLt, tLe, fEq, itE, and_true, true_and, and_self, and_false, false_and, ↓reduceIte, nat_add, nat_mul3, nat_mul4, nat_mul6, nat_mul15, nat_mul60, nat_cast, nc1, Int.reduceToNat, upE, upN, fill_ne, fill_in, i0]; with_reducible exact Iff.rfl) | with_reducible exact Iff.rfl); intro hc__; (try subst hc__); rotate_left; intro hc__; rotate_left)
        | (with_reducible apply wp_eq; (with_reducible apply cl_go; simp (disch := omega) only [not_false_eq_true, not_true_eq_false, w32_id, tLt, fLt, tLe, fEq, itE, and_true, true_and, and_self, and_false, false_and, ↓reduceIte, nat_add, nat_mul3, nat_mul4, nat_mul6, nat_mul15, nat_mul60, nat_cast, nc1, Int.reduceToNat, upE, upN, fill_ne, fill_in, i0]; with_reducible exact rfl))
        | (with_reducible apply wp_eq; (with_reducible apply lf_go; simp (disch := omega) only [not_false_eq_true, not_true_eq_false, w32_id, tLt, fLt, tLe, fEq, itE, and_true, true_and, and_self, and_false, false_and, ↓reduceIte, nat_add, nat_mul3, nat_mul4, nat_mul6, nat_mul15, nat_mul60, nat_cast, nc1, Int.reduceToNat, upE, upN, fill_ne, fill_in, i0]; with_reducible exact rfl))
        | with_reducible apply wp_q1
      apply wp_nx ih
      · simp (disch := omega) only [not_false_eq_true, not_true_eq_false, w32_id, tLt, fLt, tLe, fEq, itE, and_true, true_and, and_self, and_false, false_and, ↓reduceIte, nat_add, nat_mul3, nat_mul4, nat_mul6, nat_mul15, nat_mul60, nat_cast, nc1, Int.reduceToNat, upE, upN, fill_ne, fill_in, i0, e7, e8]
        with_reducible rfl
      · refine ⟨?_, fun k hk => ?_, fun b j y1 y2 => ?_⟩
        · simp (disch := omega) only [not_false_eq_true, not_true_eq_false, w32_id, tLt, fLt, tLe, fEq, itE, and_true, true_and, and_self, and_false, false_and, ↓reduceIte, nat_add, nat_mul3, nat_mul4, nat_mul6, nat_mul15, nat_mul60, nat_cast, nc1, Int.reduceToNat, upE, upN, fill_ne, fill_in, i0]; exact i1
        · by_cases z : k = i
          · subst z; simp (disch := omega) only [not_false_eq_true, not_true_eq_false, w32_id, tLt, fLt, tLe, fEq, itE, and_true, true_and, and_self, and_false, false_and, ↓reduceIte, nat_add, nat_mul3, nat_mul4, nat_mul6, nat_mul15, nat_mul60, nat_cast, nc1, Int.reduceToNat, upE, upN, fill_ne, fill_in, i0, e7, e8]
          · simp (disch := omega) only [not_false_eq_true, not_true_eq_false, w32_id, tLt, fLt, tLe, fEq, itE, and_true, true_and, and_self, and_false, false_and, ↓reduceIte, nat_add, nat_mul3, nat_mul4, nat_mul6, nat_mul15, nat_mul60, nat_cast, nc1, Int.reduceToNat, upE, upN, fill_ne, fill_in, i0]; exact i2 k (by omega)
        · simp (disch := omega) only [not_false_eq_true, not_true_eq_false, w32_id, tLt, fLt, tLe, fEq, itE, and_true, true_and, and_self, and_false, false_and, ↓reduceIte, nat_add, nat_mul3, nat_mul4, nat_mul6, nat_mul15, nat_mul60, nat_cast, nc1, Int.reduceToNat, upE, upN, fill_ne, fill_in, i0]; exact i3 b j y1 y2
    · intro Mb ⟨i1, i2, i3⟩
      generalize hX : up (up (up (up (up Mb 271 10 0) 271 18 0) 271 17 (-1)) 271 14 0) 271 19 0 = X
      have fX : ∀ b j, ¬(b = 271 ∧ (j = 10 ∨ j = 18 ∨ j = 17 ∨ j = 14 ∨ j = 19)) → X b j = Mb b j := fun b j y => by rw [← hX, upN (by omega), upN (by omega), upN (by omega), upN (by omega), upN (by omega)]
      have x18 : X 271 18 = 0 := by rw [← hX, upN (by omega), upN (by omega), upN (by omega), upE rfl rfl]
      have x17 : X 271 17 = -1 := by rw [← hX, upN (by omega), upN (by omega), upE rfl rfl]
      have x10 : X 271 10 = 0 := by rw [← hX, upN (by omega), upN (by omega), upN (by omega), upN (by omega), upE rfl rfl]
      have x14 : X 271 14 = 0 := by rw [← hX, upN (by omega), upE rfl rfl]
      have tb : TBm bt n X := ⟨by rw [fX _ _ (by omega)]; exact i1, h9, fun k hk => by rw [fX _ _ (by omega), i2 k hk]; exact ⟨rfl, (hb k hk).2⟩⟩
      obtain ⟨_, _, Ma, c, rfl, rfl, f, t⟩ := m_ahead (L := L) (d := d - 1) (by omega) tb (p := 0) x14 hN
      rw [← hX] at c
      refine wp_eq (b_Mo_begins_26 _ _ _ _ _ _ _) ?_
      repeat' first
        | (with_reducible apply wp_bR; (simp (disch := omega) only [rM L, rK L, rN L, rNf, rNv, rNp, rNd, rRow, rLeg, rMark, nat_cast, Int.reduceToNat]; with_reducible exact rfl))
        | with_reducible apply wp_bI
        | with_reducible apply wp_bV
        | with_reducible apply wp_bL
        | with_reducible apply wp_rI
        | with_reducible apply wp_rV
        | with_reducible apply wp_rL
        | (with_reducible apply wp_1; (first | omega | (simp (disch := omega) only [not_false_eq_true, not_true_eq_false, w32_id, tLt, fLt, tLe, fEq, itE, and_true, true_and, and_self, and_false, false_and, ↓reduceIte, nat_add, nat_mul3, nat_mul4, nat_mul6, nat_mul15, nat_mul60, nat_cast, nc1, Int.reduceToNat, upE, upN, fill_ne, fill_in, i0] <;> omega)))
        | (with_reducible apply wp_2; (first | omega | (simp (disch := omega) only [not_false_eq_true, not_true_eq_false, w32_id, tLt, fLt, tLe, fEq, itE, and_true, true_and, and_self, and_false, false_and, ↓reduceIte, nat_add, nat_mul3, nat_mul4, nat_mul6, nat_mul15, nat_mul60, nat_cast, nc1, Int.reduceToNat, upE, upN, fill_ne, fill_in, i0] <;> omega)))
        | (with_reducible apply wp_s; (first | (simp (disch := omega) only [not_false_eq_true, not_true_eq_false, w32_id, tLt, fLt, tLe, fEq, itE, and_true, true_and, and_self, and_false, false_and, ↓reduceIte, nat_add, nat_mul3, nat_mul4, nat_mul6, nat_mul15, nat_mul60, nat_cast, nc1, Int.reduceToNat, upE, upN, fill_ne, fill_in, i0]; with_reducible exact Iff.rfl) | with_reducible exact Iff.rfl); intro hc__; (try subst hc__); rotate_left; intro hc__; rotate_left)
        | (with_reducible apply wp_eq; (with_reducible apply cl_go; simp (disch := omega) only [not_false_eq_true, not_true_eq_false, w32_id, tLt, fLt, tLe, fEq, itE, and_true, true_and, and_self, and_false, false_and, ↓reduceIte, nat_add, nat_mul3, nat_mul4, nat_mul6, nat_mul15, nat_mul60, nat_cast, nc1, Int.reduceToNat, upE, upN, fill_ne, fill_in, i0]; with_reducible exact rfl))
        | with_reducible refine wp_eq (c) ?_
        | (with_reducible apply wp_eq; (with_reducible apply lf_go; simp (disch := omega) only [not_false_eq_true, not_true_eq_false, w32_id, tLt, fLt, tLe, fEq, itE, and_true, true_and, and_self, and_false, false_and, ↓reduceIte, nat_add, nat_mul3, nat_mul4, nat_mul6, nat_mul15, nat_mul60, nat_cast, nc1, Int.reduceToNat, upE, upN, fill_ne, fill_in, i0]; with_reducible exact rfl))
        | with_reducible apply wp_q1
      exact ⟨_, _, _, rfl, rfl, rfl, tb.fr fun b j hb => f b j (by omega), t, ⟨by rw [f _ _ (by omega)]; exact x18, by rw [f _ _ (by omega)]; exact x17, by rw [f _ _ (by omega)]; exact x10⟩, fun b j y1 y2 => by rw [f _ _ (by omega), fX _ _ (by omega)]; exact i3 b j (by omega) y2⟩
  obtain ⟨_, _, Ma, c, rfl, rfl, k⟩ := key
  exact ⟨Ma, c, k⟩
set_option maxRecDepth 16384 in
theorem m_plain (hd : 1 ≤ d) : ∃ Ma, callD d m_Mo_plain [vR 12 0 271, vI 2288] (SH L) M = some (none, SH L, Ma) ∧ (∀ k, k < 572 → dA Ma k = if k = 6 then -1 else 0) ∧ ∀ b j, ¬(b = 272 ∧ 2288 ≤ j ∧ j < 2860) → Ma b j = M b j := by
  have key : Wp (callD d m_Mo_plain [vR 12 0 271, vI 2288] (SH L) M) (fun r S Ma => r = none ∧ S = SH L ∧ (∀ k, k < 572 → dA Ma k = if k = 6 then -1 else 0) ∧ ∀ b j, ¬(b = 272 ∧ 2288 ≤ j ∧ j < 2860) → Ma b j = M b j) := by
    repeat' first
      | (with_reducible apply wp_bR; (simp (disch := omega) only [rM L, rK L, rN L, rNf, rNv, rNp, rNd, rRow, rLeg, rMark, nat_cast, Int.reduceToNat]; with_reducible exact rfl))
      | with_reducible apply wp_bI
      | with_reducible apply wp_bV
      | with_reducible apply wp_bL
      | with_reducible apply wp_rI
      | with_reducible apply wp_rV
      | with_reducible apply wp_rL
      | (with_reducible apply wp_1; (first | omega | (simp (disch := omega) only [not_false_eq_true, not_true_eq_false, w32_id, tLt, fLt, tLe, fEq, itE, and_true, true_and, and_self, and_false, false_and, ↓reduceIte, nat_add, nat_mul3, nat_mul4, nat_mul6, nat_mul15, nat_mul60, nat_cast, nc1, Int.reduceToNat, upE, upN, fill_ne, fill_in, i0] <;> omega)))
      | (with_reducible apply wp_2; (first | omega | (simp (disch := omega) only [not_false_eq_true, not_true_eq_false, w32_id, tLt, fLt, tLe, fEq, itE, and_true, true_and, and_self, and_false, false_and, ↓reduceIte, nat_add, nat_mul3, nat_mul4, nat_mul6, nat_mul15, nat_mul60, nat_cast, nc1, Int.reduceToNat, upE, upN, fill_ne, fill_in, i0] <;> omega)))
      | (with_reducible apply wp_s; (first | (simp (disch := omega) only [not_false_eq_true, not_true_eq_false, w32_id, tLt, fLt, tLe, fEq, itE, and_true, true_and, and_self, and_false, false_and, ↓reduceIte, nat_add, nat_mul3, nat_mul4, nat_mul6, nat_mul15, nat_mul60, nat_cast, nc1, Int.reduceToNat, upE, upN, fill_ne, fill_in, i0]; with_reducible exact Iff.rfl) | with_reducible exact Iff.rfl); intro hc__; (try subst hc__); rotate_left; intro hc__; rotate_left)
      | (with_reducible apply wp_eq; (with_reducible apply cl_go; simp (disch := omega) only [not_false_eq_true, not_true_eq_false, w32_id, tLt, fLt, tLe, fEq, itE, and_true, true_and, and_self, and_false, false_and, ↓reduceIte, nat_add, nat_mul3, nat_mul4, nat_mul6, nat_mul15, nat_mul60, nat_cast, nc1, Int.reduceToNat, upE, upN, fill_ne, fill_in, i0]; with_reducible exact rfl))
      | (with_reducible refine wp_eq (c_Mo_plain (by omega) _ _ _ _) ?_; with_reducible refine wp_eq (b_Mo_plain_0 _ _ _ _ _) ?_)
      | (with_reducible apply wp_eq; (with_reducible apply lf_go; simp (disch := omega) only [not_false_eq_true, not_true_eq_false, w32_id, tLt, fLt, tLe, fEq, itE, and_true, true_and, and_self, and_false, false_and, ↓reduceIte, nat_add, nat_mul3, nat_mul4, nat_mul6, nat_mul15, nat_mul60, nat_cast, nc1, Int.reduceToNat, upE, upN, fill_ne, fill_in, i0]; with_reducible exact rfl))
      | with_reducible apply wp_q1
    refine wp_loop (α := Mm) (G := fun i a => Run (callD (d - 1)) tb_Mo_plain 2 [vR 12 0 271, vI 2288, vI (i : Int)] [] (SH L) a) (I := fun i a => (∀ k, k < i → a 272 (2288 + k) = 0) ∧ ∀ b j, ¬(b = 272 ∧ 2288 ≤ j ∧ j < 2860) → a b j = M b j) 572 ?_ ?_ 0 _ (by omega) ⟨fun _ h => by omega, fun _ _ _ => rfl⟩
    · intro i Mb hi ⟨i1, i2⟩ ih
      refine wp_eq (b_Mo_plain_2 _ _ _ _ _ _) ?_
      repeat' first
        | (with_reducible apply wp_bR; (simp (disch := omega) only [rM L, rK L, rN L, rNf, rNv, rNp, rNd, rRow, rLeg, rMark, nat_cast, Int.reduceToNat]; with_reducible exact rfl))
        | with_reducible apply wp_bI
        | with_reducible apply wp_bV
        | with_reducible apply wp_bL
        | with_reducible apply wp_rI
        | with_reducible apply wp_rV
        | with_reducible apply wp_rL
        | (with_reducible apply wp_1; (first | omega | (simp (disch := omega) only [not_false_eq_true, not_true_eq_false, w32_id, tLt, fLt, tLe, fEq, itE, and_true, true_and, and_self, and_false, false_and, ↓reduceIte, nat_add, nat_mul3, nat_mul4, nat_mul6, nat_mul15, nat_mul60, nat_cast, nc1, Int.reduceToNat, upE, upN, fill_ne, fill_in, i0] <;> omega)))
        | (with_reducible apply wp_2; (first | omega | (simp (disch := omega) only [not_false_eq_true, not_true_eq_false, w32_id, tLt, fLt, tLe, fEq, itE, and_true, true_and, and_self, and_false, false_and, ↓reduceIte, nat_add, nat_mul3, nat_mul4, nat_mul6, nat_mul15, nat_mul60, nat_cast, nc1, Int.reduceToNat, upE, upN, fill_ne, fill_in, i0] <;> omega)))
        | (with_reducible apply wp_s; (first | (simp (disch := omega) only [not_false_eq_true, not_true_eq_false, w32_id, tLt, fLt, tLe, fEq, itE, and_true, true_and, and_self, and_false, false_and, ↓reduceIte, nat_add, nat_mul3, nat_mul4, nat_mul6, nat_mul15, nat_mul60, nat_cast, nc1, Int.reduceToNat, upE, upN, fill_ne, fill_in, i0]; with_reducible exact Iff.rfl) | with_reducible exact Iff.rfl); intro hc__; (try subst hc__); rotate_left; intro hc__; rotate_left)
        | (with_reducible apply wp_eq; (with_reducible apply cl_go; simp (disch := omega) only [not_false_eq_true, not_true_eq_false, w32_id, tLt, fLt, tLe, fEq, itE, and_true, true_and, and_self, and_false, false_and, ↓reduceIte, nat_add, nat_mul3, nat_mul4, nat_mul6, nat_mul15, nat_mul60, nat_cast, nc1, Int.reduceToNat, upE, upN, fill_ne, fill_in, i0]; with_reducible exact rfl))
        | (with_reducible apply wp_eq; (with_reducible apply lf_go; simp (disch := omega) only [not_false_eq_true, not_true_eq_false, w32_id, tLt, fLt, tLe, fEq, itE, and_true, true_and, and_self, and_false, false_and, ↓reduceIte, nat_add, nat_mul3, nat_mul4, nat_mul6, nat_mul15, nat_mul60, nat_cast, nc1, Int.reduceToNat, upE, upN, fill_ne, fill_in, i0]; with_reducible exact rfl))
        | with_reducible apply wp_q1
      apply wp_nx ih
      · simp (disch := omega) only [not_false_eq_true, not_true_eq_false, w32_id, tLt, fLt, tLe, fEq, itE, and_true, true_and, and_self, and_false, false_and, ↓reduceIte, nat_add, nat_mul3, nat_mul4, nat_mul6, nat_mul15, nat_mul60, nat_cast, nc1, Int.reduceToNat, upE, upN, fill_ne, fill_in, i0]
        with_reducible rfl
      · refine ⟨fun k hk => ?_, fun b j y1 => ?_⟩
        · by_cases z : k = i
          · subst z; simp (disch := omega) only [not_false_eq_true, not_true_eq_false, w32_id, tLt, fLt, tLe, fEq, itE, and_true, true_and, and_self, and_false, false_and, ↓reduceIte, nat_add, nat_mul3, nat_mul4, nat_mul6, nat_mul15, nat_mul60, nat_cast, nc1, Int.reduceToNat, upE, upN, fill_ne, fill_in, i0]
          · simp (disch := omega) only [not_false_eq_true, not_true_eq_false, w32_id, tLt, fLt, tLe, fEq, itE, and_true, true_and, and_self, and_false, false_and, ↓reduceIte, nat_add, nat_mul3, nat_mul4, nat_mul6, nat_mul15, nat_mul60, nat_cast, nc1, Int.reduceToNat, upE, upN, fill_ne, fill_in, i0]; exact i1 k (by omega)
        · simp (disch := omega) only [not_false_eq_true, not_true_eq_false, w32_id, tLt, fLt, tLe, fEq, itE, and_true, true_and, and_self, and_false, false_and, ↓reduceIte, nat_add, nat_mul3, nat_mul4, nat_mul6, nat_mul15, nat_mul60, nat_cast, nc1, Int.reduceToNat, upE, upN, fill_ne, fill_in, i0]; exact i2 b j y1
    · intro Mb ⟨i1, i2⟩
      refine wp_eq (b_Mo_plain_2 _ _ _ _ _ _) ?_
      repeat' first
        | (with_reducible apply wp_bR; (simp (disch := omega) only [rM L, rK L, rN L, rNf, rNv, rNp, rNd, rRow, rLeg, rMark, nat_cast, Int.reduceToNat, Int.reduceAdd]; with_reducible exact rfl))
        | with_reducible apply wp_bI
        | with_reducible apply wp_bV
        | with_reducible apply wp_bL
        | with_reducible apply wp_rI
        | with_reducible apply wp_rV
        | with_reducible apply wp_rL
        | (with_reducible apply wp_1; (first | omega | (simp (disch := omega) only [not_false_eq_true, not_true_eq_false, w32_id, tLt, fLt, tLe, fEq, itE, and_true, true_and, and_self, and_false, false_and, ↓reduceIte, nat_add, nat_mul3, nat_mul4, nat_mul6, nat_mul15, nat_mul60, nat_cast, nc1, Int.reduceToNat, upE, upN, fill_ne, fill_in, i0, Int.reduceAdd] <;> omega)))
        | (with_reducible apply wp_2; (first | omega | (simp (disch := omega) only [not_false_eq_true, not_true_eq_false, w32_id, tLt, fLt, tLe, fEq, itE, and_true, true_and, and_self, and_false, false_and, ↓reduceIte, nat_add, nat_mul3, nat_mul4, nat_mul6, nat_mul15, nat_mul60, nat_cast, nc1, Int.reduceToNat, upE, upN, fill_ne, fill_in, i0, Int.reduceAdd] <;> omega)))
        | (with_reducible apply wp_s; (first | (simp (disch := omega) only [not_false_eq_true, not_true_eq_false, w32_id, tLt, fLt, tLe, fEq, itE, and_true, true_and, and_self, and_false, false_and, ↓reduceIte, nat_add, nat_mul3, nat_mul4, nat_mul6, nat_mul15, nat_mul60, nat_cast, nc1, Int.reduceToNat, upE, upN, fill_ne, fill_in, i0, Int.reduceAdd]; with_reducible exact Iff.rfl) | with_reducible exact Iff.rfl); intro hc__; (try subst hc__); rotate_left; intro hc__; rotate_left)
        | (with_reducible apply wp_eq; (with_reducible apply cl_go; simp (disch := omega) only [not_false_eq_true, not_true_eq_false, w32_id, tLt, fLt, tLe, fEq, itE, and_true, true_and, and_self, and_false, false_and, ↓reduceIte, nat_add, nat_mul3, nat_mul4, nat_mul6, nat_mul15, nat_mul60, nat_cast, nc1, Int.reduceToNat, upE, upN, fill_ne, fill_in, i0, Int.reduceAdd]; with_reducible exact rfl))
        | (with_reducible apply wp_eq; (with_reducible apply lf_go; simp (disch := omega) only [not_false_eq_true, not_true_eq_false, w32_id, tLt, fLt, tLe, fEq, itE, and_true, true_and, and_self, and_false, false_and, ↓reduceIte, nat_add, nat_mul3, nat_mul4, nat_mul6, nat_mul15, nat_mul60, nat_cast, nc1, Int.reduceToNat, upE, upN, fill_ne, fill_in, i0, Int.reduceAdd]; with_reducible exact rfl))
        | with_reducible apply wp_q1
      refine ⟨_, _, _, rfl, rfl, rfl, fun k hk => ?_, fun b j y => by rw [upN (by omega)]; exact i2 b j y⟩
      unfold dA
      by_cases z : k = 6
      · rw [if_pos z, z, upE rfl rfl]
      · rw [if_neg z, upN (by omega)]; exact i1 k hk
  obtain ⟨_, _, Ma, c, rfl, rfl, k⟩ := key
  exact ⟨Ma, c, k⟩
theorem c_clear (hd : 4 ≤ d) : ∃ Ma, callD d m_State_clear [vR 5 0 65] (SH L) M = some (none, SH L, Ma) ∧ (∀ k, k < 4 → Ma 67 k = 0) ∧ (∀ k, k < 6 → Ma 76 k = 0) ∧ (∀ p g, p < 6 → g < 8 → Ma (82 + p) g = 0) ∧ (∀ p g, p < 6 → g < 6 → Ma (89 + p) g = 0) ∧ Ma 66 12 = 0 ∧ Ma 98 7 = 0 ∧ Ma 65 3 = 0 ∧ ∀ b j, ¬(65 ≤ b ∧ b ≤ 111) → Ma b j = M b j := by
  have ch66 : isCh 66 := Or.inr (Or.inl rfl)
  have st65 : isSt 65 := Or.inr (Or.inl rfl)
  have rs := rS (L := L) st65
  have rc := rC (L := L) ch66
  have key : Wp (callD d m_State_clear [vR 5 0 65] (SH L) M) (fun r S Ma => r = none ∧ S = SH L ∧ (∀ k, k < 4 → Ma 67 k = 0) ∧ (∀ k, k < 6 → Ma 76 k = 0) ∧ (∀ p g, p < 6 → g < 8 → Ma (82 + p) g = 0) ∧ (∀ p g, p < 6 → g < 6 → Ma (89 + p) g = 0) ∧ Ma 66 12 = 0 ∧ Ma 98 7 = 0 ∧ Ma 65 3 = 0 ∧ ∀ b j, ¬(65 ≤ b ∧ b ≤ 111) → Ma b j = M b j) := by
    have e1 := s_fill0 (S := SH L) (a := 67) (n := 4) (v := 0) (d := d - 1 - 1) (M := M) (by omega) (by omega)
    have e2 := s_fill0 (S := SH L) (a := 76) (n := 6) (v := 0) (d := d - 1 - 1) (M := fillP M 67 (fun _ => 0) 4) (by omega) (by omega)
    rw [show ((4 : Nat) : Int) = 4 from rfl] at e1
    rw [show ((6 : Nat) : Int) = 6 from rfl] at e2
    repeat' first
      | (with_reducible apply wp_bR; (simp (disch := omega) only [rM L, rK L, rN L, rNf, rNv, rNp, rNd, rRow, rLeg, rMark, nat_cast, Int.reduceToNat, rs, rc]; with_reducible exact rfl))
      | with_reducible apply wp_bI
      | with_reducible apply wp_bV
      | with_reducible apply wp_bL
      | with_reducible apply wp_rI
      | with_reducible apply wp_rV
      | with_reducible apply wp_rL
      | (with_reducible apply wp_1; (first | omega | (simp (disch := omega) only [not_false_eq_true, not_true_eq_false, w32_id, tLt, fLt, tLe, fEq, itE, and_true, true_and, and_self, and_false, false_and, ↓reduceIte, nat_add, nat_mul3, nat_mul4, nat_mul6, nat_mul15, nat_mul60, nat_cast, nc1, Int.reduceToNat, upE, upN, fill_ne, fill_in, i0, rs, rc] <;> omega)))
      | (with_reducible apply wp_2; (first | omega | (simp (disch := omega) only [not_false_eq_true, not_true_eq_false, w32_id, tLt, fLt, tLe, fEq, itE, and_true, true_and, and_self, and_false, false_and, ↓reduceIte, nat_add, nat_mul3, nat_mul4, nat_mul6, nat_mul15, nat_mul60, nat_cast, nc1, Int.reduceToNat, upE, upN, fill_ne, fill_in, i0, rs, rc] <;> omega)))
      | (with_reducible apply wp_s; (first | (simp (disch := omega) only [not_false_eq_true, not_true_eq_false, w32_id, tLt, fLt, tLe, fEq, itE, and_true, true_and, and_self, and_false, false_and, ↓reduceIte, nat_add, nat_mul3, nat_mul4, nat_mul6, nat_mul15, nat_mul60, nat_cast, nc1, Int.reduceToNat, upE, upN, fill_ne, fill_in, i0, rs, rc]; with_reducible exact Iff.rfl) | with_reducible exact Iff.rfl); intro hc__; (try subst hc__); rotate_left; intro hc__; rotate_left)
      | (with_reducible apply wp_eq; (with_reducible apply cl_go; simp (disch := omega) only [not_false_eq_true, not_true_eq_false, w32_id, tLt, fLt, tLe, fEq, itE, and_true, true_and, and_self, and_false, false_and, ↓reduceIte, nat_add, nat_mul3, nat_mul4, nat_mul6, nat_mul15, nat_mul60, nat_cast, nc1, Int.reduceToNat, upE, upN, fill_ne, fill_in, i0, rs, rc]; with_reducible exact rfl))
      | (with_reducible refine wp_eq (c_State_clear (by omega) _ _ _) ?_; with_reducible refine wp_eq (b_State_clear_0 _ _ _ _) ?_)
      | (with_reducible refine wp_eq (c_Chart_clear (by omega) _ _ _) ?_; with_reducible refine wp_eq (b_Chart_clear_0 _ _ _ _) ?_)
      | with_reducible refine wp_eq (e1) ?_
      | with_reducible refine wp_eq (e2) ?_
      | (with_reducible apply wp_eq; (with_reducible apply lf_go; simp (disch := omega) only [not_false_eq_true, not_true_eq_false, w32_id, tLt, fLt, tLe, fEq, itE, and_true, true_and, and_self, and_false, false_and, ↓reduceIte, nat_add, nat_mul3, nat_mul4, nat_mul6, nat_mul15, nat_mul60, nat_cast, nc1, Int.reduceToNat, upE, upN, fill_ne, fill_in, i0, rs, rc]; with_reducible exact rfl))
      | with_reducible apply wp_q1
    refine wp_loop (α := Mm) (G := fun i a => Run (callD (d - 1 - 1)) tb_Chart_clear 18 [vR 0 0 66, vI (i : Int)] [] (SH L) a) (I := fun i a => (∀ k, k < 4 → a 67 k = 0) ∧ (∀ k, k < 6 → a 76 k = 0) ∧ (∀ p g, p < i → g < 8 → a (82 + p) g = 0) ∧ (∀ p g, p < i → g < 6 → a (89 + p) g = 0) ∧ ∀ b j, ¬(65 ≤ b ∧ b ≤ 111) → a b j = M b j) 6 ?_ ?_ 0 _ (by omega) ⟨fun k hk => by rw [fill_ne (by omega), fill_in rfl hk], fun k hk => fill_in rfl hk, fun _ _ h => by omega, fun _ _ h => by omega, fun b j y => by rw [fill_ne (by omega), fill_ne (by omega)]⟩
    · intro i Mb hi ⟨i1, i2, i3, i4, i5⟩ ih
      have r1 := rCp (L := L) ch66 hi
      have r2 := rCd (L := L) ch66 hi
      have e3 := s_fill0 (S := SH L) (a := 82 + i) (n := 8) (v := 0) (d := d - 1 - 1) (M := Mb) (by omega) (by omega)
      have e4 := s_fill0 (S := SH L) (a := 89 + i) (n := 6) (v := 0) (d := d - 1 - 1) (M := fillP Mb (82 + i) (fun _ => 0) 8) (by omega) (by omega)
      rw [show ((8 : Nat) : Int) = 8 from rfl] at e3
      rw [show ((6 : Nat) : Int) = 6 from rfl] at e4
      refine wp_eq (b_Chart_clear_18 _ _ _ _ _) ?_
      repeat' first
        | (with_reducible apply wp_bR; (simp (disch := omega) only [rM L, rK L, rN L, rNf, rNv, rNp, rNd, rRow, rLeg, rMark, nat_cast, Int.reduceToNat, rc, r1, r2]; with_reducible exact rfl))
        | with_reducible apply wp_bI
        | with_reducible apply wp_bV
        | with_reducible apply wp_bL
        | with_reducible apply wp_rI
        | with_reducible apply wp_rV
        | with_reducible apply wp_rL
        | (with_reducible apply wp_1; (first | omega | (simp (disch := omega) only [not_false_eq_true, not_true_eq_false, w32_id, tLt, fLt, tLe, fEq, itE, and_true, true_and, and_self, and_false, false_and, ↓reduceIte, nat_add, nat_mul3, nat_mul4, nat_mul6, nat_mul15, nat_mul60, nat_cast, nc1, Int.reduceToNat, upE, upN, fill_ne, fill_in, i0, rc, r1, r2] <;> omega)))
        | (with_reducible apply wp_2; (first | omega | (simp (disch := omega) only [not_false_eq_true, not_true_eq_false, w32_id, tLt, fLt, tLe, fEq, itE, and_true, true_and, and_self, and_false, false_and, ↓reduceIte, nat_add, nat_mul3, nat_mul4, nat_mul6, nat_mul15, nat_mul60, nat_cast, nc1, Int.reduceToNat, upE, upN, fill_ne, fill_in, i0, rc, r1, r2] <;> omega)))
        | (with_reducible apply wp_s; (first | (simp (disch := omega) only [not_false_eq_true, not_true_eq_false, w32_id, tLt, fLt, tLe, fEq, itE, and_true, true_and, and_self, and_false, false_and, ↓reduceIte, nat_add, nat_mul3, nat_mul4, nat_mul6, nat_mul15, nat_mul60, nat_cast, nc1, Int.reduceToNat, upE, upN, fill_ne, fill_in, i0, rc, r1, r2]; with_reducible exact Iff.rfl) | with_reducible exact Iff.rfl); intro hc__; (try subst hc__); rotate_left; intro hc__; rotate_left)
        | (with_reducible apply wp_eq; (with_reducible apply cl_go; simp (disch := omega) only [not_false_eq_true, not_true_eq_false, w32_id, tLt, fLt, tLe, fEq, itE, and_true, true_and, and_self, and_false, false_and, ↓reduceIte, nat_add, nat_mul3, nat_mul4, nat_mul6, nat_mul15, nat_mul60, nat_cast, nc1, Int.reduceToNat, upE, upN, fill_ne, fill_in, i0, rc, r1, r2]; with_reducible exact rfl))
        | with_reducible refine wp_eq (e3) ?_
        | with_reducible refine wp_eq (e4) ?_
        | (with_reducible apply wp_eq; (with_reducible apply lf_go; simp (disch := omega) only [not_false_eq_true, not_true_eq_false, w32_id, tLt, fLt, tLe, fEq, itE, and_true, true_and, and_self, and_false, false_and, ↓reduceIte, nat_add, nat_mul3, nat_mul4, nat_mul6, nat_mul15, nat_mul60, nat_cast, nc1, Int.reduceToNat, upE, upN, fill_ne, fill_in, i0, rc, r1, r2]; with_reducible exact rfl))
        | with_reducible apply wp_q1
      apply wp_nx ih
      · simp (disch := omega) only [not_false_eq_true, not_true_eq_false, w32_id, tLt, fLt, tLe, fEq, itE, and_true, true_and, and_self, and_false, false_and, ↓reduceIte, nat_add, nat_mul3, nat_mul4, nat_mul6, nat_mul15, nat_mul60, nat_cast, nc1, Int.reduceToNat, upE, upN, fill_ne, fill_in, i0]
        with_reducible rfl
      · refine ⟨fun k hk => by rw [fill_ne (by omega), fill_ne (by omega)]; exact i1 k hk, fun k hk => by rw [fill_ne (by omega), fill_ne (by omega)]; exact i2 k hk, fun p g hp hg => ?_, fun p g hp hg => ?_, fun b j y => by rw [fill_ne (by omega), fill_ne (by omega)]; exact i5 b j y⟩
        · by_cases z : p = i
          · rw [z, fill_ne (by omega), fill_in rfl hg]
          · rw [fill_ne (by omega), fill_ne (by omega)]; exact i3 p g (by omega) hg
        · by_cases z : p = i
          · rw [z, fill_in rfl hg]
          · rw [fill_ne (by omega), fill_ne (by omega)]; exact i4 p g (by omega) hg
    · intro Mb ⟨i1, i2, i3, i4, i5⟩
      refine wp_eq (b_Chart_clear_18 _ _ _ _ _) ?_
      repeat' first
        | (with_reducible apply wp_bR; (simp (disch := omega) only [rM L, rK L, rN L, rNf, rNv, rNp, rNd, rRow, rLeg, rMark, nat_cast, Int.reduceToNat, rc, rs]; with_reducible exact rfl))
        | with_reducible apply wp_bI
        | with_reducible apply wp_bV
        | with_reducible apply wp_bL
        | with_reducible apply wp_rI
        | with_reducible apply wp_rV
        | with_reducible apply wp_rL
        | (with_reducible apply wp_1; (first | omega | (simp (disch := omega) only [not_false_eq_true, not_true_eq_false, w32_id, tLt, fLt, tLe, fEq, itE, and_true, true_and, and_self, and_false, false_and, ↓reduceIte, nat_add, nat_mul3, nat_mul4, nat_mul6, nat_mul15, nat_mul60, nat_cast, nc1, Int.reduceToNat, upE, upN, fill_ne, fill_in, i0, rc, rs] <;> omega)))
        | (with_reducible apply wp_2; (first | omega | (simp (disch := omega) only [not_false_eq_true, not_true_eq_false, w32_id, tLt, fLt, tLe, fEq, itE, and_true, true_and, and_self, and_false, false_and, ↓reduceIte, nat_add, nat_mul3, nat_mul4, nat_mul6, nat_mul15, nat_mul60, nat_cast, nc1, Int.reduceToNat, upE, upN, fill_ne, fill_in, i0, rc, rs] <;> omega)))
        | (with_reducible apply wp_s; (first | (simp (disch := omega) only [not_false_eq_true, not_true_eq_false, w32_id, tLt, fLt, tLe, fEq, itE, and_true, true_and, and_self, and_false, false_and, ↓reduceIte, nat_add, nat_mul3, nat_mul4, nat_mul6, nat_mul15, nat_mul60, nat_cast, nc1, Int.reduceToNat, upE, upN, fill_ne, fill_in, i0, rc, rs]; with_reducible exact Iff.rfl) | with_reducible exact Iff.rfl); intro hc__; (try subst hc__); rotate_left; intro hc__; rotate_left)
        | (with_reducible apply wp_eq; (with_reducible apply cl_go; simp (disch := omega) only [not_false_eq_true, not_true_eq_false, w32_id, tLt, fLt, tLe, fEq, itE, and_true, true_and, and_self, and_false, false_and, ↓reduceIte, nat_add, nat_mul3, nat_mul4, nat_mul6, nat_mul15, nat_mul60, nat_cast, nc1, Int.reduceToNat, upE, upN, fill_ne, fill_in, i0, rc, rs]; with_reducible exact rfl))
        | (with_reducible refine wp_eq (c_Plan_clear (by omega) _ _ _) ?_; with_reducible refine wp_eq (b_Plan_clear_0 _ _ _ _) ?_)
        | (with_reducible apply wp_eq; (with_reducible apply lf_go; simp (disch := omega) only [not_false_eq_true, not_true_eq_false, w32_id, tLt, fLt, tLe, fEq, itE, and_true, true_and, and_self, and_false, false_and, ↓reduceIte, nat_add, nat_mul3, nat_mul4, nat_mul6, nat_mul15, nat_mul60, nat_cast, nc1, Int.reduceToNat, upE, upN, fill_ne, fill_in, i0, rc, rs]; with_reducible exact rfl))
        | with_reducible apply wp_q1
      refine ⟨_, _, _, rfl, rfl, rfl, fun k hk => ?_, fun k hk => ?_, fun p g hp hg => ?_, fun p g hp hg => ?_, ?_, ?_, ?_, fun b j y => ?_⟩
      · simp (disch := omega) only [not_false_eq_true, not_true_eq_false, w32_id, tLt, fLt, tLe, fEq, itE, and_true, true_and, and_self, and_false, false_and, ↓reduceIte, nat_add, nat_mul3, nat_mul4, nat_mul6, nat_mul15, nat_mul60, nat_cast, nc1, Int.reduceToNat, upE, upN, fill_ne, fill_in, i0]; exact i1 k hk
      · simp (disch := omega) only [not_false_eq_true, not_true_eq_false, w32_id, tLt, fLt, tLe, fEq, itE, and_true, true_and, and_self, and_false, false_and, ↓reduceIte, nat_add, nat_mul3, nat_mul4, nat_mul6, nat_mul15, nat_mul60, nat_cast, nc1, Int.reduceToNat, upE, upN, fill_ne, fill_in, i0]; exact i2 k hk
      · simp (disch := omega) only [not_false_eq_true, not_true_eq_false, w32_id, tLt, fLt, tLe, fEq, itE, and_true, true_and, and_self, and_false, false_and, ↓reduceIte, nat_add, nat_mul3, nat_mul4, nat_mul6, nat_mul15, nat_mul60, nat_cast, nc1, Int.reduceToNat, upE, upN, fill_ne, fill_in, i0]; exact i3 p g hp hg
      · simp (disch := omega) only [not_false_eq_true, not_true_eq_false, w32_id, tLt, fLt, tLe, fEq, itE, and_true, true_and, and_self, and_false, false_and, ↓reduceIte, nat_add, nat_mul3, nat_mul4, nat_mul6, nat_mul15, nat_mul60, nat_cast, nc1, Int.reduceToNat, upE, upN, fill_ne, fill_in, i0]; exact i4 p g hp hg
      · simp (disch := omega) only [not_false_eq_true, not_true_eq_false, w32_id, tLt, fLt, tLe, fEq, itE, and_true, true_and, and_self, and_false, false_and, ↓reduceIte, nat_add, nat_mul3, nat_mul4, nat_mul6, nat_mul15, nat_mul60, nat_cast, nc1, Int.reduceToNat, upE, upN, fill_ne, fill_in, i0]
      · simp (disch := omega) only [not_false_eq_true, not_true_eq_false, w32_id, tLt, fLt, tLe, fEq, itE, and_true, true_and, and_self, and_false, false_and, ↓reduceIte, nat_add, nat_mul3, nat_mul4, nat_mul6, nat_mul15, nat_mul60, nat_cast, nc1, Int.reduceToNat, upE, upN, fill_ne, fill_in, i0]
      · simp (disch := omega) only [not_false_eq_true, not_true_eq_false, w32_id, tLt, fLt, tLe, fEq, itE, and_true, true_and, and_self, and_false, false_and, ↓reduceIte, nat_add, nat_mul3, nat_mul4, nat_mul6, nat_mul15, nat_mul60, nat_cast, nc1, Int.reduceToNat, upE, upN, fill_ne, fill_in, i0]
      · simp (disch := omega) only [not_false_eq_true, not_true_eq_false, w32_id, tLt, fLt, tLe, fEq, itE, and_true, true_and, and_self, and_false, false_and, ↓reduceIte, nat_add, nat_mul3, nat_mul4, nat_mul6, nat_mul15, nat_mul60, nat_cast, nc1, Int.reduceToNat, upE, upN, fill_ne, fill_in, i0]; exact i5 b j y
  obtain ⟨_, _, Ma, c, rfl, rfl, k⟩ := key
  exact ⟨Ma, c, k⟩
/-- a draft in which nothing is told -/
theorem dd_zero (z : ∀ k, k < 572 → dA M2 k = if k = 6 then -1 else 0) (c1 : ∀ k, k < 4 → M1 67 k = 0) (c2 : ∀ k, k < 6 → M1 76 k = 0) (c3 : ∀ p g, p < 6 → g < 8 → M1 (82 + p) g = 0) (c4 : ∀ p g, p < 6 → g < 6 → M1 (89 + p) g = 0) (c5 : M1 66 12 = 0) (c6 : M1 98 7 = 0) (c7 : M1 65 3 = 0) (r1 : M1 15 0 = 0) (r2 : M2 271 20 = 0) : DD M1 M2 := by
  have z0 : ∀ k, k < 572 → k ≠ 6 → dA M2 k = 0 := fun k hk hn => by rw [z k hk, if_neg hn]
  have a0 := z0 0 (by omega) (by omega)
  have a1 := z0 1 (by omega) (by omega)
  have a2 := z0 2 (by omega) (by omega)
  have a3 := z0 3 (by omega) (by omega)
  refine ⟨⟨fun k hk => by rw [z0 k (by omega) (by omega)]; exact c1 k hk, fun k hk => ?_⟩, ⟨?_, fun g hg => ?_, fun m hm => ?_, fun p hp => ?_, fun p g hp hg => ?_, fun p r hp hr => ?_, fun i hi => ?_, ?_, fun a b ha hb => ?_⟩, ⟨fun m h1 h2 => ?_, fun g h1 h2 => ?_, fun s h1 h2 => ?_⟩, fun m hm => ?_, fun m h1 h2 => c2 m h1, ⟨c6, by rw [z 6 (by omega), if_pos rfl]⟩, ⟨fun i hi => ?_, fun i hi => ?_, fun i hi => ?_, fun i hi => ?_⟩, by rw [r1, r2], Or.inl r2⟩
  · have v := vd_VV hk
    unfold VV at v
    rw [z0 k (by omega) (by omega)]
    unfold vd at hk
    rw [a0, a1, a2, a3] at hk
    rcases hk with rfl | rfl | hk | hk | hk | hk
    · exact c5
    · exact c7
    · omega
    · omega
    · obtain ⟨h1, h2, h3⟩ := hk
      have h3 : (k - 56) % 15 ≠ 0 := by omega
      by_cases y : (k - 56) % 15 < 9
      · have c := cl_p (n := (k - 56) / 15) (w := (k - 56) % 15 - 1) (k := k) (by omega) (by omega) (by omega)
        rw [c.1, c.2, show 35 + (k - 56) / 15 + 47 = 82 + (k - 56) / 15 by omega]
        exact c3 _ _ (by omega) (by omega)
      · have c := cl_d (n := (k - 56) / 15) (w := (k - 56) % 15 - 9) (k := k) (by omega) (by omega) (by omega)
        rw [c.1, c.2, show 42 + (k - 56) / 15 + 47 = 89 + (k - 56) / 15 by omega]
        exact c4 _ _ (by omega) (by omega)
    · omega
  · unfold Cn
    rw [a0, a1, a2, a3, z0 4 (by omega) (by omega)]
    omega
  · omega
  · omega
  · omega
  · rw [z0 _ (by omega) (by omega)]; omega
  · rw [z0 _ (by omega) (by omega), z0 _ (by omega) (by omega), z0 _ (by omega) (by omega)]; omega
  · omega
  · rw [z0 5 (by omega) (by omega)]; omega
  · omega
  · rw [z0 _ (by omega) (by omega), z0 _ (by omega) (by omega), z0 _ (by omega) (by omega)]; exact ⟨rfl, rfl, rfl⟩
  · exact z0 _ (by omega) (by omega)
  · exact ⟨z0 _ (by omega) (by omega), z0 _ (by omega) (by omega), z0 _ (by omega) (by omega), fun g hg => z0 _ (by omega) (by omega)⟩
  · omega
  · omega
  · omega
  · omega
  · omega
def FcX (M M' : Mm) : Prop := ∀ b j, ¬(b = 12 ∧ 3 ≤ j) → b ≠ 15 → ¬(65 ≤ b ∧ b ≤ 111) → M' b j = M b j
def FmX (M M' : Mm) : Prop := ∀ b j, ¬(b = 271 ∧ 10 ≤ j ∧ j ≤ 20 ∧ j ≠ 16) → ¬(b = 272 ∧ 2288 ≤ j ∧ j < 2860) → ¬(b = 273 ∧ 96 ≤ j ∧ j < 120) → b ≠ 278 → M' b j = M b j
theorem k_world (h1 : 17 ≤ d1) (h2 : 17 ≤ d2) (h9 : n ≤ 900) (hb : ∀ k, k < n → M1 13 k = bt k ∧ -128 ≤ bt k ∧ bt k ≤ 127) (hb' : ∀ k, k < n → M2 277 k = bt k ∧ -128 ≤ bt k ∧ bt k ≤ 127) (hw : ∀ w, w < 31 → M1 14 w = wcode w) (ht : (n : Int) ≤ M2 271 10) : ∃ Ma, callD d1 m_Tape_begin [vR 6 0 12, vI (n : Int)] (SH L) M1 = some (none, SH L, Ma) ∧
    ((∃ M1' M2', callD d1 m_WorldText_takes [vR 10 0 15, vR 6 0 12, vR 5 0 65] (SH L) Ma = some (some (vI 1), SH L, M1') ∧ callD d2 m_Mo_world [vR 12 0 271, vI (n : Int)] (SH L) M2 = Run (callD (d2 - 1)) tb_Mo_world 59 [vR 12 0 271, vI (n : Int), vI 1, vI 0] [] (SH L) M2' ∧ DD M1' M2' ∧ (M1' 12 5 = 0 ∧ M2' 271 18 = 0 ∧ M2' 271 17 = -1 ∧ M2' 271 10 = 0) ∧ FcX M1 M1' ∧ FmX M2 M2') ∨
     (∃ M1' M2', callD d1 m_WorldText_takes [vR 10 0 15, vR 6 0 12, vR 5 0 65] (SH L) Ma = some (some (vI 0), SH L, M1') ∧ callD d2 m_Mo_world [vR 12 0 271, vI (n : Int)] (SH L) M2 = Run (callD (d2 - 1)) tb_Mo_world 31 [vR 12 0 271, vI (n : Int), vI 0, vU] [] (SH L) M2' ∧ FL M1' M2' ∧ M2' 271 10 = 0 ∧ FcX M1 M1' ∧ FmX M2 M2')) := by
  obtain ⟨q, e, hN⟩ := ex_nt bt n 0 (by omega)
  obtain ⟨Ma, c1, tb1, tc, z5, f1⟩ := c_begin (L := L) (d := d1) (by omega) h9 hb hw hN
  obtain ⟨Mb, c2, tb2, tm, ⟨y18, y17, y10⟩, f2⟩ := m_begins (L := L) (d := d2 - 1) (by omega) h9 (most := 900) (by omega) ht hb' hN
  obtain ⟨Mc, c3, p1, p2, p3, p4, p5, p6, p7, f3⟩ := c_clear (L := L) (d := d1 - 1) (M := Ma) (by omega)
  obtain ⟨Md, c4, zr, f4⟩ := m_plain (L := L) (d := d2 - 1) (M := Mb) (by omega)
  have tk0 : TK bt n q e Ma Mb := ⟨tb1, tb2, tc, tm, hN.2.2.2.2, z5, y18, y17⟩
  have tk : TK bt n q e (up Mc 15 0 0) (up Md 271 20 0) := tk0.fr (fun b j hb => by rw [upN (by omega), f3 _ _ (by omega)]) fun b j hb => by rw [upN (by omega), f4 _ _ (by omega)]
  have dd : DD (up Mc 15 0 0) (up Md 271 20 0) := dd_zero (fun k hk => by
    have := zr k hk
    unfold dA at this ⊢
    rw [upN (by omega)]
    exact this) (fun k hk => by rw [upN (by omega)]; exact p1 k hk) (fun k hk => by rw [upN (by omega)]; exact p2 k hk) (fun p g hp hg => by rw [upN (by omega)]; exact p3 p g hp hg) (fun p g hp hg => by rw [upN (by omega)]; exact p4 p g hp hg) (by rw [upN (by omega)]; exact p5) (by rw [upN (by omega)]; exact p6) (by rw [upN (by omega)]; exact p7) (upE rfl rfl) (upE rfl rfl)
  have fc : FcX M1 (up Mc 15 0 0) := fun b j x1 x2 x3 => by rw [upN (by omega), f3 b j x3, f1 b j x1]
  have fm : FmX M2 (up Md 271 20 0) := fun b j x1 x2 x3 x4 => by rw [upN (by omega), f4 b j x2, f2 b j (by omega) x4]
  have s1 : ∀ o, Run (callD (d1 - 1)) tb_WorldText_takes 11 [vR 10 0 15, vR 6 0 12, vR 5 0 65, vI ((0 : Nat) : Int)] [] (SH L) (up Mc 15 0 0) = o → callD d1 m_WorldText_takes [vR 10 0 15, vR 6 0 12, vR 5 0 65] (SH L) Ma = o := fun o ho => by
    rw [c_WorldText_takes (by omega), b_WorldText_takes_0, c3]
    exact ho
  have s2 : ∀ o, Run (callD (d2 - 1)) tb_Mo_world 31 [vR 12 0 271, vI (n : Int), vI 1, vU] [] (SH L) (up Md 271 20 0) = o → callD d2 m_Mo_world [vR 12 0 271, vI (n : Int)] (SH L) M2 = o := fun o ho => by
    rw [c_Mo_world (by omega), b_Mo_world_0, c2]
    show bndV (callD (d2 - 1) m_Mo_plain [vR 12 0 271, vI 2288] (SH L) Mb) (fun S3 M3 => Run (callD (d2 - 1)) tb_Mo_world 31 [vR 12 0 271, vI (n : Int), vI 1, vU] [] S3 (up M3 271 20 0)) = _
    rw [c4]
    exact ho
  have d10 : up Md 271 20 0 271 10 = 0 := by rw [upN (by omega), f4 _ _ (by omega)]; exact y10
  refine ⟨Ma, c1, ?_⟩
  rcases k_loop (L := L) (d1 := d1) (d2 := d2) (bt := bt) (n := n) (x := (n : Int)) (d3 := vU) (by omega) (by omega) n q e (up Mc 15 0 0) (up Md 271 20 0) 0 (by omega) (by omega) tk dd with ⟨M1', M2', r1, r2, z1, ⟨z2, z3, z4⟩, g1, g2⟩ | ⟨M1', M2', r1, r2, z1, g1, g2⟩
  · left
    exact ⟨M1', M2', s1 _ r1, s2 _ r2, z1, ⟨z2, z3, z4, by rw [g2 _ _ (by omega) (by omega) (by omega)]; exact d10⟩, fun b j x1 x2 x3 => by rw [g1 b j (by omega) x2 x3]; exact fc b j x1 x2 x3, fun b j x1 x2 x3 x4 => by rw [g2 b j (by omega) x2 x3]; exact fm b j x1 x2 x3 x4⟩
  · right
    exact ⟨M1', M2', s1 _ r1, s2 _ r2, z1, by rw [g2 _ _ (by omega) (by omega) (by omega)]; exact d10, fun b j x1 x2 x3 => by rw [g1 b j (by omega) x2 x3]; exact fc b j x1 x2 x3, fun b j x1 x2 x3 x4 => by rw [g2 b j (by omega) x2 x3]; exact fm b j x1 x2 x3 x4⟩
end

/-! whether a load of two goods fits a log, in the class -/
theorem wp_un {o : Option Rs} {r : Option AV} {S : Sp} {M : Mm} (h : Wp o (fun r' S' M' => r' = r ∧ S' = S ∧ M' = M)) : o = some (r, S, M) := by
  obtain ⟨r', S', M', e, rfl, rfl, rfl⟩ := h
  exact e
def fitI (F q : Nat → Int) : Nat → Int
  | 0 => 1
  | n + 1 => if F n = q n then fitI F q n else 0
theorem fitI_s (F q : Nat → Int) (n : Nat) : fitI F q (n + 1) = if F n = q n then fitI F q n else 0 := rfl
theorem fitI_01 (F q : Nat → Int) : ∀ n, fitI F q n = 0 ∨ fitI F q n = 1
  | 0 => Or.inr rfl
  | n + 1 => by
    rw [fitI_s]
    split
    · exact fitI_01 F q n
    · exact Or.inl rfl
theorem fitI_no {F q : Nat → Int} {k : Nat} (h : F k ≠ q k) : ∀ {n : Nat}, k < n → fitI F q n = 0
  | n + 1, hk => by
    rw [fitI_s]
    by_cases e : k = n
    · subst e; rw [if_neg h]
    · split
      · exact fitI_no h (by omega)
      · rfl
theorem fitI_congr {F q F' q' : Nat → Int} : ∀ {n : Nat}, (∀ k, k < n → F k = F' k) → (∀ k, k < n → q k = q' k) → fitI F q n = fitI F' q' n
  | 0, _, _ => rfl
  | n + 1, h, h' => by rw [fitI_s, fitI_s, h n (by omega), h' n (by omega), fitI_congr (fun k hk => h k (by omega)) fun k hk => h' k (by omega)]
/-- the flag on day k of x tons of a and y tons of b that leak -/
def f2d (A : Nat → Int) (a : Nat) (x : Int) (b : Nat) (y : Int) (k : Nat) : Int := f2 A a (max 0 (x - (k : Int) * A (34 + 3 * a))) b (max 0 (y - (k : Int) * A (34 + 3 * b)))
section
variable {M : Mm} {A : Nat → Int} {L d : Nat}
theorem o_two (hd : 1 ≤ d) (hW : ChW M 19 A) (hC' : Cn A) (hG : Gd A) {a b : Nat} {x y : Int} (ha : (a : Int) < A 1) (hb : (b : Int) < A 1) (hx : 0 ≤ x ∧ x ≤ 60) (hy : 0 ≤ y ∧ y ≤ 60) : callD d m_Outlook_flagOfTwo [vR 0 0 19, vI (a : Int), vI x, vI (b : Int), vI y] (SH L) M = some (some (vI (f2 A a x b y)), SH L, M) := by
  refine wp_un ?_
  have hC := hC'
  unfold Cn at hC
  obtain ⟨g1, g2, g3⟩ := hW.2.2.2.1 a ha
  obtain ⟨k1', k2, k3⟩ := hW.2.2.2.1 b hb
  have l := hW.2.1
  obtain ⟨ga1, ga2, ga3, ga4, -⟩ := hG a ha
  obtain ⟨gb1, gb2, gb3, gb4, -⟩ := hG b hb
  have m1 := mul_bd hx.1 hx.2 (show 0 ≤ A (33 + 3 * a) by omega) ga4
  have m2 := mul_bd hy.1 hy.2 (show 0 ≤ A (33 + 3 * b) by omega) gb4
  repeat' first
    | (with_reducible apply wp_bR; (simp (disch := omega) only [rM L, rK L, rN L, rNf, rNv, rNp, rNd, rRow, rLeg, rMark, nat_cast, Int.reduceToNat, g1, g2, k1', k2, l]; with_reducible exact rfl))
    | with_reducible apply wp_bI
    | with_reducible apply wp_bV
    | with_reducible apply wp_bL
    | with_reducible apply wp_rI
    | with_reducible apply wp_rV
    | with_reducible apply wp_rL
    | (with_reducible apply wp_1; (first | omega | (simp (disch := omega) only [not_false_eq_true, not_true_eq_false, w32_id, tLt, fLt, tLe, fEq, itE, and_true, true_and, and_self, and_false, false_and, ↓reduceIte, nat_add, nat_mul3, nat_mul4, nat_mul6, nat_mul15, nat_mul60, nat_cast, nc1, Int.reduceToNat, upE, upN, fill_ne, fill_in, i0, g1, g2, k1', k2, l] <;> omega)))
    | (with_reducible apply wp_2; (first | omega | (simp (disch := omega) only [not_false_eq_true, not_true_eq_false, w32_id, tLt, fLt, tLe, fEq, itE, and_true, true_and, and_self, and_false, false_and, ↓reduceIte, nat_add, nat_mul3, nat_mul4, nat_mul6, nat_mul15, nat_mul60, nat_cast, nc1, Int.reduceToNat, upE, upN, fill_ne, fill_in, i0, g1, g2, k1', k2, l] <;> omega)))
    | (with_reducible apply wp_s; (first | (simp (disch := omega) only [not_false_eq_true, not_true_eq_false, w32_id, tLt, fLt, tLe, fEq, itE, and_true, true_and, and_self, and_false, false_and, ↓reduceIte, nat_add, nat_mul3, nat_mul4, nat_mul6, nat_mul15, nat_mul60, nat_cast, nc1, Int.reduceToNat, upE, upN, fill_ne, fill_in, i0, g1, g2, k1', k2, l]; with_reducible exact Iff.rfl) | with_reducible exact Iff.rfl); intro hc__; (try subst hc__); rotate_left; intro hc__; rotate_left)
    | (with_reducible apply wp_eq; (with_reducible apply cl_go; simp (disch := omega) only [not_false_eq_true, not_true_eq_false, w32_id, tLt, fLt, tLe, fEq, itE, and_true, true_and, and_self, and_false, false_and, ↓reduceIte, nat_add, nat_mul3, nat_mul4, nat_mul6, nat_mul15, nat_mul60, nat_cast, nc1, Int.reduceToNat, upE, upN, fill_ne, fill_in, i0, g1, g2, k1', k2, l]; with_reducible exact rfl))
    | (with_reducible refine wp_eq (c_Outlook_flagOfTwo (by omega) _ _ _ _ _ _ _) ?_; with_reducible refine wp_eq (b_Outlook_flagOfTwo_0 _ _ _ _ _ _ _ _) ?_)
    | (with_reducible apply wp_eq; (with_reducible apply lf_go; simp (disch := omega) only [not_false_eq_true, not_true_eq_false, w32_id, tLt, fLt, tLe, fEq, itE, and_true, true_and, and_self, and_false, false_and, ↓reduceIte, nat_add, nat_mul3, nat_mul4, nat_mul6, nat_mul15, nat_mul60, nat_cast, nc1, Int.reduceToNat, upE, upN, fill_ne, fill_in, i0, g1, g2, k1', k2, l]; with_reducible exact rfl))
    | with_reducible apply wp_q1
  all_goals refine ⟨_, _, _, rfl, ?_, rfl, rfl⟩
  all_goals (refine congrArg (fun z => some (vI z)) ?_; unfold f2 vG; simp (disch := omega) only [not_false_eq_true, not_true_eq_false, w32_id, tLt, fLt, tLe, fEq, itE, and_true, true_and, and_self, and_false, false_and, ↓reduceIte, nat_add, nat_mul3, nat_mul4, nat_mul6, nat_mul15, nat_mul60, nat_cast, nc1, Int.reduceToNat, upE, upN, fill_ne, fill_in, i0, if_pos, if_neg]; (try omega))
theorem o_fits (hd : 2 ≤ d) (hW : ChW M 19 A) (hC' : Cn A) (hG : Gd A) {a b n : Nat} {x y : Int} {q : Nat → Int} (ha : (a : Int) < A 1) (hb : (b : Int) < A 1) (hx : 0 ≤ x ∧ x ≤ 60) (hy : 0 ≤ y ∧ y ≤ 60) (hn : n ≤ 20) (hq : ∀ k, k < n → M 115 k = q k) : callD d m_Outlook_fits [vR 2 0 113, vR 0 0 19, vI (a : Int), vI x, vI (b : Int), vI y, vI (n : Int)] (SH L) M = some (some (vI (fitI (f2d A a x b y) q n)), SH L, M) := by
  refine wp_un ?_
  have hC := hC'
  unfold Cn at hC
  obtain ⟨-, -, g3⟩ := hW.2.2.2.1 a ha
  obtain ⟨-, -, k3⟩ := hW.2.2.2.1 b hb
  obtain ⟨-, -, -, -, ga5, ga6⟩ := hG a ha
  obtain ⟨-, -, -, -, gb5, gb6⟩ := hG b hb
  repeat' first
    | (with_reducible apply wp_bR; (simp (disch := omega) only [rM L, rK L, rN L, rNf, rNv, rNp, rNd, rRow, rLeg, rMark, nat_cast, Int.reduceToNat]; with_reducible exact rfl))
    | with_reducible apply wp_bI
    | with_reducible apply wp_bV
    | with_reducible apply wp_bL
    | with_reducible apply wp_rI
    | with_reducible apply wp_rV
    | with_reducible apply wp_rL
    | (with_reducible apply wp_1; (first | omega | (simp (disch := omega) only [not_false_eq_true, not_true_eq_false, w32_id, tLt, fLt, tLe, fEq, itE, and_true, true_and, and_self, and_false, false_and, ↓reduceIte, nat_add, nat_mul3, nat_mul4, nat_mul6, nat_mul15, nat_mul60, nat_cast, nc1, Int.reduceToNat, upE, upN, fill_ne, fill_in, i0] <;> omega)))
    | (with_reducible apply wp_2; (first | omega | (simp (disch := omega) only [not_false_eq_true, not_true_eq_false, w32_id, tLt, fLt, tLe, fEq, itE, and_true, true_and, and_self, and_false, false_and, ↓reduceIte, nat_add, nat_mul3, nat_mul4, nat_mul6, nat_mul15, nat_mul60, nat_cast, nc1, Int.reduceToNat, upE, upN, fill_ne, fill_in, i0] <;> omega)))
    | (with_reducible apply wp_s; (first | (simp (disch := omega) only [not_false_eq_true, not_true_eq_false, w32_id, tLt, fLt, tLe, fEq, itE, and_true, true_and, and_self, and_false, false_and, ↓reduceIte, nat_add, nat_mul3, nat_mul4, nat_mul6, nat_mul15, nat_mul60, nat_cast, nc1, Int.reduceToNat, upE, upN, fill_ne, fill_in, i0]; with_reducible exact Iff.rfl) | with_reducible exact Iff.rfl); intro hc__; (try subst hc__); rotate_left; intro hc__; rotate_left)
    | (with_reducible apply wp_eq; (with_reducible apply cl_go; simp (disch := omega) only [not_false_eq_true, not_true_eq_false, w32_id, tLt, fLt, tLe, fEq, itE, and_true, true_and, and_self, and_false, false_and, ↓reduceIte, nat_add, nat_mul3, nat_mul4, nat_mul6, nat_mul15, nat_mul60, nat_cast, nc1, Int.reduceToNat, upE, upN, fill_ne, fill_in, i0]; with_reducible exact rfl))
    | (with_reducible refine wp_eq (c_Outlook_fits (by omega) _ _ _ _ _ _ _ _ _) ?_; with_reducible refine wp_eq (b_Outlook_fits_0 _ _ _ _ _ _ _ _ _ _) ?_)
    | (with_reducible apply wp_eq; (with_reducible apply lf_go; simp (disch := omega) only [not_false_eq_true, not_true_eq_false, w32_id, tLt, fLt, tLe, fEq, itE, and_true, true_and, and_self, and_false, false_and, ↓reduceIte, nat_add, nat_mul3, nat_mul4, nat_mul6, nat_mul15, nat_mul60, nat_cast, nc1, Int.reduceToNat, upE, upN, fill_ne, fill_in, i0]; with_reducible exact rfl))
    | with_reducible apply wp_q1
  refine wp_loop (α := Int × Int) (G := fun k u => Run (callD (d - 1)) tb_Outlook_fits 10 [vR 2 0 113, vR 0 0 19, vI (a : Int), vI x, vI (b : Int), vI y, vI (n : Int), vI u.1, vI u.2, vI (k : Int)] [] (SH L) M) (I := fun k u => u.1 = max 0 (x - (k : Int) * A (34 + 3 * a)) ∧ u.2 = max 0 (y - (k : Int) * A (34 + 3 * b)) ∧ fitI (f2d A a x b y) q k = 1) n ?_ ?_ 0 (x, y) (by omega) ⟨by dsimp only; rw [n0, Int.zero_mul]; omega, by dsimp only; rw [n0, Int.zero_mul]; omega, rfl⟩
  · intro k ⟨u, v⟩ hk ⟨hu, hv, hf⟩ ih
    have hu : u = max 0 (x - (k : Int) * A (34 + 3 * a)) := hu
    have hv : v = max 0 (y - (k : Int) * A (34 + 3 * b)) := hv
    have p1 := mul_bd (show (0 : Int) ≤ k by omega) (show (k : Int) ≤ 20 by omega) ga5 ga6
    have p2 := mul_bd (show (0 : Int) ≤ k by omega) (show (k : Int) ≤ 20 by omega) gb5 gb6
    have e1 : ((k + 1 : Nat) : Int) * A (34 + 3 * a) = (k : Int) * A (34 + 3 * a) + A (34 + 3 * a) := by push_cast; rw [Int.add_mul, Int.one_mul]
    have e2 : ((k + 1 : Nat) : Int) * A (34 + 3 * b) = (k : Int) * A (34 + 3 * b) + A (34 + 3 * b) := by push_cast; rw [Int.add_mul, Int.one_mul]
    have e := o_two (L := L) (d := d - 1) (by omega) hW hC' hG (x := u) (y := v) ha hb (by omega) (by omega)
    have hqk := hq k hk
    have hfd : f2d A a x b y k = f2 A a u b v := by unfold f2d; rw [hu, hv]
    by_cases c : f2 A a u b v = q k
    · refine wp_eq (b_Outlook_fits_10 _ _ _ _ _ _ _ _ _ _ _ _ _) ?_
      repeat' first
        | (with_reducible apply wp_bR; (simp (disch := omega) only [rM L, rK L, rN L, rNf, rNv, rNp, rNd, rRow, rLeg, rMark, nat_cast, Int.reduceToNat, g3, k3, hqk]; with_reducible exact rfl))
        | with_reducible apply wp_bI
        | with_reducible apply wp_bV
        | with_reducible apply wp_bL
        | with_reducible apply wp_rI
        | with_reducible apply wp_rV
        | with_reducible apply wp_rL
        | (with_reducible apply wp_1; (first | omega | (simp (disch := omega) only [not_false_eq_true, not_true_eq_false, w32_id, tLt, fLt, tLe, fEq, itE, and_true, true_and, and_self, and_false, false_and, ↓reduceIte, nat_add, nat_mul3, nat_mul4, nat_mul6, nat_mul15, nat_mul60, nat_cast, nc1, Int.reduceToNat, upE, upN, fill_ne, fill_in, i0, g3, k3, hqk] <;> omega)))
        | (with_reducible apply wp_2; (first | omega | (simp (disch := omega) only [not_false_eq_true, not_true_eq_false, w32_id, tLt, fLt, tLe, fEq, itE, and_true, true_and, and_self, and_false, false_and, ↓reduceIte, nat_add, nat_mul3, nat_mul4, nat_mul6, nat_mul15, nat_mul60, nat_cast, nc1, Int.reduceToNat, upE, upN, fill_ne, fill_in, i0, g3, k3, hqk] <;> omega)))
        | (with_reducible apply wp_s; (first | (simp (disch := omega) only [not_false_eq_true, not_true_eq_false, w32_id, tLt, fLt, tLe, fEq, itE, and_true, true_and, and_self, and_false, false_and, ↓reduceIte, nat_add, nat_mul3, nat_mul4, nat_mul6, nat_mul15, nat_mul60, nat_cast, nc1, Int.reduceToNat, upE, upN, fill_ne, fill_in, i0, g3, k3, hqk]; with_reducible exact Iff.rfl) | with_reducible exact Iff.rfl); intro hc__; (try subst hc__); rotate_left; intro hc__; rotate_left)
        | (with_reducible apply wp_eq; (with_reducible apply cl_go; simp (disch := omega) only [not_false_eq_true, not_true_eq_false, w32_id, tLt, fLt, tLe, fEq, itE, and_true, true_and, and_self, and_false, false_and, ↓reduceIte, nat_add, nat_mul3, nat_mul4, nat_mul6, nat_mul15, nat_mul60, nat_cast, nc1, Int.reduceToNat, upE, upN, fill_ne, fill_in, i0, g3, k3, hqk]; with_reducible exact rfl))
        | with_reducible refine wp_eq (e) ?_
        | (with_reducible apply wp_eq; (with_reducible apply lf_go; simp (disch := omega) only [not_false_eq_true, not_true_eq_false, w32_id, tLt, fLt, tLe, fEq, itE, and_true, true_and, and_self, and_false, false_and, ↓reduceIte, nat_add, nat_mul3, nat_mul4, nat_mul6, nat_mul15, nat_mul60, nat_cast, nc1, Int.reduceToNat, upE, upN, fill_ne, fill_in, i0, g3, k3, hqk]; with_reducible exact rfl))
        | with_reducible apply wp_q1
      apply wp_nx2 ih
      · simp (disch := omega) only [not_false_eq_true, not_true_eq_false, w32_id, tLt, fLt, tLe, fEq, itE, and_true, true_and, and_self, and_false, false_and, ↓reduceIte, nat_add, nat_mul3, nat_mul4, nat_mul6, nat_mul15, nat_mul60, nat_cast, nc1, Int.reduceToNat, upE, upN, fill_ne, fill_in, i0]
        with_reducible rfl
      · exact ⟨by dsimp only; rw [g3, w32_id (by omega) (by omega)]; omega, by dsimp only; rw [k3, w32_id (by omega) (by omega)]; omega, by rw [fitI_s, if_pos (hfd.trans c)]; exact hf⟩
    · refine wp_eq (b_Outlook_fits_10 _ _ _ _ _ _ _ _ _ _ _ _ _) ?_
      repeat' first
        | (with_reducible apply wp_bR; (simp (disch := omega) only [rM L, rK L, rN L, rNf, rNv, rNp, rNd, rRow, rLeg, rMark, nat_cast, Int.reduceToNat, g3, k3, hqk]; with_reducible exact rfl))
        | with_reducible apply wp_bI
        | with_reducible apply wp_bV
        | with_reducible apply wp_bL
        | with_reducible apply wp_rI
        | with_reducible apply wp_rV
        | with_reducible apply wp_rL
        | (with_reducible apply wp_1; (first | omega | (simp (disch := omega) only [not_false_eq_true, not_true_eq_false, w32_id, tLt, fLt, tLe, fEq, itE, and_true, true_and, and_self, and_false, false_and, ↓reduceIte, nat_add, nat_mul3, nat_mul4, nat_mul6, nat_mul15, nat_mul60, nat_cast, nc1, Int.reduceToNat, upE, upN, fill_ne, fill_in, i0, g3, k3, hqk] <;> omega)))
        | (with_reducible apply wp_2; (first | omega | (simp (disch := omega) only [not_false_eq_true, not_true_eq_false, w32_id, tLt, fLt, tLe, fEq, itE, and_true, true_and, and_self, and_false, false_and, ↓reduceIte, nat_add, nat_mul3, nat_mul4, nat_mul6, nat_mul15, nat_mul60, nat_cast, nc1, Int.reduceToNat, upE, upN, fill_ne, fill_in, i0, g3, k3, hqk] <;> omega)))
        | (with_reducible apply wp_s; (first | (simp (disch := omega) only [not_false_eq_true, not_true_eq_false, w32_id, tLt, fLt, tLe, fEq, itE, and_true, true_and, and_self, and_false, false_and, ↓reduceIte, nat_add, nat_mul3, nat_mul4, nat_mul6, nat_mul15, nat_mul60, nat_cast, nc1, Int.reduceToNat, upE, upN, fill_ne, fill_in, i0, g3, k3, hqk]; with_reducible exact Iff.rfl) | with_reducible exact Iff.rfl); intro hc__; (try subst hc__); rotate_left; intro hc__; rotate_left)
        | (with_reducible apply wp_eq; (with_reducible apply cl_go; simp (disch := omega) only [not_false_eq_true, not_true_eq_false, w32_id, tLt, fLt, tLe, fEq, itE, and_true, true_and, and_self, and_false, false_and, ↓reduceIte, nat_add, nat_mul3, nat_mul4, nat_mul6, nat_mul15, nat_mul60, nat_cast, nc1, Int.reduceToNat, upE, upN, fill_ne, fill_in, i0, g3, k3, hqk]; with_reducible exact rfl))
        | with_reducible refine wp_eq (e) ?_
        | (with_reducible apply wp_eq; (with_reducible apply lf_go; simp (disch := omega) only [not_false_eq_true, not_true_eq_false, w32_id, tLt, fLt, tLe, fEq, itE, and_true, true_and, and_self, and_false, false_and, ↓reduceIte, nat_add, nat_mul3, nat_mul4, nat_mul6, nat_mul15, nat_mul60, nat_cast, nc1, Int.reduceToNat, upE, upN, fill_ne, fill_in, i0, g3, k3, hqk]; with_reducible exact rfl))
        | with_reducible apply wp_q1
      exact ⟨_, _, _, rfl, by rw [fitI_no (fun q => c (hfd.symm.trans q)) hk], rfl, rfl⟩
  · intro ⟨u, v⟩ ⟨hu, hv, hf⟩
    refine wp_eq (b_Outlook_fits_10 _ _ _ _ _ _ _ _ _ _ _ _ _) ?_
    repeat' first
      | (with_reducible apply wp_bR; (simp (disch := omega) only [rM L, rK L, rN L, rNf, rNv, rNp, rNd, rRow, rLeg, rMark, nat_cast, Int.reduceToNat]; with_reducible exact rfl))
      | with_reducible apply wp_bI
      | with_reducible apply wp_bV
      | with_reducible apply wp_bL
      | with_reducible apply wp_rI
      | with_reducible apply wp_rV
      | with_reducible apply wp_rL
      | (with_reducible apply wp_1; (first | omega | (simp (disch := omega) only [not_false_eq_true, not_true_eq_false, w32_id, tLt, fLt, tLe, fEq, itE, and_true, true_and, and_self, and_false, false_and, ↓reduceIte, nat_add, nat_mul3, nat_mul4, nat_mul6, nat_mul15, nat_mul60, nat_cast, nc1, Int.reduceToNat, upE, upN, fill_ne, fill_in, i0] <;> omega)))
      | (with_reducible apply wp_2; (first | omega | (simp (disch := omega) only [not_false_eq_true, not_true_eq_false, w32_id, tLt, fLt, tLe, fEq, itE, and_true, true_and, and_self, and_false, false_and, ↓reduceIte, nat_add, nat_mul3, nat_mul4, nat_mul6, nat_mul15, nat_mul60, nat_cast, nc1, Int.reduceToNat, upE, upN, fill_ne, fill_in, i0] <;> omega)))
      | (with_reducible apply wp_s; (first | (simp (disch := omega) only [not_false_eq_true, not_true_eq_false, w32_id, tLt, fLt, tLe, fEq, itE, and_true, true_and, and_self, and_false, false_and, ↓reduceIte, nat_add, nat_mul3, nat_mul4, nat_mul6, nat_mul15, nat_mul60, nat_cast, nc1, Int.reduceToNat, upE, upN, fill_ne, fill_in, i0]; with_reducible exact Iff.rfl) | with_reducible exact Iff.rfl); intro hc__; (try subst hc__); rotate_left; intro hc__; rotate_left)
      | (with_reducible apply wp_eq; (with_reducible apply cl_go; simp (disch := omega) only [not_false_eq_true, not_true_eq_false, w32_id, tLt, fLt, tLe, fEq, itE, and_true, true_and, and_self, and_false, false_and, ↓reduceIte, nat_add, nat_mul3, nat_mul4, nat_mul6, nat_mul15, nat_mul60, nat_cast, nc1, Int.reduceToNat, upE, upN, fill_ne, fill_in, i0]; with_reducible exact rfl))
      | (with_reducible apply wp_eq; (with_reducible apply lf_go; simp (disch := omega) only [not_false_eq_true, not_true_eq_false, w32_id, tLt, fLt, tLe, fEq, itE, and_true, true_and, and_self, and_false, false_and, ↓reduceIte, nat_add, nat_mul3, nat_mul4, nat_mul6, nat_mul15, nat_mul60, nat_cast, nc1, Int.reduceToNat, upE, upN, fill_ne, fill_in, i0]; with_reducible exact rfl))
      | with_reducible apply wp_q1
    exact ⟨_, _, _, rfl, by rw [hf], rfl, rfl⟩
end

/-! THE VOYAGE THAT GAINS MOST: the model's leg -/
section
variable {M : Mm} {A B : Nat → Int} {L d s : Nat}
theorem EA_put (A B : Nat → Int) (s : Nat) : EA A (putS A s B) := fun k hk => putS_ne (by omega)
theorem E15_put (A B : Nat → Int) (s : Nat) : E15 B (shp (putS A s B) s) := fun w hw => putS_in hw
theorem RwM.rm (h : RwM M A s B) (hI : Inv A) (hs : s < 4) (hB : Sh1 A B) : RelM M (putS A s B) := by
  refine ⟨fun k hk => ?_, hI.put hs hB⟩
  by_cases e : 146 + 15 * s ≤ k ∧ k < 161 + 15 * s
  · have a := h.1 (k - (146 + 15 * s)) (by omega)
    have b := putS_in (A := A) (B := B) (s := s) (w := k - (146 + 15 * s)) (by omega)
    rw [show 146 + 15 * s + (k - (146 + 15 * s)) = k by omega] at a b
    rw [a, b]
  · rw [putS_ne (by omega)]
    exact h.2 k hk (by omega)
theorem RwM.q {M' : Mm} {B' : Nat → Int} (h : RwM M A s B) (h1 : ∀ w, w < 15 → M' 272 (146 + 15 * s + w) = B' w) (h2 : ∀ b j, b ≠ 280 → ¬(b = 272 ∧ 146 + 15 * s ≤ j ∧ j < 161 + 15 * s) → M' b j = M b j) : RwM M' A s B' := h.cng h1 fun j hj => h2 _ _ (by omega) (by omega)
theorem put_prc (hI : Inv A) (hB : Sh1 A B) (h0 : 0 ≤ B 0) {g : Nat} (hg : g < 8) : prc (putS A s B) (shp (putS A s B) s) g = prc A B g := by
  have hC := hI.1
  unfold Cn at hC
  have a := hB.1
  unfold prc
  rw [E15_put A B s 0 (by omega)]
  exact EA_put A B s _ (by omega)
theorem put_way (hI : Inv A) (hB : Sh1 A B) (h0 : 0 ≤ B 0) {p : Nat} (hp : p < 6) : way (putS A s B) (shp (putS A s B) s) p = way A B p := by
  have hC := hI.1
  unfold Cn at hC
  have a := hB.1
  unfold way
  rw [E15_put A B s 0 (by omega)]
  exact EA_put A B s _ (by omega)
theorem put_row (A B : Nat → Int) (s : Nat) : putS A s B (150 + 15 * s) = B 4 ∧ putS A s B (149 + 15 * s) = B 3 ∧ (∀ g, g < 8 → putS A s B (153 + 15 * s + g) = B (7 + g)) ∧ ∀ g, g < 8 → ldF (putS A s B) s g = ld7 B g := by
  have z : ∀ g, g < 8 → putS A s B (153 + 15 * s + g) = B (7 + g) := fun g hg => by
    rw [show 153 + 15 * s + g = 146 + 15 * s + (7 + g) by omega]; exact putS_in (by omega)
  refine ⟨?_, ?_, z, z⟩
  · rw [show 150 + 15 * s = 146 + 15 * s + 4 by omega]; exact putS_in (by omega)
  · rw [show 149 + 15 * s = 146 + 15 * s + 3 by omega]; exact putS_in (by omega)
theorem put_3 (A B : Nat → Int) (s : Nat) : putS A s B 3 = A 3 := EA_put A B s 3 (by omega)
theorem q_sellsAll (hd : 8 ≤ d) (h : RwM M A s B) (hI : Inv A) (hs : (s : Int) < A 3) (hB : Sh1 A B) (h0 : 0 ≤ B 0) : Wp (callD d m_Mo_sellsAll [vR 12 0 271, vI (s : Int)] (SH L) M) (QRow L s M (selB A B) none) := by
  have hC := hI.1
  unfold Cn at hC
  repeat' first
    | (with_reducible apply wp_bR; (simp (disch := omega) only [rM L, rK L, rN L, rNf, rNv, rNp, rNd, rRow, rLeg, rMark, nat_cast, Int.reduceToNat]; with_reducible exact rfl))
    | with_reducible apply wp_bI
    | with_reducible apply wp_bV
    | with_reducible apply wp_bL
    | with_reducible apply wp_rI
    | with_reducible apply wp_rV
    | with_reducible apply wp_rL
    | (with_reducible apply wp_1; (first | omega | (simp (disch := omega) only [not_false_eq_true, not_true_eq_false, w32_id, tLt, fLt, tLe, fEq, itE, and_true, true_and, and_self, and_false, false_and, ↓reduceIte, nat_add, nat_mul3, nat_mul4, nat_mul6, nat_mul15, nat_mul60, nat_cast, nc1, Int.reduceToNat, upE, upN, fill_ne, fill_in, i0] <;> omega)))
    | (with_reducible apply wp_2; (first | omega | (simp (disch := omega) only [not_false_eq_true, not_true_eq_false, w32_id, tLt, fLt, tLe, fEq, itE, and_true, true_and, and_self, and_false, false_and, ↓reduceIte, nat_add, nat_mul3, nat_mul4, nat_mul6, nat_mul15, nat_mul60, nat_cast, nc1, Int.reduceToNat, upE, upN, fill_ne, fill_in, i0] <;> omega)))
    | (with_reducible apply wp_s; (first | (simp (disch := omega) only [not_false_eq_true, not_true_eq_false, w32_id, tLt, fLt, tLe, fEq, itE, and_true, true_and, and_self, and_false, false_and, ↓reduceIte, nat_add, nat_mul3, nat_mul4, nat_mul6, nat_mul15, nat_mul60, nat_cast, nc1, Int.reduceToNat, upE, upN, fill_ne, fill_in, i0]; with_reducible exact Iff.rfl) | with_reducible exact Iff.rfl); intro hc__; (try subst hc__); rotate_left; intro hc__; rotate_left)
    | (with_reducible apply wp_eq; (with_reducible apply cl_go; simp (disch := omega) only [not_false_eq_true, not_true_eq_false, w32_id, tLt, fLt, tLe, fEq, itE, and_true, true_and, and_self, and_false, false_and, ↓reduceIte, nat_add, nat_mul3, nat_mul4, nat_mul6, nat_mul15, nat_mul60, nat_cast, nc1, Int.reduceToNat, upE, upN, fill_ne, fill_in, i0]; with_reducible exact rfl))
    | (with_reducible refine wp_eq (c_Mo_sellsAll (by omega) _ _ _ _) ?_; with_reducible refine wp_eq (b_Mo_sellsAll_0 _ _ _ _ _) ?_)
    | (with_reducible apply wp_eq; (with_reducible apply lf_go; simp (disch := omega) only [not_false_eq_true, not_true_eq_false, w32_id, tLt, fLt, tLe, fEq, itE, and_true, true_and, and_self, and_false, false_and, ↓reduceIte, nat_add, nat_mul3, nat_mul4, nat_mul6, nat_mul15, nat_mul60, nat_cast, nc1, Int.reduceToNat, upE, upN, fill_ne, fill_in, i0]; with_reducible exact rfl))
    | with_reducible apply wp_q1
  refine wp_loop (α := Mm) (G := fun k m => Run (callD (d - 1)) tb_Mo_sellsAll 2 [vR 12 0 271, vI (s : Int), vI (k : Int)] [] (SH L) m) (I := fun k m => (∀ w, w < 15 → m 272 (146 + 15 * s + w) = saB A B k w) ∧ ∀ b j, ¬(b = 272 ∧ 146 + 15 * s ≤ j ∧ j < 161 + 15 * s) → m b j = M b j) (A 1).toNat ?_ ?_ 0 M (by omega) ⟨h.1, fun _ _ _ => rfl⟩
  · intro k M1 hk ⟨hr, f1⟩ ih
    have hB1 := hB.sa hI h0 k (by omega)
    have h01 : 0 ≤ saB A B k 0 := by rw [saB_0 0 (by omega)]; exact h0
    have hR1 : RwM M1 A s (saB A B k) := h.q hr fun b j _ q => f1 b j q
    generalize hX : saB A B k = X at hR1 hB1 h01
    have es : saB A B (k + 1) = slB A X k := by rw [← hX]; rfl
    have rm := hR1.rm hI (by omega) hB1
    have lo := hR1.lo
    have c1 : M1 272 1 = A 1 := lo 1 (by omega)
    have t1 : M1 272 (153 + 15 * s + k) = X (7 + k) := by rw [show 153 + 15 * s + k = 146 + 15 * s + (7 + k) by omega]; exact hR1.1 _ (by omega)
    have ix : 146 + 15 * s + 7 + k = 153 + 15 * s + k := by omega
    have lb := hB1.ld k (by omega)
    have pb := prc_bd hI.2.2.2.2.1 hI.1 hB1 (by omega) (g := k) (by omega)
    have pe := put_prc (s := s) hI hB1 h01 (g := k) (by omega)
    have e0 := E15_put A X s 0 (by omega)
    obtain ⟨p4, p3, p7, -⟩ := put_row A X s
    by_cases c : 0 < X (7 + k)
    · by_cases p0 : prc A X k = 0
      · have e := m_sells0 (L := L) (d := d - 1) (n := X (7 + k)) (g := k) (s := s) (by omega) rm (by rw [put_3]; exact hs) (by omega) (fun q => q.2.1 (by rw [pe]; exact p0))
        refine wp_eq (b_Mo_sellsAll_2 _ _ _ _ _ _) ?_
        repeat' first
          | (with_reducible apply wp_bR; (simp (disch := omega) only [rM L, rK L, rN L, rNf, rNv, rNp, rNd, rRow, rLeg, rMark, nat_cast, Int.reduceToNat, c1, ix, t1]; with_reducible exact rfl))
          | with_reducible apply wp_bI
          | with_reducible apply wp_bV
          | with_reducible apply wp_bL
          | with_reducible apply wp_rI
          | with_reducible apply wp_rV
          | with_reducible apply wp_rL
          | (with_reducible apply wp_1; (first | omega | (simp (disch := omega) only [not_false_eq_true, not_true_eq_false, w32_id, tLt, fLt, tLe, fEq, itE, and_true, true_and, and_self, and_false, false_and, ↓reduceIte, nat_add, nat_mul3, nat_mul4, nat_mul6, nat_mul15, nat_mul60, nat_cast, nc1, Int.reduceToNat, upE, upN, fill_ne, fill_in, i0, c1, ix, t1] <;> omega)))
          | (with_reducible apply wp_2; (first | omega | (simp (disch := omega) only [not_false_eq_true, not_true_eq_false, w32_id, tLt, fLt, tLe, fEq, itE, and_true, true_and, and_self, and_false, false_and, ↓reduceIte, nat_add, nat_mul3, nat_mul4, nat_mul6, nat_mul15, nat_mul60, nat_cast, nc1, Int.reduceToNat, upE, upN, fill_ne, fill_in, i0, c1, ix, t1] <;> omega)))
          | (with_reducible apply wp_s; (first | (simp (disch := omega) only [not_false_eq_true, not_true_eq_false, w32_id, tLt, fLt, tLe, fEq, itE, and_true, true_and, and_self, and_false, false_and, ↓reduceIte, nat_add, nat_mul3, nat_mul4, nat_mul6, nat_mul15, nat_mul60, nat_cast, nc1, Int.reduceToNat, upE, upN, fill_ne, fill_in, i0, c1, ix, t1]; with_reducible exact Iff.rfl) | with_reducible exact Iff.rfl); intro hc__; (try subst hc__); rotate_left; intro hc__; rotate_left)
          | (with_reducible apply wp_eq; (with_reducible apply cl_go; simp (disch := omega) only [not_false_eq_true, not_true_eq_false, w32_id, tLt, fLt, tLe, fEq, itE, and_true, true_and, and_self, and_false, false_and, ↓reduceIte, nat_add, nat_mul3, nat_mul4, nat_mul6, nat_mul15, nat_mul60, nat_cast, nc1, Int.reduceToNat, upE, upN, fill_ne, fill_in, i0, c1, ix, t1]; with_reducible exact rfl))
          | (with_reducible refine wp_eq (c_Mo_loadRow (by omega) _ _ _ _ _) ?_; with_reducible refine wp_eq (b_Mo_loadRow_0 _ _ _ _ _ _) ?_)
          | (with_reducible refine wp_eq (c_Mo_shipRow (by omega) _ _ _) ?_; with_reducible refine wp_eq (b_Mo_shipRow_0 _ _ _ _) ?_)
          | with_reducible refine wp_eq (e) ?_
          | (with_reducible apply wp_eq; (with_reducible apply lf_go; simp (disch := omega) only [not_false_eq_true, not_true_eq_false, w32_id, tLt, fLt, tLe, fEq, itE, and_true, true_and, and_self, and_false, false_and, ↓reduceIte, nat_add, nat_mul3, nat_mul4, nat_mul6, nat_mul15, nat_mul60, nat_cast, nc1, Int.reduceToNat, upE, upN, fill_ne, fill_in, i0, c1, ix, t1]; with_reducible exact rfl))
          | with_reducible apply wp_q1
        apply wp_nx ih
        · simp (disch := omega) only [not_false_eq_true, not_true_eq_false, w32_id, tLt, fLt, tLe, fEq, itE, and_true, true_and, and_self, and_false, false_and, ↓reduceIte, nat_add, nat_mul3, nat_mul4, nat_mul6, nat_mul15, nat_mul60, nat_cast, nc1, Int.reduceToNat, upE, upN, fill_ne, fill_in, i0]
          with_reducible rfl
        · rw [es, show slB A X k = X by unfold slB; rw [if_neg (by omega)]]
          exact ⟨hR1.1, f1⟩
      · have e := m_sells1 (L := L) (d := d - 1) (n := X (7 + k)) (g := k) (s := s) (by omega) rm (by rw [put_3]; exact hs) (by omega) (by omega) (by omega) ⟨by rw [e0]; omega, by rw [pe]; exact p0, by rw [E15_put A X s (7 + k) (by omega)]; omega⟩
        rw [p4, p7 k (by omega), pe] at e
        refine wp_eq (b_Mo_sellsAll_2 _ _ _ _ _ _) ?_
        repeat' first
          | (with_reducible apply wp_bR; (simp (disch := omega) only [rM L, rK L, rN L, rNf, rNv, rNp, rNd, rRow, rLeg, rMark, nat_cast, Int.reduceToNat, c1, ix, t1]; with_reducible exact rfl))
          | with_reducible apply wp_bI
          | with_reducible apply wp_bV
          | with_reducible apply wp_bL
          | with_reducible apply wp_rI
          | with_reducible apply wp_rV
          | with_reducible apply wp_rL
          | (with_reducible apply wp_1; (first | omega | (simp (disch := omega) only [not_false_eq_true, not_true_eq_false, w32_id, tLt, fLt, tLe, fEq, itE, and_true, true_and, and_self, and_false, false_and, ↓reduceIte, nat_add, nat_mul3, nat_mul4, nat_mul6, nat_mul15, nat_mul60, nat_cast, nc1, Int.reduceToNat, upE, upN, fill_ne, fill_in, i0, c1, ix, t1] <;> omega)))
          | (with_reducible apply wp_2; (first | omega | (simp (disch := omega) only [not_false_eq_true, not_true_eq_false, w32_id, tLt, fLt, tLe, fEq, itE, and_true, true_and, and_self, and_false, false_and, ↓reduceIte, nat_add, nat_mul3, nat_mul4, nat_mul6, nat_mul15, nat_mul60, nat_cast, nc1, Int.reduceToNat, upE, upN, fill_ne, fill_in, i0, c1, ix, t1] <;> omega)))
          | (with_reducible apply wp_s; (first | (simp (disch := omega) only [not_false_eq_true, not_true_eq_false, w32_id, tLt, fLt, tLe, fEq, itE, and_true, true_and, and_self, and_false, false_and, ↓reduceIte, nat_add, nat_mul3, nat_mul4, nat_mul6, nat_mul15, nat_mul60, nat_cast, nc1, Int.reduceToNat, upE, upN, fill_ne, fill_in, i0, c1, ix, t1]; with_reducible exact Iff.rfl) | with_reducible exact Iff.rfl); intro hc__; (try subst hc__); rotate_left; intro hc__; rotate_left)
          | (with_reducible apply wp_eq; (with_reducible apply cl_go; simp (disch := omega) only [not_false_eq_true, not_true_eq_false, w32_id, tLt, fLt, tLe, fEq, itE, and_true, true_and, and_self, and_false, false_and, ↓reduceIte, nat_add, nat_mul3, nat_mul4, nat_mul6, nat_mul15, nat_mul60, nat_cast, nc1, Int.reduceToNat, upE, upN, fill_ne, fill_in, i0, c1, ix, t1]; with_reducible exact rfl))
          | (with_reducible refine wp_eq (c_Mo_loadRow (by omega) _ _ _ _ _) ?_; with_reducible refine wp_eq (b_Mo_loadRow_0 _ _ _ _ _ _) ?_)
          | (with_reducible refine wp_eq (c_Mo_shipRow (by omega) _ _ _) ?_; with_reducible refine wp_eq (b_Mo_shipRow_0 _ _ _ _) ?_)
          | with_reducible refine wp_eq (e) ?_
          | (with_reducible apply wp_eq; (with_reducible apply lf_go; simp (disch := omega) only [not_false_eq_true, not_true_eq_false, w32_id, tLt, fLt, tLe, fEq, itE, and_true, true_and, and_self, and_false, false_and, ↓reduceIte, nat_add, nat_mul3, nat_mul4, nat_mul6, nat_mul15, nat_mul60, nat_cast, nc1, Int.reduceToNat, upE, upN, fill_ne, fill_in, i0, c1, ix, t1]; with_reducible exact rfl))
          | with_reducible apply wp_q1
        apply wp_nx ih
        · simp (disch := omega) only [not_false_eq_true, not_true_eq_false, w32_id, tLt, fLt, tLe, fEq, itE, and_true, true_and, and_self, and_false, false_and, ↓reduceIte, nat_add, nat_mul3, nat_mul4, nat_mul6, nat_mul15, nat_mul60, nat_cast, nc1, Int.reduceToNat, upE, upN, fill_ne, fill_in, i0]
          with_reducible rfl
        · rw [es, show slB A X k = wU (wU X 4 (min 9999 (X 4 + prc A X k * X (7 + k)))) (7 + k) 0 by unfold slB; rw [if_pos ⟨c, p0⟩]]
          refine ⟨fun w hw => ?_, fun b j q => by rw [upN (by omega), upN (by omega)]; exact f1 b j q⟩
          by_cases q7 : w = 7 + k
          · subst q7; rw [wU_i, upN (by omega), upE rfl (by omega)]; omega
          · rw [wU_n _ q7]
            by_cases q4 : w = 4
            · subst q4; rw [wU_i, upE rfl (by omega)]
            · rw [wU_n _ q4, upN (by omega), upN (by omega)]; exact hR1.1 w hw
    · refine wp_eq (b_Mo_sellsAll_2 _ _ _ _ _ _) ?_
      repeat' first
        | (with_reducible apply wp_bR; (simp (disch := omega) only [rM L, rK L, rN L, rNf, rNv, rNp, rNd, rRow, rLeg, rMark, nat_cast, Int.reduceToNat, c1, ix, t1]; with_reducible exact rfl))
        | with_reducible apply wp_bI
        | with_reducible apply wp_bV
        | with_reducible apply wp_bL
        | with_reducible apply wp_rI
        | with_reducible apply wp_rV
        | with_reducible apply wp_rL
        | (with_reducible apply wp_1; (first | omega | (simp (disch := omega) only [not_false_eq_true, not_true_eq_false, w32_id, tLt, fLt, tLe, fEq, itE, and_true, true_and, and_self, and_false, false_and, ↓reduceIte, nat_add, nat_mul3, nat_mul4, nat_mul6, nat_mul15, nat_mul60, nat_cast, nc1, Int.reduceToNat, upE, upN, fill_ne, fill_in, i0, c1, ix, t1] <;> omega)))
        | (with_reducible apply wp_2; (first | omega | (simp (disch := omega) only [not_false_eq_true, not_true_eq_false, w32_id, tLt, fLt, tLe, fEq, itE, and_true, true_and, and_self, and_false, false_and, ↓reduceIte, nat_add, nat_mul3, nat_mul4, nat_mul6, nat_mul15, nat_mul60, nat_cast, nc1, Int.reduceToNat, upE, upN, fill_ne, fill_in, i0, c1, ix, t1] <;> omega)))
        | (with_reducible apply wp_s; (first | (simp (disch := omega) only [not_false_eq_true, not_true_eq_false, w32_id, tLt, fLt, tLe, fEq, itE, and_true, true_and, and_self, and_false, false_and, ↓reduceIte, nat_add, nat_mul3, nat_mul4, nat_mul6, nat_mul15, nat_mul60, nat_cast, nc1, Int.reduceToNat, upE, upN, fill_ne, fill_in, i0, c1, ix, t1]; with_reducible exact Iff.rfl) | with_reducible exact Iff.rfl); intro hc__; (try subst hc__); rotate_left; intro hc__; rotate_left)
        | (with_reducible apply wp_eq; (with_reducible apply cl_go; simp (disch := omega) only [not_false_eq_true, not_true_eq_false, w32_id, tLt, fLt, tLe, fEq, itE, and_true, true_and, and_self, and_false, false_and, ↓reduceIte, nat_add, nat_mul3, nat_mul4, nat_mul6, nat_mul15, nat_mul60, nat_cast, nc1, Int.reduceToNat, upE, upN, fill_ne, fill_in, i0, c1, ix, t1]; with_reducible exact rfl))
        | (with_reducible refine wp_eq (c_Mo_loadRow (by omega) _ _ _ _ _) ?_; with_reducible refine wp_eq (b_Mo_loadRow_0 _ _ _ _ _ _) ?_)
        | (with_reducible refine wp_eq (c_Mo_shipRow (by omega) _ _ _) ?_; with_reducible refine wp_eq (b_Mo_shipRow_0 _ _ _ _) ?_)
        | (with_reducible apply wp_eq; (with_reducible apply lf_go; simp (disch := omega) only [not_false_eq_true, not_true_eq_false, w32_id, tLt, fLt, tLe, fEq, itE, and_true, true_and, and_self, and_false, false_and, ↓reduceIte, nat_add, nat_mul3, nat_mul4, nat_mul6, nat_mul15, nat_mul60, nat_cast, nc1, Int.reduceToNat, upE, upN, fill_ne, fill_in, i0, c1, ix, t1]; with_reducible exact rfl))
        | with_reducible apply wp_q1
      apply wp_nx ih
      · simp (disch := omega) only [not_false_eq_true, not_true_eq_false, w32_id, tLt, fLt, tLe, fEq, itE, and_true, true_and, and_self, and_false, false_and, ↓reduceIte, nat_add, nat_mul3, nat_mul4, nat_mul6, nat_mul15, nat_mul60, nat_cast, nc1, Int.reduceToNat, upE, upN, fill_ne, fill_in, i0]
        with_reducible rfl
      · rw [es, show slB A X k = X by unfold slB; rw [if_neg (by omega)]]
        exact ⟨hR1.1, f1⟩
  · intro M1 ⟨hr, f1⟩
    have c1 : M1 272 1 = A 1 := by rw [f1 _ _ (by omega)]; exact h.lo 1 (by omega)
    refine wp_eq (b_Mo_sellsAll_2 _ _ _ _ _ _) ?_
    repeat' first
      | (with_reducible apply wp_bR; (simp (disch := omega) only [rM L, rK L, rN L, rNf, rNv, rNp, rNd, rRow, rLeg, rMark, nat_cast, Int.reduceToNat, c1]; with_reducible exact rfl))
      | with_reducible apply wp_bI
      | with_reducible apply wp_bV
      | with_reducible apply wp_bL
      | with_reducible apply wp_rI
      | with_reducible apply wp_rV
      | with_reducible apply wp_rL
      | (with_reducible apply wp_1; (first | omega | (simp (disch := omega) only [not_false_eq_true, not_true_eq_false, w32_id, tLt, fLt, tLe, fEq, itE, and_true, true_and, and_self, and_false, false_and, ↓reduceIte, nat_add, nat_mul3, nat_mul4, nat_mul6, nat_mul15, nat_mul60, nat_cast, nc1, Int.reduceToNat, upE, upN, fill_ne, fill_in, i0, c1] <;> omega)))
      | (with_reducible apply wp_2; (first | omega | (simp (disch := omega) only [not_false_eq_true, not_true_eq_false, w32_id, tLt, fLt, tLe, fEq, itE, and_true, true_and, and_self, and_false, false_and, ↓reduceIte, nat_add, nat_mul3, nat_mul4, nat_mul6, nat_mul15, nat_mul60, nat_cast, nc1, Int.reduceToNat, upE, upN, fill_ne, fill_in, i0, c1] <;> omega)))
      | (with_reducible apply wp_s; (first | (simp (disch := omega) only [not_false_eq_true, not_true_eq_false, w32_id, tLt, fLt, tLe, fEq, itE, and_true, true_and, and_self, and_false, false_and, ↓reduceIte, nat_add, nat_mul3, nat_mul4, nat_mul6, nat_mul15, nat_mul60, nat_cast, nc1, Int.reduceToNat, upE, upN, fill_ne, fill_in, i0, c1]; with_reducible exact Iff.rfl) | with_reducible exact Iff.rfl); intro hc__; (try subst hc__); rotate_left; intro hc__; rotate_left)
      | (with_reducible apply wp_eq; (with_reducible apply cl_go; simp (disch := omega) only [not_false_eq_true, not_true_eq_false, w32_id, tLt, fLt, tLe, fEq, itE, and_true, true_and, and_self, and_false, false_and, ↓reduceIte, nat_add, nat_mul3, nat_mul4, nat_mul6, nat_mul15, nat_mul60, nat_cast, nc1, Int.reduceToNat, upE, upN, fill_ne, fill_in, i0, c1]; with_reducible exact rfl))
      | (with_reducible apply wp_eq; (with_reducible apply lf_go; simp (disch := omega) only [not_false_eq_true, not_true_eq_false, w32_id, tLt, fLt, tLe, fEq, itE, and_true, true_and, and_self, and_false, false_and, ↓reduceIte, nat_add, nat_mul3, nat_mul4, nat_mul6, nat_mul15, nat_mul60, nat_cast, nc1, Int.reduceToNat, upE, upN, fill_ne, fill_in, i0, c1]; with_reducible exact rfl))
      | with_reducible apply wp_q1
    exact wp_row rfl hr fun b j _ q => f1 b j q
/-- at sea until it comes in -/
theorem q_land (hd : 13 ≤ d) (hI : Inv A) (hs : (s : Int) < A 3) {Y : Nat → Int} (hY : Sh1 A Y) (h0 : 0 ≤ Y 0) {p : Nat} (hp : (p : Int) < A 2) (hw : way A Y p ≠ 0) (h : RwM M A s (sailB A Y p)) (x2 x3 x4 : Int) (z : AV) : Wp (Run (callD (d - 1)) tb_Mo_goesLeg 112 [vR 12 0 271, vI (s : Int), vI x2, vI x3, vI x4, z] [] (SH L) M) (QRow L s M (legB A Y p) (some (vI 1))) := by
  have hC := hI.1
  unfold Cn at hC
  have wb := way_bd hI hY h0 (p := p) (by omega)
  have s2 := sail_2 A Y p
  have hS := hY.sail hp (show 1 ≤ way A Y p by omega) wb.2
  refine wp_loop (α := Mm) (G := fun k m => Run (callD (d - 1)) tb_Mo_goesLeg 112 [vR 12 0 271, vI (s : Int), vI x2, vI x3, vI x4, z] [] (SH L) m) (I := fun k m => (∀ w, w < 15 → m 272 (146 + 15 * s + w) = itD A (sailB A Y p) k w) ∧ ∀ b j, b ≠ 280 → ¬(b = 272 ∧ 146 + 15 * s ≤ j ∧ j < 161 + 15 * s) → m b j = M b j) (way A Y p).toNat ?_ ?_ 0 M (by omega) ⟨h.1, fun _ _ _ _ => rfl⟩
  · intro k M1 hk ⟨hr, f1⟩ ih
    have hX := hS.its hI k
    have hR1 : RwM M1 A s (itD A (sailB A Y p) k) := h.q hr f1
    have x0 : itD A (sailB A Y p) k 0 = -1 := by
      rw [itD_son (n := (way A Y p).toNat) s2.1 (by rw [s2.2.2]; omega) (by omega) k hk, wU_n _ (by omega), sdN_o (by omega) (by omega) (by omega)]
      exact s2.1
    have r0 : M1 272 (146 + 15 * s) = -1 := by have := hr 0 (by omega); rw [x0] at this; exact this
    have hX' : Sh1 A (itD A (sailB A Y p) k) := hX
    have nx : itD A (sailB A Y p) (k + 1) = dayB A (itD A (sailB A Y p) k) := rfl
    generalize itD A (sailB A Y p) k = X at hR1 x0 hX' nx
    have rm := hR1.rm hI (by omega) hX'
    refine wp_eq (b_Mo_goesLeg_112 _ _ _ _ _ _ _ _ _) ?_
    repeat' first
      | (with_reducible apply wp_bR; (simp (disch := omega) only [rM L, rK L, rN L, rNf, rNv, rNp, rNd, rRow, rLeg, rMark, nat_cast, Int.reduceToNat, r0]; with_reducible exact rfl))
      | with_reducible apply wp_bI
      | with_reducible apply wp_bV
      | with_reducible apply wp_bL
      | with_reducible apply wp_rI
      | with_reducible apply wp_rV
      | with_reducible apply wp_rL
      | (with_reducible apply wp_1; (first | omega | (simp (disch := omega) only [not_false_eq_true, not_true_eq_false, w32_id, tLt, fLt, tLe, fEq, itE, and_true, true_and, and_self, and_false, false_and, ↓reduceIte, nat_add, nat_mul3, nat_mul4, nat_mul6, nat_mul15, nat_mul60, nat_cast, nc1, Int.reduceToNat, upE, upN, fill_ne, fill_in, i0, r0] <;> omega)))
      | (with_reducible apply wp_2; (first | omega | (simp (disch := omega) only [not_false_eq_true, not_true_eq_false, w32_id, tLt, fLt, tLe, fEq, itE, and_true, true_and, and_self, and_false, false_and, ↓reduceIte, nat_add, nat_mul3, nat_mul4, nat_mul6, nat_mul15, nat_mul60, nat_cast, nc1, Int.reduceToNat, upE, upN, fill_ne, fill_in, i0, r0] <;> omega)))
      | (with_reducible apply wp_s; (first | (simp (disch := omega) only [not_false_eq_true, not_true_eq_false, w32_id, tLt, fLt, tLe, fEq, itE, and_true, true_and, and_self, and_false, false_and, ↓reduceIte, nat_add, nat_mul3, nat_mul4, nat_mul6, nat_mul15, nat_mul60, nat_cast, nc1, Int.reduceToNat, upE, upN, fill_ne, fill_in, i0, r0]; with_reducible exact Iff.rfl) | with_reducible exact Iff.rfl); intro hc__; (try subst hc__); rotate_left; intro hc__; rotate_left)
      | (with_reducible apply wp_eq; (with_reducible apply cl_go; simp (disch := omega) only [not_false_eq_true, not_true_eq_false, w32_id, tLt, fLt, tLe, fEq, itE, and_true, true_and, and_self, and_false, false_and, ↓reduceIte, nat_add, nat_mul3, nat_mul4, nat_mul6, nat_mul15, nat_mul60, nat_cast, nc1, Int.reduceToNat, upE, upN, fill_ne, fill_in, i0, r0]; with_reducible exact rfl))
      | (with_reducible refine wp_eq (c_Mo_shipOf (by omega) _ _ _ _ _) ?_; with_reducible refine wp_eq (b_Mo_shipOf_0 _ _ _ _ _ _) ?_)
      | (with_reducible refine wp_eq (c_Mo_shipRow (by omega) _ _ _) ?_; with_reducible refine wp_eq (b_Mo_shipRow_0 _ _ _ _) ?_)
      | (with_reducible apply wp_eq; (with_reducible apply lf_go; simp (disch := omega) only [not_false_eq_true, not_true_eq_false, w32_id, tLt, fLt, tLe, fEq, itE, and_true, true_and, and_self, and_false, false_and, ↓reduceIte, nat_add, nat_mul3, nat_mul4, nat_mul6, nat_mul15, nat_mul60, nat_cast, nc1, Int.reduceToNat, upE, upN, fill_ne, fill_in, i0, r0]; with_reducible exact rfl))
      | with_reducible apply wp_q1
    refine wp_qrow (m_passes (by omega) rm (by rw [put_3]; exact hs)) fun M2 hr2 f2 => ?_
    repeat' first
      | (with_reducible apply wp_bR; (simp (disch := omega) only [rM L, rK L, rN L, rNf, rNv, rNp, rNd, rRow, rLeg, rMark, nat_cast, Int.reduceToNat]; with_reducible exact rfl))
      | with_reducible apply wp_bI
      | with_reducible apply wp_bV
      | with_reducible apply wp_bL
      | with_reducible apply wp_rI
      | with_reducible apply wp_rV
      | with_reducible apply wp_rL
      | (with_reducible apply wp_1; (first | omega | (simp (disch := omega) only [not_false_eq_true, not_true_eq_false, w32_id, tLt, fLt, tLe, fEq, itE, and_true, true_and, and_self, and_false, false_and, ↓reduceIte, nat_add, nat_mul3, nat_mul4, nat_mul6, nat_mul15, nat_mul60, nat_cast, nc1, Int.reduceToNat, upE, upN, fill_ne, fill_in, i0] <;> omega)))
      | (with_reducible apply wp_2; (first | omega | (simp (disch := omega) only [not_false_eq_true, not_true_eq_false, w32_id, tLt, fLt, tLe, fEq, itE, and_true, true_and, and_self, and_false, false_and, ↓reduceIte, nat_add, nat_mul3, nat_mul4, nat_mul6, nat_mul15, nat_mul60, nat_cast, nc1, Int.reduceToNat, upE, upN, fill_ne, fill_in, i0] <;> omega)))
      | (with_reducible apply wp_s; (first | (simp (disch := omega) only [not_false_eq_true, not_true_eq_false, w32_id, tLt, fLt, tLe, fEq, itE, and_true, true_and, and_self, and_false, false_and, ↓reduceIte, nat_add, nat_mul3, nat_mul4, nat_mul6, nat_mul15, nat_mul60, nat_cast, nc1, Int.reduceToNat, upE, upN, fill_ne, fill_in, i0]; with_reducible exact Iff.rfl) | with_reducible exact Iff.rfl); intro hc__; (try subst hc__); rotate_left; intro hc__; rotate_left)
      | (with_reducible apply wp_eq; (with_reducible apply cl_go; simp (disch := omega) only [not_false_eq_true, not_true_eq_false, w32_id, tLt, fLt, tLe, fEq, itE, and_true, true_and, and_self, and_false, false_and, ↓reduceIte, nat_add, nat_mul3, nat_mul4, nat_mul6, nat_mul15, nat_mul60, nat_cast, nc1, Int.reduceToNat, upE, upN, fill_ne, fill_in, i0]; with_reducible exact rfl))
      | (with_reducible apply wp_eq; (with_reducible apply lf_go; simp (disch := omega) only [not_false_eq_true, not_true_eq_false, w32_id, tLt, fLt, tLe, fEq, itE, and_true, true_and, and_self, and_false, false_and, ↓reduceIte, nat_add, nat_mul3, nat_mul4, nat_mul6, nat_mul15, nat_mul60, nat_cast, nc1, Int.reduceToNat, upE, upN, fill_ne, fill_in, i0]; with_reducible exact rfl))
      | with_reducible apply wp_q1
    refine ih M2 ⟨fun w hw => ?_, fun b j q1 q2 => (f2 b j q1 q2).trans (f1 b j q1 q2)⟩
    rw [nx, hr2 w hw]
    exact dayB_c (EA_put A X s) hI hX' (E15_put A X s) w hw
  · intro M1 ⟨hr, f1⟩
    rw [← leg_it hI hY h0 (by omega) hw] at hr
    have l0 := leg_0 hI hY h0 (p := p) (by omega) hw
    have r0 : M1 272 (146 + 15 * s) = (p : Int) := by have := hr 0 (by omega); rw [l0] at this; exact this
    refine wp_eq (b_Mo_goesLeg_112 _ _ _ _ _ _ _ _ _) ?_
    repeat' first
      | (with_reducible apply wp_bR; (simp (disch := omega) only [rM L, rK L, rN L, rNf, rNv, rNp, rNd, rRow, rLeg, rMark, nat_cast, Int.reduceToNat, r0]; with_reducible exact rfl))
      | with_reducible apply wp_bI
      | with_reducible apply wp_bV
      | with_reducible apply wp_bL
      | with_reducible apply wp_rI
      | with_reducible apply wp_rV
      | with_reducible apply wp_rL
      | (with_reducible apply wp_1; (first | omega | (simp (disch := omega) only [not_false_eq_true, not_true_eq_false, w32_id, tLt, fLt, tLe, fEq, itE, and_true, true_and, and_self, and_false, false_and, ↓reduceIte, nat_add, nat_mul3, nat_mul4, nat_mul6, nat_mul15, nat_mul60, nat_cast, nc1, Int.reduceToNat, upE, upN, fill_ne, fill_in, i0, r0] <;> omega)))
      | (with_reducible apply wp_2; (first | omega | (simp (disch := omega) only [not_false_eq_true, not_true_eq_false, w32_id, tLt, fLt, tLe, fEq, itE, and_true, true_and, and_self, and_false, false_and, ↓reduceIte, nat_add, nat_mul3, nat_mul4, nat_mul6, nat_mul15, nat_mul60, nat_cast, nc1, Int.reduceToNat, upE, upN, fill_ne, fill_in, i0, r0] <;> omega)))
      | (with_reducible apply wp_s; (first | (simp (disch := omega) only [not_false_eq_true, not_true_eq_false, w32_id, tLt, fLt, tLe, fEq, itE, and_true, true_and, and_self, and_false, false_and, ↓reduceIte, nat_add, nat_mul3, nat_mul4, nat_mul6, nat_mul15, nat_mul60, nat_cast, nc1, Int.reduceToNat, upE, upN, fill_ne, fill_in, i0, r0]; with_reducible exact Iff.rfl) | with_reducible exact Iff.rfl); intro hc__; (try subst hc__); rotate_left; intro hc__; rotate_left)
      | (with_reducible apply wp_eq; (with_reducible apply cl_go; simp (disch := omega) only [not_false_eq_true, not_true_eq_false, w32_id, tLt, fLt, tLe, fEq, itE, and_true, true_and, and_self, and_false, false_and, ↓reduceIte, nat_add, nat_mul3, nat_mul4, nat_mul6, nat_mul15, nat_mul60, nat_cast, nc1, Int.reduceToNat, upE, upN, fill_ne, fill_in, i0, r0]; with_reducible exact rfl))
      | (with_reducible refine wp_eq (c_Mo_shipOf (by omega) _ _ _ _ _) ?_; with_reducible refine wp_eq (b_Mo_shipOf_0 _ _ _ _ _ _) ?_)
      | (with_reducible refine wp_eq (c_Mo_shipRow (by omega) _ _ _) ?_; with_reducible refine wp_eq (b_Mo_shipRow_0 _ _ _ _) ?_)
      | (with_reducible apply wp_eq; (with_reducible apply lf_go; simp (disch := omega) only [not_false_eq_true, not_true_eq_false, w32_id, tLt, fLt, tLe, fEq, itE, and_true, true_and, and_self, and_false, false_and, ↓reduceIte, nat_add, nat_mul3, nat_mul4, nat_mul6, nat_mul15, nat_mul60, nat_cast, nc1, Int.reduceToNat, upE, upN, fill_ne, fill_in, i0, r0]; with_reducible exact rfl))
      | with_reducible apply wp_q1
    exact wp_row rfl hr f1
theorem q_sailB (hd : 7 ≤ d) (hI : Inv A) (hs : (s : Int) < A 3) {Y : Nat → Int} (hY : Sh1 A Y) (h0 : 0 ≤ Y 0) {p : Nat} (hp : (p : Int) < A 2) (hw : way A Y p ≠ 0) (h : RwM M A s Y) : ∃ M1, callD d m_Mo_sails [vR 12 0 271, vI (s : Int), vI (p : Int)] (SH L) M = some (some (vI 1), SH L, M1) ∧ RwM M1 A s (sailB A Y p) ∧ ∀ b j, ¬(b = 272 ∧ 146 + 15 * s ≤ j ∧ j < 161 + 15 * s) → M1 b j = M b j := by
  have hC := hI.1
  unfold Cn at hC
  have e := m_sails1 (L := L) (d := d) (s := s) (p := p) (by omega) (h.rm hI (by omega) hY) (by rw [put_3]; exact hs) (by omega) ⟨by rw [E15_put A Y s 0 (by omega)]; omega, by have := put_way (s := s) hI hY h0 (p := p) (by omega); unfold way at this hw; rw [this]; exact hw⟩
  rw [put_way hI hY h0 (by omega)] at e
  refine ⟨_, e, h.cng (fun w hw' => ?_) (fun j hj => by rw [upN (by omega), upN (by omega), upN (by omega)]), fun b j q => by rw [upN (by omega), upN (by omega), upN (by omega)]⟩
  unfold sailB
  by_cases q2 : w = 2
  · subst q2; rw [wU_i, upE rfl (by omega)]
  · rw [wU_n _ q2, upN (by omega)]
    by_cases q1 : w = 1
    · subst q1; rw [wU_i, upE rfl (by omega)]
    · rw [wU_n _ q1, upN (by omega)]
      by_cases q0 : w = 0
      · subst q0; rw [wU_i, upE rfl (by omega)]
      · rw [wU_n _ q0, upN (by omega)]; exact h.1 w hw'
theorem q_goesLeg (hd : 14 ≤ d) (hI : Inv A) (hs : (s : Int) < A 3) (hB : Sh1 A B) (h0 : 0 ≤ B 0) (h : RwM M A s B) {p g : Nat} (hp : p < 6) (hg : g < 9) : Wp (callD d m_Mo_goesLeg [vR 12 0 271, vI (s : Int), vI (p : Int), vI (g : Int)] (SH L) M) (fun r S M' => S = SH L ∧ (∀ b j, b ≠ 280 → ¬(b = 272 ∧ 146 + 15 * s ≤ j ∧ j < 161 + 15 * s) → M' b j = M b j) ∧ (((p : Int) < A 2 ∧ okLeg A (selB A B) p g) ∧ r = some (vI 1) ∧ (∀ w, w < 15 → M' 272 (146 + 15 * s + w) = legB A (gdB A (selB A B) g) p w) ∨ ¬((p : Int) < A 2 ∧ okLeg A (selB A B) p g) ∧ r = some (vI 0))) := by
  have hC := hI.1
  unfold Cn at hC
  have hb := hB.1
  obtain ⟨a, ha⟩ := Int.eq_ofNat_of_zero_le h0
  have lo := h.lo
  have c2 : M 272 2 = A 2 := lo 2 (by omega)
  have r0 : M 272 (146 + 15 * s) = (a : Int) := (h.1 0 (by omega)).trans ha
  have x0 : selB A B 0 = B 0 := sel_0 _ _ (by omega)
  have wy : way A (selB A B) p = A (65 + 15 * a + p) := by unfold way; rw [x0, ha]; rfl
  have wm : M 272 (65 + 15 * a + p) = way A (selB A B) p := by rw [wy]; exact lo _ (by omega)
  by_cases pp : (p : Int) < A 2 ∧ way A (selB A B) p ≠ 0
  · have ne : a ≠ p := fun e => by
      subst e
      have := (hI.2.2.2.2.2.1 a a (by omega) (by omega)).2.2.2
      exact pp.2 (wy.trans this)
    have wb := hI.2.2.2.2.2.1 a p (by omega) hp
    have hX := hB.sel hI h0
    repeat' first
      | (with_reducible apply wp_bR; (simp (disch := omega) only [rM L, rK L, rN L, rNf, rNv, rNp, rNd, rRow, rLeg, rMark, nat_cast, Int.reduceToNat, r0, c2, i65, wm]; with_reducible exact rfl))
      | with_reducible apply wp_bI
      | with_reducible apply wp_bV
      | with_reducible apply wp_bL
      | with_reducible apply wp_rI
      | with_reducible apply wp_rV
      | with_reducible apply wp_rL
      | (with_reducible apply wp_1; (first | omega | (simp (disch := omega) only [not_false_eq_true, not_true_eq_false, w32_id, tLt, fLt, tLe, fEq, itE, and_true, true_and, and_self, and_false, false_and, ↓reduceIte, nat_add, nat_mul3, nat_mul4, nat_mul6, nat_mul15, nat_mul60, nat_cast, nc1, Int.reduceToNat, upE, upN, fill_ne, fill_in, i0, r0, c2, i65, wm] <;> omega)))
      | (with_reducible apply wp_2; (first | omega | (simp (disch := omega) only [not_false_eq_true, not_true_eq_false, w32_id, tLt, fLt, tLe, fEq, itE, and_true, true_and, and_self, and_false, false_and, ↓reduceIte, nat_add, nat_mul3, nat_mul4, nat_mul6, nat_mul15, nat_mul60, nat_cast, nc1, Int.reduceToNat, upE, upN, fill_ne, fill_in, i0, r0, c2, i65, wm] <;> omega)))
      | (with_reducible apply wp_s; (first | (simp (disch := omega) only [not_false_eq_true, not_true_eq_false, w32_id, tLt, fLt, tLe, fEq, itE, and_true, true_and, and_self, and_false, false_and, ↓reduceIte, nat_add, nat_mul3, nat_mul4, nat_mul6, nat_mul15, nat_mul60, nat_cast, nc1, Int.reduceToNat, upE, upN, fill_ne, fill_in, i0, r0, c2, i65, wm]; with_reducible exact Iff.rfl) | with_reducible exact Iff.rfl); intro hc__; (try subst hc__); rotate_left; intro hc__; rotate_left)
      | (with_reducible apply wp_eq; (with_reducible apply cl_go; simp (disch := omega) only [not_false_eq_true, not_true_eq_false, w32_id, tLt, fLt, tLe, fEq, itE, and_true, true_and, and_self, and_false, false_and, ↓reduceIte, nat_add, nat_mul3, nat_mul4, nat_mul6, nat_mul15, nat_mul60, nat_cast, nc1, Int.reduceToNat, upE, upN, fill_ne, fill_in, i0, r0, c2, i65, wm]; with_reducible exact rfl))
      | (with_reducible refine wp_eq (c_Mo_goesLeg (by omega) _ _ _ _ _ _) ?_; with_reducible refine wp_eq (b_Mo_goesLeg_0 _ _ _ _ _ _ _) ?_)
      | (with_reducible refine wp_eq (c_Mo_shipOf (by omega) _ _ _ _ _) ?_; with_reducible refine wp_eq (b_Mo_shipOf_0 _ _ _ _ _ _) ?_)
      | (with_reducible refine wp_eq (c_Mo_shipRow (by omega) _ _ _) ?_; with_reducible refine wp_eq (b_Mo_shipRow_0 _ _ _ _) ?_)
      | (with_reducible refine wp_eq (c_Mo_isPort (by omega) _ _ _ _) ?_; with_reducible refine wp_eq (b_Mo_isPort_0 _ _ _ _ _) ?_)
      | (with_reducible refine wp_eq (c_Mo_wayOf (by omega) _ _ _ _ _) ?_; with_reducible refine wp_eq (b_Mo_wayOf_0 _ _ _ _ _ _) ?_)
      | (with_reducible refine wp_eq (c_Mo_portRow (by omega) _ _ _) ?_; with_reducible refine wp_eq (b_Mo_portRow_0 _ _ _ _) ?_)
      | (with_reducible apply wp_eq; (with_reducible apply lf_go; simp (disch := omega) only [not_false_eq_true, not_true_eq_false, w32_id, tLt, fLt, tLe, fEq, itE, and_true, true_and, and_self, and_false, false_and, ↓reduceIte, nat_add, nat_mul3, nat_mul4, nat_mul6, nat_mul15, nat_mul60, nat_cast, nc1, Int.reduceToNat, upE, upN, fill_ne, fill_in, i0, r0, c2, i65, wm]; with_reducible exact rfl))
      | with_reducible apply wp_q1
    refine wp_qrow (q_sellsAll (by omega) h hI hs hB h0) fun M1 hr1 f1 => ?_
    have hR1 : RwM M1 A s (selB A B) := h.q hr1 f1
    have hX0 : 0 ≤ selB A B 0 := by rw [x0]; exact h0
    have xa : selB A B 0 = (a : Int) := x0.trans ha
    generalize selB A B = X at *
    have lo1 := hR1.lo
    have c1 : M1 272 1 = A 1 := lo1 1 (by omega)
    by_cases g8 : g = 8
    · have ok : okLeg A X p g := ⟨pp.2, Or.inl g8⟩
      obtain ⟨M2, e2, hR2, f2⟩ := q_sailB (L := L) (d := d - 1) (by omega) hI hs hX hX0 pp.1 pp.2 hR1
      repeat' first
        | (with_reducible apply wp_bR; (simp (disch := omega) only [rM L, rK L, rN L, rNf, rNv, rNp, rNd, rRow, rLeg, rMark, nat_cast, Int.reduceToNat]; with_reducible exact rfl))
        | with_reducible apply wp_bI
        | with_reducible apply wp_bV
        | with_reducible apply wp_bL
        | with_reducible apply wp_rI
        | with_reducible apply wp_rV
        | with_reducible apply wp_rL
        | (with_reducible apply wp_1; (first | omega | (simp (disch := omega) only [not_false_eq_true, not_true_eq_false, w32_id, tLt, fLt, tLe, fEq, itE, and_true, true_and, and_self, and_false, false_and, ↓reduceIte, nat_add, nat_mul3, nat_mul4, nat_mul6, nat_mul15, nat_mul60, nat_cast, nc1, Int.reduceToNat, upE, upN, fill_ne, fill_in, i0] <;> omega)))
        | (with_reducible apply wp_2; (first | omega | (simp (disch := omega) only [not_false_eq_true, not_true_eq_false, w32_id, tLt, fLt, tLe, fEq, itE, and_true, true_and, and_self, and_false, false_and, ↓reduceIte, nat_add, nat_mul3, nat_mul4, nat_mul6, nat_mul15, nat_mul60, nat_cast, nc1, Int.reduceToNat, upE, upN, fill_ne, fill_in, i0] <;> omega)))
        | (with_reducible apply wp_s; (first | (simp (disch := omega) only [not_false_eq_true, not_true_eq_false, w32_id, tLt, fLt, tLe, fEq, itE, and_true, true_and, and_self, and_false, false_and, ↓reduceIte, nat_add, nat_mul3, nat_mul4, nat_mul6, nat_mul15, nat_mul60, nat_cast, nc1, Int.reduceToNat, upE, upN, fill_ne, fill_in, i0]; with_reducible exact Iff.rfl) | with_reducible exact Iff.rfl); intro hc__; (try subst hc__); rotate_left; intro hc__; rotate_left)
        | (with_reducible apply wp_eq; (with_reducible apply cl_go; simp (disch := omega) only [not_false_eq_true, not_true_eq_false, w32_id, tLt, fLt, tLe, fEq, itE, and_true, true_and, and_self, and_false, false_and, ↓reduceIte, nat_add, nat_mul3, nat_mul4, nat_mul6, nat_mul15, nat_mul60, nat_cast, nc1, Int.reduceToNat, upE, upN, fill_ne, fill_in, i0]; with_reducible exact rfl))
        | with_reducible refine wp_eq (e2) ?_
        | (with_reducible apply wp_eq; (with_reducible apply lf_go; simp (disch := omega) only [not_false_eq_true, not_true_eq_false, w32_id, tLt, fLt, tLe, fEq, itE, and_true, true_and, and_self, and_false, false_and, ↓reduceIte, nat_add, nat_mul3, nat_mul4, nat_mul6, nat_mul15, nat_mul60, nat_cast, nc1, Int.reduceToNat, upE, upN, fill_ne, fill_in, i0]; with_reducible exact rfl))
        | with_reducible apply wp_q1
      refine wp_qrow (q_land (by omega) hI hs hX hX0 pp.1 pp.2 hR2 _ _ _ _) fun M3 hr3 f3 => ?_
      exact ⟨_, _, _, rfl, rfl, fun b j q1 q2 => by rw [f3 b j q1 q2, f2 b j q2, f1 b j q1 q2], Or.inl ⟨⟨pp.1, ok⟩, rfl, by unfold gdB; rw [if_pos g8]; exact hr3⟩⟩
    · by_cases gg : (g : Int) < A 1
      · have pm : M1 272 (57 + 15 * a + g) = prc A X g := by
          rw [lo1 _ (by omega)]
          unfold prc
          rw [xa]; rfl
        have pb := prc_bd hI.2.2.2.2.1 hI.1 hX (by omega) (g := g) (by omega)
        by_cases p0 : prc A X g = 0
        · have no : ¬((p : Int) < A 2 ∧ okLeg A X p g) := fun q => by
            rcases q.2.2 with e | e
            · exact g8 e
            · exact e.2.1 p0
          repeat' first
            | (with_reducible apply wp_bR; (simp (disch := omega) only [rM L, rK L, rN L, rNf, rNv, rNp, rNd, rRow, rLeg, rMark, nat_cast, Int.reduceToNat, r0, c1, i57, pm]; with_reducible exact rfl))
            | with_reducible apply wp_bI
            | with_reducible apply wp_bV
            | with_reducible apply wp_bL
            | with_reducible apply wp_rI
            | with_reducible apply wp_rV
            | with_reducible apply wp_rL
            | (with_reducible apply wp_1; (first | omega | (simp (disch := omega) only [not_false_eq_true, not_true_eq_false, w32_id, tLt, fLt, tLe, fEq, itE, and_true, true_and, and_self, and_false, false_and, ↓reduceIte, nat_add, nat_mul3, nat_mul4, nat_mul6, nat_mul15, nat_mul60, nat_cast, nc1, Int.reduceToNat, upE, upN, fill_ne, fill_in, i0, r0, c1, i57, pm] <;> omega)))
            | (with_reducible apply wp_2; (first | omega | (simp (disch := omega) only [not_false_eq_true, not_true_eq_false, w32_id, tLt, fLt, tLe, fEq, itE, and_true, true_and, and_self, and_false, false_and, ↓reduceIte, nat_add, nat_mul3, nat_mul4, nat_mul6, nat_mul15, nat_mul60, nat_cast, nc1, Int.reduceToNat, upE, upN, fill_ne, fill_in, i0, r0, c1, i57, pm] <;> omega)))
            | (with_reducible apply wp_s; (first | (simp (disch := omega) only [not_false_eq_true, not_true_eq_false, w32_id, tLt, fLt, tLe, fEq, itE, and_true, true_and, and_self, and_false, false_and, ↓reduceIte, nat_add, nat_mul3, nat_mul4, nat_mul6, nat_mul15, nat_mul60, nat_cast, nc1, Int.reduceToNat, upE, upN, fill_ne, fill_in, i0, r0, c1, i57, pm]; with_reducible exact Iff.rfl) | with_reducible exact Iff.rfl); intro hc__; (try subst hc__); rotate_left; intro hc__; rotate_left)
            | (with_reducible apply wp_eq; (with_reducible apply cl_go; simp (disch := omega) only [not_false_eq_true, not_true_eq_false, w32_id, tLt, fLt, tLe, fEq, itE, and_true, true_and, and_self, and_false, false_and, ↓reduceIte, nat_add, nat_mul3, nat_mul4, nat_mul6, nat_mul15, nat_mul60, nat_cast, nc1, Int.reduceToNat, upE, upN, fill_ne, fill_in, i0, r0, c1, i57, pm]; with_reducible exact rfl))
            | (with_reducible refine wp_eq (c_Mo_isGood (by omega) _ _ _ _) ?_; with_reducible refine wp_eq (b_Mo_isGood_0 _ _ _ _ _) ?_)
            | (with_reducible refine wp_eq (c_Mo_priceOf (by omega) _ _ _ _ _) ?_; with_reducible refine wp_eq (b_Mo_priceOf_0 _ _ _ _ _ _) ?_)
            | (with_reducible refine wp_eq (c_Mo_portRow (by omega) _ _ _) ?_; with_reducible refine wp_eq (b_Mo_portRow_0 _ _ _ _) ?_)
            | (with_reducible apply wp_eq; (with_reducible apply lf_go; simp (disch := omega) only [not_false_eq_true, not_true_eq_false, w32_id, tLt, fLt, tLe, fEq, itE, and_true, true_and, and_self, and_false, false_and, ↓reduceIte, nat_add, nat_mul3, nat_mul4, nat_mul6, nat_mul15, nat_mul60, nat_cast, nc1, Int.reduceToNat, upE, upN, fill_ne, fill_in, i0, r0, c1, i57, pm]; with_reducible exact rfl))
            | with_reducible apply wp_q1
          exact ⟨_, _, _, rfl, rfl, f1, Or.inr ⟨no, rfl⟩⟩
        · obtain ⟨n1, n2, n3, n4, n5, n6, n7⟩ := bmN_bd hI hX hX0 (g := g) (by omega) p0
          have rm1 := hR1.rm hI (by omega) hX
          obtain ⟨p4, p3, p7, pl⟩ := put_row A X s
          have er := q_roomOf (L := L) (d := d - 1) (s := (s : Int)) (by omega) rm1 (by omega) (by rw [put_3]; exact hs)
          rw [show ((s : Int)).toNat = s from rfl, p3, sm_congr (f := ldF (putS A s X) s) (g := ld7 X) pl] at er
          have xb := hX.1
          have x4 : M1 272 (150 + 15 * s) = X 4 := by rw [show 150 + 15 * s = 146 + 15 * s + 4 by omega]; exact hR1.1 4 (by omega)
          have nb : min (X 3 - sm (ld7 X) 8) (Int.tdiv (X 4) (prc A X g)) = bmN A X g := by unfold bmN; omega
          by_cases n0 : 0 < bmN A X g
          · have ok : okLeg A X p g := ⟨pp.2, Or.inr ⟨gg, p0, n0⟩⟩
            have rm2 : RelM (fillP M1 280 (ldF (putS A s X) s) 8) (putS A s X) := rm1.fill (by omega)
            have eb := m_buys1 (L := L) (d := d - 1) (s := s) (g := g) (n := bmN A X g) (by omega) rm2 (by rw [put_3]; exact hs) (by omega) (by omega) n2 ⟨by rw [E15_put A X s 0 (by omega)]; omega, by rw [put_prc hI hX hX0 (by omega)]; exact p0, by rw [E15_put A X s 3 (by omega), sm7_c (E15_put A X s)]; exact n7, by rw [put_prc hI hX hX0 (by omega), E15_put A X s 4 (by omega)]; exact n5⟩
            rw [p4, p7 g (by omega), put_prc hI hX hX0 (by omega)] at eb
            generalize hM3 : up (up (fillP (fillP M1 280 (ldF (putS A s X) s) 8) 280 (ldF (putS A s X) s) 8) 272 (153 + 15 * s + g) (X (7 + g) + bmN A X g)) 272 (150 + 15 * s) (X 4 - prc A X g * bmN A X g) = M3 at eb
            have f3 : ∀ b j, b ≠ 280 → ¬(b = 272 ∧ 146 + 15 * s ≤ j ∧ j < 161 + 15 * s) → M3 b j = M1 b j := fun b j q1 q2 => by rw [← hM3, upN (by omega), upN (by omega), fill_ne (by omega), fill_ne (by omega)]
            have hR3 : RwM M3 A s (bmB A X g) := hR1.q (fun w hw => by
              rw [← hM3]
              unfold bmB
              by_cases q7 : w = 7 + g
              · subst q7; rw [wU_i, upN (by omega), upE rfl (by omega)]
              · rw [wU_n _ q7]
                by_cases q4 : w = 4
                · subst q4; rw [wU_i, upE rfl (by omega)]
                · rw [wU_n _ q4, upN (by omega), upN (by omega), fill_ne (by omega), fill_ne (by omega)]; exact hR1.1 w hw) f3
            have e0 : bmB A X g 0 = X 0 := by unfold bmB; rw [wU_n _ (by omega), wU_n _ (by omega)]
            have ew : way A (bmB A X g) p = way A X p := by unfold way; rw [e0]
            have hY := hX.bm hI hX0 gg p0
            obtain ⟨M4, e4, hR4, f4⟩ := q_sailB (L := L) (d := d - 1) (by omega) hI hs hY (by rw [e0]; exact hX0) pp.1 (by rw [ew]; exact pp.2) hR3
            repeat' first
              | (with_reducible apply wp_bR; (simp (disch := omega) only [rM L, rK L, rN L, rNf, rNv, rNp, rNd, rRow, rLeg, rMark, nat_cast, Int.reduceToNat, r0, c1, i57, i150, pm, x4, nb]; with_reducible exact rfl))
              | with_reducible apply wp_bI
              | with_reducible apply wp_bV
              | with_reducible apply wp_bL
              | with_reducible apply wp_rI
              | with_reducible apply wp_rV
              | with_reducible apply wp_rL
              | (with_reducible apply wp_1; (first | omega | (simp (disch := omega) only [not_false_eq_true, not_true_eq_false, w32_id, tLt, fLt, tLe, fEq, itE, and_true, true_and, and_self, and_false, false_and, ↓reduceIte, nat_add, nat_mul3, nat_mul4, nat_mul6, nat_mul15, nat_mul60, nat_cast, nc1, Int.reduceToNat, upE, upN, fill_ne, fill_in, i0, r0, c1, i57, i150, pm, x4, nb] <;> omega)))
              | (with_reducible apply wp_2; (first | omega | (simp (disch := omega) only [not_false_eq_true, not_true_eq_false, w32_id, tLt, fLt, tLe, fEq, itE, and_true, true_and, and_self, and_false, false_and, ↓reduceIte, nat_add, nat_mul3, nat_mul4, nat_mul6, nat_mul15, nat_mul60, nat_cast, nc1, Int.reduceToNat, upE, upN, fill_ne, fill_in, i0, r0, c1, i57, i150, pm, x4, nb] <;> omega)))
              | (with_reducible apply wp_s; (first | (simp (disch := omega) only [not_false_eq_true, not_true_eq_false, w32_id, tLt, fLt, tLe, fEq, itE, and_true, true_and, and_self, and_false, false_and, ↓reduceIte, nat_add, nat_mul3, nat_mul4, nat_mul6, nat_mul15, nat_mul60, nat_cast, nc1, Int.reduceToNat, upE, upN, fill_ne, fill_in, i0, r0, c1, i57, i150, pm, x4, nb]; with_reducible exact Iff.rfl) | with_reducible exact Iff.rfl); intro hc__; (try subst hc__); rotate_left; intro hc__; rotate_left)
              | (with_reducible apply wp_eq; (with_reducible apply cl_go; simp (disch := omega) only [not_false_eq_true, not_true_eq_false, w32_id, tLt, fLt, tLe, fEq, itE, and_true, true_and, and_self, and_false, false_and, ↓reduceIte, nat_add, nat_mul3, nat_mul4, nat_mul6, nat_mul15, nat_mul60, nat_cast, nc1, Int.reduceToNat, upE, upN, fill_ne, fill_in, i0, r0, c1, i57, i150, pm, x4, nb]; with_reducible exact rfl))
              | (with_reducible refine wp_eq (c_Mo_isGood (by omega) _ _ _ _) ?_; with_reducible refine wp_eq (b_Mo_isGood_0 _ _ _ _ _) ?_)
              | (with_reducible refine wp_eq (c_Mo_priceOf (by omega) _ _ _ _ _) ?_; with_reducible refine wp_eq (b_Mo_priceOf_0 _ _ _ _ _ _) ?_)
              | (with_reducible refine wp_eq (c_Mo_portRow (by omega) _ _ _) ?_; with_reducible refine wp_eq (b_Mo_portRow_0 _ _ _ _) ?_)
              | (with_reducible refine wp_eq (c_Mo_shipOf (by omega) _ _ _ _ _) ?_; with_reducible refine wp_eq (b_Mo_shipOf_0 _ _ _ _ _ _) ?_)
              | (with_reducible refine wp_eq (c_Mo_shipRow (by omega) _ _ _) ?_; with_reducible refine wp_eq (b_Mo_shipRow_0 _ _ _ _) ?_)
              | with_reducible refine wp_eq (er) ?_
              | with_reducible refine wp_eq (eb) ?_
              | with_reducible refine wp_eq (e4) ?_
              | (with_reducible apply wp_eq; (with_reducible apply lf_go; simp (disch := omega) only [not_false_eq_true, not_true_eq_false, w32_id, tLt, fLt, tLe, fEq, itE, and_true, true_and, and_self, and_false, false_and, ↓reduceIte, nat_add, nat_mul3, nat_mul4, nat_mul6, nat_mul15, nat_mul60, nat_cast, nc1, Int.reduceToNat, upE, upN, fill_ne, fill_in, i0, r0, c1, i57, i150, pm, x4, nb]; with_reducible exact rfl))
              | with_reducible apply wp_q1
            refine wp_qrow (q_land (by omega) hI hs hY (by rw [e0]; exact hX0) pp.1 (by rw [ew]; exact pp.2) hR4 _ _ _ _) fun M5 hr5 f5 => ?_
            exact ⟨_, _, _, rfl, rfl, fun b j q1 q2 => by rw [f5 b j q1 q2, f4 b j q2, f3 b j q1 q2, f1 b j q1 q2], Or.inl ⟨⟨pp.1, ok⟩, rfl, by unfold gdB; rw [if_neg g8]; exact hr5⟩⟩
          · have no : ¬((p : Int) < A 2 ∧ okLeg A X p g) := fun q => by
              rcases q.2.2 with e | e
              · exact g8 e
              · exact n0 e.2.2
            repeat' first
              | (with_reducible apply wp_bR; (simp (disch := omega) only [rM L, rK L, rN L, rNf, rNv, rNp, rNd, rRow, rLeg, rMark, nat_cast, Int.reduceToNat, r0, c1, i57, i150, pm, x4, nb]; with_reducible exact rfl))
              | with_reducible apply wp_bI
              | with_reducible apply wp_bV
              | with_reducible apply wp_bL
              | with_reducible apply wp_rI
              | with_reducible apply wp_rV
              | with_reducible apply wp_rL
              | (with_reducible apply wp_1; (first | omega | (simp (disch := omega) only [not_false_eq_true, not_true_eq_false, w32_id, tLt, fLt, tLe, fEq, itE, and_true, true_and, and_self, and_false, false_and, ↓reduceIte, nat_add, nat_mul3, nat_mul4, nat_mul6, nat_mul15, nat_mul60, nat_cast, nc1, Int.reduceToNat, upE, upN, fill_ne, fill_in, i0, r0, c1, i57, i150, pm, x4, nb] <;> omega)))
              | (with_reducible apply wp_2; (first | omega | (simp (disch := omega) only [not_false_eq_true, not_true_eq_false, w32_id, tLt, fLt, tLe, fEq, itE, and_true, true_and, and_self, and_false, false_and, ↓reduceIte, nat_add, nat_mul3, nat_mul4, nat_mul6, nat_mul15, nat_mul60, nat_cast, nc1, Int.reduceToNat, upE, upN, fill_ne, fill_in, i0, r0, c1, i57, i150, pm, x4, nb] <;> omega)))
              | (with_reducible apply wp_s; (first | (simp (disch := omega) only [not_false_eq_true, not_true_eq_false, w32_id, tLt, fLt, tLe, fEq, itE, and_true, true_and, and_self, and_false, false_and, ↓reduceIte, nat_add, nat_mul3, nat_mul4, nat_mul6, nat_mul15, nat_mul60, nat_cast, nc1, Int.reduceToNat, upE, upN, fill_ne, fill_in, i0, r0, c1, i57, i150, pm, x4, nb]; with_reducible exact Iff.rfl) | with_reducible exact Iff.rfl); intro hc__; (try subst hc__); rotate_left; intro hc__; rotate_left)
              | (with_reducible apply wp_eq; (with_reducible apply cl_go; simp (disch := omega) only [not_false_eq_true, not_true_eq_false, w32_id, tLt, fLt, tLe, fEq, itE, and_true, true_and, and_self, and_false, false_and, ↓reduceIte, nat_add, nat_mul3, nat_mul4, nat_mul6, nat_mul15, nat_mul60, nat_cast, nc1, Int.reduceToNat, upE, upN, fill_ne, fill_in, i0, r0, c1, i57, i150, pm, x4, nb]; with_reducible exact rfl))
              | (with_reducible refine wp_eq (c_Mo_isGood (by omega) _ _ _ _) ?_; with_reducible refine wp_eq (b_Mo_isGood_0 _ _ _ _ _) ?_)
              | (with_reducible refine wp_eq (c_Mo_priceOf (by omega) _ _ _ _ _) ?_; with_reducible refine wp_eq (b_Mo_priceOf_0 _ _ _ _ _ _) ?_)
              | (with_reducible refine wp_eq (c_Mo_portRow (by omega) _ _ _) ?_; with_reducible refine wp_eq (b_Mo_portRow_0 _ _ _ _) ?_)
              | (with_reducible refine wp_eq (c_Mo_shipOf (by omega) _ _ _ _ _) ?_; with_reducible refine wp_eq (b_Mo_shipOf_0 _ _ _ _ _ _) ?_)
              | (with_reducible refine wp_eq (c_Mo_shipRow (by omega) _ _ _) ?_; with_reducible refine wp_eq (b_Mo_shipRow_0 _ _ _ _) ?_)
              | with_reducible refine wp_eq (er) ?_
              | (with_reducible apply wp_eq; (with_reducible apply lf_go; simp (disch := omega) only [not_false_eq_true, not_true_eq_false, w32_id, tLt, fLt, tLe, fEq, itE, and_true, true_and, and_self, and_false, false_and, ↓reduceIte, nat_add, nat_mul3, nat_mul4, nat_mul6, nat_mul15, nat_mul60, nat_cast, nc1, Int.reduceToNat, upE, upN, fill_ne, fill_in, i0, r0, c1, i57, i150, pm, x4, nb]; with_reducible exact rfl))
              | with_reducible apply wp_q1
            exact ⟨_, _, _, rfl, rfl, fun b j q1 q2 => by rw [fill_ne (by omega), f1 b j q1 q2], Or.inr ⟨no, rfl⟩⟩
      · have no : ¬((p : Int) < A 2 ∧ okLeg A X p g) := fun q => by
          rcases q.2.2 with e | e
          · exact g8 e
          · exact gg e.1
        repeat' first
          | (with_reducible apply wp_bR; (simp (disch := omega) only [rM L, rK L, rN L, rNf, rNv, rNp, rNd, rRow, rLeg, rMark, nat_cast, Int.reduceToNat, c1]; with_reducible exact rfl))
          | with_reducible apply wp_bI
          | with_reducible apply wp_bV
          | with_reducible apply wp_bL
          | with_reducible apply wp_rI
          | with_reducible apply wp_rV
          | with_reducible apply wp_rL
          | (with_reducible apply wp_1; (first | omega | (simp (disch := omega) only [not_false_eq_true, not_true_eq_false, w32_id, tLt, fLt, tLe, fEq, itE, and_true, true_and, and_self, and_false, false_and, ↓reduceIte, nat_add, nat_mul3, nat_mul4, nat_mul6, nat_mul15, nat_mul60, nat_cast, nc1, Int.reduceToNat, upE, upN, fill_ne, fill_in, i0, c1] <;> omega)))
          | (with_reducible apply wp_2; (first | omega | (simp (disch := omega) only [not_false_eq_true, not_true_eq_false, w32_id, tLt, fLt, tLe, fEq, itE, and_true, true_and, and_self, and_false, false_and, ↓reduceIte, nat_add, nat_mul3, nat_mul4, nat_mul6, nat_mul15, nat_mul60, nat_cast, nc1, Int.reduceToNat, upE, upN, fill_ne, fill_in, i0, c1] <;> omega)))
          | (with_reducible apply wp_s; (first | (simp (disch := omega) only [not_false_eq_true, not_true_eq_false, w32_id, tLt, fLt, tLe, fEq, itE, and_true, true_and, and_self, and_false, false_and, ↓reduceIte, nat_add, nat_mul3, nat_mul4, nat_mul6, nat_mul15, nat_mul60, nat_cast, nc1, Int.reduceToNat, upE, upN, fill_ne, fill_in, i0, c1]; with_reducible exact Iff.rfl) | with_reducible exact Iff.rfl); intro hc__; (try subst hc__); rotate_left; intro hc__; rotate_left)
          | (with_reducible apply wp_eq; (with_reducible apply cl_go; simp (disch := omega) only [not_false_eq_true, not_true_eq_false, w32_id, tLt, fLt, tLe, fEq, itE, and_true, true_and, and_self, and_false, false_and, ↓reduceIte, nat_add, nat_mul3, nat_mul4, nat_mul6, nat_mul15, nat_mul60, nat_cast, nc1, Int.reduceToNat, upE, upN, fill_ne, fill_in, i0, c1]; with_reducible exact rfl))
          | (with_reducible refine wp_eq (c_Mo_isGood (by omega) _ _ _ _) ?_; with_reducible refine wp_eq (b_Mo_isGood_0 _ _ _ _ _) ?_)
          | (with_reducible apply wp_eq; (with_reducible apply lf_go; simp (disch := omega) only [not_false_eq_true, not_true_eq_false, w32_id, tLt, fLt, tLe, fEq, itE, and_true, true_and, and_self, and_false, false_and, ↓reduceIte, nat_add, nat_mul3, nat_mul4, nat_mul6, nat_mul15, nat_mul60, nat_cast, nc1, Int.reduceToNat, upE, upN, fill_ne, fill_in, i0, c1]; with_reducible exact rfl))
          | with_reducible apply wp_q1
        exact ⟨_, _, _, rfl, rfl, f1, Or.inr ⟨no, rfl⟩⟩
  · have no : ¬((p : Int) < A 2 ∧ okLeg A (selB A B) p g) := fun q => pp ⟨q.1, q.2.1⟩
    by_cases p2 : (p : Int) < A 2
    · have w0 : way A (selB A B) p = 0 := Decidable.byContradiction fun q => pp ⟨p2, q⟩
      repeat' first
        | (with_reducible apply wp_bR; (simp (disch := omega) only [rM L, rK L, rN L, rNf, rNv, rNp, rNd, rRow, rLeg, rMark, nat_cast, Int.reduceToNat, r0, c2, i65, wm, w0]; with_reducible exact rfl))
        | with_reducible apply wp_bI
        | with_reducible apply wp_bV
        | with_reducible apply wp_bL
        | with_reducible apply wp_rI
        | with_reducible apply wp_rV
        | with_reducible apply wp_rL
        | (with_reducible apply wp_1; (first | omega | (simp (disch := omega) only [not_false_eq_true, not_true_eq_false, w32_id, tLt, fLt, tLe, fEq, itE, and_true, true_and, and_self, and_false, false_and, ↓reduceIte, nat_add, nat_mul3, nat_mul4, nat_mul6, nat_mul15, nat_mul60, nat_cast, nc1, Int.reduceToNat, upE, upN, fill_ne, fill_in, i0, r0, c2, i65, wm, w0] <;> omega)))
        | (with_reducible apply wp_2; (first | omega | (simp (disch := omega) only [not_false_eq_true, not_true_eq_false, w32_id, tLt, fLt, tLe, fEq, itE, and_true, true_and, and_self, and_false, false_and, ↓reduceIte, nat_add, nat_mul3, nat_mul4, nat_mul6, nat_mul15, nat_mul60, nat_cast, nc1, Int.reduceToNat, upE, upN, fill_ne, fill_in, i0, r0, c2, i65, wm, w0] <;> omega)))
        | (with_reducible apply wp_s; (first | (simp (disch := omega) only [not_false_eq_true, not_true_eq_false, w32_id, tLt, fLt, tLe, fEq, itE, and_true, true_and, and_self, and_false, false_and, ↓reduceIte, nat_add, nat_mul3, nat_mul4, nat_mul6, nat_mul15, nat_mul60, nat_cast, nc1, Int.reduceToNat, upE, upN, fill_ne, fill_in, i0, r0, c2, i65, wm, w0]; with_reducible exact Iff.rfl) | with_reducible exact Iff.rfl); intro hc__; (try subst hc__); rotate_left; intro hc__; rotate_left)
        | (with_reducible apply wp_eq; (with_reducible apply cl_go; simp (disch := omega) only [not_false_eq_true, not_true_eq_false, w32_id, tLt, fLt, tLe, fEq, itE, and_true, true_and, and_self, and_false, false_and, ↓reduceIte, nat_add, nat_mul3, nat_mul4, nat_mul6, nat_mul15, nat_mul60, nat_cast, nc1, Int.reduceToNat, upE, upN, fill_ne, fill_in, i0, r0, c2, i65, wm, w0]; with_reducible exact rfl))
        | (with_reducible refine wp_eq (c_Mo_goesLeg (by omega) _ _ _ _ _ _) ?_; with_reducible refine wp_eq (b_Mo_goesLeg_0 _ _ _ _ _ _ _) ?_)
        | (with_reducible refine wp_eq (c_Mo_shipOf (by omega) _ _ _ _ _) ?_; with_reducible refine wp_eq (b_Mo_shipOf_0 _ _ _ _ _ _) ?_)
        | (with_reducible refine wp_eq (c_Mo_shipRow (by omega) _ _ _) ?_; with_reducible refine wp_eq (b_Mo_shipRow_0 _ _ _ _) ?_)
        | (with_reducible refine wp_eq (c_Mo_isPort (by omega) _ _ _ _) ?_; with_reducible refine wp_eq (b_Mo_isPort_0 _ _ _ _ _) ?_)
        | (with_reducible refine wp_eq (c_Mo_wayOf (by omega) _ _ _ _ _) ?_; with_reducible refine wp_eq (b_Mo_wayOf_0 _ _ _ _ _ _) ?_)
        | (with_reducible refine wp_eq (c_Mo_portRow (by omega) _ _ _) ?_; with_reducible refine wp_eq (b_Mo_portRow_0 _ _ _ _) ?_)
        | (with_reducible apply wp_eq; (with_reducible apply lf_go; simp (disch := omega) only [not_false_eq_true, not_true_eq_false, w32_id, tLt, fLt, tLe, fEq, itE, and_true, true_and, and_self, and_false, false_and, ↓reduceIte, nat_add, nat_mul3, nat_mul4, nat_mul6, nat_mul15, nat_mul60, nat_cast, nc1, Int.reduceToNat, upE, upN, fill_ne, fill_in, i0, r0, c2, i65, wm, w0]; with_reducible exact rfl))
        | with_reducible apply wp_q1
      all_goals exact ⟨_, _, _, rfl, rfl, fun _ _ _ _ => rfl, Or.inr ⟨no, rfl⟩⟩
    · repeat' first
        | (with_reducible apply wp_bR; (simp (disch := omega) only [rM L, rK L, rN L, rNf, rNv, rNp, rNd, rRow, rLeg, rMark, nat_cast, Int.reduceToNat, r0, c2]; with_reducible exact rfl))
        | with_reducible apply wp_bI
        | with_reducible apply wp_bV
        | with_reducible apply wp_bL
        | with_reducible apply wp_rI
        | with_reducible apply wp_rV
        | with_reducible apply wp_rL
        | (with_reducible apply wp_1; (first | omega | (simp (disch := omega) only [not_false_eq_true, not_true_eq_false, w32_id, tLt, fLt, tLe, fEq, itE, and_true, true_and, and_self, and_false, false_and, ↓reduceIte, nat_add, nat_mul3, nat_mul4, nat_mul6, nat_mul15, nat_mul60, nat_cast, nc1, Int.reduceToNat, upE, upN, fill_ne, fill_in, i0, r0, c2] <;> omega)))
        | (with_reducible apply wp_2; (first | omega | (simp (disch := omega) only [not_false_eq_true, not_true_eq_false, w32_id, tLt, fLt, tLe, fEq, itE, and_true, true_and, and_self, and_false, false_and, ↓reduceIte, nat_add, nat_mul3, nat_mul4, nat_mul6, nat_mul15, nat_mul60, nat_cast, nc1, Int.reduceToNat, upE, upN, fill_ne, fill_in, i0, r0, c2] <;> omega)))
        | (with_reducible apply wp_s; (first | (simp (disch := omega) only [not_false_eq_true, not_true_eq_false, w32_id, tLt, fLt, tLe, fEq, itE, and_true, true_and, and_self, and_false, false_and, ↓reduceIte, nat_add, nat_mul3, nat_mul4, nat_mul6, nat_mul15, nat_mul60, nat_cast, nc1, Int.reduceToNat, upE, upN, fill_ne, fill_in, i0, r0, c2]; with_reducible exact Iff.rfl) | with_reducible exact Iff.rfl); intro hc__; (try subst hc__); rotate_left; intro hc__; rotate_left)
        | (with_reducible apply wp_eq; (with_reducible apply cl_go; simp (disch := omega) only [not_false_eq_true, not_true_eq_false, w32_id, tLt, fLt, tLe, fEq, itE, and_true, true_and, and_self, and_false, false_and, ↓reduceIte, nat_add, nat_mul3, nat_mul4, nat_mul6, nat_mul15, nat_mul60, nat_cast, nc1, Int.reduceToNat, upE, upN, fill_ne, fill_in, i0, r0, c2]; with_reducible exact rfl))
        | (with_reducible refine wp_eq (c_Mo_goesLeg (by omega) _ _ _ _ _ _) ?_; with_reducible refine wp_eq (b_Mo_goesLeg_0 _ _ _ _ _ _ _) ?_)
        | (with_reducible refine wp_eq (c_Mo_shipOf (by omega) _ _ _ _ _) ?_; with_reducible refine wp_eq (b_Mo_shipOf_0 _ _ _ _ _ _) ?_)
        | (with_reducible refine wp_eq (c_Mo_shipRow (by omega) _ _ _) ?_; with_reducible refine wp_eq (b_Mo_shipRow_0 _ _ _ _) ?_)
        | (with_reducible refine wp_eq (c_Mo_isPort (by omega) _ _ _ _) ?_; with_reducible refine wp_eq (b_Mo_isPort_0 _ _ _ _ _) ?_)
        | (with_reducible apply wp_eq; (with_reducible apply lf_go; simp (disch := omega) only [not_false_eq_true, not_true_eq_false, w32_id, tLt, fLt, tLe, fEq, itE, and_true, true_and, and_self, and_false, false_and, ↓reduceIte, nat_add, nat_mul3, nat_mul4, nat_mul6, nat_mul15, nat_mul60, nat_cast, nc1, Int.reduceToNat, upE, upN, fill_ne, fill_in, i0, r0, c2]; with_reducible exact rfl))
        | with_reducible apply wp_q1
      all_goals exact ⟨_, _, _, rfl, rfl, fun _ _ _ _ => rfl, Or.inr ⟨no, rfl⟩⟩
end

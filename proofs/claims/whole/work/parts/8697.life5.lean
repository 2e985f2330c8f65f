/-! A LIFE: the class, the whole of it -/
noncomputable def nA (A : Nat → Int) (k : Nat) (dr : Int) (T : Nat → Int) : Nat → Int := if A (206 + 6 * k) ≤ 24 then (doL A k dr T).2.1 else A
noncomputable def nD (A : Nat → Int) (k : Nat) (dr : Int) (T : Nat → Int) : Int := if A (206 + 6 * k) ≤ 24 then (doL A k dr T).2.2.1 else dr
noncomputable def nT (A : Nat → Int) (k : Nat) (dr : Int) (T : Nat → Int) : Nat → Int := if A (206 + 6 * k) ≤ 24 then wU (doL A k dr T).2.2.2 0 (w32 (T 0 + (1 - (doL A k dr T).1))) else T
noncomputable def lfL : Nat → (Nat → Int) → (Nat → Int) → Nat → Int → (Nat → Int) → (Nat → Int) × (Nat → Int) × (Nat → Int) × Nat
  | 0, A, r, k, _, T => if (k : Int) < A 6 then (A, r, wU T 4 1, 0) else (A, r, T, 0)
  | m + 1, A, r, k, dr, T => if (k : Int) < A 6 then (if A (206 + 6 * k) = 28 then (A, r, T, m) else lfL m (nA A k dr T) (eE A (nR A r k, nK A k)).1 (eE A (nR A r k, nK A k)).2 (nD A k dr T) (nT A k dr T)) else (A, r, T, m + 1)
theorem lfL_0 (A r : Nat → Int) (k : Nat) (dr : Int) (T : Nat → Int) : lfL 0 A r k dr T = if (k : Int) < A 6 then (A, r, wU T 4 1, 0) else (A, r, T, 0) := by rw [lfL]
theorem lfL_s (m : Nat) (A r : Nat → Int) (k : Nat) (dr : Int) (T : Nat → Int) : lfL (m + 1) A r k dr T = if (k : Int) < A 6 then (if A (206 + 6 * k) = 28 then (A, r, T, m) else lfL m (nA A k dr T) (eE A (nR A r k, nK A k)).1 (eE A (nR A r k, nK A k)).2 (nD A k dr T) (nT A k dr T)) else (A, r, T, m + 1) := by rw [lfL]
theorem lf_c1 (m : Nat) (hm : m + 1 ≤ 300) : w32 (300 - ((m + 1 : Nat) : Int) + 1) = 300 - (m : Int) := by rw [w32_id (by omega) (by omega)]; omega
theorem lf_c2 (i : Nat) (h : i < 999000) : w32 ((i : Int) + 1) = ((i + 1 : Nat) : Int) := by rw [w32_id (by omega) (by omega)]; rfl
theorem w32_w32 (x : Int) : w32 (w32 x) = w32 x := w32_eq (w32_i x)
section
variable {A r : Nat → Int} {k s g : Nat} {n dr : Int} {T : Nat → Int}
theorem do_ag (hI : Inv A) (hs : StA A k) (ho : A (206 + 6 * k) ≤ 24) (hdr : 0 ≤ dr ∧ dr ≤ 65535) : Inv (doL A k dr T).2.1 ∧ Ag A (doL A k dr T).2.1 ∧ (0 ≤ (doL A k dr T).2.2.1 ∧ (doL A k dr T).2.2.1 ≤ 65535) ∧ (doL A k dr T).2.2.2 0 = T 0 ∧ (doL A k dr T).2.2.2 4 = T 4 := by
  have hC := hI.1
  unfold Cn at hC
  unfold StA at hs
  rcases hs with q | q | q | q | q | q | q | q
  · have e : doL A k dr T = doY A (A (207 + 6 * k)) dr T := by unfold doL; rw [if_pos q.1]
    rw [e]
    unfold doY
    by_cases ok : A 5 + A (207 + 6 * k) ≤ 9999
    · rw [iteP_1 ok]
      exact ⟨(dyN_all hI _ (by omega)).1, Ag.dy hI (by omega), hdr, by dsimp only; rw [wUN (by omega), wUN (by omega)], by dsimp only; rw [wUN (by omega), wUN (by omega)]⟩
    · rw [iteP_0 ok]
      exact ⟨hI, Ag.refl A, hdr, rfl, rfl⟩
  · have z : A (206 + 6 * k) = 20 ∨ A (206 + 6 * k) = 21 ∨ A (206 + 6 * k) = 22 := by omega
    rcases z with z | z | z
    · have e : doL A k dr T = doB A (A (207 + 6 * k)).toNat (A (208 + 6 * k)).toNat (A (209 + 6 * k)) dr T := by unfold doL; rw [if_neg (by omega), if_pos z]
      rw [e]
      unfold doB
      by_cases ok : okBuy A (shp A (A (207 + 6 * k)).toNat) (A (208 + 6 * k)).toNat (A (209 + 6 * k))
      · rw [iteP_1 ok]
        exact ⟨hI.put (by omega) (buy_sh hI (by omega) (by omega) (by omega) (by omega) ok), Ag.put (by omega), hdr, by dsimp only; rw [wUN (by omega)], by dsimp only; rw [wUN (by omega)]⟩
      · rw [iteP_0 ok]
        exact ⟨hI, Ag.refl A, hdr, rfl, rfl⟩
    · have e : doL A k dr T = doS A (A (207 + 6 * k)).toNat (A (208 + 6 * k)).toNat (A (209 + 6 * k)) dr T := by unfold doL; rw [if_neg (by omega), if_neg (by omega), if_pos z]
      rw [e]
      unfold doS
      by_cases ok : okSell A (shp A (A (207 + 6 * k)).toNat) (A (208 + 6 * k)).toNat (A (209 + 6 * k))
      · rw [iteP_1 ok]
        exact ⟨hI.put (by omega) (sell_sh hI (by omega) (by omega) (by omega) (by omega) ok), Ag.put (by omega), hdr, rfl, rfl⟩
      · rw [iteP_0 ok]
        exact ⟨hI, Ag.refl A, hdr, rfl, rfl⟩
    · have e : doL A k dr T = doD A (A (207 + 6 * k)).toNat (A (208 + 6 * k)).toNat (A (209 + 6 * k)) dr T := by unfold doL; rw [if_neg (by omega), if_neg (by omega), if_neg (by omega), if_pos z]
      rw [e]
      unfold doD
      by_cases ok : A (209 + 6 * k) ≤ shp A (A (207 + 6 * k)).toNat (7 + (A (208 + 6 * k)).toNat)
      · rw [iteP_1 ok]
        exact ⟨hI.put (by omega) (dump_sh hI (by omega) (by omega) (by omega) ok), Ag.put (by omega), hdr, rfl, rfl⟩
      · rw [iteP_0 ok]
        exact ⟨hI, Ag.refl A, hdr, rfl, rfl⟩
  · have e : doL A k dr T = doW A (A (207 + 6 * k)).toNat (A (208 + 6 * k)).toNat dr T := by unfold doL; rw [if_neg (by omega), if_neg (by omega), if_neg (by omega), if_neg (by omega), if_pos q.1]
    rw [e]
    unfold doW
    by_cases ok : okSail A (shp A (A (207 + 6 * k)).toNat) (A (208 + 6 * k)).toNat
    · rw [iteP_1 ok]
      exact ⟨hI.put (by omega) (sail_sh hI (by omega) (by omega) ok), Ag.put (by omega), hdr, rfl, rfl⟩
    · rw [iteP_0 ok]
      exact ⟨hI, Ag.refl A, hdr, rfl, rfl⟩
  · have e : doL A k dr T = doW A (A (207 + 6 * k)).toNat (drV (drN dr) (A 2)).toNat (drN dr) T := by unfold doL; rw [if_neg (by omega), if_neg (by omega), if_neg (by omega), if_neg (by omega), if_neg (by omega)]
    have hpt := (hI.2.2.2.2.2.2.1 (A (207 + 6 * k)).toNat (by omega)).pt
    have nb := drN_bd hdr.1 hdr.2
    have vb := drV_bd nb.1 nb.2 (n := A 2) (by omega)
    rw [e]
    unfold doW
    by_cases ok : okSail A (shp A (A (207 + 6 * k)).toNat) (drV (drN dr) (A 2)).toNat
    · rw [iteP_1 ok]
      exact ⟨hI.put (by omega) (sail_sh hI (by omega) (by omega) ok), Ag.put (by omega), nb, rfl, rfl⟩
    · rw [iteP_0 ok]
      exact ⟨hI, Ag.refl A, nb, rfl, rfl⟩
  all_goals omega
theorem RO.nx (h : RO r) (hs : StA A k) : RO (nR A r k) := by
  unfold nR
  split
  · next e =>
    intro o
    unfold wU
    split
    · unfold StA at hs
      omega
    · exact h o
  · exact h
/-- all that a step leaves true -/
theorem n_ag (hI : Inv A) (hs : StA A k) (hdr : 0 ≤ dr ∧ dr ≤ 65535) (hT : w32 (T 0) = T 0) : Inv (nA A k dr T) ∧ Ag A (nA A k dr T) ∧ (0 ≤ nD A k dr T ∧ nD A k dr T ≤ 65535) ∧ w32 (nT A k dr T 0) = nT A k dr T 0 := by
  unfold nA nD nT
  by_cases e : A (206 + 6 * k) ≤ 24
  · rw [if_pos e, if_pos e, if_pos e]
    obtain ⟨a, b, c, _⟩ := do_ag (T := T) hI hs e hdr
    exact ⟨a, b, c, by rw [wUE rfl, w32_w32]⟩
  · rw [if_neg e, if_neg e, if_neg e]
    exact ⟨hI, Ag.refl A, hdr, hT⟩
theorem eE_ag {A' : Nat → Int} (e : Ag A A') (p : (Nat → Int) × Nat) : eE A' p = eE A p := eN_c (fun k hk => e k (by omega)) 200 p
end
section
variable {M M' : Mm} {A r : Nat → Int} {k s : Nat} {dr : Int} {T : Nat → Int} {L d : Nat}
theorem PlC.a (h : PlC M A) : PlA A := ⟨h.2.1, fun k hk => (h.2.2 k hk).a⟩
theorem l_ends (hd : 12 ≤ d) {Q : Option AV → Sp → Mm → Prop} {x n : Int} : ∀ (j i : Nat) (r : Nat → Int) (k : Nat) (M : Mm) (d5 : AV), LC M A r k dr T → RO r → i + j ≤ 70000 → (∀ (i' : Nat) (M' : Mm) (d5' : AV), i' ≤ i + j → LC M' A (eN A j (r, k)).1 (eN A j (r, k)).2 dr T → FrL M M' → Wp (Run (callD (d - 1)) tb_Life_runs 23 [vR 1 0 126, vR 5 0 18, vI x, vI n, vI (i' : Int), d5'] [] (SH L) M') Q) → Wp (Run (callD (d - 1)) tb_Life_runs 23 [vR 1 0 126, vR 5 0 18, vI x, vI n, vI (i : Int), d5] [] (SH L) M) Q
  | 0, i, r, k, M, d5, h, hR, hi, c => c i M d5 (by omega) h (FrL.refl M)
  | j + 1, i, r, k, M, d5, h, hR, hi, c => by
    rw [eN_s] at c
    by_cases e : isE A k
    · rw [if_pos (show isE A (r, k).2 from e)] at c
      have hk3 : M 126 3 = (k : Int) := h.2.2.2.1
      have h5 : M 51 5 = A 6 := h.2.1.1
      have hp := h.2.1.2.1
      have e1 := e.1
      have e2 := e.2
      have a1 : M 52 k = 13 := by
        have so := (h.2.1.2.2 k e.1).op
        rcases so with z | z | z | z | z
        · omega
        · omega
        · omega
        · omega
        · exact z.2
      have le := l_end (L := L) (d := d - 1) (by omega) h hR e
      refine wp_eq (b_Life_runs_23 _ _ _ _ _ _ _ _ _) ?_
      repeat' first
        | (with_reducible apply wp_bR; (simp (disch := omega) only [rM L, rK L, rN L, rNf, rNv, rNp, rNd, rRow, rLeg, rMark, nat_cast, Int.reduceToNat, hk3, h5, a1]; with_reducible exact rfl))
        | with_reducible apply wp_bI
        | with_reducible apply wp_bV
        | with_reducible apply wp_bL
        | with_reducible apply wp_rI
        | with_reducible apply wp_rV
        | with_reducible apply wp_rL
        | (with_reducible apply wp_1; (first | omega | (simp (disch := omega) only [not_false_eq_true, not_true_eq_false, w32_id, tLt, fLt, tLe, fEq, itE, and_true, true_and, and_self, and_false, false_and, ↓reduceIte, nat_add, nat_mul3, nat_mul4, nat_mul6, nat_mul15, nat_mul60, nat_cast, nc1, Int.reduceToNat, upE, upN, fill_ne, fill_in, i0, hk3, h5, a1] <;> omega)))
        | (with_reducible apply wp_2; (first | omega | (simp (disch := omega) only [not_false_eq_true, not_true_eq_false, w32_id, tLt, fLt, tLe, fEq, itE, and_true, true_and, and_self, and_false, false_and, ↓reduceIte, nat_add, nat_mul3, nat_mul4, nat_mul6, nat_mul15, nat_mul60, nat_cast, nc1, Int.reduceToNat, upE, upN, fill_ne, fill_in, i0, hk3, h5, a1] <;> omega)))
        | (with_reducible apply wp_s; (first | (simp (disch := omega) only [not_false_eq_true, not_true_eq_false, w32_id, tLt, fLt, tLe, fEq, itE, and_true, true_and, and_self, and_false, false_and, ↓reduceIte, nat_add, nat_mul3, nat_mul4, nat_mul6, nat_mul15, nat_mul60, nat_cast, nc1, Int.reduceToNat, upE, upN, fill_ne, fill_in, i0, hk3, h5, a1]; with_reducible exact Iff.rfl) | with_reducible exact Iff.rfl); intro hc__; (try subst hc__); rotate_left; intro hc__; rotate_left)
        | (with_reducible apply wp_eq; (with_reducible apply cl_go; simp (disch := omega) only [not_false_eq_true, not_true_eq_false, w32_id, tLt, fLt, tLe, fEq, itE, and_true, true_and, and_self, and_false, false_and, ↓reduceIte, nat_add, nat_mul3, nat_mul4, nat_mul6, nat_mul15, nat_mul60, nat_cast, nc1, Int.reduceToNat, upE, upN, fill_ne, fill_in, i0, hk3, h5, a1]; with_reducible exact rfl))
        | (with_reducible apply wp_eq; (with_reducible apply lf_go; simp (disch := omega) only [not_false_eq_true, not_true_eq_false, w32_id, tLt, fLt, tLe, fEq, itE, and_true, true_and, and_self, and_false, false_and, ↓reduceIte, nat_add, nat_mul3, nat_mul4, nat_mul6, nat_mul15, nat_mul60, nat_cast, nc1, Int.reduceToNat, upE, upN, fill_ne, fill_in, i0, hk3, h5, a1]; with_reducible exact rfl))
        | with_reducible apply wp_q1
      refine wp_qk le fun M1 h1 f1 => ?_
      repeat' first
        | (with_reducible apply wp_bR; (simp (disch := omega) only [rM L, rK L, rN L, rNf, rNv, rNp, rNd, rRow, rLeg, rMark, nat_cast, Int.reduceToNat]; with_reducible exact rfl))
        | with_reducible apply wp_bI
        | with_reducible apply wp_bV
        | with_reducible apply wp_bL
        | with_reducible apply wp_rI
        | with_reducible apply wp_rV
        | with_reducible apply wp_rL
        | (with_reducible apply wp_1; (first | omega | (simp (disch := omega) only [not_false_eq_true, not_true_eq_false, w32_id, tLt, fLt, tLe, fEq, itE, and_true, true_and, and_self, and_false, false_and, ↓reduceIte, nat_add, nat_mul3, nat_mul4, nat_mul6, nat_mul15, nat_mul60, nat_cast, nc1, Int.reduceToNat, upE, upN, fill_ne, fill_in, i0] <;> omega)))
        | (with_reducible apply wp_2; (first | omega | (simp (disch := omega) only [not_false_eq_true, not_true_eq_false, w32_id, tLt, fLt, tLe, fEq, itE, and_true, true_and, and_self, and_false, false_and, ↓reduceIte, nat_add, nat_mul3, nat_mul4, nat_mul6, nat_mul15, nat_mul60, nat_cast, nc1, Int.reduceToNat, upE, upN, fill_ne, fill_in, i0] <;> omega)))
        | (with_reducible apply wp_s; (first | (simp (disch := omega) only [not_false_eq_true, not_true_eq_false, w32_id, tLt, fLt, tLe, fEq, itE, and_true, true_and, and_self, and_false, false_and, ↓reduceIte, nat_add, nat_mul3, nat_mul4, nat_mul6, nat_mul15, nat_mul60, nat_cast, nc1, Int.reduceToNat, upE, upN, fill_ne, fill_in, i0]; with_reducible exact Iff.rfl) | with_reducible exact Iff.rfl); intro hc__; (try subst hc__); rotate_left; intro hc__; rotate_left)
        | (with_reducible apply wp_eq; (with_reducible apply cl_go; simp (disch := omega) only [not_false_eq_true, not_true_eq_false, w32_id, tLt, fLt, tLe, fEq, itE, and_true, true_and, and_self, and_false, false_and, ↓reduceIte, nat_add, nat_mul3, nat_mul4, nat_mul6, nat_mul15, nat_mul60, nat_cast, nc1, Int.reduceToNat, upE, upN, fill_ne, fill_in, i0]; with_reducible exact rfl))
        | (with_reducible apply wp_eq; (with_reducible apply lf_go; simp (disch := omega) only [not_false_eq_true, not_true_eq_false, w32_id, tLt, fLt, tLe, fEq, itE, and_true, true_and, and_self, and_false, false_and, ↓reduceIte, nat_add, nat_mul3, nat_mul4, nat_mul6, nat_mul15, nat_mul60, nat_cast, nc1, Int.reduceToNat, upE, upN, fill_ne, fill_in, i0]; with_reducible exact rfl))
        | with_reducible apply wp_q1
      rw [show w32 ((i : Int) + 1) = ((i + 1 : Nat) : Int) by rw [w32_id (by omega) (by omega)]; rfl]
      exact l_ends hd j (i + 1) _ _ M1 _ h1 (eS_ro (p := (r, k)) hR) (by omega) fun i' M' d5' hi' h' f' => c i' M' d5' (by omega) h' (f1.trans f')
    · rw [if_neg (show ¬isE A (r, k).2 from e)] at c
      exact c i M d5 (by omega) h (FrL.refl M)
def QR (L : Nat) (M : Mm) (q : (Nat → Int) × (Nat → Int) × (Nat → Int) × Nat) : Option AV → Sp → Mm → Prop := fun x S M' => x = some (vI (300 - (q.2.2.2 : Int))) ∧ S = SH L ∧ RelC M' q.1 ∧ (∀ o, o < 60 → M' 128 o = q.2.1 o) ∧ (∀ w, w < 5 → M' 127 w = q.2.2.1 w) ∧ FrL M M'
theorem l_runs (hd : 20 ≤ d) {x : Int} : ∀ (m : Nat) (A r : Nat → Int) (k : Nat) (dr : Int) (T : Nat → Int) (i : Nat) (M0 M : Mm) (d5 : AV), m ≤ 300 → LC M A r k dr T → RO r → 0 ≤ dr ∧ dr ≤ 65535 → w32 (T 0) = T 0 → ¬isE A k → i + 201 * m ≤ 60300 → FrL M0 M → Wp (Run (callD (d - 1)) tb_Life_runs 23 [vR 1 0 126, vR 5 0 18, vI x, vI (300 - (m : Int)), vI (i : Int), d5] [] (SH L) M) (QR L M0 (lfL m A r k dr T))
  | 0, A, r, k, dr, T, i, M0, M, d5, hm, h, hR, hdr, hT, hE, hi, hf => by
    have hk3 : M 126 3 = (k : Int) := h.2.2.2.1
    have h5 : M 51 5 = A 6 := h.2.1.1
    have hp := h.2.1.2.1
    have hi2 : (i : Int) < 999000 := by omega
    have z : (300 : Int) - ((0 : Nat) : Int) = 300 := rfl
    rw [lfL_0, z]
    by_cases e : (k : Int) < A 6
    · rw [if_pos e]
      have a1 : M 52 k ≠ 13 := by
        have so := (h.2.1.2.2 k e).op
        have so : (19 ≤ A (206 + 6 * k) ∧ A (206 + 6 * k) ≤ 24 ∧ M 52 k = A (206 + 6 * k) - 19) ∨ (2500 ≤ A (206 + 6 * k) ∧ 6 ≤ M 52 k ∧ M 52 k ≤ 10) ∨ (A (206 + 6 * k) = 26 ∧ M 52 k = 11) ∨ (A (206 + 6 * k) = 28 ∧ M 52 k = 12) ∨ (A (206 + 6 * k) = 27 ∧ M 52 k = 13) := so
        have : A (206 + 6 * k) ≠ 27 := fun q => hE ⟨e, q⟩
        omega
      refine wp_eq (b_Life_runs_23 _ _ _ _ _ _ _ _ _) ?_
      repeat' first
        | (with_reducible apply wp_bR; (simp (disch := omega) only [rM L, rK L, rN L, rNf, rNv, rNp, rNd, rRow, rLeg, rMark, nat_cast, Int.reduceToNat, hk3, h5]; with_reducible exact rfl))
        | with_reducible apply wp_bI
        | with_reducible apply wp_bV
        | with_reducible apply wp_bL
        | with_reducible apply wp_rI
        | with_reducible apply wp_rV
        | with_reducible apply wp_rL
        | (with_reducible apply wp_1; (first | omega | (simp (disch := omega) only [not_false_eq_true, not_true_eq_false, w32_id, tLt, fLt, tLe, fEq, itE, and_true, true_and, and_self, and_false, false_and, ↓reduceIte, nat_add, nat_mul3, nat_mul4, nat_mul6, nat_mul15, nat_mul60, nat_cast, nc1, Int.reduceToNat, upE, upN, fill_ne, fill_in, i0, hk3, h5] <;> omega)))
        | (with_reducible apply wp_2; (first | omega | (simp (disch := omega) only [not_false_eq_true, not_true_eq_false, w32_id, tLt, fLt, tLe, fEq, itE, and_true, true_and, and_self, and_false, false_and, ↓reduceIte, nat_add, nat_mul3, nat_mul4, nat_mul6, nat_mul15, nat_mul60, nat_cast, nc1, Int.reduceToNat, upE, upN, fill_ne, fill_in, i0, hk3, h5] <;> omega)))
        | (with_reducible apply wp_s; (first | (simp (disch := omega) only [not_false_eq_true, not_true_eq_false, w32_id, tLt, fLt, tLe, fEq, itE, and_true, true_and, and_self, and_false, false_and, ↓reduceIte, nat_add, nat_mul3, nat_mul4, nat_mul6, nat_mul15, nat_mul60, nat_cast, nc1, Int.reduceToNat, upE, upN, fill_ne, fill_in, i0, hk3, h5]; with_reducible exact Iff.rfl) | with_reducible exact Iff.rfl); intro hc__; (try subst hc__); rotate_left; intro hc__; rotate_left)
        | (with_reducible apply wp_eq; (with_reducible apply cl_go; simp (disch := omega) only [not_false_eq_true, not_true_eq_false, w32_id, tLt, fLt, tLe, fEq, itE, and_true, true_and, and_self, and_false, false_and, ↓reduceIte, nat_add, nat_mul3, nat_mul4, nat_mul6, nat_mul15, nat_mul60, nat_cast, nc1, Int.reduceToNat, upE, upN, fill_ne, fill_in, i0, hk3, h5]; with_reducible exact rfl))
        | (with_reducible apply wp_eq; (with_reducible apply lf_go; simp (disch := omega) only [not_false_eq_true, not_true_eq_false, w32_id, tLt, fLt, tLe, fEq, itE, and_true, true_and, and_self, and_false, false_and, ↓reduceIte, nat_add, nat_mul3, nat_mul4, nat_mul6, nat_mul15, nat_mul60, nat_cast, nc1, Int.reduceToNat, upE, upN, fill_ne, fill_in, i0, hk3, h5]; with_reducible exact rfl))
        | with_reducible apply wp_q1
      refine ⟨_, _, _, rfl, rfl, rfl, h.1.fr fun b j q1 q2 q3 => upN (by omega), fun o ho => by rw [upN (by omega)]; exact h.2.2.1 o ho, fun w hw => ?_, hf.trans (FrL.u (by omega))⟩
      dsimp only
      by_cases q : w = 4
      · subst q; rw [upE rfl rfl, wUE rfl]
      · rw [upN (by omega), wUN q]; exact h.2.2.2.2.2 w hw
    · rw [if_neg e]
      refine wp_eq (b_Life_runs_23 _ _ _ _ _ _ _ _ _) ?_
      repeat' first
        | (with_reducible apply wp_bR; (simp (disch := omega) only [rM L, rK L, rN L, rNf, rNv, rNp, rNd, rRow, rLeg, rMark, nat_cast, Int.reduceToNat, hk3, h5]; with_reducible exact rfl))
        | with_reducible apply wp_bI
        | with_reducible apply wp_bV
        | with_reducible apply wp_bL
        | with_reducible apply wp_rI
        | with_reducible apply wp_rV
        | with_reducible apply wp_rL
        | (with_reducible apply wp_1; (first | omega | (simp (disch := omega) only [not_false_eq_true, not_true_eq_false, w32_id, tLt, fLt, tLe, fEq, itE, and_true, true_and, and_self, and_false, false_and, ↓reduceIte, nat_add, nat_mul3, nat_mul4, nat_mul6, nat_mul15, nat_mul60, nat_cast, nc1, Int.reduceToNat, upE, upN, fill_ne, fill_in, i0, hk3, h5] <;> omega)))
        | (with_reducible apply wp_2; (first | omega | (simp (disch := omega) only [not_false_eq_true, not_true_eq_false, w32_id, tLt, fLt, tLe, fEq, itE, and_true, true_and, and_self, and_false, false_and, ↓reduceIte, nat_add, nat_mul3, nat_mul4, nat_mul6, nat_mul15, nat_mul60, nat_cast, nc1, Int.reduceToNat, upE, upN, fill_ne, fill_in, i0, hk3, h5] <;> omega)))
        | (with_reducible apply wp_s; (first | (simp (disch := omega) only [not_false_eq_true, not_true_eq_false, w32_id, tLt, fLt, tLe, fEq, itE, and_true, true_and, and_self, and_false, false_and, ↓reduceIte, nat_add, nat_mul3, nat_mul4, nat_mul6, nat_mul15, nat_mul60, nat_cast, nc1, Int.reduceToNat, upE, upN, fill_ne, fill_in, i0, hk3, h5]; with_reducible exact Iff.rfl) | with_reducible exact Iff.rfl); intro hc__; (try subst hc__); rotate_left; intro hc__; rotate_left)
        | (with_reducible apply wp_eq; (with_reducible apply cl_go; simp (disch := omega) only [not_false_eq_true, not_true_eq_false, w32_id, tLt, fLt, tLe, fEq, itE, and_true, true_and, and_self, and_false, false_and, ↓reduceIte, nat_add, nat_mul3, nat_mul4, nat_mul6, nat_mul15, nat_mul60, nat_cast, nc1, Int.reduceToNat, upE, upN, fill_ne, fill_in, i0, hk3, h5]; with_reducible exact rfl))
        | (with_reducible apply wp_eq; (with_reducible apply lf_go; simp (disch := omega) only [not_false_eq_true, not_true_eq_false, w32_id, tLt, fLt, tLe, fEq, itE, and_true, true_and, and_self, and_false, false_and, ↓reduceIte, nat_add, nat_mul3, nat_mul4, nat_mul6, nat_mul15, nat_mul60, nat_cast, nc1, Int.reduceToNat, upE, upN, fill_ne, fill_in, i0, hk3, h5]; with_reducible exact rfl))
        | with_reducible apply wp_q1
      exact ⟨_, _, _, rfl, rfl, rfl, h.1, h.2.2.1, h.2.2.2.2.2, hf⟩
  | m + 1, A, r, k, dr, T, i, M0, M, d5, hm, h, hR, hdr, hT, hE, hi, hf => by
    have hI := h.1.2.2.2
    have hk3 : M 126 3 = (k : Int) := h.2.2.2.1
    have h5 : M 51 5 = A 6 := h.2.1.1
    have hp := h.2.1.2.1
    have hi2 : (i : Int) < 999000 := by omega
    rw [lfL_s]
    by_cases e : (k : Int) < A 6
    · rw [if_pos e]
      have st := h.2.1.2.2 k e
      have sa := st.a
      have so : (19 ≤ A (206 + 6 * k) ∧ A (206 + 6 * k) ≤ 24 ∧ M 52 k = A (206 + 6 * k) - 19) ∨ (2500 ≤ A (206 + 6 * k) ∧ 6 ≤ M 52 k ∧ M 52 k ≤ 10) ∨ (A (206 + 6 * k) = 26 ∧ M 52 k = 11) ∨ (A (206 + 6 * k) = 28 ∧ M 52 k = 12) ∨ (A (206 + 6 * k) = 27 ∧ M 52 k = 13) := st.op
      have n27 : A (206 + 6 * k) ≠ 27 := fun q => hE ⟨e, q⟩
      obtain ⟨g1, g2, g3, g4⟩ := n_ag (T := T) hI sa hdr hT
      -- what comes behind a step
      have go : ∀ (M1 : Mm) (d5' : AV), LC M1 (nA A k dr T) (nR A r k) (nK A k) (nD A k dr T) (nT A k dr T) → FrL M M1 → Wp (Run (callD (d - 1)) tb_Life_runs 23 [vR 1 0 126, vR 5 0 18, vI x, vI (300 - (m : Int)), vI ((i + 1 : Nat) : Int), d5'] [] (SH L) M1) (QR L M0 (lfL m (nA A k dr T) (eE A (nR A r k, nK A k)).1 (eE A (nR A r k, nK A k)).2 (nD A k dr T) (nT A k dr T))) := by
        intro M1 d5' h1 f1
        have hR1 := hR.nx sa
        refine l_ends (by omega) 200 (i + 1) _ _ M1 d5' h1 hR1 (by omega) fun i' M2 d5'' hi' h2 f2 => ?_
        rw [show eN (nA A k dr T) 200 (nR A r k, nK A k) = eE A (nR A r k, nK A k) from eE_ag g2 _] at h2
        refine l_runs hd m _ _ _ _ _ i' M0 M2 d5'' (by omega) h2 ?_ g3 g4 ?_ (by omega) (hf.trans (f1.trans f2))
        · exact eN_ro 200 hR1
        · have := eE_end h1.2.1.a.pf (p := (nR A r k, nK A k)) hR1
          rwa [eE_ag g2] at this
      by_cases o24 : A (206 + 6 * k) ≤ 24
      · rw [if_neg (by omega)]
        have ld := l_does (L := L) (d := d - 1) (by omega) h e (by omega) hdr
        have t0 : M 127 0 = T 0 := h.2.2.2.2.2 0 (by omega)
        have dg := do_ag (T := T) hI sa o24 hdr
        have d01 := do_01 (A := A) (k := k) (dr := dr) (T := T)
        have l6 : M 52 k < 6 := by omega
        refine wp_eq (b_Life_runs_23 _ _ _ _ _ _ _ _ _) ?_
        repeat' first
          | (with_reducible apply wp_bR; (simp (disch := omega) only [rM L, rK L, rN L, rNf, rNv, rNp, rNd, rRow, rLeg, rMark, nat_cast, Int.reduceToNat, hk3, h5]; with_reducible exact rfl))
          | with_reducible apply wp_bI
          | with_reducible apply wp_bV
          | with_reducible apply wp_bL
          | with_reducible apply wp_rI
          | with_reducible apply wp_rV
          | with_reducible apply wp_rL
          | (with_reducible apply wp_1; (first | omega | (simp (disch := omega) only [not_false_eq_true, not_true_eq_false, w32_id, tLt, fLt, tLe, fEq, itE, and_true, true_and, and_self, and_false, false_and, ↓reduceIte, nat_add, nat_mul3, nat_mul4, nat_mul6, nat_mul15, nat_mul60, nat_cast, nc1, Int.reduceToNat, upE, upN, fill_ne, fill_in, i0, hk3, h5] <;> omega)))
          | (with_reducible apply wp_2; (first | omega | (simp (disch := omega) only [not_false_eq_true, not_true_eq_false, w32_id, tLt, fLt, tLe, fEq, itE, and_true, true_and, and_self, and_false, false_and, ↓reduceIte, nat_add, nat_mul3, nat_mul4, nat_mul6, nat_mul15, nat_mul60, nat_cast, nc1, Int.reduceToNat, upE, upN, fill_ne, fill_in, i0, hk3, h5] <;> omega)))
          | (with_reducible apply wp_s; (first | (simp (disch := omega) only [not_false_eq_true, not_true_eq_false, w32_id, tLt, fLt, tLe, fEq, itE, and_true, true_and, and_self, and_false, false_and, ↓reduceIte, nat_add, nat_mul3, nat_mul4, nat_mul6, nat_mul15, nat_mul60, nat_cast, nc1, Int.reduceToNat, upE, upN, fill_ne, fill_in, i0, hk3, h5]; with_reducible exact Iff.rfl) | with_reducible exact Iff.rfl); intro hc__; (try subst hc__); rotate_left; intro hc__; rotate_left)
          | (with_reducible apply wp_eq; (with_reducible apply cl_go; simp (disch := omega) only [not_false_eq_true, not_true_eq_false, w32_id, tLt, fLt, tLe, fEq, itE, and_true, true_and, and_self, and_false, false_and, ↓reduceIte, nat_add, nat_mul3, nat_mul4, nat_mul6, nat_mul15, nat_mul60, nat_cast, nc1, Int.reduceToNat, upE, upN, fill_ne, fill_in, i0, hk3, h5]; with_reducible exact rfl))
          | (with_reducible apply wp_eq; (with_reducible apply lf_go; simp (disch := omega) only [not_false_eq_true, not_true_eq_false, w32_id, tLt, fLt, tLe, fEq, itE, and_true, true_and, and_self, and_false, false_and, ↓reduceIte, nat_add, nat_mul3, nat_mul4, nat_mul6, nat_mul15, nat_mul60, nat_cast, nc1, Int.reduceToNat, upE, upN, fill_ne, fill_in, i0, hk3, h5]; with_reducible exact rfl))
          | with_reducible apply wp_q1
        refine wp_ql ld fun M1 h1 f1 => ?_
        have eR : nR A r k = r := by unfold nR; rw [if_neg (by omega)]
        have eK : nK A k = k + 1 := by unfold nK; rw [if_pos (by omega)]
        have eA : nA A k dr T = (doL A k dr T).2.1 := by unfold nA; rw [if_pos o24]
        have eD : nD A k dr T = (doL A k dr T).2.2.1 := by unfold nD; rw [if_pos o24]
        have eT : nT A k dr T = wU (doL A k dr T).2.2.2 0 (w32 (T 0 + (1 - (doL A k dr T).1))) := by unfold nT; rw [if_pos o24]
        have k1 : M1 126 3 = (k : Int) := h1.2.2.2.1
        have fin : ∀ y : Int, y = w32 (T 0 + (1 - (doL A k dr T).1)) → LC (up (up M1 127 0 y) 126 3 ((k : Int) + 1)) (nA A k dr T) (nR A r k) (nK A k) (nD A k dr T) (nT A k dr T) ∧ FrL M (up (up M1 127 0 y) 126 3 ((k : Int) + 1)) := fun y hy => by
          rw [eR, eK, eA, eD, eT]
          refine ⟨h1.fr (fun b j q1 q2 q3 => by rw [upN (by omega), upN (by omega)]) (fun o ho => by rw [upN (by omega), upN (by omega)]; exact h1.2.2.1 o ho) (by rw [upE rfl rfl]; rfl) (by rw [upN (by omega), upN (by omega)]; exact h1.2.2.2.2.1) fun w hw => ?_, f1.trans (FrL.trans (FrL.u (by omega)) (FrL.u (by omega)))⟩
          by_cases q : w = 0
          · subst q; rw [upN (by omega), upE rfl rfl, wUE rfl]; exact hy
          · rw [upN (by omega), upN (by omega), wUN q]; exact h1.2.2.2.2.2 w hw
        generalize hok : (doL A k dr T).1 = ok at d01 fin ⊢
        rcases d01 with rfl | rfl
        · have q := fin (w32 (T 0 + 1)) (by rfl)
          have em : w32 ((up M1 127 0 (w32 (M 127 0 + 1))) 126 3 + 1) = (k : Int) + 1 := by rw [upN (by omega), k1, w32_id (by omega) (by omega)]
          repeat' first
            | (with_reducible apply wp_bR; (simp (disch := omega) only [rM L, rK L, rN L, rNf, rNv, rNp, rNd, rRow, rLeg, rMark, nat_cast, Int.reduceToNat]; with_reducible exact rfl))
            | with_reducible apply wp_bI
            | with_reducible apply wp_bV
            | with_reducible apply wp_bL
            | with_reducible apply wp_rI
            | with_reducible apply wp_rV
            | with_reducible apply wp_rL
            | (with_reducible apply wp_1; (first | omega | (simp (disch := omega) only [not_false_eq_true, not_true_eq_false, w32_id, tLt, fLt, tLe, fEq, itE, and_true, true_and, and_self, and_false, false_and, ↓reduceIte, nat_add, nat_mul3, nat_mul4, nat_mul6, nat_mul15, nat_mul60, nat_cast, nc1, Int.reduceToNat, upE, upN, fill_ne, fill_in, i0] <;> omega)))
            | (with_reducible apply wp_2; (first | omega | (simp (disch := omega) only [not_false_eq_true, not_true_eq_false, w32_id, tLt, fLt, tLe, fEq, itE, and_true, true_and, and_self, and_false, false_and, ↓reduceIte, nat_add, nat_mul3, nat_mul4, nat_mul6, nat_mul15, nat_mul60, nat_cast, nc1, Int.reduceToNat, upE, upN, fill_ne, fill_in, i0] <;> omega)))
            | (with_reducible apply wp_s; (first | (simp (disch := omega) only [not_false_eq_true, not_true_eq_false, w32_id, tLt, fLt, tLe, fEq, itE, and_true, true_and, and_self, and_false, false_and, ↓reduceIte, nat_add, nat_mul3, nat_mul4, nat_mul6, nat_mul15, nat_mul60, nat_cast, nc1, Int.reduceToNat, upE, upN, fill_ne, fill_in, i0]; with_reducible exact Iff.rfl) | with_reducible exact Iff.rfl); intro hc__; (try subst hc__); rotate_left; intro hc__; rotate_left)
            | (with_reducible apply wp_eq; (with_reducible apply cl_go; simp (disch := omega) only [not_false_eq_true, not_true_eq_false, w32_id, tLt, fLt, tLe, fEq, itE, and_true, true_and, and_self, and_false, false_and, ↓reduceIte, nat_add, nat_mul3, nat_mul4, nat_mul6, nat_mul15, nat_mul60, nat_cast, nc1, Int.reduceToNat, upE, upN, fill_ne, fill_in, i0]; with_reducible exact rfl))
            | (with_reducible apply wp_eq; (with_reducible apply lf_go; simp (disch := omega) only [not_false_eq_true, not_true_eq_false, w32_id, tLt, fLt, tLe, fEq, itE, and_true, true_and, and_self, and_false, false_and, ↓reduceIte, nat_add, nat_mul3, nat_mul4, nat_mul6, nat_mul15, nat_mul60, nat_cast, nc1, Int.reduceToNat, upE, upN, fill_ne, fill_in, i0]; with_reducible exact rfl))
            | with_reducible apply wp_q1
          rw [em, t0, lf_c1 m hm, lf_c2 i (by omega)]
          exact go _ _ q.1 q.2
        · have q := fin (w32 (T 0 + 0)) (by rfl)
          have em : w32 ((up M1 127 0 (w32 (M 127 0 + 0))) 126 3 + 1) = (k : Int) + 1 := by rw [upN (by omega), k1, w32_id (by omega) (by omega)]
          repeat' first
            | (with_reducible apply wp_bR; (simp (disch := omega) only [rM L, rK L, rN L, rNf, rNv, rNp, rNd, rRow, rLeg, rMark, nat_cast, Int.reduceToNat]; with_reducible exact rfl))
            | with_reducible apply wp_bI
            | with_reducible apply wp_bV
            | with_reducible apply wp_bL
            | with_reducible apply wp_rI
            | with_reducible apply wp_rV
            | with_reducible apply wp_rL
            | (with_reducible apply wp_1; (first | omega | (simp (disch := omega) only [not_false_eq_true, not_true_eq_false, w32_id, tLt, fLt, tLe, fEq, itE, and_true, true_and, and_self, and_false, false_and, ↓reduceIte, nat_add, nat_mul3, nat_mul4, nat_mul6, nat_mul15, nat_mul60, nat_cast, nc1, Int.reduceToNat, upE, upN, fill_ne, fill_in, i0] <;> omega)))
            | (with_reducible apply wp_2; (first | omega | (simp (disch := omega) only [not_false_eq_true, not_true_eq_false, w32_id, tLt, fLt, tLe, fEq, itE, and_true, true_and, and_self, and_false, false_and, ↓reduceIte, nat_add, nat_mul3, nat_mul4, nat_mul6, nat_mul15, nat_mul60, nat_cast, nc1, Int.reduceToNat, upE, upN, fill_ne, fill_in, i0] <;> omega)))
            | (with_reducible apply wp_s; (first | (simp (disch := omega) only [not_false_eq_true, not_true_eq_false, w32_id, tLt, fLt, tLe, fEq, itE, and_true, true_and, and_self, and_false, false_and, ↓reduceIte, nat_add, nat_mul3, nat_mul4, nat_mul6, nat_mul15, nat_mul60, nat_cast, nc1, Int.reduceToNat, upE, upN, fill_ne, fill_in, i0]; with_reducible exact Iff.rfl) | with_reducible exact Iff.rfl); intro hc__; (try subst hc__); rotate_left; intro hc__; rotate_left)
            | (with_reducible apply wp_eq; (with_reducible apply cl_go; simp (disch := omega) only [not_false_eq_true, not_true_eq_false, w32_id, tLt, fLt, tLe, fEq, itE, and_true, true_and, and_self, and_false, false_and, ↓reduceIte, nat_add, nat_mul3, nat_mul4, nat_mul6, nat_mul15, nat_mul60, nat_cast, nc1, Int.reduceToNat, upE, upN, fill_ne, fill_in, i0]; with_reducible exact rfl))
            | (with_reducible apply wp_eq; (with_reducible apply lf_go; simp (disch := omega) only [not_false_eq_true, not_true_eq_false, w32_id, tLt, fLt, tLe, fEq, itE, and_true, true_and, and_self, and_false, false_and, ↓reduceIte, nat_add, nat_mul3, nat_mul4, nat_mul6, nat_mul15, nat_mul60, nat_cast, nc1, Int.reduceToNat, upE, upN, fill_ne, fill_in, i0]; with_reducible exact rfl))
            | with_reducible apply wp_q1
          rw [em, t0, lf_c1 m hm, lf_c2 i (by omega)]
          exact go _ _ q.1 q.2
      · have lt := l_turn (L := L) (d := d - 1) (by omega) h e (by omega) n27
        have l6 : ¬ M 52 k < 6 := by omega
        have l13 : M 52 k ≠ 13 := by omega
        refine wp_eq (b_Life_runs_23 _ _ _ _ _ _ _ _ _) ?_
        repeat' first
          | (with_reducible apply wp_bR; (simp (disch := omega) only [rM L, rK L, rN L, rNf, rNv, rNp, rNd, rRow, rLeg, rMark, nat_cast, Int.reduceToNat, hk3, h5]; with_reducible exact rfl))
          | with_reducible apply wp_bI
          | with_reducible apply wp_bV
          | with_reducible apply wp_bL
          | with_reducible apply wp_rI
          | with_reducible apply wp_rV
          | with_reducible apply wp_rL
          | (with_reducible apply wp_1; (first | omega | (simp (disch := omega) only [not_false_eq_true, not_true_eq_false, w32_id, tLt, fLt, tLe, fEq, itE, and_true, true_and, and_self, and_false, false_and, ↓reduceIte, nat_add, nat_mul3, nat_mul4, nat_mul6, nat_mul15, nat_mul60, nat_cast, nc1, Int.reduceToNat, upE, upN, fill_ne, fill_in, i0, hk3, h5] <;> omega)))
          | (with_reducible apply wp_2; (first | omega | (simp (disch := omega) only [not_false_eq_true, not_true_eq_false, w32_id, tLt, fLt, tLe, fEq, itE, and_true, true_and, and_self, and_false, false_and, ↓reduceIte, nat_add, nat_mul3, nat_mul4, nat_mul6, nat_mul15, nat_mul60, nat_cast, nc1, Int.reduceToNat, upE, upN, fill_ne, fill_in, i0, hk3, h5] <;> omega)))
          | (with_reducible apply wp_s; (first | (simp (disch := omega) only [not_false_eq_true, not_true_eq_false, w32_id, tLt, fLt, tLe, fEq, itE, and_true, true_and, and_self, and_false, false_and, ↓reduceIte, nat_add, nat_mul3, nat_mul4, nat_mul6, nat_mul15, nat_mul60, nat_cast, nc1, Int.reduceToNat, upE, upN, fill_ne, fill_in, i0, hk3, h5]; with_reducible exact Iff.rfl) | with_reducible exact Iff.rfl); intro hc__; (try subst hc__); rotate_left; intro hc__; rotate_left)
          | (with_reducible apply wp_eq; (with_reducible apply cl_go; simp (disch := omega) only [not_false_eq_true, not_true_eq_false, w32_id, tLt, fLt, tLe, fEq, itE, and_true, true_and, and_self, and_false, false_and, ↓reduceIte, nat_add, nat_mul3, nat_mul4, nat_mul6, nat_mul15, nat_mul60, nat_cast, nc1, Int.reduceToNat, upE, upN, fill_ne, fill_in, i0, hk3, h5]; with_reducible exact rfl))
          | (with_reducible apply wp_eq; (with_reducible apply lf_go; simp (disch := omega) only [not_false_eq_true, not_true_eq_false, w32_id, tLt, fLt, tLe, fEq, itE, and_true, true_and, and_self, and_false, false_and, ↓reduceIte, nat_add, nat_mul3, nat_mul4, nat_mul6, nat_mul15, nat_mul60, nat_cast, nc1, Int.reduceToNat, upE, upN, fill_ne, fill_in, i0, hk3, h5]; with_reducible exact rfl))
          | with_reducible apply wp_q1
        refine wp_qk lt fun M1 h1 f1 => ?_
        repeat' first
          | (with_reducible apply wp_bR; (simp (disch := omega) only [rM L, rK L, rN L, rNf, rNv, rNp, rNd, rRow, rLeg, rMark, nat_cast, Int.reduceToNat]; with_reducible exact rfl))
          | with_reducible apply wp_bI
          | with_reducible apply wp_bV
          | with_reducible apply wp_bL
          | with_reducible apply wp_rI
          | with_reducible apply wp_rV
          | with_reducible apply wp_rL
          | (with_reducible apply wp_1; (first | omega | (simp (disch := omega) only [not_false_eq_true, not_true_eq_false, w32_id, tLt, fLt, tLe, fEq, itE, and_true, true_and, and_self, and_false, false_and, ↓reduceIte, nat_add, nat_mul3, nat_mul4, nat_mul6, nat_mul15, nat_mul60, nat_cast, nc1, Int.reduceToNat, upE, upN, fill_ne, fill_in, i0] <;> omega)))
          | (with_reducible apply wp_2; (first | omega | (simp (disch := omega) only [not_false_eq_true, not_true_eq_false, w32_id, tLt, fLt, tLe, fEq, itE, and_true, true_and, and_self, and_false, false_and, ↓reduceIte, nat_add, nat_mul3, nat_mul4, nat_mul6, nat_mul15, nat_mul60, nat_cast, nc1, Int.reduceToNat, upE, upN, fill_ne, fill_in, i0] <;> omega)))
          | (with_reducible apply wp_s; (first | (simp (disch := omega) only [not_false_eq_true, not_true_eq_false, w32_id, tLt, fLt, tLe, fEq, itE, and_true, true_and, and_self, and_false, false_and, ↓reduceIte, nat_add, nat_mul3, nat_mul4, nat_mul6, nat_mul15, nat_mul60, nat_cast, nc1, Int.reduceToNat, upE, upN, fill_ne, fill_in, i0]; with_reducible exact Iff.rfl) | with_reducible exact Iff.rfl); intro hc__; (try subst hc__); rotate_left; intro hc__; rotate_left)
          | (with_reducible apply wp_eq; (with_reducible apply cl_go; simp (disch := omega) only [not_false_eq_true, not_true_eq_false, w32_id, tLt, fLt, tLe, fEq, itE, and_true, true_and, and_self, and_false, false_and, ↓reduceIte, nat_add, nat_mul3, nat_mul4, nat_mul6, nat_mul15, nat_mul60, nat_cast, nc1, Int.reduceToNat, upE, upN, fill_ne, fill_in, i0]; with_reducible exact rfl))
          | (with_reducible apply wp_eq; (with_reducible apply lf_go; simp (disch := omega) only [not_false_eq_true, not_true_eq_false, w32_id, tLt, fLt, tLe, fEq, itE, and_true, true_and, and_self, and_false, false_and, ↓reduceIte, nat_add, nat_mul3, nat_mul4, nat_mul6, nat_mul15, nat_mul60, nat_cast, nc1, Int.reduceToNat, upE, upN, fill_ne, fill_in, i0]; with_reducible exact rfl))
          | with_reducible apply wp_q1
        rw [lf_c1 m hm, lf_c2 i (by omega)]
        by_cases o28 : A (206 + 6 * k) = 28
        · rw [if_pos o28]
          have eR : nR A r k = r := by unfold nR; rw [if_neg (by omega)]
          have eK : nK A k = (A 6).toNat := by unfold nK; rw [if_neg (by omega), if_pos o28]
          rw [eR, eK] at h1
          have k1 : M1 126 3 = (((A 6).toNat : Nat) : Int) := h1.2.2.2.1
          have h51 : M1 51 5 = A 6 := h1.2.1.1
          refine wp_eq (b_Life_runs_23 _ _ _ _ _ _ _ _ _) ?_
          repeat' first
            | (with_reducible apply wp_bR; (simp (disch := omega) only [rM L, rK L, rN L, rNf, rNv, rNp, rNd, rRow, rLeg, rMark, nat_cast, Int.reduceToNat, k1, h51]; with_reducible exact rfl))
            | with_reducible apply wp_bI
            | with_reducible apply wp_bV
            | with_reducible apply wp_bL
            | with_reducible apply wp_rI
            | with_reducible apply wp_rV
            | with_reducible apply wp_rL
            | (with_reducible apply wp_1; (first | omega | (simp (disch := omega) only [not_false_eq_true, not_true_eq_false, w32_id, tLt, fLt, tLe, fEq, itE, and_true, true_and, and_self, and_false, false_and, ↓reduceIte, nat_add, nat_mul3, nat_mul4, nat_mul6, nat_mul15, nat_mul60, nat_cast, nc1, Int.reduceToNat, upE, upN, fill_ne, fill_in, i0, k1, h51] <;> omega)))
            | (with_reducible apply wp_2; (first | omega | (simp (disch := omega) only [not_false_eq_true, not_true_eq_false, w32_id, tLt, fLt, tLe, fEq, itE, and_true, true_and, and_self, and_false, false_and, ↓reduceIte, nat_add, nat_mul3, nat_mul4, nat_mul6, nat_mul15, nat_mul60, nat_cast, nc1, Int.reduceToNat, upE, upN, fill_ne, fill_in, i0, k1, h51] <;> omega)))
            | (with_reducible apply wp_s; (first | (simp (disch := omega) only [not_false_eq_true, not_true_eq_false, w32_id, tLt, fLt, tLe, fEq, itE, and_true, true_and, and_self, and_false, false_and, ↓reduceIte, nat_add, nat_mul3, nat_mul4, nat_mul6, nat_mul15, nat_mul60, nat_cast, nc1, Int.reduceToNat, upE, upN, fill_ne, fill_in, i0, k1, h51]; with_reducible exact Iff.rfl) | with_reducible exact Iff.rfl); intro hc__; (try subst hc__); rotate_left; intro hc__; rotate_left)
            | (with_reducible apply wp_eq; (with_reducible apply cl_go; simp (disch := omega) only [not_false_eq_true, not_true_eq_false, w32_id, tLt, fLt, tLe, fEq, itE, and_true, true_and, and_self, and_false, false_and, ↓reduceIte, nat_add, nat_mul3, nat_mul4, nat_mul6, nat_mul15, nat_mul60, nat_cast, nc1, Int.reduceToNat, upE, upN, fill_ne, fill_in, i0, k1, h51]; with_reducible exact rfl))
            | (with_reducible apply wp_eq; (with_reducible apply lf_go; simp (disch := omega) only [not_false_eq_true, not_true_eq_false, w32_id, tLt, fLt, tLe, fEq, itE, and_true, true_and, and_self, and_false, false_and, ↓reduceIte, nat_add, nat_mul3, nat_mul4, nat_mul6, nat_mul15, nat_mul60, nat_cast, nc1, Int.reduceToNat, upE, upN, fill_ne, fill_in, i0, k1, h51]; with_reducible exact rfl))
            | with_reducible apply wp_q1
          exact ⟨_, _, _, rfl, rfl, rfl, h1.1, h1.2.2.1, h1.2.2.2.2.2, hf.trans f1⟩
        · rw [if_neg o28]
          have eA : nA A k dr T = A := by unfold nA; rw [if_neg o24]
          have eD : nD A k dr T = dr := by unfold nD; rw [if_neg o24]
          have eT : nT A k dr T = T := by unfold nT; rw [if_neg o24]
          exact go M1 _ (by rw [eA, eD, eT]; exact h1) f1
    · rw [if_neg e]
      refine wp_eq (b_Life_runs_23 _ _ _ _ _ _ _ _ _) ?_
      repeat' first
        | (with_reducible apply wp_bR; (simp (disch := omega) only [rM L, rK L, rN L, rNf, rNv, rNp, rNd, rRow, rLeg, rMark, nat_cast, Int.reduceToNat, hk3, h5]; with_reducible exact rfl))
        | with_reducible apply wp_bI
        | with_reducible apply wp_bV
        | with_reducible apply wp_bL
        | with_reducible apply wp_rI
        | with_reducible apply wp_rV
        | with_reducible apply wp_rL
        | (with_reducible apply wp_1; (first | omega | (simp (disch := omega) only [not_false_eq_true, not_true_eq_false, w32_id, tLt, fLt, tLe, fEq, itE, and_true, true_and, and_self, and_false, false_and, ↓reduceIte, nat_add, nat_mul3, nat_mul4, nat_mul6, nat_mul15, nat_mul60, nat_cast, nc1, Int.reduceToNat, upE, upN, fill_ne, fill_in, i0, hk3, h5] <;> omega)))
        | (with_reducible apply wp_2; (first | omega | (simp (disch := omega) only [not_false_eq_true, not_true_eq_false, w32_id, tLt, fLt, tLe, fEq, itE, and_true, true_and, and_self, and_false, false_and, ↓reduceIte, nat_add, nat_mul3, nat_mul4, nat_mul6, nat_mul15, nat_mul60, nat_cast, nc1, Int.reduceToNat, upE, upN, fill_ne, fill_in, i0, hk3, h5] <;> omega)))
        | (with_reducible apply wp_s; (first | (simp (disch := omega) only [not_false_eq_true, not_true_eq_false, w32_id, tLt, fLt, tLe, fEq, itE, and_true, true_and, and_self, and_false, false_and, ↓reduceIte, nat_add, nat_mul3, nat_mul4, nat_mul6, nat_mul15, nat_mul60, nat_cast, nc1, Int.reduceToNat, upE, upN, fill_ne, fill_in, i0, hk3, h5]; with_reducible exact Iff.rfl) | with_reducible exact Iff.rfl); intro hc__; (try subst hc__); rotate_left; intro hc__; rotate_left)
        | (with_reducible apply wp_eq; (with_reducible apply cl_go; simp (disch := omega) only [not_false_eq_true, not_true_eq_false, w32_id, tLt, fLt, tLe, fEq, itE, and_true, true_and, and_self, and_false, false_and, ↓reduceIte, nat_add, nat_mul3, nat_mul4, nat_mul6, nat_mul15, nat_mul60, nat_cast, nc1, Int.reduceToNat, upE, upN, fill_ne, fill_in, i0, hk3, h5]; with_reducible exact rfl))
        | (with_reducible apply wp_eq; (with_reducible apply lf_go; simp (disch := omega) only [not_false_eq_true, not_true_eq_false, w32_id, tLt, fLt, tLe, fEq, itE, and_true, true_and, and_self, and_false, false_and, ↓reduceIte, nat_add, nat_mul3, nat_mul4, nat_mul6, nat_mul15, nat_mul60, nat_cast, nc1, Int.reduceToNat, upE, upN, fill_ne, fill_in, i0, hk3, h5]; with_reducible exact rfl))
        | with_reducible apply wp_q1
      exact ⟨_, _, _, rfl, by simp, rfl, h.1, h.2.2.1, h.2.2.2.2.2, hf⟩
end

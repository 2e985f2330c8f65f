/-! THE PARTS OF A WORLD: one more ship -/
section
variable {bt : Nat → Int} {n q e : Nat} {M M1 M2 : Mm} {L d d1 d2 d3 : Nat}
theorem dd_ship {Mj Mk : Mm} (hD : DD M1 M2) {a : Nat} {B : Nat → Int} (ha : dA M2 3 = (a : Int)) (lt : a < 4) (hB : Sh1 (dA M2) B) (gC : ∀ b j, 65 ≤ b → b ≤ 111 → ¬(b = 67 ∧ j = 3) → ¬(b = 72 ∧ j = a) → ¬(b = 104 + 2 * a ∧ j < 7) → ¬(b = 105 + 2 * a ∧ j < 8) → Mj b j = M1 b j) (g1 : ∀ w, w < 7 → Mj (104 + 2 * a) w = B w) (g2 : ∀ g, g < 8 → Mj (105 + 2 * a) g = B (7 + g)) (g67 : Mj 67 3 = (a : Int) + 1) (gA : ∀ k, k < 206 → k ≠ 3 → ¬(146 + 15 * a ≤ k ∧ k < 161 + 15 * a) → dA Mk k = dA M2 k) (e1 : dA Mk 3 = (a : Int) + 1) (e2 : ∀ w, w < 15 → dA Mk (146 + 15 * a + w) = B w) (gN : ∀ k, k < 24 → k ≠ 20 + a → dN Mk k = dN M2 k) (nw : nmR (Mj 72 a) (dN Mk (20 + a))) (r0 : Mj 15 0 = M1 15 0) (r20 : Mk 271 20 = M2 271 20) : DD Mj Mk := by
  have hI := hD.2.1
  have zr := hD.2.2.1
  have hC := hI.1
  unfold Cn at hC
  obtain ⟨i1, i2, i3, i4, i5, i6, i7, i8, i9⟩ := hI
  have a0 := gA 0 (by omega) (by omega) (by omega)
  have a1 := gA 1 (by omega) (by omega) (by omega)
  have a2 := gA 2 (by omega) (by omega) (by omega)
  have a4 := gA 4 (by omega) (by omega) (by omega)
  refine hD.more (kd := 3) (off := 20) (most := 4) (a := a) (Or.inr (Or.inr (Or.inr ⟨rfl, rfl, rfl⟩))) (by omega) ha lt (fun k => 146 + 15 * a ≤ k ∧ k < 161 + 15 * a) (fun k hk => by unfold VV; omega) ⟨?_, i2.cg (by omega) a1 (fun k _ _ => gA k (by omega) (by omega) (by omega)) i1, i3.cg a0 (fun k _ _ => gA k (by omega) (by omega) (by omega)) i1, i4.cg (by omega) a2 (fun p _ => gA _ (by omega) (by omega) (by omega)) i1, i5.cg fun k _ _ _ => gA k (by omega) (by omega) (by omega), i6.cg fun k _ _ _ => gA k (by omega) (by omega) (by omega), fun i hi => ?_, by rw [gA 5 (by omega) (by omega) (by omega)]; exact i8, i9.cg a0 (fun k _ => gA _ (by omega) (by omega) (by omega)) i1⟩ ⟨fun m y1 y2 => ?_, fun g y1 y2 => ?_, fun s y1 y2 => ?_⟩ e1 (fun k y1 y2 y3 => gA k y1 y2 y3) (fun k hk hn => ?_) (fun k hk => ?_) g67 (fun b j y1 y2 y3 y4 y5 => ?_) gN nw r0 r20
  · unfold Cn
    rw [a0, a1, a2, e1, a4]
    omega
  · rw [e1] at hi
    by_cases z : i = a
    · subst z
      exact hB.congr a1 a2 fun w hw => e2 w hw
    · exact (i7 i (by omega)).congr a1 a2 fun w hw => gA _ (by omega) (by omega) (by omega)
  · rw [a0] at y2
    rw [gA _ (by omega) (by omega) (by omega), gA _ (by omega) (by omega) (by omega), gA _ (by omega) (by omega) (by omega)]
    exact zr.1 m y1 y2
  · rw [a1] at y2
    rw [gA _ (by omega) (by omega) (by omega)]
    exact zr.2.1 g y1 y2
  · rw [e1] at y2
    obtain ⟨u1, u2, u3, u4⟩ := zr.2.2 s y1 (by omega)
    rw [gA _ (by omega) (by omega) (by omega), gA _ (by omega) (by omega) (by omega), gA _ (by omega) (by omega) (by omega)]
    exact ⟨u1, u2, u3, fun g hg => by rw [gA _ (by omega) (by omega) (by omega)]; exact u4 g hg⟩
  · unfold vd at hk ⊢
    rw [a0, a1, a2, e1] at hk
    rw [ha]
    omega
  · obtain ⟨w, rfl⟩ : ∃ w, k = 146 + 15 * a + w := ⟨k - (146 + 15 * a), by omega⟩
    rw [e2 w (by omega)]
    by_cases z : w < 7
    · have c := cl_s (n := a) (w := w) (k := 146 + 15 * a + w) rfl z
      rw [c.1, c.2, show 57 + 2 * a + 47 = 104 + 2 * a by omega]
      exact g1 w z
    · obtain ⟨g, rfl⟩ : ∃ g, w = 7 + g := ⟨w - 7, by omega⟩
      have c := cl_l (n := a) (w := g) (k := 146 + 15 * a + (7 + g)) (by omega) (by omega)
      rw [c.1, c.2, show 58 + 2 * a + 47 = 105 + 2 * a by omega]
      exact g2 g (by omega)
  · refine gC b j y1 y2 y3 y4 (fun z => ?_) fun z => ?_
    · have c := cl_s (n := a) (w := j) (k := 146 + 15 * a + j) rfl z.2
      exact y5 (146 + 15 * a + j) (by omega) ⟨by rw [c.1]; omega, c.2.symm⟩
    · have c := cl_l (n := a) (w := j) (k := 153 + 15 * a + j) rfl z.2
      exact y5 (153 + 15 * a + j) (by omega) ⟨by rw [c.1]; omega, c.2.symm⟩
/-- a ship as it is launched -/
def lnB (p h c : Int) : Nat → Int := fun w => if w = 0 then p else if w = 1 then -1 else if w = 3 then h else if w = 4 then c else 0
theorem ln_sh {A : Nat → Int} {p h c : Int} (hp : 0 ≤ p ∧ p < A 2) (hh : 1 ≤ h ∧ h ≤ 60) (hc : 0 ≤ c ∧ c ≤ 9999) : Sh1 A (lnB p h c) := by
  have e : ∀ g, lnB p h c (7 + g) = 0 := fun g => by unfold lnB; rw [if_neg (by omega), if_neg (by omega), if_neg (by omega), if_neg (by omega)]
  have s : ∀ k, sm (fun g => lnB p h c (7 + g)) k = 0 := fun k => by
    induction k with
    | zero => rfl
    | succ k ih => rw [sm_s, ih, e]; rfl
  have b0 : lnB p h c 0 = p := rfl
  have b1 : lnB p h c 1 = -1 := rfl
  have b2 : lnB p h c 2 = 0 := rfl
  have b3 : lnB p h c 3 = h := rfl
  have b4 : lnB p h c 4 = c := rfl
  unfold Sh1
  rw [b0, b1, b2, b3, b4, s]
  exact ⟨by omega, fun g _ => by rw [e]; exact Int.le_refl _, by omega, fun g _ _ => e g⟩
set_option maxHeartbeats 4000000 in
theorem p_ship (h1 : 12 ≤ d1) (h2 : 12 ≤ d2) (h : TK bt n q e M1 M2) (hD : DD M1 M2) (h7 : M1 12 7 ≠ 4) (hq : q < e) : PO bt n q L d1 d2 (callD d1 m_WorldText_takesShip [vR 6 0 12, vR 5 0 65] (SH L) M1) (callD d2 m_Mo_aShip [vR 12 0 271] (SH L) M2) M1 M2 := by
  have hI := hD.2.1
  have zr := hD.2.2.1
  have hC := hI.1
  unfold Cn at hC
  have ch66 : isCh 66 := Or.inr (Or.inl rfl)
  have st65 : isSt 65 := Or.inr (Or.inl rfl)
  have rs := rS (L := L) st65
  obtain ⟨a, ha⟩ := Int.eq_ofNat_of_zero_le hC.2.2.2.2.2.2.1
  obtain ⟨c, hc⟩ := Int.eq_ofNat_of_zero_le hC.2.2.2.2.1
  obtain ⟨-, -, k0, -⟩ := hD.nm.k
  rw [hc, nat_cast] at k0
  have m90 : M2 272 2290 = (c : Int) := hc
  have m91 : M2 272 2291 = (a : Int) := ha
  rcases k_new (L := L) (d1 := d1 - 1) (d2 := d2 - 1) (by omega) (by omega) h hD.nm (kd := 3) (off := 20) (most := 4) (Or.inr (Or.inr (Or.inr ⟨rfl, rfl, rfl⟩))) h7 with ⟨qa, ea, Ma, Mb, c1, c2, lt, ta, le, k67, knm, fA, fB⟩ | ⟨M1', M2', c1, c2, f, fa, fb'⟩
  rotate_left
  · right; left
    have c1 := c1 3 rfl
    have c2 := c2 3 4 20 rfl rfl rfl
    refine ⟨M1', M2', ?_, ?_, f, fa.w, fb'.w⟩
    · repeat' first
        | (with_reducible apply bR_go; (simp (disch := omega) only [rM L, rK L, rN L, rNf, rNv, rNp, rNd, rRow, rLeg, rMark, nat_cast, Int.reduceToNat, rs]; with_reducible exact rfl))
        | with_reducible apply bI_go
        | with_reducible apply bV_go
        | with_reducible apply bL_go
        | (with_reducible apply it_1; (first | omega | (simp (disch := omega) only [not_false_eq_true, not_true_eq_false, w32_id, tLt, fLt, tLe, fEq, itE, and_true, true_and, and_self, and_false, false_and, ↓reduceIte, nat_add, nat_mul3, nat_mul4, nat_mul6, nat_mul15, nat_mul60, nat_cast, nc1, Int.reduceToNat, upE, upN, fill_ne, fill_in, i0, rs] <;> omega)))
        | (with_reducible apply it_2; (first | omega | (simp (disch := omega) only [not_false_eq_true, not_true_eq_false, w32_id, tLt, fLt, tLe, fEq, itE, and_true, true_and, and_self, and_false, false_and, ↓reduceIte, nat_add, nat_mul3, nat_mul4, nat_mul6, nat_mul15, nat_mul60, nat_cast, nc1, Int.reduceToNat, upE, upN, fill_ne, fill_in, i0, rs] <;> omega)))
        | (with_reducible refine cl_go ?_; simp (disch := omega) only [not_false_eq_true, not_true_eq_false, w32_id, tLt, fLt, tLe, fEq, itE, and_true, true_and, and_self, and_false, false_and, ↓reduceIte, nat_add, nat_mul3, nat_mul4, nat_mul6, nat_mul15, nat_mul60, nat_cast, nc1, Int.reduceToNat, upE, upN, fill_ne, fill_in, i0, rs])
        | rw [c_WorldText_takesShip (by omega), b_WorldText_takesShip_0]
        | with_reducible exact c1
        | (with_reducible refine rn_go ?_; simp (disch := omega) only [not_false_eq_true, not_true_eq_false, w32_id, tLt, fLt, tLe, fEq, itE, and_true, true_and, and_self, and_false, false_and, ↓reduceIte, nat_add, nat_mul3, nat_mul4, nat_mul6, nat_mul15, nat_mul60, nat_cast, nc1, Int.reduceToNat, upE, upN, fill_ne, fill_in, i0, rs])
        | (with_reducible refine lf_go ?_; simp (disch := omega) only [not_false_eq_true, not_true_eq_false, w32_id, tLt, fLt, tLe, fEq, itE, and_true, true_and, and_self, and_false, false_and, ↓reduceIte, nat_add, nat_mul3, nat_mul4, nat_mul6, nat_mul15, nat_mul60, nat_cast, nc1, Int.reduceToNat, upE, upN, fill_ne, fill_in, i0, rs])
        | with_reducible exact rfl
    · repeat' first
        | (with_reducible apply bR_go; (simp (disch := omega) only [rM L, rK L, rN L, rNf, rNv, rNp, rNd, rRow, rLeg, rMark, nat_cast, Int.reduceToNat]; with_reducible exact rfl))
        | with_reducible apply bI_go
        | with_reducible apply bV_go
        | with_reducible apply bL_go
        | (with_reducible apply it_1; (first | omega | (simp (disch := omega) only [not_false_eq_true, not_true_eq_false, w32_id, tLt, fLt, tLe, fEq, itE, and_true, true_and, and_self, and_false, false_and, ↓reduceIte, nat_add, nat_mul3, nat_mul4, nat_mul6, nat_mul15, nat_mul60, nat_cast, nc1, Int.reduceToNat, upE, upN, fill_ne, fill_in, i0] <;> omega)))
        | (with_reducible apply it_2; (first | omega | (simp (disch := omega) only [not_false_eq_true, not_true_eq_false, w32_id, tLt, fLt, tLe, fEq, itE, and_true, true_and, and_self, and_false, false_and, ↓reduceIte, nat_add, nat_mul3, nat_mul4, nat_mul6, nat_mul15, nat_mul60, nat_cast, nc1, Int.reduceToNat, upE, upN, fill_ne, fill_in, i0] <;> omega)))
        | (with_reducible refine cl_go ?_; simp (disch := omega) only [not_false_eq_true, not_true_eq_false, w32_id, tLt, fLt, tLe, fEq, itE, and_true, true_and, and_self, and_false, false_and, ↓reduceIte, nat_add, nat_mul3, nat_mul4, nat_mul6, nat_mul15, nat_mul60, nat_cast, nc1, Int.reduceToNat, upE, upN, fill_ne, fill_in, i0])
        | rw [c_Mo_aShip (by omega), b_Mo_aShip_0]
        | with_reducible exact c2
        | (with_reducible refine rn_go ?_; simp (disch := omega) only [not_false_eq_true, not_true_eq_false, w32_id, tLt, fLt, tLe, fEq, itE, and_true, true_and, and_self, and_false, false_and, ↓reduceIte, nat_add, nat_mul3, nat_mul4, nat_mul6, nat_mul15, nat_mul60, nat_cast, nc1, Int.reduceToNat, upE, upN, fill_ne, fill_in, i0])
        | (with_reducible refine lf_go ?_; simp (disch := omega) only [not_false_eq_true, not_true_eq_false, w32_id, tLt, fLt, tLe, fEq, itE, and_true, true_and, and_self, and_false, false_and, ↓reduceIte, nat_add, nat_mul3, nat_mul4, nat_mul6, nat_mul15, nat_mul60, nat_cast, nc1, Int.reduceToNat, upE, upN, fill_ne, fill_in, i0])
        | with_reducible exact rfl
  have c1 := c1 3 rfl
  have c2 := c2 3 4 20 rfl rfl rfl
  rw [ha] at c1 k67 lt
  rw [ha, nat_cast] at knm fA fB
  have lt : a < 4 := by omega
  have rf := rF (L := L) st65 lt
  have wA : FcW M1 Ma := fun b j q1 q2 q3 => fA b j q1 (by omega) (by omega)
  have wB : FmW M2 Mb := fun b j q1 q2 q3 => fB b j (by omega) (by omega)
  rcases k_word (L := L) (d1 := d1 - 1) (d2 := d2 - 1) (by omega) (by omega) ta (w := 14) (k := 16) (by omega) (by decide) with ⟨qb, eb, Mc, Md, u1, u2, tb, lb, fc, fd⟩ | ⟨M1', M2', u1, u2, f, fc, fd⟩
  rotate_left
  · right; left
    refine ⟨M1', M2', ?_, ?_, f, wA.trans fc.w, wB.trans fd.w⟩
    · repeat' first
        | (with_reducible apply bR_go; (simp (disch := omega) only [rM L, rK L, rN L, rNf, rNv, rNp, rNd, rRow, rLeg, rMark, nat_cast, Int.reduceToNat, rs]; with_reducible exact rfl))
        | with_reducible apply bI_go
        | with_reducible apply bV_go
        | with_reducible apply bL_go
        | (with_reducible apply it_1; (first | omega | (simp (disch := omega) only [not_false_eq_true, not_true_eq_false, w32_id, tLt, fLt, tLe, fEq, itE, and_true, true_and, and_self, and_false, false_and, ↓reduceIte, nat_add, nat_mul3, nat_mul4, nat_mul6, nat_mul15, nat_mul60, nat_cast, nc1, Int.reduceToNat, upE, upN, fill_ne, fill_in, i0, rs] <;> omega)))
        | (with_reducible apply it_2; (first | omega | (simp (disch := omega) only [not_false_eq_true, not_true_eq_false, w32_id, tLt, fLt, tLe, fEq, itE, and_true, true_and, and_self, and_false, false_and, ↓reduceIte, nat_add, nat_mul3, nat_mul4, nat_mul6, nat_mul15, nat_mul60, nat_cast, nc1, Int.reduceToNat, upE, upN, fill_ne, fill_in, i0, rs] <;> omega)))
        | (with_reducible refine cl_go ?_; simp (disch := omega) only [not_false_eq_true, not_true_eq_false, w32_id, tLt, fLt, tLe, fEq, itE, and_true, true_and, and_self, and_false, false_and, ↓reduceIte, nat_add, nat_mul3, nat_mul4, nat_mul6, nat_mul15, nat_mul60, nat_cast, nc1, Int.reduceToNat, upE, upN, fill_ne, fill_in, i0, rs])
        | rw [c_WorldText_takesShip (by omega), b_WorldText_takesShip_0]
        | with_reducible exact c1
        | with_reducible exact u1
        | (with_reducible refine rn_go ?_; simp (disch := omega) only [not_false_eq_true, not_true_eq_false, w32_id, tLt, fLt, tLe, fEq, itE, and_true, true_and, and_self, and_false, false_and, ↓reduceIte, nat_add, nat_mul3, nat_mul4, nat_mul6, nat_mul15, nat_mul60, nat_cast, nc1, Int.reduceToNat, upE, upN, fill_ne, fill_in, i0, rs])
        | (with_reducible refine lf_go ?_; simp (disch := omega) only [not_false_eq_true, not_true_eq_false, w32_id, tLt, fLt, tLe, fEq, itE, and_true, true_and, and_self, and_false, false_and, ↓reduceIte, nat_add, nat_mul3, nat_mul4, nat_mul6, nat_mul15, nat_mul60, nat_cast, nc1, Int.reduceToNat, upE, upN, fill_ne, fill_in, i0, rs])
        | with_reducible exact rfl
    · repeat' first
        | (with_reducible apply bR_go; (simp (disch := omega) only [rM L, rK L, rN L, rNf, rNv, rNp, rNd, rRow, rLeg, rMark, nat_cast, Int.reduceToNat]; with_reducible exact rfl))
        | with_reducible apply bI_go
        | with_reducible apply bV_go
        | with_reducible apply bL_go
        | (with_reducible apply it_1; (first | omega | (simp (disch := omega) only [not_false_eq_true, not_true_eq_false, w32_id, tLt, fLt, tLe, fEq, itE, and_true, true_and, and_self, and_false, false_and, ↓reduceIte, nat_add, nat_mul3, nat_mul4, nat_mul6, nat_mul15, nat_mul60, nat_cast, nc1, Int.reduceToNat, upE, upN, fill_ne, fill_in, i0] <;> omega)))
        | (with_reducible apply it_2; (first | omega | (simp (disch := omega) only [not_false_eq_true, not_true_eq_false, w32_id, tLt, fLt, tLe, fEq, itE, and_true, true_and, and_self, and_false, false_and, ↓reduceIte, nat_add, nat_mul3, nat_mul4, nat_mul6, nat_mul15, nat_mul60, nat_cast, nc1, Int.reduceToNat, upE, upN, fill_ne, fill_in, i0] <;> omega)))
        | (with_reducible refine cl_go ?_; simp (disch := omega) only [not_false_eq_true, not_true_eq_false, w32_id, tLt, fLt, tLe, fEq, itE, and_true, true_and, and_self, and_false, false_and, ↓reduceIte, nat_add, nat_mul3, nat_mul4, nat_mul6, nat_mul15, nat_mul60, nat_cast, nc1, Int.reduceToNat, upE, upN, fill_ne, fill_in, i0])
        | rw [c_Mo_aShip (by omega), b_Mo_aShip_0]
        | with_reducible exact c2
        | with_reducible exact u2
        | (with_reducible refine rn_go ?_; simp (disch := omega) only [not_false_eq_true, not_true_eq_false, w32_id, tLt, fLt, tLe, fEq, itE, and_true, true_and, and_self, and_false, false_and, ↓reduceIte, nat_add, nat_mul3, nat_mul4, nat_mul6, nat_mul15, nat_mul60, nat_cast, nc1, Int.reduceToNat, upE, upN, fill_ne, fill_in, i0])
        | (with_reducible refine lf_go ?_; simp (disch := omega) only [not_false_eq_true, not_true_eq_false, w32_id, tLt, fLt, tLe, fEq, itE, and_true, true_and, and_self, and_false, false_and, ↓reduceIte, nat_add, nat_mul3, nat_mul4, nat_mul6, nat_mul15, nat_mul60, nat_cast, nc1, Int.reduceToNat, upE, upN, fill_ne, fill_in, i0])
        | with_reducible exact rfl
  have k0' : NmK Mc Md 66 2 110 c := ⟨by rw [fc _ _ (by omega), fA _ _ (by omega) (by omega) (by omega)]; exact k0.1, k0.2.1, k0.2.2.1, fun i hi => by
    have := k0.2.1
    rw [fc _ _ (by omega), fA _ _ (by omega) (by omega) (by omega), fd _ _ (by omega), fB _ _ (by omega) (by omega)]
    exact k0.2.2.2 i hi⟩
  have d90 : Md 272 2290 = (c : Int) := by rw [fd _ _ (by omega), fB _ _ (by omega) (by omega)]; exact m90
  rcases k_thing (L := L) (d1 := d1 - 1) (d2 := d2 - 1 - 1) (by omega) (by omega) tb (c := 66) (kd := 2) (to := 2434 + 15 * a) ch66 (by omega) k0' (by omega) with ⟨qc, ec, v, Me, Mf, c3, c4, hv, tc, lc, fe, ff, ev⟩ | ⟨M1', M2', c3, c4, f, fe, ff⟩
  rotate_left
  · right; left
    have c3 := c3 2 rfl
    refine ⟨M1', M2', ?_, ?_, f, (wA.trans fc.w).trans fe.w, (wB.trans fd.w).trans (ff.w (by omega))⟩
    · repeat' first
        | (with_reducible apply bR_go; (simp (disch := omega) only [rM L, rK L, rN L, rNf, rNv, rNp, rNd, rRow, rLeg, rMark, nat_cast, Int.reduceToNat, rs]; with_reducible exact rfl))
        | with_reducible apply bI_go
        | with_reducible apply bV_go
        | with_reducible apply bL_go
        | (with_reducible apply it_1; (first | omega | (simp (disch := omega) only [not_false_eq_true, not_true_eq_false, w32_id, tLt, fLt, tLe, fEq, itE, and_true, true_and, and_self, and_false, false_and, ↓reduceIte, nat_add, nat_mul3, nat_mul4, nat_mul6, nat_mul15, nat_mul60, nat_cast, nc1, Int.reduceToNat, upE, upN, fill_ne, fill_in, i0, rs] <;> omega)))
        | (with_reducible apply it_2; (first | omega | (simp (disch := omega) only [not_false_eq_true, not_true_eq_false, w32_id, tLt, fLt, tLe, fEq, itE, and_true, true_and, and_self, and_false, false_and, ↓reduceIte, nat_add, nat_mul3, nat_mul4, nat_mul6, nat_mul15, nat_mul60, nat_cast, nc1, Int.reduceToNat, upE, upN, fill_ne, fill_in, i0, rs] <;> omega)))
        | (with_reducible refine cl_go ?_; simp (disch := omega) only [not_false_eq_true, not_true_eq_false, w32_id, tLt, fLt, tLe, fEq, itE, and_true, true_and, and_self, and_false, false_and, ↓reduceIte, nat_add, nat_mul3, nat_mul4, nat_mul6, nat_mul15, nat_mul60, nat_cast, nc1, Int.reduceToNat, upE, upN, fill_ne, fill_in, i0, rs])
        | rw [c_WorldText_takesShip (by omega), b_WorldText_takesShip_0]
        | with_reducible exact c1
        | with_reducible exact u1
        | with_reducible exact c3
        | (with_reducible refine rn_go ?_; simp (disch := omega) only [not_false_eq_true, not_true_eq_false, w32_id, tLt, fLt, tLe, fEq, itE, and_true, true_and, and_self, and_false, false_and, ↓reduceIte, nat_add, nat_mul3, nat_mul4, nat_mul6, nat_mul15, nat_mul60, nat_cast, nc1, Int.reduceToNat, upE, upN, fill_ne, fill_in, i0, rs])
        | (with_reducible refine lf_go ?_; simp (disch := omega) only [not_false_eq_true, not_true_eq_false, w32_id, tLt, fLt, tLe, fEq, itE, and_true, true_and, and_self, and_false, false_and, ↓reduceIte, nat_add, nat_mul3, nat_mul4, nat_mul6, nat_mul15, nat_mul60, nat_cast, nc1, Int.reduceToNat, upE, upN, fill_ne, fill_in, i0, rs])
        | with_reducible exact rfl
    · repeat' first
        | (with_reducible apply bR_go; (simp (disch := omega) only [rM L, rK L, rN L, rNf, rNv, rNp, rNd, rRow, rLeg, rMark, nat_cast, Int.reduceToNat, m91, d90, Int.reduceMod]; with_reducible exact rfl))
        | with_reducible apply bI_go
        | with_reducible apply bV_go
        | with_reducible apply bL_go
        | (with_reducible apply it_1; (first | omega | (simp (disch := omega) only [not_false_eq_true, not_true_eq_false, w32_id, tLt, fLt, tLe, fEq, itE, and_true, true_and, and_self, and_false, false_and, ↓reduceIte, nat_add, nat_mul3, nat_mul4, nat_mul6, nat_mul15, nat_mul60, nat_cast, nc1, Int.reduceToNat, upE, upN, fill_ne, fill_in, i0, m91, d90, Int.reduceMod] <;> omega)))
        | (with_reducible apply it_2; (first | omega | (simp (disch := omega) only [not_false_eq_true, not_true_eq_false, w32_id, tLt, fLt, tLe, fEq, itE, and_true, true_and, and_self, and_false, false_and, ↓reduceIte, nat_add, nat_mul3, nat_mul4, nat_mul6, nat_mul15, nat_mul60, nat_cast, nc1, Int.reduceToNat, upE, upN, fill_ne, fill_in, i0, m91, d90, Int.reduceMod] <;> omega)))
        | (with_reducible refine cl_go ?_; simp (disch := omega) only [not_false_eq_true, not_true_eq_false, w32_id, tLt, fLt, tLe, fEq, itE, and_true, true_and, and_self, and_false, false_and, ↓reduceIte, nat_add, nat_mul3, nat_mul4, nat_mul6, nat_mul15, nat_mul60, nat_cast, nc1, Int.reduceToNat, upE, upN, fill_ne, fill_in, i0, m91, d90, Int.reduceMod])
        | rw [c_Mo_aShip (by omega), b_Mo_aShip_0]
        | rw [c_Mo_portTo (by omega), b_Mo_portTo_0]
        | with_reducible exact c2
        | with_reducible exact u2
        | with_reducible exact c4 _ _ _ (by omega) (by omega) (by omega)
        | (with_reducible refine rn_go ?_; simp (disch := omega) only [not_false_eq_true, not_true_eq_false, w32_id, tLt, fLt, tLe, fEq, itE, and_true, true_and, and_self, and_false, false_and, ↓reduceIte, nat_add, nat_mul3, nat_mul4, nat_mul6, nat_mul15, nat_mul60, nat_cast, nc1, Int.reduceToNat, upE, upN, fill_ne, fill_in, i0, m91, d90, Int.reduceMod])
        | (with_reducible refine lf_go ?_; simp (disch := omega) only [not_false_eq_true, not_true_eq_false, w32_id, tLt, fLt, tLe, fEq, itE, and_true, true_and, and_self, and_false, false_and, ↓reduceIte, nat_add, nat_mul3, nat_mul4, nat_mul6, nat_mul15, nat_mul60, nat_cast, nc1, Int.reduceToNat, upE, upN, fill_ne, fill_in, i0, m91, d90, Int.reduceMod])
        | with_reducible exact rfl
  have c3 := c3 2 rfl
  have wc := (wA.trans fc.w).trans fe.w
  have wm := (wB.trans fd.w).trans (ff.w (by omega))
  rcases k_word (L := L) (d1 := d1 - 1) (d2 := d2 - 1) (by omega) (by omega) tc (w := 15) (k := 17) (by omega) (by decide) with ⟨qd, ed, Mg, Mh, u3, u4, te, ld, fg, fh⟩ | ⟨M1', M2', u3, u4, f, fg, fh⟩
  rotate_left
  · right; left
    refine ⟨M1', M2', ?_, ?_, f, wc.trans fg.w, wm.trans fh.w⟩
    · repeat' first
        | (with_reducible apply bR_go; (simp (disch := omega) only [rM L, rK L, rN L, rNf, rNv, rNp, rNd, rRow, rLeg, rMark, nat_cast, Int.reduceToNat, rs]; with_reducible exact rfl))
        | with_reducible apply bI_go
        | with_reducible apply bV_go
        | with_reducible apply bL_go
        | (with_reducible apply it_1; (first | omega | (simp (disch := omega) only [not_false_eq_true, not_true_eq_false, w32_id, tLt, fLt, tLe, fEq, itE, and_true, true_and, and_self, and_false, false_and, ↓reduceIte, nat_add, nat_mul3, nat_mul4, nat_mul6, nat_mul15, nat_mul60, nat_cast, nc1, Int.reduceToNat, upE, upN, fill_ne, fill_in, i0, rs] <;> omega)))
        | (with_reducible apply it_2; (first | omega | (simp (disch := omega) only [not_false_eq_true, not_true_eq_false, w32_id, tLt, fLt, tLe, fEq, itE, and_true, true_and, and_self, and_false, false_and, ↓reduceIte, nat_add, nat_mul3, nat_mul4, nat_mul6, nat_mul15, nat_mul60, nat_cast, nc1, Int.reduceToNat, upE, upN, fill_ne, fill_in, i0, rs] <;> omega)))
        | (with_reducible refine cl_go ?_; simp (disch := omega) only [not_false_eq_true, not_true_eq_false, w32_id, tLt, fLt, tLe, fEq, itE, and_true, true_and, and_self, and_false, false_and, ↓reduceIte, nat_add, nat_mul3, nat_mul4, nat_mul6, nat_mul15, nat_mul60, nat_cast, nc1, Int.reduceToNat, upE, upN, fill_ne, fill_in, i0, rs])
        | rw [c_WorldText_takesShip (by omega), b_WorldText_takesShip_0]
        | with_reducible exact c1
        | with_reducible exact u1
        | with_reducible exact c3
        | with_reducible exact u3
        | (with_reducible refine rn_go ?_; simp (disch := omega) only [not_false_eq_true, not_true_eq_false, w32_id, tLt, fLt, tLe, fEq, itE, and_true, true_and, and_self, and_false, false_and, ↓reduceIte, nat_add, nat_mul3, nat_mul4, nat_mul6, nat_mul15, nat_mul60, nat_cast, nc1, Int.reduceToNat, upE, upN, fill_ne, fill_in, i0, rs])
        | (with_reducible refine lf_go ?_; simp (disch := omega) only [not_false_eq_true, not_true_eq_false, w32_id, tLt, fLt, tLe, fEq, itE, and_true, true_and, and_self, and_false, false_and, ↓reduceIte, nat_add, nat_mul3, nat_mul4, nat_mul6, nat_mul15, nat_mul60, nat_cast, nc1, Int.reduceToNat, upE, upN, fill_ne, fill_in, i0, rs])
        | with_reducible exact rfl
    · repeat' first
        | (with_reducible apply bR_go; (simp (disch := omega) only [rM L, rK L, rN L, rNf, rNv, rNp, rNd, rRow, rLeg, rMark, nat_cast, Int.reduceToNat, m91, d90, Int.reduceMod]; with_reducible exact rfl))
        | with_reducible apply bI_go
        | with_reducible apply bV_go
        | with_reducible apply bL_go
        | (with_reducible apply it_1; (first | omega | (simp (disch := omega) only [not_false_eq_true, not_true_eq_false, w32_id, tLt, fLt, tLe, fEq, itE, and_true, true_and, and_self, and_false, false_and, ↓reduceIte, nat_add, nat_mul3, nat_mul4, nat_mul6, nat_mul15, nat_mul60, nat_cast, nc1, Int.reduceToNat, upE, upN, fill_ne, fill_in, i0, m91, d90, Int.reduceMod] <;> omega)))
        | (with_reducible apply it_2; (first | omega | (simp (disch := omega) only [not_false_eq_true, not_true_eq_false, w32_id, tLt, fLt, tLe, fEq, itE, and_true, true_and, and_self, and_false, false_and, ↓reduceIte, nat_add, nat_mul3, nat_mul4, nat_mul6, nat_mul15, nat_mul60, nat_cast, nc1, Int.reduceToNat, upE, upN, fill_ne, fill_in, i0, m91, d90, Int.reduceMod] <;> omega)))
        | (with_reducible refine cl_go ?_; simp (disch := omega) only [not_false_eq_true, not_true_eq_false, w32_id, tLt, fLt, tLe, fEq, itE, and_true, true_and, and_self, and_false, false_and, ↓reduceIte, nat_add, nat_mul3, nat_mul4, nat_mul6, nat_mul15, nat_mul60, nat_cast, nc1, Int.reduceToNat, upE, upN, fill_ne, fill_in, i0, m91, d90, Int.reduceMod])
        | rw [c_Mo_aShip (by omega), b_Mo_aShip_0]
        | rw [c_Mo_portTo (by omega), b_Mo_portTo_0]
        | with_reducible exact c2
        | with_reducible exact u2
        | with_reducible exact c4 _ _ _ (by omega) (by omega) (by omega)
        | with_reducible exact u4
        | (with_reducible refine rn_go ?_; simp (disch := omega) only [not_false_eq_true, not_true_eq_false, w32_id, tLt, fLt, tLe, fEq, itE, and_true, true_and, and_self, and_false, false_and, ↓reduceIte, nat_add, nat_mul3, nat_mul4, nat_mul6, nat_mul15, nat_mul60, nat_cast, nc1, Int.reduceToNat, upE, upN, fill_ne, fill_in, i0, m91, d90, Int.reduceMod])
        | (with_reducible refine lf_go ?_; simp (disch := omega) only [not_false_eq_true, not_true_eq_false, w32_id, tLt, fLt, tLe, fEq, itE, and_true, true_and, and_self, and_false, false_and, ↓reduceIte, nat_add, nat_mul3, nat_mul4, nat_mul6, nat_mul15, nat_mul60, nat_cast, nc1, Int.reduceToNat, upE, upN, fill_ne, fill_in, i0, m91, d90, Int.reduceMod])
        | with_reducible exact rfl
  rcases k_num (L := L) (d1 := d1 - 1) (d2 := d2 - 1) (by omega) (by omega) te 1 60 (to := 2437 + 15 * a) (by omega) with ⟨qf, ef, x, Mi, Mj, o1, o2, hx, tf, lf, fi, fj, ex⟩ | ⟨M1', M2', o1, o2, f, fi, fj⟩
  rotate_left
  · right; left
    refine ⟨M1', M2', ?_, ?_, f, (wc.trans fg.w).trans fi.w, (wm.trans fh.w).trans fj.w⟩
    · repeat' first
        | (with_reducible apply bR_go; (simp (disch := omega) only [rM L, rK L, rN L, rNf, rNv, rNp, rNd, rRow, rLeg, rMark, nat_cast, Int.reduceToNat, rs]; with_reducible exact rfl))
        | with_reducible apply bI_go
        | with_reducible apply bV_go
        | with_reducible apply bL_go
        | (with_reducible apply it_1; (first | omega | (simp (disch := omega) only [not_false_eq_true, not_true_eq_false, w32_id, tLt, fLt, tLe, fEq, itE, and_true, true_and, and_self, and_false, false_and, ↓reduceIte, nat_add, nat_mul3, nat_mul4, nat_mul6, nat_mul15, nat_mul60, nat_cast, nc1, Int.reduceToNat, upE, upN, fill_ne, fill_in, i0, rs] <;> omega)))
        | (with_reducible apply it_2; (first | omega | (simp (disch := omega) only [not_false_eq_true, not_true_eq_false, w32_id, tLt, fLt, tLe, fEq, itE, and_true, true_and, and_self, and_false, false_and, ↓reduceIte, nat_add, nat_mul3, nat_mul4, nat_mul6, nat_mul15, nat_mul60, nat_cast, nc1, Int.reduceToNat, upE, upN, fill_ne, fill_in, i0, rs] <;> omega)))
        | (with_reducible refine cl_go ?_; simp (disch := omega) only [not_false_eq_true, not_true_eq_false, w32_id, tLt, fLt, tLe, fEq, itE, and_true, true_and, and_self, and_false, false_and, ↓reduceIte, nat_add, nat_mul3, nat_mul4, nat_mul6, nat_mul15, nat_mul60, nat_cast, nc1, Int.reduceToNat, upE, upN, fill_ne, fill_in, i0, rs])
        | rw [c_WorldText_takesShip (by omega), b_WorldText_takesShip_0]
        | with_reducible exact c1
        | with_reducible exact u1
        | with_reducible exact c3
        | with_reducible exact u3
        | with_reducible exact o1
        | (with_reducible refine rn_go ?_; simp (disch := omega) only [not_false_eq_true, not_true_eq_false, w32_id, tLt, fLt, tLe, fEq, itE, and_true, true_and, and_self, and_false, false_and, ↓reduceIte, nat_add, nat_mul3, nat_mul4, nat_mul6, nat_mul15, nat_mul60, nat_cast, nc1, Int.reduceToNat, upE, upN, fill_ne, fill_in, i0, rs])
        | (with_reducible refine lf_go ?_; simp (disch := omega) only [not_false_eq_true, not_true_eq_false, w32_id, tLt, fLt, tLe, fEq, itE, and_true, true_and, and_self, and_false, false_and, ↓reduceIte, nat_add, nat_mul3, nat_mul4, nat_mul6, nat_mul15, nat_mul60, nat_cast, nc1, Int.reduceToNat, upE, upN, fill_ne, fill_in, i0, rs])
        | with_reducible exact rfl
    · repeat' first
        | (with_reducible apply bR_go; (simp (disch := omega) only [rM L, rK L, rN L, rNf, rNv, rNp, rNd, rRow, rLeg, rMark, nat_cast, Int.reduceToNat, m91, d90, Int.reduceMod]; with_reducible exact rfl))
        | with_reducible apply bI_go
        | with_reducible apply bV_go
        | with_reducible apply bL_go
        | (with_reducible apply it_1; (first | omega | (simp (disch := omega) only [not_false_eq_true, not_true_eq_false, w32_id, tLt, fLt, tLe, fEq, itE, and_true, true_and, and_self, and_false, false_and, ↓reduceIte, nat_add, nat_mul3, nat_mul4, nat_mul6, nat_mul15, nat_mul60, nat_cast, nc1, Int.reduceToNat, upE, upN, fill_ne, fill_in, i0, m91, d90, Int.reduceMod] <;> omega)))
        | (with_reducible apply it_2; (first | omega | (simp (disch := omega) only [not_false_eq_true, not_true_eq_false, w32_id, tLt, fLt, tLe, fEq, itE, and_true, true_and, and_self, and_false, false_and, ↓reduceIte, nat_add, nat_mul3, nat_mul4, nat_mul6, nat_mul15, nat_mul60, nat_cast, nc1, Int.reduceToNat, upE, upN, fill_ne, fill_in, i0, m91, d90, Int.reduceMod] <;> omega)))
        | (with_reducible refine cl_go ?_; simp (disch := omega) only [not_false_eq_true, not_true_eq_false, w32_id, tLt, fLt, tLe, fEq, itE, and_true, true_and, and_self, and_false, false_and, ↓reduceIte, nat_add, nat_mul3, nat_mul4, nat_mul6, nat_mul15, nat_mul60, nat_cast, nc1, Int.reduceToNat, upE, upN, fill_ne, fill_in, i0, m91, d90, Int.reduceMod])
        | rw [c_Mo_aShip (by omega), b_Mo_aShip_0]
        | rw [c_Mo_portTo (by omega), b_Mo_portTo_0]
        | with_reducible exact c2
        | with_reducible exact u2
        | with_reducible exact c4 _ _ _ (by omega) (by omega) (by omega)
        | with_reducible exact u4
        | with_reducible exact o2 _ (by omega)
        | (with_reducible refine rn_go ?_; simp (disch := omega) only [not_false_eq_true, not_true_eq_false, w32_id, tLt, fLt, tLe, fEq, itE, and_true, true_and, and_self, and_false, false_and, ↓reduceIte, nat_add, nat_mul3, nat_mul4, nat_mul6, nat_mul15, nat_mul60, nat_cast, nc1, Int.reduceToNat, upE, upN, fill_ne, fill_in, i0, m91, d90, Int.reduceMod])
        | (with_reducible refine lf_go ?_; simp (disch := omega) only [not_false_eq_true, not_true_eq_false, w32_id, tLt, fLt, tLe, fEq, itE, and_true, true_and, and_self, and_false, false_and, ↓reduceIte, nat_add, nat_mul3, nat_mul4, nat_mul6, nat_mul15, nat_mul60, nat_cast, nc1, Int.reduceToNat, upE, upN, fill_ne, fill_in, i0, m91, d90, Int.reduceMod])
        | with_reducible exact rfl
  generalize hX : up (up Mj 272 (2434 + 15 * a + 1) (-1)) 272 (2434 + 15 * a + 4) 100 = X
  have fX : ∀ b j, ¬(b = 272 ∧ (j = 2435 + 15 * a ∨ j = 2438 + 15 * a)) → X b j = Mj b j := fun b j y => by rw [← hX, upN (by omega), upN (by omega)]
  have x5 : X 272 (2435 + 15 * a) = -1 := by rw [← hX, upN (by omega), upE rfl (by omega)]
  have x8 : X 272 (2438 + 15 * a) = 100 := by rw [← hX, upE rfl (by omega)]
  have tg : TK bt n qf ef Mi X := tf.fr (fun _ _ _ => rfl) fun b j hb => fX _ _ (by omega)
  have wc2 := (wc.trans fg.w).trans fi.w
  have wm2 : FmW M2 X := by rw [← hX]; exact ((((wm.trans fh.w).trans (fj.w (by omega))).u (by omega)).u (by omega))
  rcases k_op3 (L := L) (d1 := d1 - 1) (d2 := d2 - 1) (by omega) (by omega) tg (w := 16) (k := 18) (by omega) (by decide) 0 9999 100 (to := 2438 + 15 * a) (by omega) x8 (by omega) with ⟨qh, eh, y, Mk, Ml, o3, p3, hy, th, lh, fk, fl, ey⟩ | ⟨M1', My, M2', o3, p3, p3', f, fk, fy, fl⟩
  rotate_left
  · right; left
    refine ⟨M1', M2', ?_, ?_, f, wc2.trans fk.w, wm2.trans fl.w⟩
    · repeat' first
        | (with_reducible apply bR_go; (simp (disch := omega) only [rM L, rK L, rN L, rNf, rNv, rNp, rNd, rRow, rLeg, rMark, nat_cast, Int.reduceToNat, rs]; with_reducible exact rfl))
        | with_reducible apply bI_go
        | with_reducible apply bV_go
        | with_reducible apply bL_go
        | (with_reducible apply it_1; (first | omega | (simp (disch := omega) only [not_false_eq_true, not_true_eq_false, w32_id, tLt, fLt, tLe, fEq, itE, and_true, true_and, and_self, and_false, false_and, ↓reduceIte, nat_add, nat_mul3, nat_mul4, nat_mul6, nat_mul15, nat_mul60, nat_cast, nc1, Int.reduceToNat, upE, upN, fill_ne, fill_in, i0, rs] <;> omega)))
        | (with_reducible apply it_2; (first | omega | (simp (disch := omega) only [not_false_eq_true, not_true_eq_false, w32_id, tLt, fLt, tLe, fEq, itE, and_true, true_and, and_self, and_false, false_and, ↓reduceIte, nat_add, nat_mul3, nat_mul4, nat_mul6, nat_mul15, nat_mul60, nat_cast, nc1, Int.reduceToNat, upE, upN, fill_ne, fill_in, i0, rs] <;> omega)))
        | (with_reducible refine cl_go ?_; simp (disch := omega) only [not_false_eq_true, not_true_eq_false, w32_id, tLt, fLt, tLe, fEq, itE, and_true, true_and, and_self, and_false, false_and, ↓reduceIte, nat_add, nat_mul3, nat_mul4, nat_mul6, nat_mul15, nat_mul60, nat_cast, nc1, Int.reduceToNat, upE, upN, fill_ne, fill_in, i0, rs])
        | rw [c_WorldText_takesShip (by omega), b_WorldText_takesShip_0]
        | with_reducible exact c1
        | with_reducible exact u1
        | with_reducible exact c3
        | with_reducible exact u3
        | with_reducible exact o1
        | with_reducible exact o3
        | (with_reducible refine rn_go ?_; simp (disch := omega) only [not_false_eq_true, not_true_eq_false, w32_id, tLt, fLt, tLe, fEq, itE, and_true, true_and, and_self, and_false, false_and, ↓reduceIte, nat_add, nat_mul3, nat_mul4, nat_mul6, nat_mul15, nat_mul60, nat_cast, nc1, Int.reduceToNat, upE, upN, fill_ne, fill_in, i0, rs])
        | (with_reducible refine lf_go ?_; simp (disch := omega) only [not_false_eq_true, not_true_eq_false, w32_id, tLt, fLt, tLe, fEq, itE, and_true, true_and, and_self, and_false, false_and, ↓reduceIte, nat_add, nat_mul3, nat_mul4, nat_mul6, nat_mul15, nat_mul60, nat_cast, nc1, Int.reduceToNat, upE, upN, fill_ne, fill_in, i0, rs])
        | with_reducible exact rfl
    · rw [← hX] at p3
      repeat' first
        | (with_reducible apply bR_go; (simp (disch := omega) only [rM L, rK L, rN L, rNf, rNv, rNp, rNd, rRow, rLeg, rMark, nat_cast, Int.reduceToNat, m91, d90, Int.reduceMod]; with_reducible exact rfl))
        | with_reducible apply bI_go
        | with_reducible apply bV_go
        | with_reducible apply bL_go
        | (with_reducible apply it_1; (first | omega | (simp (disch := omega) only [not_false_eq_true, not_true_eq_false, w32_id, tLt, fLt, tLe, fEq, itE, and_true, true_and, and_self, and_false, false_and, ↓reduceIte, nat_add, nat_mul3, nat_mul4, nat_mul6, nat_mul15, nat_mul60, nat_cast, nc1, Int.reduceToNat, upE, upN, fill_ne, fill_in, i0, m91, d90, Int.reduceMod] <;> omega)))
        | (with_reducible apply it_2; (first | omega | (simp (disch := omega) only [not_false_eq_true, not_true_eq_false, w32_id, tLt, fLt, tLe, fEq, itE, and_true, true_and, and_self, and_false, false_and, ↓reduceIte, nat_add, nat_mul3, nat_mul4, nat_mul6, nat_mul15, nat_mul60, nat_cast, nc1, Int.reduceToNat, upE, upN, fill_ne, fill_in, i0, m91, d90, Int.reduceMod] <;> omega)))
        | (with_reducible refine cl_go ?_; simp (disch := omega) only [not_false_eq_true, not_true_eq_false, w32_id, tLt, fLt, tLe, fEq, itE, and_true, true_and, and_self, and_false, false_and, ↓reduceIte, nat_add, nat_mul3, nat_mul4, nat_mul6, nat_mul15, nat_mul60, nat_cast, nc1, Int.reduceToNat, upE, upN, fill_ne, fill_in, i0, m91, d90, Int.reduceMod])
        | rw [c_Mo_aShip (by omega), b_Mo_aShip_0]
        | rw [c_Mo_portTo (by omega), b_Mo_portTo_0]
        | with_reducible exact c2
        | with_reducible exact u2
        | with_reducible exact c4 _ _ _ (by omega) (by omega) (by omega)
        | with_reducible exact u4
        | with_reducible exact o2 _ (by omega)
        | with_reducible exact p3
        | with_reducible exact p3' _ (by omega)
        | (with_reducible refine rn_go ?_; simp (disch := omega) only [not_false_eq_true, not_true_eq_false, w32_id, tLt, fLt, tLe, fEq, itE, and_true, true_and, and_self, and_false, false_and, ↓reduceIte, nat_add, nat_mul3, nat_mul4, nat_mul6, nat_mul15, nat_mul60, nat_cast, nc1, Int.reduceToNat, upE, upN, fill_ne, fill_in, i0, m91, d90, Int.reduceMod])
        | (with_reducible refine lf_go ?_; simp (disch := omega) only [not_false_eq_true, not_true_eq_false, w32_id, tLt, fLt, tLe, fEq, itE, and_true, true_and, and_self, and_false, false_and, ↓reduceIte, nat_add, nat_mul3, nat_mul4, nat_mul6, nat_mul15, nat_mul60, nat_cast, nc1, Int.reduceToNat, upE, upN, fill_ne, fill_in, i0, m91, d90, Int.reduceMod])
        | with_reducible exact rfl
  have l91 : Ml 272 2291 = (a : Int) := by rw [fl _ _ (by omega) (by omega), fX _ _ (by omega), fj _ _ (by omega) (by omega), fh _ _ (by omega), ff _ _ (by omega) (by omega), fd _ _ (by omega), fB _ _ (by omega) (by omega)]; exact m91
  have j91 : Mj 272 2291 = (a : Int) := by rw [fj _ _ (by omega) (by omega), fh _ _ (by omega), ff _ _ (by omega) (by omega), fd _ _ (by omega), fB _ _ (by omega) (by omega)]; exact m91
  have mo : callD d2 m_Mo_aShip [vR 12 0 271] (SH L) M2 = some (some (vI 1), SH L, up Ml 272 2291 ((a : Int) + 1)) := by
    rcases p3 with ⟨i3, rfl⟩ | ⟨Mx3, i3, _, j3⟩
    · rw [← hX] at i3 ⊢
      repeat' first
        | (with_reducible apply bR_go; (simp (disch := omega) only [rM L, rK L, rN L, rNf, rNv, rNp, rNd, rRow, rLeg, rMark, nat_cast, Int.reduceToNat, m91, d90, j91, Int.reduceMod]; with_reducible exact rfl))
        | with_reducible apply bI_go
        | with_reducible apply bV_go
        | with_reducible apply bL_go
        | (with_reducible apply it_1; (first | omega | (simp (disch := omega) only [not_false_eq_true, not_true_eq_false, w32_id, tLt, fLt, tLe, fEq, itE, and_true, true_and, and_self, and_false, false_and, ↓reduceIte, nat_add, nat_mul3, nat_mul4, nat_mul6, nat_mul15, nat_mul60, nat_cast, nc1, Int.reduceToNat, upE, upN, fill_ne, fill_in, i0, m91, d90, j91, Int.reduceMod] <;> omega)))
        | (with_reducible apply it_2; (first | omega | (simp (disch := omega) only [not_false_eq_true, not_true_eq_false, w32_id, tLt, fLt, tLe, fEq, itE, and_true, true_and, and_self, and_false, false_and, ↓reduceIte, nat_add, nat_mul3, nat_mul4, nat_mul6, nat_mul15, nat_mul60, nat_cast, nc1, Int.reduceToNat, upE, upN, fill_ne, fill_in, i0, m91, d90, j91, Int.reduceMod] <;> omega)))
        | (with_reducible refine cl_go ?_; simp (disch := omega) only [not_false_eq_true, not_true_eq_false, w32_id, tLt, fLt, tLe, fEq, itE, and_true, true_and, and_self, and_false, false_and, ↓reduceIte, nat_add, nat_mul3, nat_mul4, nat_mul6, nat_mul15, nat_mul60, nat_cast, nc1, Int.reduceToNat, upE, upN, fill_ne, fill_in, i0, m91, d90, j91, Int.reduceMod])
        | rw [c_Mo_aShip (by omega), b_Mo_aShip_0]
        | rw [c_Mo_portTo (by omega), b_Mo_portTo_0]
        | with_reducible exact c2
        | with_reducible exact u2
        | with_reducible exact c4 _ _ _ (by omega) (by omega) (by omega)
        | with_reducible exact u4
        | with_reducible exact o2 _ (by omega)
        | with_reducible exact i3
        | (with_reducible refine rn_go ?_; simp (disch := omega) only [not_false_eq_true, not_true_eq_false, w32_id, tLt, fLt, tLe, fEq, itE, and_true, true_and, and_self, and_false, false_and, ↓reduceIte, nat_add, nat_mul3, nat_mul4, nat_mul6, nat_mul15, nat_mul60, nat_cast, nc1, Int.reduceToNat, upE, upN, fill_ne, fill_in, i0, m91, d90, j91, Int.reduceMod])
        | (with_reducible refine lf_go ?_; simp (disch := omega) only [not_false_eq_true, not_true_eq_false, w32_id, tLt, fLt, tLe, fEq, itE, and_true, true_and, and_self, and_false, false_and, ↓reduceIte, nat_add, nat_mul3, nat_mul4, nat_mul6, nat_mul15, nat_mul60, nat_cast, nc1, Int.reduceToNat, upE, upN, fill_ne, fill_in, i0, m91, d90, j91, Int.reduceMod])
        | with_reducible exact rfl
    · rw [← hX] at i3
      repeat' first
        | (with_reducible apply bR_go; (simp (disch := omega) only [rM L, rK L, rN L, rNf, rNv, rNp, rNd, rRow, rLeg, rMark, nat_cast, Int.reduceToNat, m91, d90, l91, Int.reduceMod]; with_reducible exact rfl))
        | with_reducible apply bI_go
        | with_reducible apply bV_go
        | with_reducible apply bL_go
        | (with_reducible apply it_1; (first | omega | (simp (disch := omega) only [not_false_eq_true, not_true_eq_false, w32_id, tLt, fLt, tLe, fEq, itE, and_true, true_and, and_self, and_false, false_and, ↓reduceIte, nat_add, nat_mul3, nat_mul4, nat_mul6, nat_mul15, nat_mul60, nat_cast, nc1, Int.reduceToNat, upE, upN, fill_ne, fill_in, i0, m91, d90, l91, Int.reduceMod] <;> omega)))
        | (with_reducible apply it_2; (first | omega | (simp (disch := omega) only [not_false_eq_true, not_true_eq_false, w32_id, tLt, fLt, tLe, fEq, itE, and_true, true_and, and_self, and_false, false_and, ↓reduceIte, nat_add, nat_mul3, nat_mul4, nat_mul6, nat_mul15, nat_mul60, nat_cast, nc1, Int.reduceToNat, upE, upN, fill_ne, fill_in, i0, m91, d90, l91, Int.reduceMod] <;> omega)))
        | (with_reducible refine cl_go ?_; simp (disch := omega) only [not_false_eq_true, not_true_eq_false, w32_id, tLt, fLt, tLe, fEq, itE, and_true, true_and, and_self, and_false, false_and, ↓reduceIte, nat_add, nat_mul3, nat_mul4, nat_mul6, nat_mul15, nat_mul60, nat_cast, nc1, Int.reduceToNat, upE, upN, fill_ne, fill_in, i0, m91, d90, l91, Int.reduceMod])
        | rw [c_Mo_aShip (by omega), b_Mo_aShip_0]
        | rw [c_Mo_portTo (by omega), b_Mo_portTo_0]
        | with_reducible exact c2
        | with_reducible exact u2
        | with_reducible exact c4 _ _ _ (by omega) (by omega) (by omega)
        | with_reducible exact u4
        | with_reducible exact o2 _ (by omega)
        | with_reducible exact i3
        | with_reducible exact j3 _ (by omega)
        | (with_reducible refine rn_go ?_; simp (disch := omega) only [not_false_eq_true, not_true_eq_false, w32_id, tLt, fLt, tLe, fEq, itE, and_true, true_and, and_self, and_false, false_and, ↓reduceIte, nat_add, nat_mul3, nat_mul4, nat_mul6, nat_mul15, nat_mul60, nat_cast, nc1, Int.reduceToNat, upE, upN, fill_ne, fill_in, i0, m91, d90, l91, Int.reduceMod])
        | (with_reducible refine lf_go ?_; simp (disch := omega) only [not_false_eq_true, not_true_eq_false, w32_id, tLt, fLt, tLe, fEq, itE, and_true, true_and, and_self, and_false, false_and, ↓reduceIte, nat_add, nat_mul3, nat_mul4, nat_mul6, nat_mul15, nat_mul60, nat_cast, nc1, Int.reduceToNat, upE, upN, fill_ne, fill_in, i0, m91, d90, l91, Int.reduceMod])
        | with_reducible exact rfl
  -- the ship is launched
  have ef := s_fill0 (S := SH L) (a := 105 + 2 * a) (n := 8) (v := 0) (d := d1 - 1 - 1) (M := up (up (up (up (up (up (up Mk (104 + 2 * a) 0 (v : Int)) (104 + 2 * a) 1 (-1)) (104 + 2 * a) 2 0) (104 + 2 * a) 3 x) (104 + 2 * a) 4 y) (104 + 2 * a) 5 0) (104 + 2 * a) 6 0) (by omega) (by omega)
  rw [show ((8 : Nat) : Int) = 8 from rfl] at ef
  have rv := rV (L := L) (v := 104 + 2 * a) (st65.v lt)
  have rv : refOf (SH L) (104 + 2 * a) 7 = some (105 + 2 * a) := by rw [rv]; congr 1; omega
  generalize hY : fillP (up (up (up (up (up (up (up Mk (104 + 2 * a) 0 (v : Int)) (104 + 2 * a) 1 (-1)) (104 + 2 * a) 2 0) (104 + 2 * a) 3 x) (104 + 2 * a) 4 y) (104 + 2 * a) 5 0) (104 + 2 * a) 6 0) (105 + 2 * a) (fun _ => 0) 8 = Y at ef
  have la : callD (d1 - 1) m_Vessel_launch [vR 8 0 (104 + 2 * a), vI (v : Int), vI x, vI y] (SH L) Mk = some (none, SH L, Y) := by
    repeat' first
      | (with_reducible apply bR_go; (simp (disch := omega) only [rM L, rK L, rN L, rNf, rNv, rNp, rNd, rRow, rLeg, rMark, nat_cast, Int.reduceToNat, rv]; with_reducible exact rfl))
      | with_reducible apply bI_go
      | with_reducible apply bV_go
      | with_reducible apply bL_go
      | (with_reducible apply it_1; (first | omega | (simp (disch := omega) only [not_false_eq_true, not_true_eq_false, w32_id, tLt, fLt, tLe, fEq, itE, and_true, true_and, and_self, and_false, false_and, ↓reduceIte, nat_add, nat_mul3, nat_mul4, nat_mul6, nat_mul15, nat_mul60, nat_cast, nc1, Int.reduceToNat, upE, upN, fill_ne, fill_in, i0, rv] <;> omega)))
      | (with_reducible apply it_2; (first | omega | (simp (disch := omega) only [not_false_eq_true, not_true_eq_false, w32_id, tLt, fLt, tLe, fEq, itE, and_true, true_and, and_self, and_false, false_and, ↓reduceIte, nat_add, nat_mul3, nat_mul4, nat_mul6, nat_mul15, nat_mul60, nat_cast, nc1, Int.reduceToNat, upE, upN, fill_ne, fill_in, i0, rv] <;> omega)))
      | (with_reducible refine cl_go ?_; simp (disch := omega) only [not_false_eq_true, not_true_eq_false, w32_id, tLt, fLt, tLe, fEq, itE, and_true, true_and, and_self, and_false, false_and, ↓reduceIte, nat_add, nat_mul3, nat_mul4, nat_mul6, nat_mul15, nat_mul60, nat_cast, nc1, Int.reduceToNat, upE, upN, fill_ne, fill_in, i0, rv])
      | rw [c_Vessel_launch (by omega), b_Vessel_launch_0]
      | with_reducible exact ef
      | (with_reducible refine rn_go ?_; simp (disch := omega) only [not_false_eq_true, not_true_eq_false, w32_id, tLt, fLt, tLe, fEq, itE, and_true, true_and, and_self, and_false, false_and, ↓reduceIte, nat_add, nat_mul3, nat_mul4, nat_mul6, nat_mul15, nat_mul60, nat_cast, nc1, Int.reduceToNat, upE, upN, fill_ne, fill_in, i0, rv])
      | (with_reducible refine lf_go ?_; simp (disch := omega) only [not_false_eq_true, not_true_eq_false, w32_id, tLt, fLt, tLe, fEq, itE, and_true, true_and, and_self, and_false, false_and, ↓reduceIte, nat_add, nat_mul3, nat_mul4, nat_mul6, nat_mul15, nat_mul60, nat_cast, nc1, Int.reduceToNat, upE, upN, fill_ne, fill_in, i0, rv])
      | with_reducible exact rfl
  have fY : ∀ b j, ¬(b = 104 + 2 * a ∧ j < 7) → ¬(b = 105 + 2 * a ∧ j < 8) → Y b j = Mk b j := fun b j y1 y2 => by
    rw [← hY, fill_ne (by omega), upN (by omega), upN (by omega), upN (by omega), upN (by omega), upN (by omega), upN (by omega), upN (by omega)]
  have gY : ∀ w, w < 7 → Y (104 + 2 * a) w = lnB (v : Int) x y w := fun w hw => by
    rw [← hY, fill_ne (by omega)]
    have z : w = 0 ∨ w = 1 ∨ w = 2 ∨ w = 3 ∨ w = 4 ∨ w = 5 ∨ w = 6 := by omega
    rcases z with rfl | rfl | rfl | rfl | rfl | rfl | rfl
    · rw [upN (by omega), upN (by omega), upN (by omega), upN (by omega), upN (by omega), upN (by omega), upE rfl rfl]; rfl
    · rw [upN (by omega), upN (by omega), upN (by omega), upN (by omega), upN (by omega), upE rfl rfl]; rfl
    · rw [upN (by omega), upN (by omega), upN (by omega), upN (by omega), upE rfl rfl]; rfl
    · rw [upN (by omega), upN (by omega), upN (by omega), upE rfl rfl]; rfl
    · rw [upN (by omega), upN (by omega), upE rfl rfl]; rfl
    · rw [upN (by omega), upE rfl rfl]; rfl
    · rw [upE rfl rfl]; rfl
  have gY2 : ∀ g, g < 8 → Y (105 + 2 * a) g = lnB (v : Int) x y (7 + g) := fun g hg => by
    rw [← hY, fill_in rfl hg]
    unfold lnB
    rw [if_neg (by omega), if_neg (by omega), if_neg (by omega), if_neg (by omega)]
  have ti : TK bt n qh eh Y (up Ml 272 2291 ((a : Int) + 1)) := th.fr (fun b j hb => fY b j (by omega) (by omega)) fun b j hb => upN (by omega)
  have w1 : FcW M1 Y := fun b j y1 y2 y3 => by rw [fY b j (by omega) (by omega)]; exact (wc2.trans fk.w) b j y1 y2 y3
  have w2 := (wm2.trans (fl.w (by omega))).u (j := 2291) (v := (a : Int) + 1) (by omega)
  rcases k_stop (L := L) (d1 := d1 - 1) (d2 := d2) (by omega) (by omega) ti with ⟨qe, ee, Mp, Mq, s1, s2, tk, le', fp, fq⟩ | ⟨Mp, Mq, s1, s2, f, fp, fq⟩
  rotate_left
  · right; right
    refine ⟨Mp, _, Mq, ?_, mo, s2, f, w1.trans fp.w, w2.trans fq.w⟩
    repeat' first
      | (with_reducible apply bR_go; (simp (disch := omega) only [rM L, rK L, rN L, rNf, rNv, rNp, rNd, rRow, rLeg, rMark, nat_cast, Int.reduceToNat, rs, rf, Int.reduceMod]; with_reducible exact rfl))
      | with_reducible apply bI_go
      | with_reducible apply bV_go
      | with_reducible apply bL_go
      | (with_reducible apply it_1; (first | omega | (simp (disch := omega) only [not_false_eq_true, not_true_eq_false, w32_id, tLt, fLt, tLe, fEq, itE, and_true, true_and, and_self, and_false, false_and, ↓reduceIte, nat_add, nat_mul3, nat_mul4, nat_mul6, nat_mul15, nat_mul60, nat_cast, nc1, Int.reduceToNat, upE, upN, fill_ne, fill_in, i0, rs, rf, Int.reduceMod] <;> omega)))
      | (with_reducible apply it_2; (first | omega | (simp (disch := omega) only [not_false_eq_true, not_true_eq_false, w32_id, tLt, fLt, tLe, fEq, itE, and_true, true_and, and_self, and_false, false_and, ↓reduceIte, nat_add, nat_mul3, nat_mul4, nat_mul6, nat_mul15, nat_mul60, nat_cast, nc1, Int.reduceToNat, upE, upN, fill_ne, fill_in, i0, rs, rf, Int.reduceMod] <;> omega)))
      | (with_reducible refine cl_go ?_; simp (disch := omega) only [not_false_eq_true, not_true_eq_false, w32_id, tLt, fLt, tLe, fEq, itE, and_true, true_and, and_self, and_false, false_and, ↓reduceIte, nat_add, nat_mul3, nat_mul4, nat_mul6, nat_mul15, nat_mul60, nat_cast, nc1, Int.reduceToNat, upE, upN, fill_ne, fill_in, i0, rs, rf, Int.reduceMod])
      | rw [c_WorldText_takesShip (by omega), b_WorldText_takesShip_0]
      | with_reducible exact c1
      | with_reducible exact u1
      | with_reducible exact c3
      | with_reducible exact u3
      | with_reducible exact o1
      | with_reducible exact o3
      | with_reducible exact la
      | with_reducible exact s1
      | (with_reducible refine rn_go ?_; simp (disch := omega) only [not_false_eq_true, not_true_eq_false, w32_id, tLt, fLt, tLe, fEq, itE, and_true, true_and, and_self, and_false, false_and, ↓reduceIte, nat_add, nat_mul3, nat_mul4, nat_mul6, nat_mul15, nat_mul60, nat_cast, nc1, Int.reduceToNat, upE, upN, fill_ne, fill_in, i0, rs, rf, Int.reduceMod])
      | (with_reducible refine lf_go ?_; simp (disch := omega) only [not_false_eq_true, not_true_eq_false, w32_id, tLt, fLt, tLe, fEq, itE, and_true, true_and, and_self, and_false, false_and, ↓reduceIte, nat_add, nat_mul3, nat_mul4, nat_mul6, nat_mul15, nat_mul60, nat_cast, nc1, Int.reduceToNat, upE, upN, fill_ne, fill_in, i0, rs, rf, Int.reduceMod])
      | with_reducible exact rfl
  left
  refine ⟨qe, ee, Mp, _, Mq, ?_, mo, s2, tk, by have b1 := ta.2.2.2.2.1.bd; have b2 := tb.2.2.2.2.1.bd; have b3 := tc.2.2.2.2.1.bd; have b4 := te.2.2.2.2.1.bd; have b5 := tf.2.2.2.2.1.bd; have b6 := th.2.2.2.2.1.bd; omega, ?_, w1.trans fp.w, w2.trans fq.w⟩
  · repeat' first
      | (with_reducible apply bR_go; (simp (disch := omega) only [rM L, rK L, rN L, rNf, rNv, rNp, rNd, rRow, rLeg, rMark, nat_cast, Int.reduceToNat, rs, rf, Int.reduceMod]; with_reducible exact rfl))
      | with_reducible apply bI_go
      | with_reducible apply bV_go
      | with_reducible apply bL_go
      | (with_reducible apply it_1; (first | omega | (simp (disch := omega) only [not_false_eq_true, not_true_eq_false, w32_id, tLt, fLt, tLe, fEq, itE, and_true, true_and, and_self, and_false, false_and, ↓reduceIte, nat_add, nat_mul3, nat_mul4, nat_mul6, nat_mul15, nat_mul60, nat_cast, nc1, Int.reduceToNat, upE, upN, fill_ne, fill_in, i0, rs, rf, Int.reduceMod] <;> omega)))
      | (with_reducible apply it_2; (first | omega | (simp (disch := omega) only [not_false_eq_true, not_true_eq_false, w32_id, tLt, fLt, tLe, fEq, itE, and_true, true_and, and_self, and_false, false_and, ↓reduceIte, nat_add, nat_mul3, nat_mul4, nat_mul6, nat_mul15, nat_mul60, nat_cast, nc1, Int.reduceToNat, upE, upN, fill_ne, fill_in, i0, rs, rf, Int.reduceMod] <;> omega)))
      | (with_reducible refine cl_go ?_; simp (disch := omega) only [not_false_eq_true, not_true_eq_false, w32_id, tLt, fLt, tLe, fEq, itE, and_true, true_and, and_self, and_false, false_and, ↓reduceIte, nat_add, nat_mul3, nat_mul4, nat_mul6, nat_mul15, nat_mul60, nat_cast, nc1, Int.reduceToNat, upE, upN, fill_ne, fill_in, i0, rs, rf, Int.reduceMod])
      | rw [c_WorldText_takesShip (by omega), b_WorldText_takesShip_0]
      | with_reducible exact c1
      | with_reducible exact u1
      | with_reducible exact c3
      | with_reducible exact u3
      | with_reducible exact o1
      | with_reducible exact o3
      | with_reducible exact la
      | with_reducible exact s1
      | (with_reducible refine rn_go ?_; simp (disch := omega) only [not_false_eq_true, not_true_eq_false, w32_id, tLt, fLt, tLe, fEq, itE, and_true, true_and, and_self, and_false, false_and, ↓reduceIte, nat_add, nat_mul3, nat_mul4, nat_mul6, nat_mul15, nat_mul60, nat_cast, nc1, Int.reduceToNat, upE, upN, fill_ne, fill_in, i0, rs, rf, Int.reduceMod])
      | (with_reducible refine lf_go ?_; simp (disch := omega) only [not_false_eq_true, not_true_eq_false, w32_id, tLt, fLt, tLe, fEq, itE, and_true, true_and, and_self, and_false, false_and, ↓reduceIte, nat_add, nat_mul3, nat_mul4, nat_mul6, nat_mul15, nat_mul60, nat_cast, nc1, Int.reduceToNat, upE, upN, fill_ne, fill_in, i0, rs, rf, Int.reduceMod])
      | with_reducible exact rfl
  have oC : ∀ b j, b ≠ 12 → ¬(b = 104 + 2 * a ∧ j < 7) → ¬(b = 105 + 2 * a ∧ j < 8) → Mp b j = Ma b j := fun b j y1 y2 y3 => by
    rw [fp _ _ (by omega), fY _ _ y2 y3, fk _ _ (by omega), fi _ _ (by omega), fg _ _ (by omega), fe _ _ (by omega), fc _ _ (by omega)]
  have oA : ∀ b j, ¬(b = 271 ∧ (12 ≤ j ∧ j ≤ 15 ∨ j = 17 ∨ j = 18)) → ¬(b = 272 ∧ (j = 2291 ∨ j = 2434 + 15 * a ∨ j = 2435 + 15 * a ∨ j = 2437 + 15 * a ∨ j = 2438 + 15 * a)) → Mq b j = Mb b j := fun b j y1 y2 => by
    rw [fq _ _ y1, upN (by omega), fl _ _ y1 (by omega), fX _ _ (by omega), fj _ _ y1 (by omega), fh _ _ y1, ff _ _ y1 (by omega), fd _ _ y1]
  obtain ⟨z1, z2, z3, z4⟩ := zr.2.2 a lt (by omega)
  have old : ∀ k, k < 206 → k ≠ 3 → ¬(146 + 15 * a ≤ k ∧ k < 161 + 15 * a) ∨ k = 148 + 15 * a ∨ 151 + 15 * a ≤ k → dA Mq k = dA M2 k := fun k y1 y2 y3 => by
    unfold dA
    rw [oA _ _ (by omega) (by omega), fB _ _ (by omega) (by omega)]
  refine dd_ship hD (a := a) (B := lnB (v : Int) x y) ha lt (ln_sh (by omega) ⟨hx.1, hx.2.1⟩ ⟨hy.1, hy.2.1⟩) (fun b j y1 y2 y3 y4 y5 y6 => ?_) (fun w hw => ?_) (fun g hg => ?_) ?_ (fun k y1 y2 y3 => old k y1 y2 (by omega)) ?_ (fun w hw => ?_) (fun k y1 y2 => ?_) ?_ ?_ ?_
  · rw [oC _ _ (by omega) y5 y6, fA _ _ (by omega) (by omega) (by omega)]
  · rw [fp _ _ (by omega)]; exact gY w hw
  · rw [fp _ _ (by omega)]; exact gY2 g hg
  · rw [oC _ _ (by omega) (by omega) (by omega)]; exact k67
  · unfold dA
    rw [fq _ _ (by omega), upE rfl rfl]
  · by_cases w7 : 7 ≤ w
    · obtain ⟨g, rfl⟩ : ∃ g, w = 7 + g := ⟨w - 7, by omega⟩
      rw [old _ (by omega) (by omega) (by omega), show 146 + 15 * a + (7 + g) = 153 + 15 * a + g by omega, z4 g (by omega)]
      unfold lnB
      rw [if_neg (by omega), if_neg (by omega), if_neg (by omega), if_neg (by omega)]
    have z : w = 0 ∨ w = 1 ∨ w = 2 ∨ w = 3 ∨ w = 4 ∨ w = 5 ∨ w = 6 := by omega
    rcases z with rfl | rfl | rfl | rfl | rfl | rfl | rfl
    · unfold dA
      rw [fq _ _ (by omega), upN (by omega), fl _ _ (by omega) (by omega), fX _ _ (by omega), fj _ _ (by omega) (by omega), fh _ _ (by omega), show 2288 + (146 + 15 * a + 0) = 2434 + 15 * a by omega]
      exact ev
    · unfold dA
      rw [fq _ _ (by omega), upN (by omega), fl _ _ (by omega) (by omega), show 2288 + (146 + 15 * a + 1) = 2435 + 15 * a by omega]
      exact x5
    · rw [old _ (by omega) (by omega) (by omega), show 146 + 15 * a + 2 = 148 + 15 * a by omega]; exact z1
    · unfold dA
      rw [fq _ _ (by omega), upN (by omega), fl _ _ (by omega) (by omega), fX _ _ (by omega), show 2288 + (146 + 15 * a + 3) = 2437 + 15 * a by omega]
      exact ex
    · unfold dA
      rw [fq _ _ (by omega), upN (by omega), show 2288 + (146 + 15 * a + 4) = 2438 + 15 * a by omega]
      exact ey
    · rw [old _ (by omega) (by omega) (by omega), show 146 + 15 * a + 5 = 151 + 15 * a by omega]; exact z2
    · rw [old _ (by omega) (by omega) (by omega), show 146 + 15 * a + 6 = 152 + 15 * a by omega]; exact z3
  · unfold dN
    rw [oA _ _ (by omega) (by omega), fB _ _ (by omega) (by omega)]
  · unfold dN
    rw [oC _ _ (by omega) (by omega) (by omega), oA _ _ (by omega) (by omega), show 96 + (20 + a) = 96 + 20 + a by omega]
    exact knm
  · rw [oC _ _ (by omega) (by omega) (by omega), fA _ _ (by omega) (by omega) (by omega)]
  · rw [oA _ _ (by omega) (by omega), fB _ _ (by omega) (by omega)]
end

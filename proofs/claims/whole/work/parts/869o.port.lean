/-! THE PARTS OF A WORLD: one more port, one more ship -/
section
variable {bt : Nat → Int} {n q e : Nat} {M M1 M2 : Mm} {L d d1 d2 d3 : Nat}
theorem dd_port {Mj Mk : Mm} (hD : DD M1 M2) {a : Nat} {v : Int} (ha : dA M2 2 = (a : Int)) (lt : a < 6) (hv : -1 ≤ v ∧ v < dA M2 0) (gC : ∀ b j, 65 ≤ b → b ≤ 111 → ¬(b = 67 ∧ j = 2) → ¬(b = 71 ∧ j = a) → ¬(b = 80 ∧ j = a) → Mj b j = M1 b j) (g80 : Mj 80 a = v) (g67 : Mj 67 2 = (a : Int) + 1) (gA : ∀ k, k < 206 → k ≠ 2 → k ≠ 56 + 15 * a → dA Mk k = dA M2 k) (e1 : dA Mk 2 = (a : Int) + 1) (e2 : dA Mk (56 + 15 * a) = v) (gN : ∀ k, k < 24 → k ≠ 14 + a → dN Mk k = dN M2 k) (nw : nmR (Mj 71 a) (dN Mk (14 + a))) (r0 : Mj 15 0 = M1 15 0) (r20 : Mk 271 20 = M2 271 20) : DD Mj Mk := by
  have hI := hD.2.1
  have zr := hD.2.2.1
  have hC := hI.1
  unfold Cn at hC
  obtain ⟨i1, i2, i3, i4, i5, i6, i7, i8, i9⟩ := hI
  have q1 := cl_o (n := a) (k := 56 + 15 * a) rfl lt
  have a0 := gA 0 (by omega) (by omega) (by omega)
  have a1 := gA 1 (by omega) (by omega) (by omega)
  have a3 := gA 3 (by omega) (by omega) (by omega)
  have a4 := gA 4 (by omega) (by omega) (by omega)
  refine hD.more (kd := 2) (off := 14) (most := 6) (a := a) (Or.inr (Or.inr (Or.inl ⟨rfl, rfl, rfl⟩))) (by omega) ha lt (fun k => k = 56 + 15 * a) (fun k hk => by unfold VV; omega) ⟨?_, i2.cg (by omega) a1 (fun k _ _ => gA k (by omega) (by omega) (by omega)) i1, i3.cg a0 (fun k _ _ => gA k (by omega) (by omega) (by omega)) i1, fun p hp => ?_, i5.cg fun k _ _ _ => gA k (by omega) (by omega) (by omega), i6.cg fun k _ _ _ => gA k (by omega) (by omega) (by omega), i7.cg (by omega) (by omega) a3 (fun k _ _ => gA k (by omega) (by omega) (by omega)) i1, by rw [gA 5 (by omega) (by omega) (by omega)]; exact i8, i9.cg a0 (fun k _ => gA _ (by omega) (by omega) (by omega)) i1⟩ ⟨fun m y1 y2 => ?_, fun g y1 y2 => ?_, fun s y1 y2 => ?_⟩ e1 (fun k y1 y2 y3 => gA k y1 y2 y3) (fun k hk hn => ?_) (fun k hk => ?_) g67 (fun b j y1 y2 y3 y4 y5 => ?_) gN nw r0 r20
  · unfold Cn
    rw [a0, a1, e1, a3, a4]
    omega
  · rw [e1] at hp
    by_cases z : p = a
    · rw [z, e2, a0]
      exact hv
    · rw [gA (56 + 15 * p) (by omega) (by omega) (by omega), a0]
      exact i4 p (by omega)
  · rw [a0] at y2
    rw [gA _ (by omega) (by omega) (by omega), gA _ (by omega) (by omega) (by omega), gA _ (by omega) (by omega) (by omega)]
    exact zr.1 m y1 y2
  · rw [a1] at y2
    rw [gA _ (by omega) (by omega) (by omega)]
    exact zr.2.1 g y1 y2
  · rw [a3] at y2
    obtain ⟨u1, u2, u3, u4⟩ := zr.2.2 s y1 y2
    rw [gA _ (by omega) (by omega) (by omega), gA _ (by omega) (by omega) (by omega), gA _ (by omega) (by omega) (by omega)]
    exact ⟨u1, u2, u3, fun g hg => by rw [gA _ (by omega) (by omega) (by omega)]; exact u4 g hg⟩
  · unfold vd at hk ⊢
    rw [a0, a1, e1, a3] at hk
    rw [ha]
    omega
  · subst hk
    rw [q1.1, q1.2, e2]; exact g80
  · have z1 := y5 _ rfl
    rw [q1.1, q1.2] at z1
    exact gC b j y1 y2 y3 y4 z1
theorem p_port (h1 : 12 ≤ d1) (h2 : 12 ≤ d2) (h : TK bt n q e M1 M2) (hD : DD M1 M2) (h7 : M1 12 7 ≠ 4) (hq : q < e) : PO bt n q L d1 d2 (callD d1 m_WorldText_takesPort [vR 6 0 12, vR 0 0 66] (SH L) M1) (callD d2 m_Mo_aPort [vR 12 0 271] (SH L) M2) M1 M2 := by
  have hI := hD.2.1
  have hC := hI.1
  unfold Cn at hC
  have ch66 : isCh 66 := Or.inr (Or.inl rfl)
  have rc := rC (L := L) ch66
  obtain ⟨a, ha⟩ := Int.eq_ofNat_of_zero_le hC.2.2.2.2.1
  obtain ⟨c, hc⟩ := Int.eq_ofNat_of_zero_le hC.1
  obtain ⟨k0, -, -, -⟩ := hD.nm.k
  rw [hc, nat_cast] at k0
  have m88 : M2 272 2288 = (c : Int) := hc
  have m90 : M2 272 2290 = (a : Int) := ha
  rcases k_new (L := L) (d1 := d1 - 1) (d2 := d2 - 1) (by omega) (by omega) h hD.nm (kd := 2) (off := 14) (most := 6) (Or.inr (Or.inr (Or.inl ⟨rfl, rfl, rfl⟩))) h7 with ⟨qa, ea, Ma, Mb, c1, c2, lt, ta, le, k67, knm, fA, fB⟩ | ⟨M1', M2', c1, c2, f, fa, fb'⟩
  rotate_left
  · right; left
    have c1 := c1 2 rfl
    have c2 := c2 2 6 14 rfl rfl rfl
    refine ⟨M1', M2', ?_, ?_, f, fa.w, fb'.w⟩
    · repeat' first
        | (with_reducible apply bR_go; (simp (disch := omega) only [rM L, rK L, rN L, rNf, rNv, rNp, rNd, rRow, rLeg, rMark, nat_cast, Int.reduceToNat]; with_reducible exact rfl))
        | with_reducible apply bI_go
        | with_reducible apply bV_go
        | with_reducible apply bL_go
        | (with_reducible apply it_1; (first | omega | (simp (disch := omega) only [not_false_eq_true, not_true_eq_false, w32_id, tLt, fLt, tLe, fEq, itE, and_true, true_and, and_self, and_false, false_and, ↓reduceIte, nat_add, nat_mul3, nat_mul4, nat_mul6, nat_mul15, nat_mul60, nat_cast, nc1, Int.reduceToNat, upE, upN, fill_ne, fill_in, i0] <;> omega)))
        | (with_reducible apply it_2; (first | omega | (simp (disch := omega) only [not_false_eq_true, not_true_eq_false, w32_id, tLt, fLt, tLe, fEq, itE, and_true, true_and, and_self, and_false, false_and, ↓reduceIte, nat_add, nat_mul3, nat_mul4, nat_mul6, nat_mul15, nat_mul60, nat_cast, nc1, Int.reduceToNat, upE, upN, fill_ne, fill_in, i0] <;> omega)))
        | (with_reducible refine cl_go ?_; simp (disch := omega) only [not_false_eq_true, not_true_eq_false, w32_id, tLt, fLt, tLe, fEq, itE, and_true, true_and, and_self, and_false, false_and, ↓reduceIte, nat_add, nat_mul3, nat_mul4, nat_mul6, nat_mul15, nat_mul60, nat_cast, nc1, Int.reduceToNat, upE, upN, fill_ne, fill_in, i0])
        | rw [c_WorldText_takesPort (by omega), b_WorldText_takesPort_0]
        | with_reducible exact c1
        | (with_reducible refine rn_go ?_; simp (disch := omega) only [not_false_eq_true, not_true_eq_false, w32_id, tLt, fLt, tLe, fEq, itE, and_true, true_and, and_self, and_false, false_and, ↓reduceIte, nat_add, nat_mul3, nat_mul4, nat_mul6, nat_mul15, nat_mul60, nat_cast, nc1, Int.reduceToNat, upE, upN, fill_ne, fill_in, i0])
        | (with_reducible refine lf_go ?_; simp (disch := omega) only [not_false_eq_true, not_true_eq_false, w32_id, tLt, fLt, tLe, fEq, itE, and_true, true_and, and_self, and_false, false_and, ↓reduceIte, nat_add, nat_mul3, nat_mul4, nat_mul6, nat_mul15, nat_mul60, nat_cast, nc1, Int.reduceToNat, upE, upN, fill_ne, fill_in, i0])
        | with_reducible exact rfl
    · repeat' first
        | (with_reducible apply bR_go; (simp (disch := omega) only [rM L, rK L, rN L, rNf, rNv, rNp, rNd, rRow, rLeg, rMark, nat_cast, Int.reduceToNat]; with_reducible exact rfl))
        | with_reducible apply bI_go
        | with_reducible apply bV_go
        | with_reducible apply bL_go
        | (with_reducible apply it_1; (first | omega | (simp (disch := omega) only [not_false_eq_true, not_true_eq_false, w32_id, tLt, fLt, tLe, fEq, itE, and_true, true_and, and_self, and_false, false_and, ↓reduceIte, nat_add, nat_mul3, nat_mul4, nat_mul6, nat_mul15, nat_mul60, nat_cast, nc1, Int.reduceToNat, upE, upN, fill_ne, fill_in, i0] <;> omega)))
        | (with_reducible apply it_2; (first | omega | (simp (disch := omega) only [not_false_eq_true, not_true_eq_false, w32_id, tLt, fLt, tLe, fEq, itE, and_true, true_and, and_self, and_false, false_and, ↓reduceIte, nat_add, nat_mul3, nat_mul4, nat_mul6, nat_mul15, nat_mul60, nat_cast, nc1, Int.reduceToNat, upE, upN, fill_ne, fill_in, i0] <;> omega)))
        | (with_reducible refine cl_go ?_; simp (disch := omega) only [not_false_eq_true, not_true_eq_false, w32_id, tLt, fLt, tLe, fEq, itE, and_true, true_and, and_self, and_false, false_and, ↓reduceIte, nat_add, nat_mul3, nat_mul4, nat_mul6, nat_mul15, nat_mul60, nat_cast, nc1, Int.reduceToNat, upE, upN, fill_ne, fill_in, i0])
        | rw [c_Mo_aPort (by omega), b_Mo_aPort_0]
        | with_reducible exact c2
        | (with_reducible refine rn_go ?_; simp (disch := omega) only [not_false_eq_true, not_true_eq_false, w32_id, tLt, fLt, tLe, fEq, itE, and_true, true_and, and_self, and_false, false_and, ↓reduceIte, nat_add, nat_mul3, nat_mul4, nat_mul6, nat_mul15, nat_mul60, nat_cast, nc1, Int.reduceToNat, upE, upN, fill_ne, fill_in, i0])
        | (with_reducible refine lf_go ?_; simp (disch := omega) only [not_false_eq_true, not_true_eq_false, w32_id, tLt, fLt, tLe, fEq, itE, and_true, true_and, and_self, and_false, false_and, ↓reduceIte, nat_add, nat_mul3, nat_mul4, nat_mul6, nat_mul15, nat_mul60, nat_cast, nc1, Int.reduceToNat, upE, upN, fill_ne, fill_in, i0])
        | with_reducible exact rfl
  have c1 := c1 2 rfl
  have c2 := c2 2 6 14 rfl rfl rfl
  rw [ha] at c1 k67 lt
  rw [ha, nat_cast] at knm fA fB
  have lt : a < 6 := by omega
  have wA : FcW M1 (up Ma 80 a (-1)) := FcW.u (fun b j q1 q2 q3 => fA b j q1 (by omega) (by omega)) (by omega)
  have wB : FmW M2 (up Mb 272 (2344 + 15 * a) (-1)) := FmW.u (fun b j q1 q2 q3 => fB b j (by omega) (by omega)) (by omega)
  have tb : TK bt n qa ea (up Ma 80 a (-1)) (up Mb 272 (2344 + 15 * a) (-1)) := ta.fr (fun b j hb => upN (by omega)) fun b j hb => upN (by omega)
  have iw := tb.iw (L := L) (d2 := d2 - 1 - 1) (by omega)
  have wd := tb.wd
  have ki := kM_iff (cwx_bd (bt := bt) (n := n) (q := qa) (e := ea)) (w := 6) (by omega)
  have k12 : kM 6 = 12 := by decide
  rw [k12] at ki
  by_cases z : cwx bt n qa ea = 6
  · obtain ⟨qb, eb, Mc, Md, a1, a2, tc, lc, fc, fd⟩ := k_adv (L := L) (d1 := d1 - 1) (d2 := d2 - 1 - 1) (by omega) (by omega) tb
    have z2 := ki.2 z
    have it : callD (d2 - 1) m_Mo_isThere [vR 12 0 271, vI 12] (SH L) (up Mb 272 (2344 + 15 * a) (-1)) = some (some (vI 1), SH L, Md) := by
      repeat' first
        | (with_reducible apply bR_go; (simp (disch := omega) only [rM L, rK L, rN L, rNf, rNv, rNp, rNd, rRow, rLeg, rMark, nat_cast, Int.reduceToNat, z2]; with_reducible exact rfl))
        | with_reducible apply bI_go
        | with_reducible apply bV_go
        | with_reducible apply bL_go
        | (with_reducible apply it_1; (first | omega | (simp (disch := omega) only [not_false_eq_true, not_true_eq_false, w32_id, tLt, fLt, tLe, fEq, itE, and_true, true_and, and_self, and_false, false_and, ↓reduceIte, nat_add, nat_mul3, nat_mul4, nat_mul6, nat_mul15, nat_mul60, nat_cast, nc1, Int.reduceToNat, upE, upN, fill_ne, fill_in, i0, z2] <;> omega)))
        | (with_reducible apply it_2; (first | omega | (simp (disch := omega) only [not_false_eq_true, not_true_eq_false, w32_id, tLt, fLt, tLe, fEq, itE, and_true, true_and, and_self, and_false, false_and, ↓reduceIte, nat_add, nat_mul3, nat_mul4, nat_mul6, nat_mul15, nat_mul60, nat_cast, nc1, Int.reduceToNat, upE, upN, fill_ne, fill_in, i0, z2] <;> omega)))
        | (with_reducible refine cl_go ?_; simp (disch := omega) only [not_false_eq_true, not_true_eq_false, w32_id, tLt, fLt, tLe, fEq, itE, and_true, true_and, and_self, and_false, false_and, ↓reduceIte, nat_add, nat_mul3, nat_mul4, nat_mul6, nat_mul15, nat_mul60, nat_cast, nc1, Int.reduceToNat, upE, upN, fill_ne, fill_in, i0, z2])
        | rw [c_Mo_isThere (by omega), b_Mo_isThere_0]
        | with_reducible exact iw
        | with_reducible exact a2
        | (with_reducible refine rn_go ?_; simp (disch := omega) only [not_false_eq_true, not_true_eq_false, w32_id, tLt, fLt, tLe, fEq, itE, and_true, true_and, and_self, and_false, false_and, ↓reduceIte, nat_add, nat_mul3, nat_mul4, nat_mul6, nat_mul15, nat_mul60, nat_cast, nc1, Int.reduceToNat, upE, upN, fill_ne, fill_in, i0, z2])
        | (with_reducible refine lf_go ?_; simp (disch := omega) only [not_false_eq_true, not_true_eq_false, w32_id, tLt, fLt, tLe, fEq, itE, and_true, true_and, and_self, and_false, false_and, ↓reduceIte, nat_add, nat_mul3, nat_mul4, nat_mul6, nat_mul15, nat_mul60, nat_cast, nc1, Int.reduceToNat, upE, upN, fill_ne, fill_in, i0, z2])
        | with_reducible exact rfl
    have k0' : NmK Mc Md 66 0 96 c := ⟨by rw [fc _ _ (by omega), upN (by omega), fA _ _ (by omega) (by omega) (by omega)]; exact k0.1, k0.2.1, k0.2.2.1, fun i hi => by
      rw [fc _ _ (by omega), upN (by omega), fA _ _ (by omega) (by omega) (by omega), fd _ _ (by omega), upN (by omega), fB _ _ (by omega) (by omega)]
      exact k0.2.2.2 i hi⟩
    have d88 : Md 272 2288 = (c : Int) := by rw [fd _ _ (by omega), upN (by omega), fB _ _ (by omega) (by omega)]; exact m88
    rw [z, upN (by omega)] at wd
    rcases k_thing (L := L) (d1 := d1 - 1) (d2 := d2 - 1 - 1) (by omega) (by omega) tc (c := 66) (kd := 0) (to := 2344 + 15 * a) ch66 (by omega) k0' (by omega) with ⟨qc, ec, v, Me, Mf, c3, c4, hv, td, ld, fe, ff, ev⟩ | ⟨M1', M2', c3, c4, f, fe, ff⟩
    rotate_left
    · right; left
      have c3 := c3 0 rfl
      refine ⟨up M1' 80 a (-1), M2', ?_, ?_, f.u (by omega), ((wA.trans fc.w).trans fe.w).u (by omega), (wB.trans fd.w).trans (ff.w (by omega))⟩
      · repeat' first
          | (with_reducible apply bR_go; (simp (disch := omega) only [rM L, rK L, rN L, rNf, rNv, rNp, rNd, rRow, rLeg, rMark, nat_cast, Int.reduceToNat, rc, wd]; with_reducible exact rfl))
          | with_reducible apply bI_go
          | with_reducible apply bV_go
          | with_reducible apply bL_go
          | (with_reducible apply it_1; (first | omega | (simp (disch := omega) only [not_false_eq_true, not_true_eq_false, w32_id, tLt, fLt, tLe, fEq, itE, and_true, true_and, and_self, and_false, false_and, ↓reduceIte, nat_add, nat_mul3, nat_mul4, nat_mul6, nat_mul15, nat_mul60, nat_cast, nc1, Int.reduceToNat, upE, upN, fill_ne, fill_in, i0, rc, wd] <;> omega)))
          | (with_reducible apply it_2; (first | omega | (simp (disch := omega) only [not_false_eq_true, not_true_eq_false, w32_id, tLt, fLt, tLe, fEq, itE, and_true, true_and, and_self, and_false, false_and, ↓reduceIte, nat_add, nat_mul3, nat_mul4, nat_mul6, nat_mul15, nat_mul60, nat_cast, nc1, Int.reduceToNat, upE, upN, fill_ne, fill_in, i0, rc, wd] <;> omega)))
          | (with_reducible refine cl_go ?_; simp (disch := omega) only [not_false_eq_true, not_true_eq_false, w32_id, tLt, fLt, tLe, fEq, itE, and_true, true_and, and_self, and_false, false_and, ↓reduceIte, nat_add, nat_mul3, nat_mul4, nat_mul6, nat_mul15, nat_mul60, nat_cast, nc1, Int.reduceToNat, upE, upN, fill_ne, fill_in, i0, rc, wd])
          | rw [c_WorldText_takesPort (by omega), b_WorldText_takesPort_0]
          | with_reducible exact c1
          | with_reducible exact a1
          | with_reducible exact c3
          | (with_reducible refine rn_go ?_; simp (disch := omega) only [not_false_eq_true, not_true_eq_false, w32_id, tLt, fLt, tLe, fEq, itE, and_true, true_and, and_self, and_false, false_and, ↓reduceIte, nat_add, nat_mul3, nat_mul4, nat_mul6, nat_mul15, nat_mul60, nat_cast, nc1, Int.reduceToNat, upE, upN, fill_ne, fill_in, i0, rc, wd])
          | (with_reducible refine lf_go ?_; simp (disch := omega) only [not_false_eq_true, not_true_eq_false, w32_id, tLt, fLt, tLe, fEq, itE, and_true, true_and, and_self, and_false, false_and, ↓reduceIte, nat_add, nat_mul3, nat_mul4, nat_mul6, nat_mul15, nat_mul60, nat_cast, nc1, Int.reduceToNat, upE, upN, fill_ne, fill_in, i0, rc, wd])
          | with_reducible exact rfl
      · repeat' first
          | (with_reducible apply bR_go; (simp (disch := omega) only [rM L, rK L, rN L, rNf, rNv, rNp, rNd, rRow, rLeg, rMark, nat_cast, Int.reduceToNat, m90, d88, Int.reduceMod]; with_reducible exact rfl))
          | with_reducible apply bI_go
          | with_reducible apply bV_go
          | with_reducible apply bL_go
          | (with_reducible apply it_1; (first | omega | (simp (disch := omega) only [not_false_eq_true, not_true_eq_false, w32_id, tLt, fLt, tLe, fEq, itE, and_true, true_and, and_self, and_false, false_and, ↓reduceIte, nat_add, nat_mul3, nat_mul4, nat_mul6, nat_mul15, nat_mul60, nat_cast, nc1, Int.reduceToNat, upE, upN, fill_ne, fill_in, i0, m90, d88, Int.reduceMod] <;> omega)))
          | (with_reducible apply it_2; (first | omega | (simp (disch := omega) only [not_false_eq_true, not_true_eq_false, w32_id, tLt, fLt, tLe, fEq, itE, and_true, true_and, and_self, and_false, false_and, ↓reduceIte, nat_add, nat_mul3, nat_mul4, nat_mul6, nat_mul15, nat_mul60, nat_cast, nc1, Int.reduceToNat, upE, upN, fill_ne, fill_in, i0, m90, d88, Int.reduceMod] <;> omega)))
          | (with_reducible refine cl_go ?_; simp (disch := omega) only [not_false_eq_true, not_true_eq_false, w32_id, tLt, fLt, tLe, fEq, itE, and_true, true_and, and_self, and_false, false_and, ↓reduceIte, nat_add, nat_mul3, nat_mul4, nat_mul6, nat_mul15, nat_mul60, nat_cast, nc1, Int.reduceToNat, upE, upN, fill_ne, fill_in, i0, m90, d88, Int.reduceMod])
          | rw [c_Mo_aPort (by omega), b_Mo_aPort_0]
          | rw [c_Mo_nationTo (by omega), b_Mo_nationTo_0]
          | with_reducible exact c2
          | with_reducible exact it
          | with_reducible exact c4 _ _ _ (by omega) (by omega) (by omega)
          | (with_reducible refine rn_go ?_; simp (disch := omega) only [not_false_eq_true, not_true_eq_false, w32_id, tLt, fLt, tLe, fEq, itE, and_true, true_and, and_self, and_false, false_and, ↓reduceIte, nat_add, nat_mul3, nat_mul4, nat_mul6, nat_mul15, nat_mul60, nat_cast, nc1, Int.reduceToNat, upE, upN, fill_ne, fill_in, i0, m90, d88, Int.reduceMod])
          | (with_reducible refine lf_go ?_; simp (disch := omega) only [not_false_eq_true, not_true_eq_false, w32_id, tLt, fLt, tLe, fEq, itE, and_true, true_and, and_self, and_false, false_and, ↓reduceIte, nat_add, nat_mul3, nat_mul4, nat_mul6, nat_mul15, nat_mul60, nat_cast, nc1, Int.reduceToNat, upE, upN, fill_ne, fill_in, i0, m90, d88, Int.reduceMod])
          | with_reducible exact rfl
    have c3 := c3 0 rfl
    have f90 : Mf 272 2290 = (a : Int) := by rw [ff _ _ (by omega) (by omega), fd _ _ (by omega), upN (by omega), fB _ _ (by omega) (by omega)]; exact m90
    have mo : callD d2 m_Mo_aPort [vR 12 0 271] (SH L) M2 = some (some (vI 1), SH L, up Mf 272 2290 ((a : Int) + 1)) := by
      repeat' first
        | (with_reducible apply bR_go; (simp (disch := omega) only [rM L, rK L, rN L, rNf, rNv, rNp, rNd, rRow, rLeg, rMark, nat_cast, Int.reduceToNat, m90, d88, f90, Int.reduceMod]; with_reducible exact rfl))
        | with_reducible apply bI_go
        | with_reducible apply bV_go
        | with_reducible apply bL_go
        | (with_reducible apply it_1; (first | omega | (simp (disch := omega) only [not_false_eq_true, not_true_eq_false, w32_id, tLt, fLt, tLe, fEq, itE, and_true, true_and, and_self, and_false, false_and, ↓reduceIte, nat_add, nat_mul3, nat_mul4, nat_mul6, nat_mul15, nat_mul60, nat_cast, nc1, Int.reduceToNat, upE, upN, fill_ne, fill_in, i0, m90, d88, f90, Int.reduceMod] <;> omega)))
        | (with_reducible apply it_2; (first | omega | (simp (disch := omega) only [not_false_eq_true, not_true_eq_false, w32_id, tLt, fLt, tLe, fEq, itE, and_true, true_and, and_self, and_false, false_and, ↓reduceIte, nat_add, nat_mul3, nat_mul4, nat_mul6, nat_mul15, nat_mul60, nat_cast, nc1, Int.reduceToNat, upE, upN, fill_ne, fill_in, i0, m90, d88, f90, Int.reduceMod] <;> omega)))
        | (with_reducible refine cl_go ?_; simp (disch := omega) only [not_false_eq_true, not_true_eq_false, w32_id, tLt, fLt, tLe, fEq, itE, and_true, true_and, and_self, and_false, false_and, ↓reduceIte, nat_add, nat_mul3, nat_mul4, nat_mul6, nat_mul15, nat_mul60, nat_cast, nc1, Int.reduceToNat, upE, upN, fill_ne, fill_in, i0, m90, d88, f90, Int.reduceMod])
        | rw [c_Mo_aPort (by omega), b_Mo_aPort_0]
        | rw [c_Mo_nationTo (by omega), b_Mo_nationTo_0]
        | with_reducible exact c2
        | with_reducible exact it
        | with_reducible exact c4 _ _ _ (by omega) (by omega) (by omega)
        | (with_reducible refine rn_go ?_; simp (disch := omega) only [not_false_eq_true, not_true_eq_false, w32_id, tLt, fLt, tLe, fEq, itE, and_true, true_and, and_self, and_false, false_and, ↓reduceIte, nat_add, nat_mul3, nat_mul4, nat_mul6, nat_mul15, nat_mul60, nat_cast, nc1, Int.reduceToNat, upE, upN, fill_ne, fill_in, i0, m90, d88, f90, Int.reduceMod])
        | (with_reducible refine lf_go ?_; simp (disch := omega) only [not_false_eq_true, not_true_eq_false, w32_id, tLt, fLt, tLe, fEq, itE, and_true, true_and, and_self, and_false, false_and, ↓reduceIte, nat_add, nat_mul3, nat_mul4, nat_mul6, nat_mul15, nat_mul60, nat_cast, nc1, Int.reduceToNat, upE, upN, fill_ne, fill_in, i0, m90, d88, f90, Int.reduceMod])
        | with_reducible exact rfl
    have ti : TK bt n qc ec (up Me 80 a (v : Int)) (up Mf 272 2290 ((a : Int) + 1)) := td.fr (fun b j hb => upN (by omega)) fun b j hb => upN (by omega)
    have w1 := ((wA.trans fc.w).trans fe.w).u (c := 80) (j := a) (v := (v : Int)) (by omega)
    have w2 := ((wB.trans fd.w).trans (ff.w (by omega))).u (j := 2290) (v := (a : Int) + 1) (by omega)
    rcases k_stop (L := L) (d1 := d1 - 1) (d2 := d2) (by omega) (by omega) ti with ⟨qe, ee, Mp, Mq, s1, s2, tk, le', fp, fq⟩ | ⟨Mp, Mq, s1, s2, f, fp, fq⟩
    rotate_left
    · right; right
      refine ⟨Mp, _, Mq, ?_, mo, s2, f, w1.trans fp.w, w2.trans fq.w⟩
      repeat' first
        | (with_reducible apply bR_go; (simp (disch := omega) only [rM L, rK L, rN L, rNf, rNv, rNp, rNd, rRow, rLeg, rMark, nat_cast, Int.reduceToNat, rc, wd, Int.reduceMod]; with_reducible exact rfl))
        | with_reducible apply bI_go
        | with_reducible apply bV_go
        | with_reducible apply bL_go
        | (with_reducible apply it_1; (first | omega | (simp (disch := omega) only [not_false_eq_true, not_true_eq_false, w32_id, tLt, fLt, tLe, fEq, itE, and_true, true_and, and_self, and_false, false_and, ↓reduceIte, nat_add, nat_mul3, nat_mul4, nat_mul6, nat_mul15, nat_mul60, nat_cast, nc1, Int.reduceToNat, upE, upN, fill_ne, fill_in, i0, rc, wd, Int.reduceMod] <;> omega)))
        | (with_reducible apply it_2; (first | omega | (simp (disch := omega) only [not_false_eq_true, not_true_eq_false, w32_id, tLt, fLt, tLe, fEq, itE, and_true, true_and, and_self, and_false, false_and, ↓reduceIte, nat_add, nat_mul3, nat_mul4, nat_mul6, nat_mul15, nat_mul60, nat_cast, nc1, Int.reduceToNat, upE, upN, fill_ne, fill_in, i0, rc, wd, Int.reduceMod] <;> omega)))
        | (with_reducible refine cl_go ?_; simp (disch := omega) only [not_false_eq_true, not_true_eq_false, w32_id, tLt, fLt, tLe, fEq, itE, and_true, true_and, and_self, and_false, false_and, ↓reduceIte, nat_add, nat_mul3, nat_mul4, nat_mul6, nat_mul15, nat_mul60, nat_cast, nc1, Int.reduceToNat, upE, upN, fill_ne, fill_in, i0, rc, wd, Int.reduceMod])
        | rw [c_WorldText_takesPort (by omega), b_WorldText_takesPort_0]
        | with_reducible exact c1
        | with_reducible exact a1
        | with_reducible exact c3
        | with_reducible exact s1
        | (with_reducible refine rn_go ?_; simp (disch := omega) only [not_false_eq_true, not_true_eq_false, w32_id, tLt, fLt, tLe, fEq, itE, and_true, true_and, and_self, and_false, false_and, ↓reduceIte, nat_add, nat_mul3, nat_mul4, nat_mul6, nat_mul15, nat_mul60, nat_cast, nc1, Int.reduceToNat, upE, upN, fill_ne, fill_in, i0, rc, wd, Int.reduceMod])
        | (with_reducible refine lf_go ?_; simp (disch := omega) only [not_false_eq_true, not_true_eq_false, w32_id, tLt, fLt, tLe, fEq, itE, and_true, true_and, and_self, and_false, false_and, ↓reduceIte, nat_add, nat_mul3, nat_mul4, nat_mul6, nat_mul15, nat_mul60, nat_cast, nc1, Int.reduceToNat, upE, upN, fill_ne, fill_in, i0, rc, wd, Int.reduceMod])
        | with_reducible exact rfl
    left
    refine ⟨qe, ee, Mp, _, Mq, ?_, mo, s2, tk, by have b1 := ta.2.2.2.2.1.bd; have b2 := tc.2.2.2.2.1.bd; have b3 := td.2.2.2.2.1.bd; omega, ?_, w1.trans fp.w, w2.trans fq.w⟩
    · repeat' first
        | (with_reducible apply bR_go; (simp (disch := omega) only [rM L, rK L, rN L, rNf, rNv, rNp, rNd, rRow, rLeg, rMark, nat_cast, Int.reduceToNat, rc, wd, Int.reduceMod]; with_reducible exact rfl))
        | with_reducible apply bI_go
        | with_reducible apply bV_go
        | with_reducible apply bL_go
        | (with_reducible apply it_1; (first | omega | (simp (disch := omega) only [not_false_eq_true, not_true_eq_false, w32_id, tLt, fLt, tLe, fEq, itE, and_true, true_and, and_self, and_false, false_and, ↓reduceIte, nat_add, nat_mul3, nat_mul4, nat_mul6, nat_mul15, nat_mul60, nat_cast, nc1, Int.reduceToNat, upE, upN, fill_ne, fill_in, i0, rc, wd, Int.reduceMod] <;> omega)))
        | (with_reducible apply it_2; (first | omega | (simp (disch := omega) only [not_false_eq_true, not_true_eq_false, w32_id, tLt, fLt, tLe, fEq, itE, and_true, true_and, and_self, and_false, false_and, ↓reduceIte, nat_add, nat_mul3, nat_mul4, nat_mul6, nat_mul15, nat_mul60, nat_cast, nc1, Int.reduceToNat, upE, upN, fill_ne, fill_in, i0, rc, wd, Int.reduceMod] <;> omega)))
        | (with_reducible refine cl_go ?_; simp (disch := omega) only [not_false_eq_true, not_true_eq_false, w32_id, tLt, fLt, tLe, fEq, itE, and_true, true_and, and_self, and_false, false_and, ↓reduceIte, nat_add, nat_mul3, nat_mul4, nat_mul6, nat_mul15, nat_mul60, nat_cast, nc1, Int.reduceToNat, upE, upN, fill_ne, fill_in, i0, rc, wd, Int.reduceMod])
        | rw [c_WorldText_takesPort (by omega), b_WorldText_takesPort_0]
        | with_reducible exact c1
        | with_reducible exact a1
        | with_reducible exact c3
        | with_reducible exact s1
        | (with_reducible refine rn_go ?_; simp (disch := omega) only [not_false_eq_true, not_true_eq_false, w32_id, tLt, fLt, tLe, fEq, itE, and_true, true_and, and_self, and_false, false_and, ↓reduceIte, nat_add, nat_mul3, nat_mul4, nat_mul6, nat_mul15, nat_mul60, nat_cast, nc1, Int.reduceToNat, upE, upN, fill_ne, fill_in, i0, rc, wd, Int.reduceMod])
        | (with_reducible refine lf_go ?_; simp (disch := omega) only [not_false_eq_true, not_true_eq_false, w32_id, tLt, fLt, tLe, fEq, itE, and_true, true_and, and_self, and_false, false_and, ↓reduceIte, nat_add, nat_mul3, nat_mul4, nat_mul6, nat_mul15, nat_mul60, nat_cast, nc1, Int.reduceToNat, upE, upN, fill_ne, fill_in, i0, rc, wd, Int.reduceMod])
        | with_reducible exact rfl
    have oC : ∀ b j, b ≠ 12 → ¬(b = 80 ∧ j = a) → Mp b j = Ma b j := fun b j y1 y2 => by
      rw [fp _ _ (by omega), upN (by omega), fe _ _ (by omega), fc _ _ (by omega), upN (by omega)]
    have oA : ∀ b j, ¬(b = 271 ∧ (12 ≤ j ∧ j ≤ 15 ∨ j = 17 ∨ j = 18)) → ¬(b = 272 ∧ (j = 2290 ∨ j = 2344 + 15 * a)) → Mq b j = Mb b j := fun b j y1 y2 => by
      rw [fq _ _ y1, upN (by omega), ff _ _ y1 (by omega), fd _ _ y1, upN (by omega)]
    refine dd_port hD (a := a) (v := (v : Int)) ha lt (by omega) (fun b j y1 y2 y3 y4 y5 => ?_) ?_ ?_ (fun k y1 y2 y3 => ?_) ?_ ?_ (fun k y1 y2 => ?_) ?_ ?_ ?_
    · rw [oC _ _ (by omega) y5, fA _ _ (by omega) (by omega) (by omega)]
    · rw [fp _ _ (by omega), upE rfl rfl]
    · rw [oC _ _ (by omega) (by omega)]; exact k67
    · unfold dA
      rw [oA _ _ (by omega) (by omega), fB _ _ (by omega) (by omega)]
    · unfold dA
      rw [fq _ _ (by omega), upE rfl rfl]
    · unfold dA
      rw [fq _ _ (by omega), upN (by omega), show 2288 + (56 + 15 * a) = 2344 + 15 * a by omega]
      exact ev
    · unfold dN
      rw [oA _ _ (by omega) (by omega), fB _ _ (by omega) (by omega)]
    · unfold dN
      rw [oC _ _ (by omega) (by omega), oA _ _ (by omega) (by omega), show 96 + (14 + a) = 96 + 14 + a by omega]
      exact knm
    · rw [oC _ _ (by omega) (by omega), fA _ _ (by omega) (by omega) (by omega)]
    · rw [oA _ _ (by omega) (by omega), fB _ _ (by omega) (by omega)]
  · have z2 : ¬ kM (cwx bt n qa ea) = 12 := fun y => z (ki.1 y)
    have wd' : ¬ up Ma 80 a (-1) 12 12 = 6 := fun y => z (by rw [← wd]; exact y)
    have wd2 : ¬ Ma 12 12 = 6 := fun y => wd' (by rw [upN (by omega)]; exact y)
    have it : callD (d2 - 1) m_Mo_isThere [vR 12 0 271, vI 12] (SH L) (up Mb 272 (2344 + 15 * a) (-1)) = some (some (vI 0), SH L, up Mb 272 (2344 + 15 * a) (-1)) := by
      repeat' first
        | (with_reducible apply bR_go; (simp (disch := omega) only [rM L, rK L, rN L, rNf, rNv, rNp, rNd, rRow, rLeg, rMark, nat_cast, Int.reduceToNat]; with_reducible exact rfl))
        | with_reducible apply bI_go
        | with_reducible apply bV_go
        | with_reducible apply bL_go
        | (with_reducible apply it_1; (first | omega | (simp (disch := omega) only [not_false_eq_true, not_true_eq_false, w32_id, tLt, fLt, tLe, fEq, itE, and_true, true_and, and_self, and_false, false_and, ↓reduceIte, nat_add, nat_mul3, nat_mul4, nat_mul6, nat_mul15, nat_mul60, nat_cast, nc1, Int.reduceToNat, upE, upN, fill_ne, fill_in, i0] <;> omega)))
        | (with_reducible apply it_2; (first | omega | (simp (disch := omega) only [not_false_eq_true, not_true_eq_false, w32_id, tLt, fLt, tLe, fEq, itE, and_true, true_and, and_self, and_false, false_and, ↓reduceIte, nat_add, nat_mul3, nat_mul4, nat_mul6, nat_mul15, nat_mul60, nat_cast, nc1, Int.reduceToNat, upE, upN, fill_ne, fill_in, i0] <;> omega)))
        | (with_reducible refine cl_go ?_; simp (disch := omega) only [not_false_eq_true, not_true_eq_false, w32_id, tLt, fLt, tLe, fEq, itE, and_true, true_and, and_self, and_false, false_and, ↓reduceIte, nat_add, nat_mul3, nat_mul4, nat_mul6, nat_mul15, nat_mul60, nat_cast, nc1, Int.reduceToNat, upE, upN, fill_ne, fill_in, i0])
        | rw [c_Mo_isThere (by omega), b_Mo_isThere_0]
        | with_reducible exact iw
        | (with_reducible refine rn_go ?_; simp (disch := omega) only [not_false_eq_true, not_true_eq_false, w32_id, tLt, fLt, tLe, fEq, itE, and_true, true_and, and_self, and_false, false_and, ↓reduceIte, nat_add, nat_mul3, nat_mul4, nat_mul6, nat_mul15, nat_mul60, nat_cast, nc1, Int.reduceToNat, upE, upN, fill_ne, fill_in, i0])
        | (with_reducible refine lf_go ?_; simp (disch := omega) only [not_false_eq_true, not_true_eq_false, w32_id, tLt, fLt, tLe, fEq, itE, and_true, true_and, and_self, and_false, false_and, ↓reduceIte, nat_add, nat_mul3, nat_mul4, nat_mul6, nat_mul15, nat_mul60, nat_cast, nc1, Int.reduceToNat, upE, upN, fill_ne, fill_in, i0])
        | with_reducible exact rfl
    have b90 : Mb 272 2290 = (a : Int) := by rw [fB _ _ (by omega) (by omega)]; exact m90
    have mo : callD d2 m_Mo_aPort [vR 12 0 271] (SH L) M2 = some (some (vI 1), SH L, up (up Mb 272 (2344 + 15 * a) (-1)) 272 2290 ((a : Int) + 1)) := by
      repeat' first
        | (with_reducible apply bR_go; (simp (disch := omega) only [rM L, rK L, rN L, rNf, rNv, rNp, rNd, rRow, rLeg, rMark, nat_cast, Int.reduceToNat, m90, b90]; with_reducible exact rfl))
        | with_reducible apply bI_go
        | with_reducible apply bV_go
        | with_reducible apply bL_go
        | (with_reducible apply it_1; (first | omega | (simp (disch := omega) only [not_false_eq_true, not_true_eq_false, w32_id, tLt, fLt, tLe, fEq, itE, and_true, true_and, and_self, and_false, false_and, ↓reduceIte, nat_add, nat_mul3, nat_mul4, nat_mul6, nat_mul15, nat_mul60, nat_cast, nc1, Int.reduceToNat, upE, upN, fill_ne, fill_in, i0, m90, b90] <;> omega)))
        | (with_reducible apply it_2; (first | omega | (simp (disch := omega) only [not_false_eq_true, not_true_eq_false, w32_id, tLt, fLt, tLe, fEq, itE, and_true, true_and, and_self, and_false, false_and, ↓reduceIte, nat_add, nat_mul3, nat_mul4, nat_mul6, nat_mul15, nat_mul60, nat_cast, nc1, Int.reduceToNat, upE, upN, fill_ne, fill_in, i0, m90, b90] <;> omega)))
        | (with_reducible refine cl_go ?_; simp (disch := omega) only [not_false_eq_true, not_true_eq_false, w32_id, tLt, fLt, tLe, fEq, itE, and_true, true_and, and_self, and_false, false_and, ↓reduceIte, nat_add, nat_mul3, nat_mul4, nat_mul6, nat_mul15, nat_mul60, nat_cast, nc1, Int.reduceToNat, upE, upN, fill_ne, fill_in, i0, m90, b90])
        | rw [c_Mo_aPort (by omega), b_Mo_aPort_0]
        | with_reducible exact c2
        | with_reducible exact it
        | (with_reducible refine rn_go ?_; simp (disch := omega) only [not_false_eq_true, not_true_eq_false, w32_id, tLt, fLt, tLe, fEq, itE, and_true, true_and, and_self, and_false, false_and, ↓reduceIte, nat_add, nat_mul3, nat_mul4, nat_mul6, nat_mul15, nat_mul60, nat_cast, nc1, Int.reduceToNat, upE, upN, fill_ne, fill_in, i0, m90, b90])
        | (with_reducible refine lf_go ?_; simp (disch := omega) only [not_false_eq_true, not_true_eq_false, w32_id, tLt, fLt, tLe, fEq, itE, and_true, true_and, and_self, and_false, false_and, ↓reduceIte, nat_add, nat_mul3, nat_mul4, nat_mul6, nat_mul15, nat_mul60, nat_cast, nc1, Int.reduceToNat, upE, upN, fill_ne, fill_in, i0, m90, b90])
        | with_reducible exact rfl
    have ti : TK bt n qa ea (up Ma 80 a (-1)) (up (up Mb 272 (2344 + 15 * a) (-1)) 272 2290 ((a : Int) + 1)) := tb.fr (fun _ _ _ => rfl) fun b j hb => upN (by omega)
    have w2 := wB.u (j := 2290) (v := (a : Int) + 1) (by omega)
    rcases k_stop (L := L) (d1 := d1 - 1) (d2 := d2) (by omega) (by omega) ti with ⟨qe, ee, Mp, Mq, s1, s2, tk, le', fp, fq⟩ | ⟨Mp, Mq, s1, s2, f, fp, fq⟩
    rotate_left
    · right; right
      refine ⟨Mp, _, Mq, ?_, mo, s2, f, wA.trans fp.w, w2.trans fq.w⟩
      repeat' first
        | (with_reducible apply bR_go; (simp (disch := omega) only [rM L, rK L, rN L, rNf, rNv, rNp, rNd, rRow, rLeg, rMark, nat_cast, Int.reduceToNat, rc, Int.reduceMod]; with_reducible exact rfl))
        | with_reducible apply bI_go
        | with_reducible apply bV_go
        | with_reducible apply bL_go
        | (with_reducible apply it_1; (first | omega | (simp (disch := omega) only [not_false_eq_true, not_true_eq_false, w32_id, tLt, fLt, tLe, fEq, itE, and_true, true_and, and_self, and_false, false_and, ↓reduceIte, nat_add, nat_mul3, nat_mul4, nat_mul6, nat_mul15, nat_mul60, nat_cast, nc1, Int.reduceToNat, upE, upN, fill_ne, fill_in, i0, rc, Int.reduceMod] <;> omega)))
        | (with_reducible apply it_2; (first | omega | (simp (disch := omega) only [not_false_eq_true, not_true_eq_false, w32_id, tLt, fLt, tLe, fEq, itE, and_true, true_and, and_self, and_false, false_and, ↓reduceIte, nat_add, nat_mul3, nat_mul4, nat_mul6, nat_mul15, nat_mul60, nat_cast, nc1, Int.reduceToNat, upE, upN, fill_ne, fill_in, i0, rc, Int.reduceMod] <;> omega)))
        | (with_reducible refine cl_go ?_; simp (disch := omega) only [not_false_eq_true, not_true_eq_false, w32_id, tLt, fLt, tLe, fEq, itE, and_true, true_and, and_self, and_false, false_and, ↓reduceIte, nat_add, nat_mul3, nat_mul4, nat_mul6, nat_mul15, nat_mul60, nat_cast, nc1, Int.reduceToNat, upE, upN, fill_ne, fill_in, i0, rc, Int.reduceMod])
        | rw [c_WorldText_takesPort (by omega), b_WorldText_takesPort_0]
        | with_reducible exact c1
        | with_reducible exact s1
        | (with_reducible refine rn_go ?_; simp (disch := omega) only [not_false_eq_true, not_true_eq_false, w32_id, tLt, fLt, tLe, fEq, itE, and_true, true_and, and_self, and_false, false_and, ↓reduceIte, nat_add, nat_mul3, nat_mul4, nat_mul6, nat_mul15, nat_mul60, nat_cast, nc1, Int.reduceToNat, upE, upN, fill_ne, fill_in, i0, rc, Int.reduceMod])
        | (with_reducible refine lf_go ?_; simp (disch := omega) only [not_false_eq_true, not_true_eq_false, w32_id, tLt, fLt, tLe, fEq, itE, and_true, true_and, and_self, and_false, false_and, ↓reduceIte, nat_add, nat_mul3, nat_mul4, nat_mul6, nat_mul15, nat_mul60, nat_cast, nc1, Int.reduceToNat, upE, upN, fill_ne, fill_in, i0, rc, Int.reduceMod])
        | with_reducible exact rfl
    left
    refine ⟨qe, ee, Mp, _, Mq, ?_, mo, s2, tk, by have b1 := ta.2.2.2.2.1.bd; omega, ?_, wA.trans fp.w, w2.trans fq.w⟩
    · repeat' first
        | (with_reducible apply bR_go; (simp (disch := omega) only [rM L, rK L, rN L, rNf, rNv, rNp, rNd, rRow, rLeg, rMark, nat_cast, Int.reduceToNat, rc, Int.reduceMod]; with_reducible exact rfl))
        | with_reducible apply bI_go
        | with_reducible apply bV_go
        | with_reducible apply bL_go
        | (with_reducible apply it_1; (first | omega | (simp (disch := omega) only [not_false_eq_true, not_true_eq_false, w32_id, tLt, fLt, tLe, fEq, itE, and_true, true_and, and_self, and_false, false_and, ↓reduceIte, nat_add, nat_mul3, nat_mul4, nat_mul6, nat_mul15, nat_mul60, nat_cast, nc1, Int.reduceToNat, upE, upN, fill_ne, fill_in, i0, rc, Int.reduceMod] <;> omega)))
        | (with_reducible apply it_2; (first | omega | (simp (disch := omega) only [not_false_eq_true, not_true_eq_false, w32_id, tLt, fLt, tLe, fEq, itE, and_true, true_and, and_self, and_false, false_and, ↓reduceIte, nat_add, nat_mul3, nat_mul4, nat_mul6, nat_mul15, nat_mul60, nat_cast, nc1, Int.reduceToNat, upE, upN, fill_ne, fill_in, i0, rc, Int.reduceMod] <;> omega)))
        | (with_reducible refine cl_go ?_; simp (disch := omega) only [not_false_eq_true, not_true_eq_false, w32_id, tLt, fLt, tLe, fEq, itE, and_true, true_and, and_self, and_false, false_and, ↓reduceIte, nat_add, nat_mul3, nat_mul4, nat_mul6, nat_mul15, nat_mul60, nat_cast, nc1, Int.reduceToNat, upE, upN, fill_ne, fill_in, i0, rc, Int.reduceMod])
        | rw [c_WorldText_takesPort (by omega), b_WorldText_takesPort_0]
        | with_reducible exact c1
        | with_reducible exact s1
        | (with_reducible refine rn_go ?_; simp (disch := omega) only [not_false_eq_true, not_true_eq_false, w32_id, tLt, fLt, tLe, fEq, itE, and_true, true_and, and_self, and_false, false_and, ↓reduceIte, nat_add, nat_mul3, nat_mul4, nat_mul6, nat_mul15, nat_mul60, nat_cast, nc1, Int.reduceToNat, upE, upN, fill_ne, fill_in, i0, rc, Int.reduceMod])
        | (with_reducible refine lf_go ?_; simp (disch := omega) only [not_false_eq_true, not_true_eq_false, w32_id, tLt, fLt, tLe, fEq, itE, and_true, true_and, and_self, and_false, false_and, ↓reduceIte, nat_add, nat_mul3, nat_mul4, nat_mul6, nat_mul15, nat_mul60, nat_cast, nc1, Int.reduceToNat, upE, upN, fill_ne, fill_in, i0, rc, Int.reduceMod])
        | with_reducible exact rfl
    refine dd_port hD (a := a) (v := -1) ha lt (by omega) (fun b j y1 y2 y3 y4 y5 => ?_) ?_ ?_ (fun k y1 y2 y3 => ?_) ?_ ?_ (fun k y1 y2 => ?_) ?_ ?_ ?_
    · rw [fp _ _ (by omega), upN (by omega), fA _ _ (by omega) (by omega) (by omega)]
    · rw [fp _ _ (by omega), upE rfl rfl]
    · rw [fp _ _ (by omega), upN (by omega)]; exact k67
    · unfold dA
      rw [fq _ _ (by omega), upN (by omega), upN (by omega), fB _ _ (by omega) (by omega)]
    · unfold dA
      rw [fq _ _ (by omega), upE rfl rfl]
    · unfold dA
      rw [fq _ _ (by omega), upN (by omega), show 2288 + (56 + 15 * a) = 2344 + 15 * a by omega, upE rfl rfl]
    · unfold dN
      rw [fq _ _ (by omega), upN (by omega), upN (by omega), fB _ _ (by omega) (by omega)]
    · unfold dN
      rw [fp _ _ (by omega), upN (by omega), fq _ _ (by omega), upN (by omega), upN (by omega), show 96 + (14 + a) = 96 + 14 + a by omega]
      exact knm
    · rw [fp _ _ (by omega), upN (by omega), fA _ _ (by omega) (by omega) (by omega)]
    · rw [fq _ _ (by omega), upN (by omega), upN (by omega), fB _ _ (by omega) (by omega)]
end

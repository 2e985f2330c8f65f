/-! THE PARTS OF A WORLD: one more good, one more port -/
theorem DD.more {M1 M2 M1' M2' : Mm} (h : DD M1 M2) {kd off most a : Nat} (hk : kdO kd off most) (k1 : 1 ≤ kd) (ha : dA M2 kd = (a : Int)) (lt : a < most) (D : Nat → Prop) (hD : ∀ k, D k → 32 ≤ k ∧ VV k) (hI : Inv (dA M2')) (hZ : ZR (dA M2')) (hc : dA M2' kd = (a : Int) + 1) (hA : ∀ k, k < 206 → k ≠ kd → ¬D k → dA M2' k = dA M2 k) (hv : ∀ k, vd (dA M2') k → ¬D k → vd (dA M2) k) (m1 : ∀ k, D k → M1' (cl k + 47) (pl k) = dA M2' k) (m67 : M1' 67 kd = (a : Int) + 1) (me : ∀ b j, 65 ≤ b → b ≤ 111 → ¬(b = 67 ∧ j = kd) → ¬(b = 69 + kd ∧ j = a) → (∀ k, D k → ¬(b = cl k + 47 ∧ j = pl k)) → M1' b j = M1 b j) (hN : ∀ j, j < 24 → j ≠ off + a → dN M2' j = dN M2 j) (nw : nmR (M1' (69 + kd) a) (dN M2' (off + a))) (r0 : M1' 15 0 = M1 15 0) (r20 : M2' 271 20 = M2 271 20) : DD M1' M2' := by
  obtain ⟨dx, hI0, zr, fb, fz, pz, nm, rt, rt'⟩ := h
  have hC := hI0.1
  unfold Cn at hC
  have hV : ∀ k, D k → VV k := fun k hk => (hD k hk).2
  have lo : ∀ k, k < 32 → k ≠ kd → dA M2' k = dA M2 k := fun k hk hn => hA k (by omega) hn fun z => by have := hD k z; omega
  have kb : kd < 4 := by unfold kdO at hk; omega
  have a0 := lo 0 (by omega) (by omega)
  have off' : ∀ b j, (67 ≤ b ∧ b ≤ 72 ∨ b = 98) → ¬(b = 67 ∧ j = kd) → ¬(b = 69 + kd ∧ j = a) → M1' b j = M1 b j := fun b j hb y1 y2 => me b j (by omega) (by omega) y1 y2 fun k hk z => by
    have c := cl_20 (hV k hk)
    have c' := cl_56 (hV k hk)
    omega
  have nms : ∀ (K O : Nat), kdO K O (if K = 0 then 6 else if K = 1 then 8 else if K = 2 then 6 else 4) → ∀ i : Nat, (i : Int) < dA M2' K → (∀ i : Nat, (i : Int) < dA M2 K → nmR (M1 (69 + K) i) (dN M2 (O + i))) → nmR (M1' (69 + K) i) (dN M2' (O + i)) := fun K O hK i hi old => by
    by_cases z : K = kd
    · have zo : O = off := by unfold kdO at hK hk; omega
      rw [z, hc] at hi
      by_cases y : i = a
      · rw [z, zo, y]; exact nw
      · rw [off' _ _ (by unfold kdO at hK; omega) (by omega) (by omega), hN _ (by unfold kdO at hK hk; omega) (by omega)]
        exact old i (by rw [z, ha]; omega)
    · have hb := lo K (by unfold kdO at hK; omega) z
      rw [hb] at hi
      rw [off' _ _ (by unfold kdO at hK; omega) (by omega) (by omega), hN _ ?_ ?_]
      · exact old i hi
      · unfold kdO at hK
        rcases hK with ⟨rfl, rfl, _⟩ | ⟨rfl, rfl, _⟩ | ⟨rfl, rfl, _⟩ | ⟨rfl, rfl, _⟩ <;> omega
      · unfold kdO at hK hk
        rcases hK with ⟨rfl, rfl, _⟩ | ⟨rfl, rfl, _⟩ | ⟨rfl, rfl, _⟩ | ⟨rfl, rfl, _⟩ <;> omega
  refine ⟨dx.upd D hV (fun k hk' => ?_) m1 (fun k hk' hn => ⟨hv k hk' hn, ?_⟩) (fun b j y1 y2 y3 y4 => me b j y1 y2 (by omega) (by omega) y4), hI, hZ, fun m hm => ?_, fun m y1 y2 => ?_, ⟨?_, ?_⟩, ⟨fun i hi => ?_, fun i hi => ?_, fun i hi => ?_, fun i hi => ?_⟩, by rw [r0, r20]; exact rt, by rw [r20]; exact rt'⟩
  · by_cases z : k = kd
    · rw [z, m67, hc]
    · rw [off' _ _ (by omega) (by omega) (by omega), lo k (by omega) z]
      exact dx.1 k hk'
  · have v := vd_VV hk'
    unfold VV at v
    exact hA k (by omega) (by omega) hn
  · rw [a0] at hm ⊢
    rw [lo _ (by omega) (by omega)]
    exact fb m hm
  · rw [a0] at y2
    rw [me _ _ (by omega) (by omega) (by omega) (by omega) fun k hk' z => ?_]
    · exact fz m y1 y2
    · have c := cl_n (n := m) (w := 3) (k := 11 + 4 * m) (by omega) (by omega) y1
      have e1 := ix_cl (hV k hk')
      have e2 := ix_cl (k := 11 + 4 * m) (by unfold VV; omega)
      rw [c.1, c.2, show 26 + 3 = cl k by omega, z.2, e1] at e2
      have := hD k hk'
      omega
  · rw [off' _ _ (by omega) (by omega) (by omega)]; exact pz.1
  · rw [lo 6 (by omega) (by omega)]; exact pz.2
  · have := nms 0 0 (Or.inl ⟨rfl, rfl, rfl⟩) i hi fun i hi => by rw [Nat.zero_add]; exact nm.1 i hi
    rw [Nat.zero_add] at this
    exact this
  · exact nms 1 6 (Or.inr (Or.inl ⟨rfl, rfl, rfl⟩)) i hi nm.2.1
  · exact nms 2 14 (Or.inr (Or.inr (Or.inl ⟨rfl, rfl, rfl⟩))) i hi nm.2.2.1
  · exact nms 3 20 (Or.inr (Or.inr (Or.inr ⟨rfl, rfl, rfl⟩))) i hi nm.2.2.2
section
variable {bt : Nat → Int} {n q e : Nat} {M M1 M2 : Mm} {L d d1 d2 d3 : Nat}
theorem dd_good {Mj Mk : Mm} (hD : DD M1 M2) {a v : Nat} {x y : Int} (ha : dA M2 1 = (a : Int)) (lt : a < 8) (hv : (v : Int) < dA M2 0) (hx : 1 ≤ x ∧ x ≤ 99) (hy : 0 ≤ y ∧ y ≤ 9) (gC : ∀ b j, 65 ≤ b → b ≤ 111 → ¬(b = 67 ∧ j = 1) → ¬(b = 70 ∧ j = a) → ¬(b = 77 ∧ j = a) → ¬(b = 78 ∧ j = a) → ¬(b = 79 ∧ j = a) → Mj b j = M1 b j) (g77 : Mj 77 a = (v : Int)) (g78 : Mj 78 a = x) (g79 : Mj 79 a = y) (g67 : Mj 67 1 = (a : Int) + 1) (gA : ∀ k, k < 206 → k ≠ 1 → k ≠ 32 + 3 * a → k ≠ 33 + 3 * a → k ≠ 34 + 3 * a → dA Mk k = dA M2 k) (e1 : dA Mk 1 = (a : Int) + 1) (e2 : dA Mk (32 + 3 * a) = (v : Int)) (e3 : dA Mk (33 + 3 * a) = x) (e4 : dA Mk (34 + 3 * a) = y) (gN : ∀ k, k < 24 → k ≠ 6 + a → dN Mk k = dN M2 k) (nw : nmR (Mj 70 a) (dN Mk (6 + a))) (r0 : Mj 15 0 = M1 15 0) (r20 : Mk 271 20 = M2 271 20) : DD Mj Mk := by
  have hI := hD.2.1
  have zr := hD.2.2.1
  have hC := hI.1
  unfold Cn at hC
  obtain ⟨i1, i2, i3, i4, i5, i6, i7, i8, i9⟩ := hI
  have q1 := cl_g (n := a) (w := 0) (k := 32 + 3 * a) rfl (by omega) lt
  have q2 := cl_g (n := a) (w := 1) (k := 33 + 3 * a) (by omega) (by omega) lt
  have q3 := cl_g (n := a) (w := 2) (k := 34 + 3 * a) (by omega) (by omega) lt
  have a0 := gA 0 (by omega) (by omega) (by omega) (by omega) (by omega)
  have a2 := gA 2 (by omega) (by omega) (by omega) (by omega) (by omega)
  have a3 := gA 3 (by omega) (by omega) (by omega) (by omega) (by omega)
  have a4 := gA 4 (by omega) (by omega) (by omega) (by omega) (by omega)
  refine hD.more (kd := 1) (off := 6) (most := 8) (a := a) (Or.inr (Or.inl ⟨rfl, rfl, rfl⟩)) (by omega) ha lt (fun k => k = 32 + 3 * a ∨ k = 33 + 3 * a ∨ k = 34 + 3 * a) (fun k hk => by unfold VV; omega) ⟨?_, fun g hg => ?_, i3.cg a0 (fun k _ _ => gA k (by omega) (by omega) (by omega) (by omega) (by omega)) i1, i4.cg (by omega) a2 (fun p _ => gA _ (by omega) (by omega) (by omega) (by omega) (by omega)) i1, i5.cg fun k _ _ _ => gA k (by omega) (by omega) (by omega) (by omega) (by omega), i6.cg fun k _ _ _ => gA k (by omega) (by omega) (by omega) (by omega) (by omega), i7.cg (by omega) (by omega) a3 (fun k _ _ => gA k (by omega) (by omega) (by omega) (by omega) (by omega)) i1, by rw [gA 5 (by omega) (by omega) (by omega) (by omega) (by omega)]; exact i8, i9.cg a0 (fun k _ => gA _ (by omega) (by omega) (by omega) (by omega) (by omega)) i1⟩ ⟨fun m y1 y2 => ?_, fun g y1 y2 => ?_, fun s y1 y2 => ?_⟩ e1 (fun k y1 y2 y3 => gA k y1 y2 (by omega) (by omega) (by omega)) (fun k hk hn => ?_) (fun k hk => ?_) g67 (fun b j y1 y2 y3 y4 y5 => ?_) gN nw r0 r20
  · unfold Cn
    rw [a0, e1, a2, a3, a4]
    omega
  · rw [e1] at hg
    by_cases z : g = a
    · rw [z, e2, e3, e4, a0]
      omega
    · rw [gA (32 + 3 * g) (by omega) (by omega) (by omega) (by omega) (by omega), gA (33 + 3 * g) (by omega) (by omega) (by omega) (by omega) (by omega), gA (34 + 3 * g) (by omega) (by omega) (by omega) (by omega) (by omega), a0]
      exact i2 g (by omega)
  · rw [a0] at y2
    rw [gA _ (by omega) (by omega) (by omega) (by omega) (by omega), gA _ (by omega) (by omega) (by omega) (by omega) (by omega), gA _ (by omega) (by omega) (by omega) (by omega) (by omega)]
    exact zr.1 m y1 y2
  · rw [e1] at y2
    rw [gA _ (by omega) (by omega) (by omega) (by omega) (by omega)]
    exact zr.2.1 g y1 (by omega)
  · rw [a3] at y2
    obtain ⟨u1, u2, u3, u4⟩ := zr.2.2 s y1 y2
    rw [gA _ (by omega) (by omega) (by omega) (by omega) (by omega), gA _ (by omega) (by omega) (by omega) (by omega) (by omega), gA _ (by omega) (by omega) (by omega) (by omega) (by omega)]
    exact ⟨u1, u2, u3, fun g hg => by rw [gA _ (by omega) (by omega) (by omega) (by omega) (by omega)]; exact u4 g hg⟩
  · unfold vd at hk ⊢
    rw [a0, e1, a2, a3] at hk
    rw [ha]
    omega
  · rcases hk with rfl | rfl | rfl
    · rw [q1.1, q1.2, e2]; exact g77
    · rw [q2.1, q2.2, e3]; exact g78
    · rw [q3.1, q3.2, e4]; exact g79
  · have z1 := y5 _ (Or.inl rfl)
    have z2 := y5 _ (Or.inr (Or.inl rfl))
    have z3 := y5 _ (Or.inr (Or.inr rfl))
    rw [q1.1, q1.2] at z1
    rw [q2.1, q2.2] at z2
    rw [q3.1, q3.2] at z3
    exact gC b j y1 y2 y3 y4 z1 z2 z3
theorem p_good (h1 : 12 ≤ d1) (h2 : 12 ≤ d2) (h : TK bt n q e M1 M2) (hD : DD M1 M2) (h7 : M1 12 7 ≠ 4) (hq : q < e) : PO bt n q L d1 d2 (callD d1 m_WorldText_takesGood [vR 6 0 12, vR 0 0 66] (SH L) M1) (callD d2 m_Mo_aGood [vR 12 0 271] (SH L) M2) M1 M2 := by
  have hI := hD.2.1
  have zr := hD.2.2.1
  have hC := hI.1
  unfold Cn at hC
  have ch66 : isCh 66 := Or.inr (Or.inl rfl)
  have rc := rC (L := L) ch66
  obtain ⟨a, ha⟩ := Int.eq_ofNat_of_zero_le hC.2.2.1
  obtain ⟨c, hc⟩ := Int.eq_ofNat_of_zero_le hC.1
  obtain ⟨k0, -, -, -⟩ := hD.nm.k
  rw [hc, nat_cast] at k0
  have m88 : M2 272 2288 = (c : Int) := hc
  have m89 : M2 272 2289 = (a : Int) := ha
  rcases k_new (L := L) (d1 := d1 - 1) (d2 := d2 - 1) (by omega) (by omega) h hD.nm (kd := 1) (off := 6) (most := 8) (Or.inr (Or.inl ⟨rfl, rfl, rfl⟩)) h7 with ⟨qa, ea, Ma, Mb, c1, c2, lt, ta, le, k67, knm, fA, fB⟩ | ⟨M1', M2', c1, c2, f, fa, fb'⟩
  rotate_left
  · right; left
    have c1 := c1 1 rfl
    have c2 := c2 1 8 6 rfl rfl rfl
    refine ⟨M1', M2', ?_, ?_, f, fa.w, fb'.w⟩
    · repeat' first
        | (with_reducible apply bR_go; (simp (disch := omega) only [rM L, rK L, rN L, rNf, rNv, rNp, rNd, rRow, rLeg, rMark, nat_cast, Int.reduceToNat]; with_reducible exact rfl))
        | with_reducible apply bI_go
        | with_reducible apply bV_go
        | with_reducible apply bL_go
        | (with_reducible apply it_1; (first | omega | (simp (disch := omega) only [not_false_eq_true, not_true_eq_false, w32_id, tLt, fLt, tLe, fEq, itE, and_true, true_and, and_self, and_false, false_and, ↓reduceIte, nat_add, nat_mul3, nat_mul4, nat_mul6, nat_mul15, nat_mul60, nat_cast, nc1, Int.reduceToNat, upE, upN, fill_ne, fill_in, i0] <;> omega)))
        | (with_reducible apply it_2; (first | omega | (simp (disch := omega) only [not_false_eq_true, not_true_eq_false, w32_id, tLt, fLt, tLe, fEq, itE, and_true, true_and, and_self, and_false, false_and, ↓reduceIte, nat_add, nat_mul3, nat_mul4, nat_mul6, nat_mul15, nat_mul60, nat_cast, nc1, Int.reduceToNat, upE, upN, fill_ne, fill_in, i0] <;> omega)))
        | (with_reducible refine cl_go ?_; simp (disch := omega) only [not_false_eq_true, not_true_eq_false, w32_id, tLt, fLt, tLe, fEq, itE, and_true, true_and, and_self, and_false, false_and, ↓reduceIte, nat_add, nat_mul3, nat_mul4, nat_mul6, nat_mul15, nat_mul60, nat_cast, nc1, Int.reduceToNat, upE, upN, fill_ne, fill_in, i0])
        | rw [c_WorldText_takesGood (by omega), b_WorldText_takesGood_0]
        | with_reducible exact c1
        | (with_reducible refine rn_go ?_; simp (disch := omega) only [not_false_eq_true, not_true_eq_false, w32_id, tLt, fLt, tLe, fEq, itE, and_true, true_and, and_self, and_false, false_and, ↓reduceIte, nat_add, nat_mul3, nat_mul4, nat_mul6, nat_mul15, nat_mul60, nat_cast, nc1, Int.reduceToNat, upE, upN, fill_ne, fill_in, i0])
        | (with_reducible refine lf_go ?_; simp (disch := omega) only [not_false_eq_true, not_true_eq_false, w32_id, tLt, fLt, tLe, fEq, itE, and_true, true_and, and_self, and_false, false_and, ↓reduceIte, nat_add, nat_mul3, nat_mul4, nat_mul6, nat_mul15, nat_mul60, nat_cast, nc1, Int.reduceToNat, upE, upN, fill_ne, fill_in, i0])
        | with_reducible exact rfl
    · repeat' first
        | (with_reducible apply bR_go; (simp (disch := omega) only [rM L, rK L, rN L, rNf, rNv, rNp, rNd, rRow, rLeg, rMark, nat_cast, Int.reduceToNat]; with_reducible exact rfl))
        | with_reducible apply bI_go
        | with_reducible apply bV_go
        | with_reducible apply bL_go
        | (with_reducible apply it_1; (first | omega | (simp (disch := omega) only [not_false_eq_true, not_true_eq_false, w32_id, tLt, fLt, tLe, fEq, itE, and_true, true_and, and_self, and_false, false_and, ↓reduceIte, nat_add, nat_mul3, nat_mul4, nat_mul6, nat_mul15, nat_mul60, nat_cast, nc1, Int.reduceToNat, upE, upN, fill_ne, fill_in, i0] <;> omega)))
        | (with_reducible apply it_2; (first | omega | (simp (disch := omega) only [not_false_eq_true, not_true_eq_false, w32_id, tLt, fLt, tLe, fEq, itE, and_true, true_and, and_self, and_false, false_and, ↓reduceIte, nat_add, nat_mul3, nat_mul4, nat_mul6, nat_mul15, nat_mul60, nat_cast, nc1, Int.reduceToNat, upE, upN, fill_ne, fill_in, i0] <;> omega)))
        | (with_reducible refine cl_go ?_; simp (disch := omega) only [not_false_eq_true, not_true_eq_false, w32_id, tLt, fLt, tLe, fEq, itE, and_true, true_and, and_self, and_false, false_and, ↓reduceIte, nat_add, nat_mul3, nat_mul4, nat_mul6, nat_mul15, nat_mul60, nat_cast, nc1, Int.reduceToNat, upE, upN, fill_ne, fill_in, i0])
        | rw [c_Mo_aGood (by omega), b_Mo_aGood_0]
        | with_reducible exact c2
        | (with_reducible refine rn_go ?_; simp (disch := omega) only [not_false_eq_true, not_true_eq_false, w32_id, tLt, fLt, tLe, fEq, itE, and_true, true_and, and_self, and_false, false_and, ↓reduceIte, nat_add, nat_mul3, nat_mul4, nat_mul6, nat_mul15, nat_mul60, nat_cast, nc1, Int.reduceToNat, upE, upN, fill_ne, fill_in, i0])
        | (with_reducible refine lf_go ?_; simp (disch := omega) only [not_false_eq_true, not_true_eq_false, w32_id, tLt, fLt, tLe, fEq, itE, and_true, true_and, and_self, and_false, false_and, ↓reduceIte, nat_add, nat_mul3, nat_mul4, nat_mul6, nat_mul15, nat_mul60, nat_cast, nc1, Int.reduceToNat, upE, upN, fill_ne, fill_in, i0])
        | with_reducible exact rfl
  have c1 := c1 1 rfl
  have c2 := c2 1 8 6 rfl rfl rfl
  rw [ha] at c1 k67 lt
  rw [ha, nat_cast] at knm fA fB
  have lt : a < 8 := by omega
  have wA : FcW M1 Ma := fun b j q1 q2 q3 => fA b j q1 (by omega) (by omega)
  have wB : FmW M2 Mb := fun b j q1 q2 q3 => fB b j (by omega) (by omega)
  rcases k_word (L := L) (d1 := d1 - 1) (d2 := d2 - 1) (by omega) (by omega) ta (w := 6) (k := 12) (by omega) (by decide) with ⟨qb, eb, Mc, Md, u1, u2, tb, lb, fc, fd⟩ | ⟨M1', M2', u1, u2, f, fc, fd⟩
  rotate_left
  · right; left
    refine ⟨M1', M2', ?_, ?_, f, wA.trans fc.w, wB.trans fd.w⟩
    · repeat' first
        | (with_reducible apply bR_go; (simp (disch := omega) only [rM L, rK L, rN L, rNf, rNv, rNp, rNd, rRow, rLeg, rMark, nat_cast, Int.reduceToNat]; with_reducible exact rfl))
        | with_reducible apply bI_go
        | with_reducible apply bV_go
        | with_reducible apply bL_go
        | (with_reducible apply it_1; (first | omega | (simp (disch := omega) only [not_false_eq_true, not_true_eq_false, w32_id, tLt, fLt, tLe, fEq, itE, and_true, true_and, and_self, and_false, false_and, ↓reduceIte, nat_add, nat_mul3, nat_mul4, nat_mul6, nat_mul15, nat_mul60, nat_cast, nc1, Int.reduceToNat, upE, upN, fill_ne, fill_in, i0] <;> omega)))
        | (with_reducible apply it_2; (first | omega | (simp (disch := omega) only [not_false_eq_true, not_true_eq_false, w32_id, tLt, fLt, tLe, fEq, itE, and_true, true_and, and_self, and_false, false_and, ↓reduceIte, nat_add, nat_mul3, nat_mul4, nat_mul6, nat_mul15, nat_mul60, nat_cast, nc1, Int.reduceToNat, upE, upN, fill_ne, fill_in, i0] <;> omega)))
        | (with_reducible refine cl_go ?_; simp (disch := omega) only [not_false_eq_true, not_true_eq_false, w32_id, tLt, fLt, tLe, fEq, itE, and_true, true_and, and_self, and_false, false_and, ↓reduceIte, nat_add, nat_mul3, nat_mul4, nat_mul6, nat_mul15, nat_mul60, nat_cast, nc1, Int.reduceToNat, upE, upN, fill_ne, fill_in, i0])
        | rw [c_WorldText_takesGood (by omega), b_WorldText_takesGood_0]
        | with_reducible exact c1
        | with_reducible exact u1
        | (with_reducible refine rn_go ?_; simp (disch := omega) only [not_false_eq_true, not_true_eq_false, w32_id, tLt, fLt, tLe, fEq, itE, and_true, true_and, and_self, and_false, false_and, ↓reduceIte, nat_add, nat_mul3, nat_mul4, nat_mul6, nat_mul15, nat_mul60, nat_cast, nc1, Int.reduceToNat, upE, upN, fill_ne, fill_in, i0])
        | (with_reducible refine lf_go ?_; simp (disch := omega) only [not_false_eq_true, not_true_eq_false, w32_id, tLt, fLt, tLe, fEq, itE, and_true, true_and, and_self, and_false, false_and, ↓reduceIte, nat_add, nat_mul3, nat_mul4, nat_mul6, nat_mul15, nat_mul60, nat_cast, nc1, Int.reduceToNat, upE, upN, fill_ne, fill_in, i0])
        | with_reducible exact rfl
    · repeat' first
        | (with_reducible apply bR_go; (simp (disch := omega) only [rM L, rK L, rN L, rNf, rNv, rNp, rNd, rRow, rLeg, rMark, nat_cast, Int.reduceToNat]; with_reducible exact rfl))
        | with_reducible apply bI_go
        | with_reducible apply bV_go
        | with_reducible apply bL_go
        | (with_reducible apply it_1; (first | omega | (simp (disch := omega) only [not_false_eq_true, not_true_eq_false, w32_id, tLt, fLt, tLe, fEq, itE, and_true, true_and, and_self, and_false, false_and, ↓reduceIte, nat_add, nat_mul3, nat_mul4, nat_mul6, nat_mul15, nat_mul60, nat_cast, nc1, Int.reduceToNat, upE, upN, fill_ne, fill_in, i0] <;> omega)))
        | (with_reducible apply it_2; (first | omega | (simp (disch := omega) only [not_false_eq_true, not_true_eq_false, w32_id, tLt, fLt, tLe, fEq, itE, and_true, true_and, and_self, and_false, false_and, ↓reduceIte, nat_add, nat_mul3, nat_mul4, nat_mul6, nat_mul15, nat_mul60, nat_cast, nc1, Int.reduceToNat, upE, upN, fill_ne, fill_in, i0] <;> omega)))
        | (with_reducible refine cl_go ?_; simp (disch := omega) only [not_false_eq_true, not_true_eq_false, w32_id, tLt, fLt, tLe, fEq, itE, and_true, true_and, and_self, and_false, false_and, ↓reduceIte, nat_add, nat_mul3, nat_mul4, nat_mul6, nat_mul15, nat_mul60, nat_cast, nc1, Int.reduceToNat, upE, upN, fill_ne, fill_in, i0])
        | rw [c_Mo_aGood (by omega), b_Mo_aGood_0]
        | with_reducible exact c2
        | with_reducible exact u2
        | (with_reducible refine rn_go ?_; simp (disch := omega) only [not_false_eq_true, not_true_eq_false, w32_id, tLt, fLt, tLe, fEq, itE, and_true, true_and, and_self, and_false, false_and, ↓reduceIte, nat_add, nat_mul3, nat_mul4, nat_mul6, nat_mul15, nat_mul60, nat_cast, nc1, Int.reduceToNat, upE, upN, fill_ne, fill_in, i0])
        | (with_reducible refine lf_go ?_; simp (disch := omega) only [not_false_eq_true, not_true_eq_false, w32_id, tLt, fLt, tLe, fEq, itE, and_true, true_and, and_self, and_false, false_and, ↓reduceIte, nat_add, nat_mul3, nat_mul4, nat_mul6, nat_mul15, nat_mul60, nat_cast, nc1, Int.reduceToNat, upE, upN, fill_ne, fill_in, i0])
        | with_reducible exact rfl
  have k0' : NmK Mc Md 66 0 96 c := ⟨by rw [fc _ _ (by omega), fA _ _ (by omega) (by omega) (by omega)]; exact k0.1, k0.2.1, k0.2.2.1, fun i hi => by
    rw [fc _ _ (by omega), fA _ _ (by omega) (by omega) (by omega), fd _ _ (by omega), fB _ _ (by omega) (by omega)]
    exact k0.2.2.2 i hi⟩
  have d88 : Md 272 2288 = (c : Int) := by rw [fd _ _ (by omega), fB _ _ (by omega) (by omega)]; exact m88
  rcases k_thing (L := L) (d1 := d1 - 1) (d2 := d2 - 1 - 1) (by omega) (by omega) tb (c := 66) (kd := 0) (to := 2320 + 3 * a) ch66 (by omega) k0' (by omega) with ⟨qc, ec, v, Me, Mf, c3, c4, hv, tc, lc, fe, ff, ev⟩ | ⟨M1', M2', c3, c4, f, fe, ff⟩
  rotate_left
  · right; left
    have c3 := c3 0 rfl
    refine ⟨up M1' 77 a (-1), M2', ?_, ?_, f.u (by omega), ((wA.trans fc.w).trans fe.w).u (by omega), (wB.trans fd.w).trans (ff.w (by omega))⟩
    · repeat' first
        | (with_reducible apply bR_go; (simp (disch := omega) only [rM L, rK L, rN L, rNf, rNv, rNp, rNd, rRow, rLeg, rMark, nat_cast, Int.reduceToNat, rc]; with_reducible exact rfl))
        | with_reducible apply bI_go
        | with_reducible apply bV_go
        | with_reducible apply bL_go
        | (with_reducible apply it_1; (first | omega | (simp (disch := omega) only [not_false_eq_true, not_true_eq_false, w32_id, tLt, fLt, tLe, fEq, itE, and_true, true_and, and_self, and_false, false_and, ↓reduceIte, nat_add, nat_mul3, nat_mul4, nat_mul6, nat_mul15, nat_mul60, nat_cast, nc1, Int.reduceToNat, upE, upN, fill_ne, fill_in, i0, rc] <;> omega)))
        | (with_reducible apply it_2; (first | omega | (simp (disch := omega) only [not_false_eq_true, not_true_eq_false, w32_id, tLt, fLt, tLe, fEq, itE, and_true, true_and, and_self, and_false, false_and, ↓reduceIte, nat_add, nat_mul3, nat_mul4, nat_mul6, nat_mul15, nat_mul60, nat_cast, nc1, Int.reduceToNat, upE, upN, fill_ne, fill_in, i0, rc] <;> omega)))
        | (with_reducible refine cl_go ?_; simp (disch := omega) only [not_false_eq_true, not_true_eq_false, w32_id, tLt, fLt, tLe, fEq, itE, and_true, true_and, and_self, and_false, false_and, ↓reduceIte, nat_add, nat_mul3, nat_mul4, nat_mul6, nat_mul15, nat_mul60, nat_cast, nc1, Int.reduceToNat, upE, upN, fill_ne, fill_in, i0, rc])
        | rw [c_WorldText_takesGood (by omega), b_WorldText_takesGood_0]
        | with_reducible exact c1
        | with_reducible exact u1
        | with_reducible exact c3
        | (with_reducible refine rn_go ?_; simp (disch := omega) only [not_false_eq_true, not_true_eq_false, w32_id, tLt, fLt, tLe, fEq, itE, and_true, true_and, and_self, and_false, false_and, ↓reduceIte, nat_add, nat_mul3, nat_mul4, nat_mul6, nat_mul15, nat_mul60, nat_cast, nc1, Int.reduceToNat, upE, upN, fill_ne, fill_in, i0, rc])
        | (with_reducible refine lf_go ?_; simp (disch := omega) only [not_false_eq_true, not_true_eq_false, w32_id, tLt, fLt, tLe, fEq, itE, and_true, true_and, and_self, and_false, false_and, ↓reduceIte, nat_add, nat_mul3, nat_mul4, nat_mul6, nat_mul15, nat_mul60, nat_cast, nc1, Int.reduceToNat, upE, upN, fill_ne, fill_in, i0, rc])
        | with_reducible exact rfl
    · repeat' first
        | (with_reducible apply bR_go; (simp (disch := omega) only [rM L, rK L, rN L, rNf, rNv, rNp, rNd, rRow, rLeg, rMark, nat_cast, Int.reduceToNat, m89, d88, Int.reduceMod]; with_reducible exact rfl))
        | with_reducible apply bI_go
        | with_reducible apply bV_go
        | with_reducible apply bL_go
        | (with_reducible apply it_1; (first | omega | (simp (disch := omega) only [not_false_eq_true, not_true_eq_false, w32_id, tLt, fLt, tLe, fEq, itE, and_true, true_and, and_self, and_false, false_and, ↓reduceIte, nat_add, nat_mul3, nat_mul4, nat_mul6, nat_mul15, nat_mul60, nat_cast, nc1, Int.reduceToNat, upE, upN, fill_ne, fill_in, i0, m89, d88, Int.reduceMod] <;> omega)))
        | (with_reducible apply it_2; (first | omega | (simp (disch := omega) only [not_false_eq_true, not_true_eq_false, w32_id, tLt, fLt, tLe, fEq, itE, and_true, true_and, and_self, and_false, false_and, ↓reduceIte, nat_add, nat_mul3, nat_mul4, nat_mul6, nat_mul15, nat_mul60, nat_cast, nc1, Int.reduceToNat, upE, upN, fill_ne, fill_in, i0, m89, d88, Int.reduceMod] <;> omega)))
        | (with_reducible refine cl_go ?_; simp (disch := omega) only [not_false_eq_true, not_true_eq_false, w32_id, tLt, fLt, tLe, fEq, itE, and_true, true_and, and_self, and_false, false_and, ↓reduceIte, nat_add, nat_mul3, nat_mul4, nat_mul6, nat_mul15, nat_mul60, nat_cast, nc1, Int.reduceToNat, upE, upN, fill_ne, fill_in, i0, m89, d88, Int.reduceMod])
        | rw [c_Mo_aGood (by omega), b_Mo_aGood_0]
        | rw [c_Mo_nationTo (by omega), b_Mo_nationTo_0]
        | with_reducible exact c2
        | with_reducible exact u2
        | with_reducible exact c4 _ _ _ (by omega) (by omega) (by omega)
        | (with_reducible refine rn_go ?_; simp (disch := omega) only [not_false_eq_true, not_true_eq_false, w32_id, tLt, fLt, tLe, fEq, itE, and_true, true_and, and_self, and_false, false_and, ↓reduceIte, nat_add, nat_mul3, nat_mul4, nat_mul6, nat_mul15, nat_mul60, nat_cast, nc1, Int.reduceToNat, upE, upN, fill_ne, fill_in, i0, m89, d88, Int.reduceMod])
        | (with_reducible refine lf_go ?_; simp (disch := omega) only [not_false_eq_true, not_true_eq_false, w32_id, tLt, fLt, tLe, fEq, itE, and_true, true_and, and_self, and_false, false_and, ↓reduceIte, nat_add, nat_mul3, nat_mul4, nat_mul6, nat_mul15, nat_mul60, nat_cast, nc1, Int.reduceToNat, upE, upN, fill_ne, fill_in, i0, m89, d88, Int.reduceMod])
        | with_reducible exact rfl
  have c3 := c3 0 rfl
  have td : TK bt n qc ec (up Me 77 a (v : Int)) Mf := tc.fr (fun b j hb => upN (by omega)) fun _ _ _ => rfl
  have wc := ((wA.trans fc.w).trans fe.w).u (c := 77) (j := a) (v := (v : Int)) (by omega)
  have wm := (wB.trans fd.w).trans (ff.w (by omega))
  rcases k_word (L := L) (d1 := d1 - 1) (d2 := d2 - 1) (by omega) (by omega) td (w := 7) (k := 13) (by omega) (by decide) with ⟨qd, ed, Mg, Mh, u3, u4, te, ld, fg, fh⟩ | ⟨M1', M2', u3, u4, f, fg, fh⟩
  rotate_left
  · right; left
    refine ⟨M1', M2', ?_, ?_, f, wc.trans fg.w, wm.trans fh.w⟩
    · repeat' first
        | (with_reducible apply bR_go; (simp (disch := omega) only [rM L, rK L, rN L, rNf, rNv, rNp, rNd, rRow, rLeg, rMark, nat_cast, Int.reduceToNat, rc]; with_reducible exact rfl))
        | with_reducible apply bI_go
        | with_reducible apply bV_go
        | with_reducible apply bL_go
        | (with_reducible apply it_1; (first | omega | (simp (disch := omega) only [not_false_eq_true, not_true_eq_false, w32_id, tLt, fLt, tLe, fEq, itE, and_true, true_and, and_self, and_false, false_and, ↓reduceIte, nat_add, nat_mul3, nat_mul4, nat_mul6, nat_mul15, nat_mul60, nat_cast, nc1, Int.reduceToNat, upE, upN, fill_ne, fill_in, i0, rc] <;> omega)))
        | (with_reducible apply it_2; (first | omega | (simp (disch := omega) only [not_false_eq_true, not_true_eq_false, w32_id, tLt, fLt, tLe, fEq, itE, and_true, true_and, and_self, and_false, false_and, ↓reduceIte, nat_add, nat_mul3, nat_mul4, nat_mul6, nat_mul15, nat_mul60, nat_cast, nc1, Int.reduceToNat, upE, upN, fill_ne, fill_in, i0, rc] <;> omega)))
        | (with_reducible refine cl_go ?_; simp (disch := omega) only [not_false_eq_true, not_true_eq_false, w32_id, tLt, fLt, tLe, fEq, itE, and_true, true_and, and_self, and_false, false_and, ↓reduceIte, nat_add, nat_mul3, nat_mul4, nat_mul6, nat_mul15, nat_mul60, nat_cast, nc1, Int.reduceToNat, upE, upN, fill_ne, fill_in, i0, rc])
        | rw [c_WorldText_takesGood (by omega), b_WorldText_takesGood_0]
        | with_reducible exact c1
        | with_reducible exact u1
        | with_reducible exact c3
        | with_reducible exact u3
        | (with_reducible refine rn_go ?_; simp (disch := omega) only [not_false_eq_true, not_true_eq_false, w32_id, tLt, fLt, tLe, fEq, itE, and_true, true_and, and_self, and_false, false_and, ↓reduceIte, nat_add, nat_mul3, nat_mul4, nat_mul6, nat_mul15, nat_mul60, nat_cast, nc1, Int.reduceToNat, upE, upN, fill_ne, fill_in, i0, rc])
        | (with_reducible refine lf_go ?_; simp (disch := omega) only [not_false_eq_true, not_true_eq_false, w32_id, tLt, fLt, tLe, fEq, itE, and_true, true_and, and_self, and_false, false_and, ↓reduceIte, nat_add, nat_mul3, nat_mul4, nat_mul6, nat_mul15, nat_mul60, nat_cast, nc1, Int.reduceToNat, upE, upN, fill_ne, fill_in, i0, rc])
        | with_reducible exact rfl
    · repeat' first
        | (with_reducible apply bR_go; (simp (disch := omega) only [rM L, rK L, rN L, rNf, rNv, rNp, rNd, rRow, rLeg, rMark, nat_cast, Int.reduceToNat, m89, d88, Int.reduceMod]; with_reducible exact rfl))
        | with_reducible apply bI_go
        | with_reducible apply bV_go
        | with_reducible apply bL_go
        | (with_reducible apply it_1; (first | omega | (simp (disch := omega) only [not_false_eq_true, not_true_eq_false, w32_id, tLt, fLt, tLe, fEq, itE, and_true, true_and, and_self, and_false, false_and, ↓reduceIte, nat_add, nat_mul3, nat_mul4, nat_mul6, nat_mul15, nat_mul60, nat_cast, nc1, Int.reduceToNat, upE, upN, fill_ne, fill_in, i0, m89, d88, Int.reduceMod] <;> omega)))
        | (with_reducible apply it_2; (first | omega | (simp (disch := omega) only [not_false_eq_true, not_true_eq_false, w32_id, tLt, fLt, tLe, fEq, itE, and_true, true_and, and_self, and_false, false_and, ↓reduceIte, nat_add, nat_mul3, nat_mul4, nat_mul6, nat_mul15, nat_mul60, nat_cast, nc1, Int.reduceToNat, upE, upN, fill_ne, fill_in, i0, m89, d88, Int.reduceMod] <;> omega)))
        | (with_reducible refine cl_go ?_; simp (disch := omega) only [not_false_eq_true, not_true_eq_false, w32_id, tLt, fLt, tLe, fEq, itE, and_true, true_and, and_self, and_false, false_and, ↓reduceIte, nat_add, nat_mul3, nat_mul4, nat_mul6, nat_mul15, nat_mul60, nat_cast, nc1, Int.reduceToNat, upE, upN, fill_ne, fill_in, i0, m89, d88, Int.reduceMod])
        | rw [c_Mo_aGood (by omega), b_Mo_aGood_0]
        | rw [c_Mo_nationTo (by omega), b_Mo_nationTo_0]
        | with_reducible exact c2
        | with_reducible exact u2
        | with_reducible exact c4 _ _ _ (by omega) (by omega) (by omega)
        | with_reducible exact u4
        | (with_reducible refine rn_go ?_; simp (disch := omega) only [not_false_eq_true, not_true_eq_false, w32_id, tLt, fLt, tLe, fEq, itE, and_true, true_and, and_self, and_false, false_and, ↓reduceIte, nat_add, nat_mul3, nat_mul4, nat_mul6, nat_mul15, nat_mul60, nat_cast, nc1, Int.reduceToNat, upE, upN, fill_ne, fill_in, i0, m89, d88, Int.reduceMod])
        | (with_reducible refine lf_go ?_; simp (disch := omega) only [not_false_eq_true, not_true_eq_false, w32_id, tLt, fLt, tLe, fEq, itE, and_true, true_and, and_self, and_false, false_and, ↓reduceIte, nat_add, nat_mul3, nat_mul4, nat_mul6, nat_mul15, nat_mul60, nat_cast, nc1, Int.reduceToNat, upE, upN, fill_ne, fill_in, i0, m89, d88, Int.reduceMod])
        | with_reducible exact rfl
  rcases k_num (L := L) (d1 := d1 - 1) (d2 := d2 - 1) (by omega) (by omega) te 1 99 (to := 2321 + 3 * a) (by omega) with ⟨qf, ef, x, Mi, Mj, o1, o2, hx, tf, lf, fi, fj, ex⟩ | ⟨M1', M2', o1, o2, f, fi, fj⟩
  rotate_left
  · right; left
    refine ⟨up M1' 78 a (-1), M2', ?_, ?_, f.u (by omega), ((wc.trans fg.w).trans fi.w).u (by omega), (wm.trans fh.w).trans fj.w⟩
    · repeat' first
        | (with_reducible apply bR_go; (simp (disch := omega) only [rM L, rK L, rN L, rNf, rNv, rNp, rNd, rRow, rLeg, rMark, nat_cast, Int.reduceToNat, rc]; with_reducible exact rfl))
        | with_reducible apply bI_go
        | with_reducible apply bV_go
        | with_reducible apply bL_go
        | (with_reducible apply it_1; (first | omega | (simp (disch := omega) only [not_false_eq_true, not_true_eq_false, w32_id, tLt, fLt, tLe, fEq, itE, and_true, true_and, and_self, and_false, false_and, ↓reduceIte, nat_add, nat_mul3, nat_mul4, nat_mul6, nat_mul15, nat_mul60, nat_cast, nc1, Int.reduceToNat, upE, upN, fill_ne, fill_in, i0, rc] <;> omega)))
        | (with_reducible apply it_2; (first | omega | (simp (disch := omega) only [not_false_eq_true, not_true_eq_false, w32_id, tLt, fLt, tLe, fEq, itE, and_true, true_and, and_self, and_false, false_and, ↓reduceIte, nat_add, nat_mul3, nat_mul4, nat_mul6, nat_mul15, nat_mul60, nat_cast, nc1, Int.reduceToNat, upE, upN, fill_ne, fill_in, i0, rc] <;> omega)))
        | (with_reducible refine cl_go ?_; simp (disch := omega) only [not_false_eq_true, not_true_eq_false, w32_id, tLt, fLt, tLe, fEq, itE, and_true, true_and, and_self, and_false, false_and, ↓reduceIte, nat_add, nat_mul3, nat_mul4, nat_mul6, nat_mul15, nat_mul60, nat_cast, nc1, Int.reduceToNat, upE, upN, fill_ne, fill_in, i0, rc])
        | rw [c_WorldText_takesGood (by omega), b_WorldText_takesGood_0]
        | with_reducible exact c1
        | with_reducible exact u1
        | with_reducible exact c3
        | with_reducible exact u3
        | with_reducible exact o1
        | (with_reducible refine rn_go ?_; simp (disch := omega) only [not_false_eq_true, not_true_eq_false, w32_id, tLt, fLt, tLe, fEq, itE, and_true, true_and, and_self, and_false, false_and, ↓reduceIte, nat_add, nat_mul3, nat_mul4, nat_mul6, nat_mul15, nat_mul60, nat_cast, nc1, Int.reduceToNat, upE, upN, fill_ne, fill_in, i0, rc])
        | (with_reducible refine lf_go ?_; simp (disch := omega) only [not_false_eq_true, not_true_eq_false, w32_id, tLt, fLt, tLe, fEq, itE, and_true, true_and, and_self, and_false, false_and, ↓reduceIte, nat_add, nat_mul3, nat_mul4, nat_mul6, nat_mul15, nat_mul60, nat_cast, nc1, Int.reduceToNat, upE, upN, fill_ne, fill_in, i0, rc])
        | with_reducible exact rfl
    · repeat' first
        | (with_reducible apply bR_go; (simp (disch := omega) only [rM L, rK L, rN L, rNf, rNv, rNp, rNd, rRow, rLeg, rMark, nat_cast, Int.reduceToNat, m89, d88, Int.reduceMod]; with_reducible exact rfl))
        | with_reducible apply bI_go
        | with_reducible apply bV_go
        | with_reducible apply bL_go
        | (with_reducible apply it_1; (first | omega | (simp (disch := omega) only [not_false_eq_true, not_true_eq_false, w32_id, tLt, fLt, tLe, fEq, itE, and_true, true_and, and_self, and_false, false_and, ↓reduceIte, nat_add, nat_mul3, nat_mul4, nat_mul6, nat_mul15, nat_mul60, nat_cast, nc1, Int.reduceToNat, upE, upN, fill_ne, fill_in, i0, m89, d88, Int.reduceMod] <;> omega)))
        | (with_reducible apply it_2; (first | omega | (simp (disch := omega) only [not_false_eq_true, not_true_eq_false, w32_id, tLt, fLt, tLe, fEq, itE, and_true, true_and, and_self, and_false, false_and, ↓reduceIte, nat_add, nat_mul3, nat_mul4, nat_mul6, nat_mul15, nat_mul60, nat_cast, nc1, Int.reduceToNat, upE, upN, fill_ne, fill_in, i0, m89, d88, Int.reduceMod] <;> omega)))
        | (with_reducible refine cl_go ?_; simp (disch := omega) only [not_false_eq_true, not_true_eq_false, w32_id, tLt, fLt, tLe, fEq, itE, and_true, true_and, and_self, and_false, false_and, ↓reduceIte, nat_add, nat_mul3, nat_mul4, nat_mul6, nat_mul15, nat_mul60, nat_cast, nc1, Int.reduceToNat, upE, upN, fill_ne, fill_in, i0, m89, d88, Int.reduceMod])
        | rw [c_Mo_aGood (by omega), b_Mo_aGood_0]
        | rw [c_Mo_nationTo (by omega), b_Mo_nationTo_0]
        | with_reducible exact c2
        | with_reducible exact u2
        | with_reducible exact c4 _ _ _ (by omega) (by omega) (by omega)
        | with_reducible exact u4
        | with_reducible exact o2 _ (by omega)
        | (with_reducible refine rn_go ?_; simp (disch := omega) only [not_false_eq_true, not_true_eq_false, w32_id, tLt, fLt, tLe, fEq, itE, and_true, true_and, and_self, and_false, false_and, ↓reduceIte, nat_add, nat_mul3, nat_mul4, nat_mul6, nat_mul15, nat_mul60, nat_cast, nc1, Int.reduceToNat, upE, upN, fill_ne, fill_in, i0, m89, d88, Int.reduceMod])
        | (with_reducible refine lf_go ?_; simp (disch := omega) only [not_false_eq_true, not_true_eq_false, w32_id, tLt, fLt, tLe, fEq, itE, and_true, true_and, and_self, and_false, false_and, ↓reduceIte, nat_add, nat_mul3, nat_mul4, nat_mul6, nat_mul15, nat_mul60, nat_cast, nc1, Int.reduceToNat, upE, upN, fill_ne, fill_in, i0, m89, d88, Int.reduceMod])
        | with_reducible exact rfl
  have tg : TK bt n qf ef (up Mi 78 a x) Mj := tf.fr (fun b j hb => upN (by omega)) fun _ _ _ => rfl
  have j34 : Mj 272 (2322 + 3 * a) = 0 := by
    rw [fj _ _ (by omega) (by omega), fh _ _ (by omega), ff _ _ (by omega) (by omega), fd _ _ (by omega), fB _ _ (by omega) (by omega)]
    have := zr.2.1 a lt (by omega)
    unfold dA at this
    rwa [show 2288 + (34 + 3 * a) = 2322 + 3 * a by omega] at this
  have wc2 := ((wc.trans fg.w).trans fi.w).u (c := 78) (j := a) (v := x) (by omega)
  have wm2 := (wm.trans fh.w).trans (fj.w (by omega))
  rcases k_op3 (L := L) (d1 := d1 - 1) (d2 := d2 - 1) (by omega) (by omega) tg (w := 8) (k := 14) (by omega) (by decide) 0 9 0 (to := 2322 + 3 * a) (by omega) j34 (by omega) with ⟨qh, eh, y, Mk, Ml, o3, p3, hy, th, lh, fk, fl, ey⟩ | ⟨M1', My, M2', o3, p3, p3', f, fk, fy, fl⟩
  rotate_left
  · right; left
    refine ⟨up M1' 79 a (-1), M2', ?_, ?_, f.u (by omega), (wc2.trans fk.w).u (by omega), wm2.trans fl.w⟩
    · repeat' first
        | (with_reducible apply bR_go; (simp (disch := omega) only [rM L, rK L, rN L, rNf, rNv, rNp, rNd, rRow, rLeg, rMark, nat_cast, Int.reduceToNat, rc]; with_reducible exact rfl))
        | with_reducible apply bI_go
        | with_reducible apply bV_go
        | with_reducible apply bL_go
        | (with_reducible apply it_1; (first | omega | (simp (disch := omega) only [not_false_eq_true, not_true_eq_false, w32_id, tLt, fLt, tLe, fEq, itE, and_true, true_and, and_self, and_false, false_and, ↓reduceIte, nat_add, nat_mul3, nat_mul4, nat_mul6, nat_mul15, nat_mul60, nat_cast, nc1, Int.reduceToNat, upE, upN, fill_ne, fill_in, i0, rc] <;> omega)))
        | (with_reducible apply it_2; (first | omega | (simp (disch := omega) only [not_false_eq_true, not_true_eq_false, w32_id, tLt, fLt, tLe, fEq, itE, and_true, true_and, and_self, and_false, false_and, ↓reduceIte, nat_add, nat_mul3, nat_mul4, nat_mul6, nat_mul15, nat_mul60, nat_cast, nc1, Int.reduceToNat, upE, upN, fill_ne, fill_in, i0, rc] <;> omega)))
        | (with_reducible refine cl_go ?_; simp (disch := omega) only [not_false_eq_true, not_true_eq_false, w32_id, tLt, fLt, tLe, fEq, itE, and_true, true_and, and_self, and_false, false_and, ↓reduceIte, nat_add, nat_mul3, nat_mul4, nat_mul6, nat_mul15, nat_mul60, nat_cast, nc1, Int.reduceToNat, upE, upN, fill_ne, fill_in, i0, rc])
        | rw [c_WorldText_takesGood (by omega), b_WorldText_takesGood_0]
        | with_reducible exact c1
        | with_reducible exact u1
        | with_reducible exact c3
        | with_reducible exact u3
        | with_reducible exact o1
        | with_reducible exact o3
        | (with_reducible refine rn_go ?_; simp (disch := omega) only [not_false_eq_true, not_true_eq_false, w32_id, tLt, fLt, tLe, fEq, itE, and_true, true_and, and_self, and_false, false_and, ↓reduceIte, nat_add, nat_mul3, nat_mul4, nat_mul6, nat_mul15, nat_mul60, nat_cast, nc1, Int.reduceToNat, upE, upN, fill_ne, fill_in, i0, rc])
        | (with_reducible refine lf_go ?_; simp (disch := omega) only [not_false_eq_true, not_true_eq_false, w32_id, tLt, fLt, tLe, fEq, itE, and_true, true_and, and_self, and_false, false_and, ↓reduceIte, nat_add, nat_mul3, nat_mul4, nat_mul6, nat_mul15, nat_mul60, nat_cast, nc1, Int.reduceToNat, upE, upN, fill_ne, fill_in, i0, rc])
        | with_reducible exact rfl
    · repeat' first
        | (with_reducible apply bR_go; (simp (disch := omega) only [rM L, rK L, rN L, rNf, rNv, rNp, rNd, rRow, rLeg, rMark, nat_cast, Int.reduceToNat, m89, d88, Int.reduceMod]; with_reducible exact rfl))
        | with_reducible apply bI_go
        | with_reducible apply bV_go
        | with_reducible apply bL_go
        | (with_reducible apply it_1; (first | omega | (simp (disch := omega) only [not_false_eq_true, not_true_eq_false, w32_id, tLt, fLt, tLe, fEq, itE, and_true, true_and, and_self, and_false, false_and, ↓reduceIte, nat_add, nat_mul3, nat_mul4, nat_mul6, nat_mul15, nat_mul60, nat_cast, nc1, Int.reduceToNat, upE, upN, fill_ne, fill_in, i0, m89, d88, Int.reduceMod] <;> omega)))
        | (with_reducible apply it_2; (first | omega | (simp (disch := omega) only [not_false_eq_true, not_true_eq_false, w32_id, tLt, fLt, tLe, fEq, itE, and_true, true_and, and_self, and_false, false_and, ↓reduceIte, nat_add, nat_mul3, nat_mul4, nat_mul6, nat_mul15, nat_mul60, nat_cast, nc1, Int.reduceToNat, upE, upN, fill_ne, fill_in, i0, m89, d88, Int.reduceMod] <;> omega)))
        | (with_reducible refine cl_go ?_; simp (disch := omega) only [not_false_eq_true, not_true_eq_false, w32_id, tLt, fLt, tLe, fEq, itE, and_true, true_and, and_self, and_false, false_and, ↓reduceIte, nat_add, nat_mul3, nat_mul4, nat_mul6, nat_mul15, nat_mul60, nat_cast, nc1, Int.reduceToNat, upE, upN, fill_ne, fill_in, i0, m89, d88, Int.reduceMod])
        | rw [c_Mo_aGood (by omega), b_Mo_aGood_0]
        | rw [c_Mo_nationTo (by omega), b_Mo_nationTo_0]
        | with_reducible exact c2
        | with_reducible exact u2
        | with_reducible exact c4 _ _ _ (by omega) (by omega) (by omega)
        | with_reducible exact u4
        | with_reducible exact o2 _ (by omega)
        | with_reducible exact p3
        | with_reducible exact p3' _ (by omega)
        | (with_reducible refine rn_go ?_; simp (disch := omega) only [not_false_eq_true, not_true_eq_false, w32_id, tLt, fLt, tLe, fEq, itE, and_true, true_and, and_self, and_false, false_and, ↓reduceIte, nat_add, nat_mul3, nat_mul4, nat_mul6, nat_mul15, nat_mul60, nat_cast, nc1, Int.reduceToNat, upE, upN, fill_ne, fill_in, i0, m89, d88, Int.reduceMod])
        | (with_reducible refine lf_go ?_; simp (disch := omega) only [not_false_eq_true, not_true_eq_false, w32_id, tLt, fLt, tLe, fEq, itE, and_true, true_and, and_self, and_false, false_and, ↓reduceIte, nat_add, nat_mul3, nat_mul4, nat_mul6, nat_mul15, nat_mul60, nat_cast, nc1, Int.reduceToNat, upE, upN, fill_ne, fill_in, i0, m89, d88, Int.reduceMod])
        | with_reducible exact rfl
  have l89 : Ml 272 2289 = (a : Int) := by rw [fl _ _ (by omega) (by omega), fj _ _ (by omega) (by omega), fh _ _ (by omega), ff _ _ (by omega) (by omega), fd _ _ (by omega), fB _ _ (by omega) (by omega)]; exact m89
  have j89 : Mj 272 2289 = (a : Int) := by rw [fj _ _ (by omega) (by omega), fh _ _ (by omega), ff _ _ (by omega) (by omega), fd _ _ (by omega), fB _ _ (by omega) (by omega)]; exact m89
  have mo : callD d2 m_Mo_aGood [vR 12 0 271] (SH L) M2 = some (some (vI 1), SH L, up Ml 272 2289 ((a : Int) + 1)) := by
    rcases p3 with ⟨i3, rfl⟩ | ⟨Mx3, i3, _, j3⟩
    · repeat' first
        | (with_reducible apply bR_go; (simp (disch := omega) only [rM L, rK L, rN L, rNf, rNv, rNp, rNd, rRow, rLeg, rMark, nat_cast, Int.reduceToNat, m89, d88, l89, Int.reduceMod]; with_reducible exact rfl))
        | with_reducible apply bI_go
        | with_reducible apply bV_go
        | with_reducible apply bL_go
        | (with_reducible apply it_1; (first | omega | (simp (disch := omega) only [not_false_eq_true, not_true_eq_false, w32_id, tLt, fLt, tLe, fEq, itE, and_true, true_and, and_self, and_false, false_and, ↓reduceIte, nat_add, nat_mul3, nat_mul4, nat_mul6, nat_mul15, nat_mul60, nat_cast, nc1, Int.reduceToNat, upE, upN, fill_ne, fill_in, i0, m89, d88, l89, Int.reduceMod] <;> omega)))
        | (with_reducible apply it_2; (first | omega | (simp (disch := omega) only [not_false_eq_true, not_true_eq_false, w32_id, tLt, fLt, tLe, fEq, itE, and_true, true_and, and_self, and_false, false_and, ↓reduceIte, nat_add, nat_mul3, nat_mul4, nat_mul6, nat_mul15, nat_mul60, nat_cast, nc1, Int.reduceToNat, upE, upN, fill_ne, fill_in, i0, m89, d88, l89, Int.reduceMod] <;> omega)))
        | (with_reducible refine cl_go ?_; simp (disch := omega) only [not_false_eq_true, not_true_eq_false, w32_id, tLt, fLt, tLe, fEq, itE, and_true, true_and, and_self, and_false, false_and, ↓reduceIte, nat_add, nat_mul3, nat_mul4, nat_mul6, nat_mul15, nat_mul60, nat_cast, nc1, Int.reduceToNat, upE, upN, fill_ne, fill_in, i0, m89, d88, l89, Int.reduceMod])
        | rw [c_Mo_aGood (by omega), b_Mo_aGood_0]
        | rw [c_Mo_nationTo (by omega), b_Mo_nationTo_0]
        | with_reducible exact c2
        | with_reducible exact u2
        | with_reducible exact c4 _ _ _ (by omega) (by omega) (by omega)
        | with_reducible exact u4
        | with_reducible exact o2 _ (by omega)
        | with_reducible exact i3
        | (with_reducible refine rn_go ?_; simp (disch := omega) only [not_false_eq_true, not_true_eq_false, w32_id, tLt, fLt, tLe, fEq, itE, and_true, true_and, and_self, and_false, false_and, ↓reduceIte, nat_add, nat_mul3, nat_mul4, nat_mul6, nat_mul15, nat_mul60, nat_cast, nc1, Int.reduceToNat, upE, upN, fill_ne, fill_in, i0, m89, d88, l89, Int.reduceMod])
        | (with_reducible refine lf_go ?_; simp (disch := omega) only [not_false_eq_true, not_true_eq_false, w32_id, tLt, fLt, tLe, fEq, itE, and_true, true_and, and_self, and_false, false_and, ↓reduceIte, nat_add, nat_mul3, nat_mul4, nat_mul6, nat_mul15, nat_mul60, nat_cast, nc1, Int.reduceToNat, upE, upN, fill_ne, fill_in, i0, m89, d88, l89, Int.reduceMod])
        | with_reducible exact rfl
    · repeat' first
        | (with_reducible apply bR_go; (simp (disch := omega) only [rM L, rK L, rN L, rNf, rNv, rNp, rNd, rRow, rLeg, rMark, nat_cast, Int.reduceToNat, m89, d88, l89, Int.reduceMod]; with_reducible exact rfl))
        | with_reducible apply bI_go
        | with_reducible apply bV_go
        | with_reducible apply bL_go
        | (with_reducible apply it_1; (first | omega | (simp (disch := omega) only [not_false_eq_true, not_true_eq_false, w32_id, tLt, fLt, tLe, fEq, itE, and_true, true_and, and_self, and_false, false_and, ↓reduceIte, nat_add, nat_mul3, nat_mul4, nat_mul6, nat_mul15, nat_mul60, nat_cast, nc1, Int.reduceToNat, upE, upN, fill_ne, fill_in, i0, m89, d88, l89, Int.reduceMod] <;> omega)))
        | (with_reducible apply it_2; (first | omega | (simp (disch := omega) only [not_false_eq_true, not_true_eq_false, w32_id, tLt, fLt, tLe, fEq, itE, and_true, true_and, and_self, and_false, false_and, ↓reduceIte, nat_add, nat_mul3, nat_mul4, nat_mul6, nat_mul15, nat_mul60, nat_cast, nc1, Int.reduceToNat, upE, upN, fill_ne, fill_in, i0, m89, d88, l89, Int.reduceMod] <;> omega)))
        | (with_reducible refine cl_go ?_; simp (disch := omega) only [not_false_eq_true, not_true_eq_false, w32_id, tLt, fLt, tLe, fEq, itE, and_true, true_and, and_self, and_false, false_and, ↓reduceIte, nat_add, nat_mul3, nat_mul4, nat_mul6, nat_mul15, nat_mul60, nat_cast, nc1, Int.reduceToNat, upE, upN, fill_ne, fill_in, i0, m89, d88, l89, Int.reduceMod])
        | rw [c_Mo_aGood (by omega), b_Mo_aGood_0]
        | rw [c_Mo_nationTo (by omega), b_Mo_nationTo_0]
        | with_reducible exact c2
        | with_reducible exact u2
        | with_reducible exact c4 _ _ _ (by omega) (by omega) (by omega)
        | with_reducible exact u4
        | with_reducible exact o2 _ (by omega)
        | with_reducible exact i3
        | with_reducible exact j3 _ (by omega)
        | (with_reducible refine rn_go ?_; simp (disch := omega) only [not_false_eq_true, not_true_eq_false, w32_id, tLt, fLt, tLe, fEq, itE, and_true, true_and, and_self, and_false, false_and, ↓reduceIte, nat_add, nat_mul3, nat_mul4, nat_mul6, nat_mul15, nat_mul60, nat_cast, nc1, Int.reduceToNat, upE, upN, fill_ne, fill_in, i0, m89, d88, l89, Int.reduceMod])
        | (with_reducible refine lf_go ?_; simp (disch := omega) only [not_false_eq_true, not_true_eq_false, w32_id, tLt, fLt, tLe, fEq, itE, and_true, true_and, and_self, and_false, false_and, ↓reduceIte, nat_add, nat_mul3, nat_mul4, nat_mul6, nat_mul15, nat_mul60, nat_cast, nc1, Int.reduceToNat, upE, upN, fill_ne, fill_in, i0, m89, d88, l89, Int.reduceMod])
        | with_reducible exact rfl
  have ti : TK bt n qh eh (up Mk 79 a y) (up Ml 272 2289 ((a : Int) + 1)) := th.fr (fun b j hb => upN (by omega)) fun b j hb => upN (by omega)
  have w1 := (wc2.trans fk.w).u (c := 79) (j := a) (v := y) (by omega)
  have w2 := (wm2.trans (fl.w (by omega))).u (j := 2289) (v := (a : Int) + 1) (by omega)
  rcases k_stop (L := L) (d1 := d1 - 1) (d2 := d2) (by omega) (by omega) ti with ⟨qe, ee, Mp, Mq, s1, s2, tk, le', fp, fq⟩ | ⟨Mp, Mq, s1, s2, f, fp, fq⟩
  rotate_left
  · right; right
    refine ⟨Mp, _, Mq, ?_, mo, s2, f, w1.trans fp.w, w2.trans fq.w⟩
    repeat' first
      | (with_reducible apply bR_go; (simp (disch := omega) only [rM L, rK L, rN L, rNf, rNv, rNp, rNd, rRow, rLeg, rMark, nat_cast, Int.reduceToNat, rc]; with_reducible exact rfl))
      | with_reducible apply bI_go
      | with_reducible apply bV_go
      | with_reducible apply bL_go
      | (with_reducible apply it_1; (first | omega | (simp (disch := omega) only [not_false_eq_true, not_true_eq_false, w32_id, tLt, fLt, tLe, fEq, itE, and_true, true_and, and_self, and_false, false_and, ↓reduceIte, nat_add, nat_mul3, nat_mul4, nat_mul6, nat_mul15, nat_mul60, nat_cast, nc1, Int.reduceToNat, upE, upN, fill_ne, fill_in, i0, rc] <;> omega)))
      | (with_reducible apply it_2; (first | omega | (simp (disch := omega) only [not_false_eq_true, not_true_eq_false, w32_id, tLt, fLt, tLe, fEq, itE, and_true, true_and, and_self, and_false, false_and, ↓reduceIte, nat_add, nat_mul3, nat_mul4, nat_mul6, nat_mul15, nat_mul60, nat_cast, nc1, Int.reduceToNat, upE, upN, fill_ne, fill_in, i0, rc] <;> omega)))
      | (with_reducible refine cl_go ?_; simp (disch := omega) only [not_false_eq_true, not_true_eq_false, w32_id, tLt, fLt, tLe, fEq, itE, and_true, true_and, and_self, and_false, false_and, ↓reduceIte, nat_add, nat_mul3, nat_mul4, nat_mul6, nat_mul15, nat_mul60, nat_cast, nc1, Int.reduceToNat, upE, upN, fill_ne, fill_in, i0, rc])
      | rw [c_WorldText_takesGood (by omega), b_WorldText_takesGood_0]
      | with_reducible exact c1
      | with_reducible exact u1
      | with_reducible exact c3
      | with_reducible exact u3
      | with_reducible exact o1
      | with_reducible exact o3
      | with_reducible exact s1
      | (with_reducible refine rn_go ?_; simp (disch := omega) only [not_false_eq_true, not_true_eq_false, w32_id, tLt, fLt, tLe, fEq, itE, and_true, true_and, and_self, and_false, false_and, ↓reduceIte, nat_add, nat_mul3, nat_mul4, nat_mul6, nat_mul15, nat_mul60, nat_cast, nc1, Int.reduceToNat, upE, upN, fill_ne, fill_in, i0, rc])
      | (with_reducible refine lf_go ?_; simp (disch := omega) only [not_false_eq_true, not_true_eq_false, w32_id, tLt, fLt, tLe, fEq, itE, and_true, true_and, and_self, and_false, false_and, ↓reduceIte, nat_add, nat_mul3, nat_mul4, nat_mul6, nat_mul15, nat_mul60, nat_cast, nc1, Int.reduceToNat, upE, upN, fill_ne, fill_in, i0, rc])
      | with_reducible exact rfl
  left
  refine ⟨qe, ee, Mp, _, Mq, ?_, mo, s2, tk, by have b1 := ta.2.2.2.2.1.bd; have b2 := tb.2.2.2.2.1.bd; have b3 := tc.2.2.2.2.1.bd; have b4 := te.2.2.2.2.1.bd; have b5 := tf.2.2.2.2.1.bd; have b6 := th.2.2.2.2.1.bd; omega, ?_, w1.trans fp.w, w2.trans fq.w⟩
  · repeat' first
      | (with_reducible apply bR_go; (simp (disch := omega) only [rM L, rK L, rN L, rNf, rNv, rNp, rNd, rRow, rLeg, rMark, nat_cast, Int.reduceToNat, rc]; with_reducible exact rfl))
      | with_reducible apply bI_go
      | with_reducible apply bV_go
      | with_reducible apply bL_go
      | (with_reducible apply it_1; (first | omega | (simp (disch := omega) only [not_false_eq_true, not_true_eq_false, w32_id, tLt, fLt, tLe, fEq, itE, and_true, true_and, and_self, and_false, false_and, ↓reduceIte, nat_add, nat_mul3, nat_mul4, nat_mul6, nat_mul15, nat_mul60, nat_cast, nc1, Int.reduceToNat, upE, upN, fill_ne, fill_in, i0, rc] <;> omega)))
      | (with_reducible apply it_2; (first | omega | (simp (disch := omega) only [not_false_eq_true, not_true_eq_false, w32_id, tLt, fLt, tLe, fEq, itE, and_true, true_and, and_self, and_false, false_and, ↓reduceIte, nat_add, nat_mul3, nat_mul4, nat_mul6, nat_mul15, nat_mul60, nat_cast, nc1, Int.reduceToNat, upE, upN, fill_ne, fill_in, i0, rc] <;> omega)))
      | (with_reducible refine cl_go ?_; simp (disch := omega) only [not_false_eq_true, not_true_eq_false, w32_id, tLt, fLt, tLe, fEq, itE, and_true, true_and, and_self, and_false, false_and, ↓reduceIte, nat_add, nat_mul3, nat_mul4, nat_mul6, nat_mul15, nat_mul60, nat_cast, nc1, Int.reduceToNat, upE, upN, fill_ne, fill_in, i0, rc])
      | rw [c_WorldText_takesGood (by omega), b_WorldText_takesGood_0]
      | with_reducible exact c1
      | with_reducible exact u1
      | with_reducible exact c3
      | with_reducible exact u3
      | with_reducible exact o1
      | with_reducible exact o3
      | with_reducible exact s1
      | (with_reducible refine rn_go ?_; simp (disch := omega) only [not_false_eq_true, not_true_eq_false, w32_id, tLt, fLt, tLe, fEq, itE, and_true, true_and, and_self, and_false, false_and, ↓reduceIte, nat_add, nat_mul3, nat_mul4, nat_mul6, nat_mul15, nat_mul60, nat_cast, nc1, Int.reduceToNat, upE, upN, fill_ne, fill_in, i0, rc])
      | (with_reducible refine lf_go ?_; simp (disch := omega) only [not_false_eq_true, not_true_eq_false, w32_id, tLt, fLt, tLe, fEq, itE, and_true, true_and, and_self, and_false, false_and, ↓reduceIte, nat_add, nat_mul3, nat_mul4, nat_mul6, nat_mul15, nat_mul60, nat_cast, nc1, Int.reduceToNat, upE, upN, fill_ne, fill_in, i0, rc])
      | with_reducible exact rfl
  have oC : ∀ b j, b ≠ 12 → ¬(b = 77 ∧ j = a) → ¬(b = 78 ∧ j = a) → ¬(b = 79 ∧ j = a) → Mp b j = Ma b j := fun b j y1 y2 y3 y4 => by
    rw [fp _ _ (by omega), upN (by omega), fk _ _ (by omega), upN (by omega), fi _ _ (by omega), fg _ _ (by omega), upN (by omega), fe _ _ (by omega), fc _ _ (by omega)]
  have oA : ∀ b j, ¬(b = 271 ∧ (12 ≤ j ∧ j ≤ 15 ∨ j = 17 ∨ j = 18)) → ¬(b = 272 ∧ (j = 2289 ∨ j = 2320 + 3 * a ∨ j = 2321 + 3 * a ∨ j = 2322 + 3 * a)) → Mq b j = Mb b j := fun b j y1 y2 => by
    rw [fq _ _ y1, upN (by omega), fl _ _ y1 (by omega), fj _ _ y1 (by omega), fh _ _ y1, ff _ _ y1 (by omega), fd _ _ y1]
  refine dd_good hD (a := a) (v := v) (x := x) (y := y) ha lt (by omega) ⟨hx.1, hx.2.1⟩ ⟨hy.1, hy.2.1⟩ (fun b j y1 y2 y3 y4 y5 y6 y7 => ?_) ?_ ?_ ?_ ?_ (fun k y1 y2 y3 y4 y5 => ?_) ?_ ?_ ?_ ?_ (fun k y1 y2 => ?_) ?_ ?_ ?_
  · rw [oC _ _ (by omega) y5 y6 y7, fA _ _ (by omega) (by omega) (by omega)]
  · rw [fp _ _ (by omega), upN (by omega), fk _ _ (by omega), upN (by omega), fi _ _ (by omega), fg _ _ (by omega), upE rfl rfl]
  · rw [fp _ _ (by omega), upN (by omega), fk _ _ (by omega), upE rfl rfl]
  · rw [fp _ _ (by omega), upE rfl rfl]
  · rw [oC _ _ (by omega) (by omega) (by omega) (by omega)]; exact k67
  · unfold dA
    rw [oA _ _ (by omega) (by omega), fB _ _ (by omega) (by omega)]
  · unfold dA
    rw [fq _ _ (by omega), upE rfl rfl]
  · unfold dA
    rw [fq _ _ (by omega), upN (by omega), fl _ _ (by omega) (by omega), fj _ _ (by omega) (by omega), fh _ _ (by omega), show 2288 + (32 + 3 * a) = 2320 + 3 * a by omega]
    exact ev
  · unfold dA
    rw [fq _ _ (by omega), upN (by omega), fl _ _ (by omega) (by omega), show 2288 + (33 + 3 * a) = 2321 + 3 * a by omega]
    exact ex
  · unfold dA
    rw [fq _ _ (by omega), upN (by omega), show 2288 + (34 + 3 * a) = 2322 + 3 * a by omega]
    exact ey
  · unfold dN
    rw [oA _ _ (by omega) (by omega), fB _ _ (by omega) (by omega)]
  · unfold dN
    rw [oC _ _ (by omega) (by omega) (by omega) (by omega), oA _ _ (by omega) (by omega), show 96 + (6 + a) = 96 + 6 + a by omega]
    exact knm
  · rw [oC _ _ (by omega) (by omega) (by omega) (by omega), fA _ _ (by omega) (by omega) (by omega)]
  · rw [oA _ _ (by omega) (by omega), fB _ _ (by omega) (by omega)]
end

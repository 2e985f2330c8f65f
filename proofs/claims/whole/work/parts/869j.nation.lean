/-! THE PARTS OF A WORLD: a nation -/
theorem FL.u {M1 M2 : Mm} {c j : Nat} {v : Int} (h : FL M1 M2) (hc : c ≠ 12) : FL (up M1 c j v) M2 := ⟨by rw [upN (by omega)]; exact h.1, h.2.1, by rw [upN (by omega)]; exact h.2.2⟩
theorem FcW.u {M M1 : Mm} {c j : Nat} {v : Int} (h : FcW M M1) (hc : 65 ≤ c ∧ c ≤ 111) : FcW M (up M1 c j v) := fun b j q1 q2 q3 => by rw [upN (by omega)]; exact h b j q1 q2 q3
theorem FmW.u {M M1 : Mm} {j : Nat} {v : Int} (h : FmW M M1) (hc : 2288 ≤ j ∧ j < 2860) : FmW M (up M1 272 j v) := fun b j q1 q2 q3 => by rw [upN (by omega)]; exact h b j q1 q2 q3
theorem bit_hi : ∀ f : Fin 64, ∀ m : Fin 6, f.val < 2 ^ m.val → and32 (shr32 (f.val : Int) (m.val : Int)) 1 = 0 := by decide +kernel
theorem bit_00 : ∀ m : Fin 6, and32 (shr32 0 (m.val : Int)) 1 = 0 := by decide +kernel
section
variable {bt : Nat → Int} {n q e : Nat} {M M1 M2 : Mm} {L d d1 d2 d3 : Nat}
theorem dd_nation {Mj Mk Ma Mb : Mm} (hD : DD M1 M2) {a : Nat} {v1 v2 v3 : Int} (ha : dA M2 0 = (a : Int)) (lt : (a : Int) < 6) (hv1 : 0 ≤ v1 ∧ v1 ≤ 20) (hv2 : 0 ≤ v2 ∧ v2 ≤ 9) (hv3 : 0 ≤ v3 ∧ v3 ≤ 255) (gC : ∀ b j, ¬(b = 12 ∧ 4 ≤ j) → ¬(b = 67 ∧ j = 0) → ¬(b = 69 ∧ j = a) → ¬(b = 73 ∧ j = a) → ¬(b = 74 ∧ j = a) → ¬(b = 75 ∧ j = a) → Mj b j = M1 b j) (g75 : Mj 75 a = v3) (g74 : Mj 74 a = v2) (g73 : Mj 73 a = v1) (g67 : Mj 67 0 = (a : Int) + 1) (g69 : Mj 69 a = Ma 69 a) (gA : ∀ k, k ≠ 0 → k ≠ 8 + 4 * a → k ≠ 9 + 4 * a → k ≠ 10 + 4 * a → dA Mk k = dA M2 k) (e0 : dA Mk 0 = (a : Int) + 1) (e8 : dA Mk (8 + 4 * a) = v1) (e9 : dA Mk (9 + 4 * a) = v2) (e10 : dA Mk (10 + 4 * a) = v3) (gN : ∀ k, k ≠ a → dN Mk k = dN M2 k) (eN : dN Mk a = Mb 273 (96 + a)) (knm : nmR (Ma 69 a) (Mb 273 (96 + a))) (r20 : Mk 271 20 = M2 271 20) : DD Mj Mk := by
  obtain ⟨dx, hI, zr, fb, fz, pz, nm, rt, rt'⟩ := hD
  have hC := hI.1
  unfold Cn at hC
  have z0 := zr.1 a (by omega) (by omega)
  have g76 : Mj 76 a = 0 := by rw [gC _ _ (by omega) (by omega) (by omega) (by omega) (by omega) (by omega)]; exact fz a (by omega) (by omega)
  have e11 : dA Mk (11 + 4 * a) = 0 := by rw [gA _ (by omega) (by omega) (by omega) (by omega)]; exact z0.2.2
  have a1 := gA 1 (by omega) (by omega) (by omega) (by omega)
  have a2 := gA 2 (by omega) (by omega) (by omega) (by omega)
  have a3 := gA 3 (by omega) (by omega) (by omega) (by omega)
  have a4 := gA 4 (by omega) (by omega) (by omega) (by omega)
  obtain ⟨i1, i2, i3, i4, i5, i6, i7, i8, i9⟩ := hI
  refine ⟨dx.upd (fun k => k = 8 + 4 * a ∨ k = 9 + 4 * a ∨ k = 10 + 4 * a ∨ k = 11 + 4 * a) (fun k hk => by unfold VV; omega) (fun k hk => ?_) (fun k hk => ?_) (fun k hk hn => ?_) fun b j y1 y2 y3 y4 => ?_, ⟨?_, i2.cg (by omega) a1 (fun k y1 y2 => gA k (by omega) (by omega) (by omega) (by omega)) i1, fun m hm => ?_, i4.cg (by omega) a2 (fun p hp => gA _ (by omega) (by omega) (by omega) (by omega)) i1, i5.cg fun k y1 y2 y3 => gA k (by omega) (by omega) (by omega) (by omega), i6.cg fun k y1 y2 y3 => gA k (by omega) (by omega) (by omega) (by omega), i7.cg (by omega) (by omega) a3 (fun k y1 y2 => gA k (by omega) (by omega) (by omega) (by omega)) i1, by rw [gA 5 (by omega) (by omega) (by omega) (by omega)]; exact i8, fun x y hx hy => ?_⟩, ⟨fun m y1 y2 => ?_, fun g y1 y2 => ?_, fun s y1 y2 => ?_⟩, fun m hm => ?_, fun m y1 y2 => ?_, ⟨?_, ?_⟩, ⟨fun i hi => ?_, fun i hi => ?_, fun i hi => ?_, fun i hi => ?_⟩, ?_, ?_⟩
  · have z : k = 0 ∨ k = 1 ∨ k = 2 ∨ k = 3 := by omega
    rcases z with rfl | rfl | rfl | rfl
    · rw [g67, e0]
    · rw [gC _ _ (by omega) (by omega) (by omega) (by omega) (by omega) (by omega), a1]; exact dx.1 1 (by omega)
    · rw [gC _ _ (by omega) (by omega) (by omega) (by omega) (by omega) (by omega), a2]; exact dx.1 2 (by omega)
    · rw [gC _ _ (by omega) (by omega) (by omega) (by omega) (by omega) (by omega), a3]; exact dx.1 3 (by omega)
  · rcases hk with rfl | rfl | rfl | rfl
    · obtain ⟨c, p⟩ := cl_n (n := a) (w := 0) (k := 8 + 4 * a) rfl (by omega) (by omega)
      rw [c, p, e8]; exact g73
    · obtain ⟨c, p⟩ := cl_n (n := a) (w := 1) (k := 9 + 4 * a) (by omega) (by omega) (by omega)
      rw [c, p, e9]; exact g74
    · obtain ⟨c, p⟩ := cl_n (n := a) (w := 2) (k := 10 + 4 * a) (by omega) (by omega) (by omega)
      rw [c, p, e10]; exact g75
    · obtain ⟨c, p⟩ := cl_n (n := a) (w := 3) (k := 11 + 4 * a) (by omega) (by omega) (by omega)
      rw [c, p, e11]; exact g76
  · unfold vd at hk ⊢
    rw [e0, a1, a2, a3] at hk
    rw [ha]
    exact ⟨by omega, gA k (by omega) (by omega) (by omega) (by omega)⟩
  · have q8 := y4 (8 + 4 * a) (by omega)
    have q9 := y4 (9 + 4 * a) (by omega)
    have q10 := y4 (10 + 4 * a) (by omega)
    obtain ⟨c8, p8⟩ := cl_n (n := a) (w := 0) (k := 8 + 4 * a) rfl (by omega) (by omega)
    obtain ⟨c9, p9⟩ := cl_n (n := a) (w := 1) (k := 9 + 4 * a) (by omega) (by omega) (by omega)
    obtain ⟨c10, p10⟩ := cl_n (n := a) (w := 2) (k := 10 + 4 * a) (by omega) (by omega) (by omega)
    rw [c8, p8] at q8
    rw [c9, p9] at q9
    rw [c10, p10] at q10
    exact gC b j (by omega) (by omega) (by omega) q8 q9 q10
  · unfold Cn
    rw [e0, a1, a2, a3, a4]
    omega
  · rw [e0] at hm
    by_cases y : m = a
    · subst y
      rw [e8, e9, e10, e11]
      omega
    · rw [gA _ (by omega) (by omega) (by omega) (by omega), gA _ (by omega) (by omega) (by omega) (by omega), gA _ (by omega) (by omega) (by omega) (by omega), gA _ (by omega) (by omega) (by omega) (by omega)]
      exact i3 m (by omega)
  · rw [e0] at hx hy
    -- bits of the new one are none
    have hb : ∀ x : Nat, (x : Int) ≤ a → and32 (shr32 (dA Mk (11 + 4 * x)) (a : Int)) 1 = 0 := fun x hx => by
      by_cases y : x = a
      · rw [y, e11]
        exact bit_00 ⟨a, by omega⟩
      · rw [gA _ (by omega) (by omega) (by omega) (by omega)]
        have f1 := fb x (by omega)
        have f2 := i3 x (by omega)
        obtain ⟨f, hf⟩ := Int.eq_ofNat_of_zero_le f2.2.2.2.2.2.2.1
        rw [ha, nat_cast] at f1
        have := bit_hi ⟨f, by omega⟩ ⟨a, by omega⟩ (by dsimp only; omega)
        rw [hf]
        exact this
    by_cases z : x = a
    · rw [z, e11, hb y (by omega)]
      exact bit_00 ⟨y, by omega⟩
    · by_cases z' : y = a
      · rw [z', e11, hb x (by omega)]
        exact (bit_00 ⟨x, by omega⟩).symm
      · rw [gA _ (by omega) (by omega) (by omega) (by omega), gA _ (by omega) (by omega) (by omega) (by omega)]
        exact i9 x y (by omega) (by omega)
  · rw [e0] at y2
    rw [gA _ (by omega) (by omega) (by omega) (by omega), gA _ (by omega) (by omega) (by omega) (by omega), gA _ (by omega) (by omega) (by omega) (by omega)]
    exact zr.1 m y1 (by omega)
  · rw [a1] at y2
    rw [gA _ (by omega) (by omega) (by omega) (by omega)]
    exact zr.2.1 g y1 y2
  · rw [a3] at y2
    rw [gA _ (by omega) (by omega) (by omega) (by omega), gA _ (by omega) (by omega) (by omega) (by omega), gA _ (by omega) (by omega) (by omega) (by omega)]
    obtain ⟨u1, u2, u3, u4⟩ := zr.2.2 s y1 y2
    exact ⟨u1, u2, u3, fun g hg => by rw [gA _ (by omega) (by omega) (by omega) (by omega)]; exact u4 g hg⟩
  · rw [e0] at hm ⊢
    rw [show ((a : Int) + 1).toNat = a + 1 by omega]
    have pa : 2 ^ a ≤ 2 ^ (a + 1) := pow_le (by omega)
    by_cases z : m = a
    · rw [z, e11]
      have : 0 < 2 ^ (a + 1) := Nat.pow_pos (by omega)
      omega
    · rw [gA _ (by omega) (by omega) (by omega) (by omega)]
      have f1 := fb m (by omega)
      rw [ha, nat_cast] at f1
      omega
  · rw [e0] at y2
    rw [gC _ _ (by omega) (by omega) (by omega) (by omega) (by omega) (by omega)]
    exact fz m y1 (by omega)
  · rw [gC _ _ (by omega) (by omega) (by omega) (by omega) (by omega) (by omega)]; exact pz.1
  · rw [gA _ (by omega) (by omega) (by omega) (by omega)]; exact pz.2
  · rw [e0] at hi
    by_cases z : i = a
    · rw [z, eN]
      have : nmR (Mj 69 a) (Mb 273 (96 + a)) := by rw [g69]; exact knm
      exact this
    · rw [gC _ _ (by omega) (by omega) (by omega) (by omega) (by omega) (by omega), gN _ z]
      exact nm.1 i (by omega)
  · rw [a1] at hi
    rw [gC _ _ (by omega) (by omega) (by omega) (by omega) (by omega) (by omega), gN _ (by omega)]
    exact nm.2.1 i hi
  · rw [a2] at hi
    rw [gC _ _ (by omega) (by omega) (by omega) (by omega) (by omega) (by omega), gN _ (by omega)]
    exact nm.2.2.1 i hi
  · rw [a3] at hi
    rw [gC _ _ (by omega) (by omega) (by omega) (by omega) (by omega) (by omega), gN _ (by omega)]
    exact nm.2.2.2 i hi
  · rw [gC _ _ (by omega) (by omega) (by omega) (by omega) (by omega) (by omega), r20]; exact rt
  · rw [r20]; exact rt'
set_option maxHeartbeats 4000000 in
theorem p_nation (h1 : 12 ≤ d1) (h2 : 12 ≤ d2) (h : TK bt n q e M1 M2) (hD : DD M1 M2) (h7 : M1 12 7 ≠ 4) (hq : q < e) : PO bt n q L d1 d2 (callD d1 m_WorldText_takesNation [vR 6 0 12, vR 0 0 66] (SH L) M1) (callD d2 m_Mo_aNation [vR 12 0 271] (SH L) M2) M1 M2 := by
  have hD0 := hD
  obtain ⟨dx, hI, zr, fb, fz, pz, nm, rt, rt'⟩ := hD
  have hC := hI.1
  unfold Cn at hC
  have ch66 : isCh 66 := Or.inr (Or.inl rfl)
  have rc := rC (L := L) ch66
  obtain ⟨a, ha⟩ := Int.eq_ofNat_of_zero_le hC.1
  have m88 : M2 272 2288 = (a : Int) := ha
  rcases k_new (L := L) (d1 := d1 - 1) (d2 := d2 - 1) (by omega) (by omega) h hD0.nm (kd := 0) (off := 0) (most := 6) (Or.inl ⟨rfl, rfl, rfl⟩) h7 with ⟨qa, ea, Ma, Mb, c1, c2, lt, ta, le, k67, knm, fA, fB⟩ | ⟨M1', M2', c1, c2, f, fa, fb'⟩
  rotate_left
  · right; left
    have c1 := c1 0 rfl
    have c2 := c2 0 6 0 rfl rfl rfl
    refine ⟨M1', M2', ?_, ?_, f, fa.w, fb'.w⟩
    · repeat' first
        | (with_reducible apply bR_go; (simp (disch := omega) only [rM L, rK L, rN L, rNf, rNv, rNp, rNd, rRow, rLeg, rMark, nat_cast, Int.reduceToNat]; with_reducible exact rfl))
        | with_reducible apply bI_go
        | with_reducible apply bV_go
        | with_reducible apply bL_go
        | (with_reducible apply it_1; (first | omega | (simp (disch := omega) only [not_false_eq_true, not_true_eq_false, w32_id, tLt, fLt, tLe, fEq, itE, and_true, true_and, and_self, and_false, false_and, ↓reduceIte, nat_add, nat_mul3, nat_mul4, nat_mul6, nat_mul15, nat_mul60, nat_cast, nc1, Int.reduceToNat, upE, upN, fill_ne, fill_in, i0] <;> omega)))
        | (with_reducible apply it_2; (first | omega | (simp (disch := omega) only [not_false_eq_true, not_true_eq_false, w32_id, tLt, fLt, tLe, fEq, itE, and_true, true_and, and_self, and_false, false_and, ↓reduceIte, nat_add, nat_mul3, nat_mul4, nat_mul6, nat_mul15, nat_mul60, nat_cast, nc1, Int.reduceToNat, upE, upN, fill_ne, fill_in, i0] <;> omega)))
        | (with_reducible refine cl_go ?_; simp (disch := omega) only [not_false_eq_true, not_true_eq_false, w32_id, tLt, fLt, tLe, fEq, itE, and_true, true_and, and_self, and_false, false_and, ↓reduceIte, nat_add, nat_mul3, nat_mul4, nat_mul6, nat_mul15, nat_mul60, nat_cast, nc1, Int.reduceToNat, upE, upN, fill_ne, fill_in, i0])
        | rw [c_WorldText_takesNation (by omega), b_WorldText_takesNation_0]
        | with_reducible exact c1
        | (with_reducible refine rn_go ?_; simp (disch := omega) only [not_false_eq_true, not_true_eq_false, w32_id, tLt, fLt, tLe, fEq, itE, and_true, true_and, and_self, and_false, false_and, ↓reduceIte, nat_add, nat_mul3, nat_mul4, nat_mul6, nat_mul15, nat_mul60, nat_cast, nc1, Int.reduceToNat, upE, upN, fill_ne, fill_in, i0])
        | (with_reducible refine lf_go ?_; simp (disch := omega) only [not_false_eq_true, not_true_eq_false, w32_id, tLt, fLt, tLe, fEq, itE, and_true, true_and, and_self, and_false, false_and, ↓reduceIte, nat_add, nat_mul3, nat_mul4, nat_mul6, nat_mul15, nat_mul60, nat_cast, nc1, Int.reduceToNat, upE, upN, fill_ne, fill_in, i0])
        | with_reducible exact rfl
    · repeat' first
        | (with_reducible apply bR_go; (simp (disch := omega) only [rM L, rK L, rN L, rNf, rNv, rNp, rNd, rRow, rLeg, rMark, nat_cast, Int.reduceToNat]; with_reducible exact rfl))
        | with_reducible apply bI_go
        | with_reducible apply bV_go
        | with_reducible apply bL_go
        | (with_reducible apply it_1; (first | omega | (simp (disch := omega) only [not_false_eq_true, not_true_eq_false, w32_id, tLt, fLt, tLe, fEq, itE, and_true, true_and, and_self, and_false, false_and, ↓reduceIte, nat_add, nat_mul3, nat_mul4, nat_mul6, nat_mul15, nat_mul60, nat_cast, nc1, Int.reduceToNat, upE, upN, fill_ne, fill_in, i0] <;> omega)))
        | (with_reducible apply it_2; (first | omega | (simp (disch := omega) only [not_false_eq_true, not_true_eq_false, w32_id, tLt, fLt, tLe, fEq, itE, and_true, true_and, and_self, and_false, false_and, ↓reduceIte, nat_add, nat_mul3, nat_mul4, nat_mul6, nat_mul15, nat_mul60, nat_cast, nc1, Int.reduceToNat, upE, upN, fill_ne, fill_in, i0] <;> omega)))
        | (with_reducible refine cl_go ?_; simp (disch := omega) only [not_false_eq_true, not_true_eq_false, w32_id, tLt, fLt, tLe, fEq, itE, and_true, true_and, and_self, and_false, false_and, ↓reduceIte, nat_add, nat_mul3, nat_mul4, nat_mul6, nat_mul15, nat_mul60, nat_cast, nc1, Int.reduceToNat, upE, upN, fill_ne, fill_in, i0])
        | rw [c_Mo_aNation (by omega), b_Mo_aNation_0]
        | with_reducible exact c2
        | (with_reducible refine rn_go ?_; simp (disch := omega) only [not_false_eq_true, not_true_eq_false, w32_id, tLt, fLt, tLe, fEq, itE, and_true, true_and, and_self, and_false, false_and, ↓reduceIte, nat_add, nat_mul3, nat_mul4, nat_mul6, nat_mul15, nat_mul60, nat_cast, nc1, Int.reduceToNat, upE, upN, fill_ne, fill_in, i0])
        | (with_reducible refine lf_go ?_; simp (disch := omega) only [not_false_eq_true, not_true_eq_false, w32_id, tLt, fLt, tLe, fEq, itE, and_true, true_and, and_self, and_false, false_and, ↓reduceIte, nat_add, nat_mul3, nat_mul4, nat_mul6, nat_mul15, nat_mul60, nat_cast, nc1, Int.reduceToNat, upE, upN, fill_ne, fill_in, i0])
        | with_reducible exact rfl
  have c1 := c1 0 rfl
  have c2 := c2 0 6 0 rfl rfl rfl
  rw [ha] at c1 k67 lt
  rw [ha, nat_cast] at knm fA fB
  have wA : FcW M1 Ma := fun b j q1 q2 q3 => fA b j q1 (by omega) (by omega)
  have wB : FmW M2 Mb := fun b j q1 q2 q3 => fB b j (by omega) (by omega)
  have z0 := zr.1 a (by omega) (by omega)
  have tb : TK bt n qa ea Ma (up Mb 272 (2296 + 4 * a) 1) := ta.fr (fun _ _ _ => rfl) fun b j hb => upN (by omega)
  rcases k_op3 (L := L) (d1 := d1 - 1) (d2 := d2 - 1) (by omega) (by omega) tb (w := 1) (k := 9) (by omega) (by decide) 0 20 1 (to := 2296 + 4 * a) (by omega) (upE rfl rfl) (by omega) with ⟨qb, eb, v1, Mc, Md, o1, p1, hv1, tc, lb, fa1, ft1, ev1⟩ | ⟨M1', My, M2', o1, p1, p1', f, fa1, fy, fb1⟩
  rotate_left
  · right; left
    refine ⟨up M1' 73 a (-1), M2', ?_, ?_, f.u (by omega), (wA.trans fa1.w).u (by omega), (wB.u (by omega)).trans fb1.w⟩
    · repeat' first
        | (with_reducible apply bR_go; (simp (disch := omega) only [rM L, rK L, rN L, rNf, rNv, rNp, rNd, rRow, rLeg, rMark, nat_cast, Int.reduceToNat, rc]; with_reducible exact rfl))
        | with_reducible apply bI_go
        | with_reducible apply bV_go
        | with_reducible apply bL_go
        | (with_reducible apply it_1; (first | omega | (simp (disch := omega) only [not_false_eq_true, not_true_eq_false, w32_id, tLt, fLt, tLe, fEq, itE, and_true, true_and, and_self, and_false, false_and, ↓reduceIte, nat_add, nat_mul3, nat_mul4, nat_mul6, nat_mul15, nat_mul60, nat_cast, nc1, Int.reduceToNat, upE, upN, fill_ne, fill_in, i0, rc] <;> omega)))
        | (with_reducible apply it_2; (first | omega | (simp (disch := omega) only [not_false_eq_true, not_true_eq_false, w32_id, tLt, fLt, tLe, fEq, itE, and_true, true_and, and_self, and_false, false_and, ↓reduceIte, nat_add, nat_mul3, nat_mul4, nat_mul6, nat_mul15, nat_mul60, nat_cast, nc1, Int.reduceToNat, upE, upN, fill_ne, fill_in, i0, rc] <;> omega)))
        | (with_reducible refine cl_go ?_; simp (disch := omega) only [not_false_eq_true, not_true_eq_false, w32_id, tLt, fLt, tLe, fEq, itE, and_true, true_and, and_self, and_false, false_and, ↓reduceIte, nat_add, nat_mul3, nat_mul4, nat_mul6, nat_mul15, nat_mul60, nat_cast, nc1, Int.reduceToNat, upE, upN, fill_ne, fill_in, i0, rc])
        | rw [c_WorldText_takesNation (by omega), b_WorldText_takesNation_0]
        | with_reducible exact c1
        | with_reducible exact o1
        | (with_reducible refine rn_go ?_; simp (disch := omega) only [not_false_eq_true, not_true_eq_false, w32_id, tLt, fLt, tLe, fEq, itE, and_true, true_and, and_self, and_false, false_and, ↓reduceIte, nat_add, nat_mul3, nat_mul4, nat_mul6, nat_mul15, nat_mul60, nat_cast, nc1, Int.reduceToNat, upE, upN, fill_ne, fill_in, i0, rc])
        | (with_reducible refine lf_go ?_; simp (disch := omega) only [not_false_eq_true, not_true_eq_false, w32_id, tLt, fLt, tLe, fEq, itE, and_true, true_and, and_self, and_false, false_and, ↓reduceIte, nat_add, nat_mul3, nat_mul4, nat_mul6, nat_mul15, nat_mul60, nat_cast, nc1, Int.reduceToNat, upE, upN, fill_ne, fill_in, i0, rc])
        | with_reducible exact rfl
    · repeat' first
        | (with_reducible apply bR_go; (simp (disch := omega) only [rM L, rK L, rN L, rNf, rNv, rNp, rNd, rRow, rLeg, rMark, nat_cast, Int.reduceToNat, m88]; with_reducible exact rfl))
        | with_reducible apply bI_go
        | with_reducible apply bV_go
        | with_reducible apply bL_go
        | (with_reducible apply it_1; (first | omega | (simp (disch := omega) only [not_false_eq_true, not_true_eq_false, w32_id, tLt, fLt, tLe, fEq, itE, and_true, true_and, and_self, and_false, false_and, ↓reduceIte, nat_add, nat_mul3, nat_mul4, nat_mul6, nat_mul15, nat_mul60, nat_cast, nc1, Int.reduceToNat, upE, upN, fill_ne, fill_in, i0, m88] <;> omega)))
        | (with_reducible apply it_2; (first | omega | (simp (disch := omega) only [not_false_eq_true, not_true_eq_false, w32_id, tLt, fLt, tLe, fEq, itE, and_true, true_and, and_self, and_false, false_and, ↓reduceIte, nat_add, nat_mul3, nat_mul4, nat_mul6, nat_mul15, nat_mul60, nat_cast, nc1, Int.reduceToNat, upE, upN, fill_ne, fill_in, i0, m88] <;> omega)))
        | (with_reducible refine cl_go ?_; simp (disch := omega) only [not_false_eq_true, not_true_eq_false, w32_id, tLt, fLt, tLe, fEq, itE, and_true, true_and, and_self, and_false, false_and, ↓reduceIte, nat_add, nat_mul3, nat_mul4, nat_mul6, nat_mul15, nat_mul60, nat_cast, nc1, Int.reduceToNat, upE, upN, fill_ne, fill_in, i0, m88])
        | rw [c_Mo_aNation (by omega), b_Mo_aNation_0]
        | with_reducible exact c2
        | with_reducible exact p1
        | with_reducible exact p1' _ (by omega)
        | (with_reducible refine rn_go ?_; simp (disch := omega) only [not_false_eq_true, not_true_eq_false, w32_id, tLt, fLt, tLe, fEq, itE, and_true, true_and, and_self, and_false, false_and, ↓reduceIte, nat_add, nat_mul3, nat_mul4, nat_mul6, nat_mul15, nat_mul60, nat_cast, nc1, Int.reduceToNat, upE, upN, fill_ne, fill_in, i0, m88])
        | (with_reducible refine lf_go ?_; simp (disch := omega) only [not_false_eq_true, not_true_eq_false, w32_id, tLt, fLt, tLe, fEq, itE, and_true, true_and, and_self, and_false, false_and, ↓reduceIte, nat_add, nat_mul3, nat_mul4, nat_mul6, nat_mul15, nat_mul60, nat_cast, nc1, Int.reduceToNat, upE, upN, fill_ne, fill_in, i0, m88])
        | with_reducible exact rfl
  have td : TK bt n qb eb (up Mc 73 a v1) Md := tc.fr (fun b j hb => upN (by omega)) fun _ _ _ => rfl
  have x2 : Md 272 (2297 + 4 * a) = 0 := by
    rw [ft1 _ _ (by omega) (by omega), upN (by omega), fB _ _ (by omega) (by omega)]
    have := z0.1
    unfold dA at this
    rwa [show 2288 + (9 + 4 * a) = 2297 + 4 * a by omega] at this
  rcases k_op3 (L := L) (d1 := d1 - 1) (d2 := d2 - 1) (by omega) (by omega) td (w := 2) (k := 10) (by omega) (by decide) 0 9 0 (to := 2297 + 4 * a) (by omega) x2 (by omega) with ⟨qc, ec, v2, Me, Mf, o2, p2, hv2, te, lc, fa2, ft2, ev2⟩ | ⟨M1', My, M2', o2, p2, p2', f, fa2, fy, fb2⟩
  rotate_left
  · right; left
    refine ⟨up M1' 74 a (-1), M2', ?_, ?_, f.u (by omega), (((wA.trans fa1.w).u (by omega)).trans fa2.w).u (by omega), ((wB.u (by omega)).trans (ft1.w (by omega))).trans fb2.w⟩
    · repeat' first
        | (with_reducible apply bR_go; (simp (disch := omega) only [rM L, rK L, rN L, rNf, rNv, rNp, rNd, rRow, rLeg, rMark, nat_cast, Int.reduceToNat, rc]; with_reducible exact rfl))
        | with_reducible apply bI_go
        | with_reducible apply bV_go
        | with_reducible apply bL_go
        | (with_reducible apply it_1; (first | omega | (simp (disch := omega) only [not_false_eq_true, not_true_eq_false, w32_id, tLt, fLt, tLe, fEq, itE, and_true, true_and, and_self, and_false, false_and, ↓reduceIte, nat_add, nat_mul3, nat_mul4, nat_mul6, nat_mul15, nat_mul60, nat_cast, nc1, Int.reduceToNat, upE, upN, fill_ne, fill_in, i0, rc] <;> omega)))
        | (with_reducible apply it_2; (first | omega | (simp (disch := omega) only [not_false_eq_true, not_true_eq_false, w32_id, tLt, fLt, tLe, fEq, itE, and_true, true_and, and_self, and_false, false_and, ↓reduceIte, nat_add, nat_mul3, nat_mul4, nat_mul6, nat_mul15, nat_mul60, nat_cast, nc1, Int.reduceToNat, upE, upN, fill_ne, fill_in, i0, rc] <;> omega)))
        | (with_reducible refine cl_go ?_; simp (disch := omega) only [not_false_eq_true, not_true_eq_false, w32_id, tLt, fLt, tLe, fEq, itE, and_true, true_and, and_self, and_false, false_and, ↓reduceIte, nat_add, nat_mul3, nat_mul4, nat_mul6, nat_mul15, nat_mul60, nat_cast, nc1, Int.reduceToNat, upE, upN, fill_ne, fill_in, i0, rc])
        | rw [c_WorldText_takesNation (by omega), b_WorldText_takesNation_0]
        | with_reducible exact c1
        | with_reducible exact o1
        | with_reducible exact o2
        | (with_reducible refine rn_go ?_; simp (disch := omega) only [not_false_eq_true, not_true_eq_false, w32_id, tLt, fLt, tLe, fEq, itE, and_true, true_and, and_self, and_false, false_and, ↓reduceIte, nat_add, nat_mul3, nat_mul4, nat_mul6, nat_mul15, nat_mul60, nat_cast, nc1, Int.reduceToNat, upE, upN, fill_ne, fill_in, i0, rc])
        | (with_reducible refine lf_go ?_; simp (disch := omega) only [not_false_eq_true, not_true_eq_false, w32_id, tLt, fLt, tLe, fEq, itE, and_true, true_and, and_self, and_false, false_and, ↓reduceIte, nat_add, nat_mul3, nat_mul4, nat_mul6, nat_mul15, nat_mul60, nat_cast, nc1, Int.reduceToNat, upE, upN, fill_ne, fill_in, i0, rc])
        | with_reducible exact rfl
    · rcases p1 with ⟨i1, rfl⟩ | ⟨Mx1, i1, _, j1⟩
      · repeat' first
          | (with_reducible apply bR_go; (simp (disch := omega) only [rM L, rK L, rN L, rNf, rNv, rNp, rNd, rRow, rLeg, rMark, nat_cast, Int.reduceToNat, m88]; with_reducible exact rfl))
          | with_reducible apply bI_go
          | with_reducible apply bV_go
          | with_reducible apply bL_go
          | (with_reducible apply it_1; (first | omega | (simp (disch := omega) only [not_false_eq_true, not_true_eq_false, w32_id, tLt, fLt, tLe, fEq, itE, and_true, true_and, and_self, and_false, false_and, ↓reduceIte, nat_add, nat_mul3, nat_mul4, nat_mul6, nat_mul15, nat_mul60, nat_cast, nc1, Int.reduceToNat, upE, upN, fill_ne, fill_in, i0, m88] <;> omega)))
          | (with_reducible apply it_2; (first | omega | (simp (disch := omega) only [not_false_eq_true, not_true_eq_false, w32_id, tLt, fLt, tLe, fEq, itE, and_true, true_and, and_self, and_false, false_and, ↓reduceIte, nat_add, nat_mul3, nat_mul4, nat_mul6, nat_mul15, nat_mul60, nat_cast, nc1, Int.reduceToNat, upE, upN, fill_ne, fill_in, i0, m88] <;> omega)))
          | (with_reducible refine cl_go ?_; simp (disch := omega) only [not_false_eq_true, not_true_eq_false, w32_id, tLt, fLt, tLe, fEq, itE, and_true, true_and, and_self, and_false, false_and, ↓reduceIte, nat_add, nat_mul3, nat_mul4, nat_mul6, nat_mul15, nat_mul60, nat_cast, nc1, Int.reduceToNat, upE, upN, fill_ne, fill_in, i0, m88])
          | rw [c_Mo_aNation (by omega), b_Mo_aNation_0]
          | with_reducible exact c2
          | with_reducible exact i1
          | with_reducible exact p2
          | with_reducible exact p2' _ (by omega)
          | (with_reducible refine rn_go ?_; simp (disch := omega) only [not_false_eq_true, not_true_eq_false, w32_id, tLt, fLt, tLe, fEq, itE, and_true, true_and, and_self, and_false, false_and, ↓reduceIte, nat_add, nat_mul3, nat_mul4, nat_mul6, nat_mul15, nat_mul60, nat_cast, nc1, Int.reduceToNat, upE, upN, fill_ne, fill_in, i0, m88])
          | (with_reducible refine lf_go ?_; simp (disch := omega) only [not_false_eq_true, not_true_eq_false, w32_id, tLt, fLt, tLe, fEq, itE, and_true, true_and, and_self, and_false, false_and, ↓reduceIte, nat_add, nat_mul3, nat_mul4, nat_mul6, nat_mul15, nat_mul60, nat_cast, nc1, Int.reduceToNat, upE, upN, fill_ne, fill_in, i0, m88])
          | with_reducible exact rfl
      · repeat' first
          | (with_reducible apply bR_go; (simp (disch := omega) only [rM L, rK L, rN L, rNf, rNv, rNp, rNd, rRow, rLeg, rMark, nat_cast, Int.reduceToNat, m88]; with_reducible exact rfl))
          | with_reducible apply bI_go
          | with_reducible apply bV_go
          | with_reducible apply bL_go
          | (with_reducible apply it_1; (first | omega | (simp (disch := omega) only [not_false_eq_true, not_true_eq_false, w32_id, tLt, fLt, tLe, fEq, itE, and_true, true_and, and_self, and_false, false_and, ↓reduceIte, nat_add, nat_mul3, nat_mul4, nat_mul6, nat_mul15, nat_mul60, nat_cast, nc1, Int.reduceToNat, upE, upN, fill_ne, fill_in, i0, m88] <;> omega)))
          | (with_reducible apply it_2; (first | omega | (simp (disch := omega) only [not_false_eq_true, not_true_eq_false, w32_id, tLt, fLt, tLe, fEq, itE, and_true, true_and, and_self, and_false, false_and, ↓reduceIte, nat_add, nat_mul3, nat_mul4, nat_mul6, nat_mul15, nat_mul60, nat_cast, nc1, Int.reduceToNat, upE, upN, fill_ne, fill_in, i0, m88] <;> omega)))
          | (with_reducible refine cl_go ?_; simp (disch := omega) only [not_false_eq_true, not_true_eq_false, w32_id, tLt, fLt, tLe, fEq, itE, and_true, true_and, and_self, and_false, false_and, ↓reduceIte, nat_add, nat_mul3, nat_mul4, nat_mul6, nat_mul15, nat_mul60, nat_cast, nc1, Int.reduceToNat, upE, upN, fill_ne, fill_in, i0, m88])
          | rw [c_Mo_aNation (by omega), b_Mo_aNation_0]
          | with_reducible exact c2
          | with_reducible exact i1
          | with_reducible exact j1 _ (by omega)
          | with_reducible exact p2
          | with_reducible exact p2' _ (by omega)
          | (with_reducible refine rn_go ?_; simp (disch := omega) only [not_false_eq_true, not_true_eq_false, w32_id, tLt, fLt, tLe, fEq, itE, and_true, true_and, and_self, and_false, false_and, ↓reduceIte, nat_add, nat_mul3, nat_mul4, nat_mul6, nat_mul15, nat_mul60, nat_cast, nc1, Int.reduceToNat, upE, upN, fill_ne, fill_in, i0, m88])
          | (with_reducible refine lf_go ?_; simp (disch := omega) only [not_false_eq_true, not_true_eq_false, w32_id, tLt, fLt, tLe, fEq, itE, and_true, true_and, and_self, and_false, false_and, ↓reduceIte, nat_add, nat_mul3, nat_mul4, nat_mul6, nat_mul15, nat_mul60, nat_cast, nc1, Int.reduceToNat, upE, upN, fill_ne, fill_in, i0, m88])
          | with_reducible exact rfl
  have tf : TK bt n qc ec (up Me 74 a v2) Mf := te.fr (fun b j hb => upN (by omega)) fun _ _ _ => rfl
  have x3 : Mf 272 (2298 + 4 * a) = 0 := by
    rw [ft2 _ _ (by omega) (by omega), ft1 _ _ (by omega) (by omega), upN (by omega), fB _ _ (by omega) (by omega)]
    have := z0.2.1
    unfold dA at this
    rwa [show 2288 + (10 + 4 * a) = 2298 + 4 * a by omega] at this
  rcases k_op3 (L := L) (d1 := d1 - 1) (d2 := d2 - 1) (by omega) (by omega) tf (w := 3) (k := 11) (by omega) (by decide) 0 255 0 (to := 2298 + 4 * a) (by omega) x3 (by omega) with ⟨qd, ed, v3, Mg, Mh, o3, p3, hv3, tg, ld, fa3, ft3, ev3⟩ | ⟨M1', My, M2', o3, p3, p3', f, fa3, fy, fb3⟩
  rotate_left
  · right; left
    refine ⟨up M1' 75 a (-1), M2', ?_, ?_, f.u (by omega), (((((wA.trans fa1.w).u (by omega)).trans fa2.w).u (by omega)).trans fa3.w).u (by omega), (((wB.u (by omega)).trans (ft1.w (by omega))).trans (ft2.w (by omega))).trans fb3.w⟩
    · repeat' first
        | (with_reducible apply bR_go; (simp (disch := omega) only [rM L, rK L, rN L, rNf, rNv, rNp, rNd, rRow, rLeg, rMark, nat_cast, Int.reduceToNat, rc]; with_reducible exact rfl))
        | with_reducible apply bI_go
        | with_reducible apply bV_go
        | with_reducible apply bL_go
        | (with_reducible apply it_1; (first | omega | (simp (disch := omega) only [not_false_eq_true, not_true_eq_false, w32_id, tLt, fLt, tLe, fEq, itE, and_true, true_and, and_self, and_false, false_and, ↓reduceIte, nat_add, nat_mul3, nat_mul4, nat_mul6, nat_mul15, nat_mul60, nat_cast, nc1, Int.reduceToNat, upE, upN, fill_ne, fill_in, i0, rc] <;> omega)))
        | (with_reducible apply it_2; (first | omega | (simp (disch := omega) only [not_false_eq_true, not_true_eq_false, w32_id, tLt, fLt, tLe, fEq, itE, and_true, true_and, and_self, and_false, false_and, ↓reduceIte, nat_add, nat_mul3, nat_mul4, nat_mul6, nat_mul15, nat_mul60, nat_cast, nc1, Int.reduceToNat, upE, upN, fill_ne, fill_in, i0, rc] <;> omega)))
        | (with_reducible refine cl_go ?_; simp (disch := omega) only [not_false_eq_true, not_true_eq_false, w32_id, tLt, fLt, tLe, fEq, itE, and_true, true_and, and_self, and_false, false_and, ↓reduceIte, nat_add, nat_mul3, nat_mul4, nat_mul6, nat_mul15, nat_mul60, nat_cast, nc1, Int.reduceToNat, upE, upN, fill_ne, fill_in, i0, rc])
        | rw [c_WorldText_takesNation (by omega), b_WorldText_takesNation_0]
        | with_reducible exact c1
        | with_reducible exact o1
        | with_reducible exact o2
        | with_reducible exact o3
        | (with_reducible refine rn_go ?_; simp (disch := omega) only [not_false_eq_true, not_true_eq_false, w32_id, tLt, fLt, tLe, fEq, itE, and_true, true_and, and_self, and_false, false_and, ↓reduceIte, nat_add, nat_mul3, nat_mul4, nat_mul6, nat_mul15, nat_mul60, nat_cast, nc1, Int.reduceToNat, upE, upN, fill_ne, fill_in, i0, rc])
        | (with_reducible refine lf_go ?_; simp (disch := omega) only [not_false_eq_true, not_true_eq_false, w32_id, tLt, fLt, tLe, fEq, itE, and_true, true_and, and_self, and_false, false_and, ↓reduceIte, nat_add, nat_mul3, nat_mul4, nat_mul6, nat_mul15, nat_mul60, nat_cast, nc1, Int.reduceToNat, upE, upN, fill_ne, fill_in, i0, rc])
        | with_reducible exact rfl
    · rcases p1 with ⟨i1, rfl⟩ | ⟨Mx1, i1, _, j1⟩
      · rcases p2 with ⟨i2, rfl⟩ | ⟨Mx2, i2, _, j2⟩
        · repeat' first
            | (with_reducible apply bR_go; (simp (disch := omega) only [rM L, rK L, rN L, rNf, rNv, rNp, rNd, rRow, rLeg, rMark, nat_cast, Int.reduceToNat, m88]; with_reducible exact rfl))
            | with_reducible apply bI_go
            | with_reducible apply bV_go
            | with_reducible apply bL_go
            | (with_reducible apply it_1; (first | omega | (simp (disch := omega) only [not_false_eq_true, not_true_eq_false, w32_id, tLt, fLt, tLe, fEq, itE, and_true, true_and, and_self, and_false, false_and, ↓reduceIte, nat_add, nat_mul3, nat_mul4, nat_mul6, nat_mul15, nat_mul60, nat_cast, nc1, Int.reduceToNat, upE, upN, fill_ne, fill_in, i0, m88] <;> omega)))
            | (with_reducible apply it_2; (first | omega | (simp (disch := omega) only [not_false_eq_true, not_true_eq_false, w32_id, tLt, fLt, tLe, fEq, itE, and_true, true_and, and_self, and_false, false_and, ↓reduceIte, nat_add, nat_mul3, nat_mul4, nat_mul6, nat_mul15, nat_mul60, nat_cast, nc1, Int.reduceToNat, upE, upN, fill_ne, fill_in, i0, m88] <;> omega)))
            | (with_reducible refine cl_go ?_; simp (disch := omega) only [not_false_eq_true, not_true_eq_false, w32_id, tLt, fLt, tLe, fEq, itE, and_true, true_and, and_self, and_false, false_and, ↓reduceIte, nat_add, nat_mul3, nat_mul4, nat_mul6, nat_mul15, nat_mul60, nat_cast, nc1, Int.reduceToNat, upE, upN, fill_ne, fill_in, i0, m88])
            | rw [c_Mo_aNation (by omega), b_Mo_aNation_0]
            | with_reducible exact c2
            | with_reducible exact i1
            | with_reducible exact i2
            | with_reducible exact p3
            | with_reducible exact p3' _ (by omega)
            | (with_reducible refine rn_go ?_; simp (disch := omega) only [not_false_eq_true, not_true_eq_false, w32_id, tLt, fLt, tLe, fEq, itE, and_true, true_and, and_self, and_false, false_and, ↓reduceIte, nat_add, nat_mul3, nat_mul4, nat_mul6, nat_mul15, nat_mul60, nat_cast, nc1, Int.reduceToNat, upE, upN, fill_ne, fill_in, i0, m88])
            | (with_reducible refine lf_go ?_; simp (disch := omega) only [not_false_eq_true, not_true_eq_false, w32_id, tLt, fLt, tLe, fEq, itE, and_true, true_and, and_self, and_false, false_and, ↓reduceIte, nat_add, nat_mul3, nat_mul4, nat_mul6, nat_mul15, nat_mul60, nat_cast, nc1, Int.reduceToNat, upE, upN, fill_ne, fill_in, i0, m88])
            | with_reducible exact rfl
        · repeat' first
            | (with_reducible apply bR_go; (simp (disch := omega) only [rM L, rK L, rN L, rNf, rNv, rNp, rNd, rRow, rLeg, rMark, nat_cast, Int.reduceToNat, m88]; with_reducible exact rfl))
            | with_reducible apply bI_go
            | with_reducible apply bV_go
            | with_reducible apply bL_go
            | (with_reducible apply it_1; (first | omega | (simp (disch := omega) only [not_false_eq_true, not_true_eq_false, w32_id, tLt, fLt, tLe, fEq, itE, and_true, true_and, and_self, and_false, false_and, ↓reduceIte, nat_add, nat_mul3, nat_mul4, nat_mul6, nat_mul15, nat_mul60, nat_cast, nc1, Int.reduceToNat, upE, upN, fill_ne, fill_in, i0, m88] <;> omega)))
            | (with_reducible apply it_2; (first | omega | (simp (disch := omega) only [not_false_eq_true, not_true_eq_false, w32_id, tLt, fLt, tLe, fEq, itE, and_true, true_and, and_self, and_false, false_and, ↓reduceIte, nat_add, nat_mul3, nat_mul4, nat_mul6, nat_mul15, nat_mul60, nat_cast, nc1, Int.reduceToNat, upE, upN, fill_ne, fill_in, i0, m88] <;> omega)))
            | (with_reducible refine cl_go ?_; simp (disch := omega) only [not_false_eq_true, not_true_eq_false, w32_id, tLt, fLt, tLe, fEq, itE, and_true, true_and, and_self, and_false, false_and, ↓reduceIte, nat_add, nat_mul3, nat_mul4, nat_mul6, nat_mul15, nat_mul60, nat_cast, nc1, Int.reduceToNat, upE, upN, fill_ne, fill_in, i0, m88])
            | rw [c_Mo_aNation (by omega), b_Mo_aNation_0]
            | with_reducible exact c2
            | with_reducible exact i1
            | with_reducible exact i2
            | with_reducible exact j2 _ (by omega)
            | with_reducible exact p3
            | with_reducible exact p3' _ (by omega)
            | (with_reducible refine rn_go ?_; simp (disch := omega) only [not_false_eq_true, not_true_eq_false, w32_id, tLt, fLt, tLe, fEq, itE, and_true, true_and, and_self, and_false, false_and, ↓reduceIte, nat_add, nat_mul3, nat_mul4, nat_mul6, nat_mul15, nat_mul60, nat_cast, nc1, Int.reduceToNat, upE, upN, fill_ne, fill_in, i0, m88])
            | (with_reducible refine lf_go ?_; simp (disch := omega) only [not_false_eq_true, not_true_eq_false, w32_id, tLt, fLt, tLe, fEq, itE, and_true, true_and, and_self, and_false, false_and, ↓reduceIte, nat_add, nat_mul3, nat_mul4, nat_mul6, nat_mul15, nat_mul60, nat_cast, nc1, Int.reduceToNat, upE, upN, fill_ne, fill_in, i0, m88])
            | with_reducible exact rfl
      · rcases p2 with ⟨i2, rfl⟩ | ⟨Mx2, i2, _, j2⟩
        · repeat' first
            | (with_reducible apply bR_go; (simp (disch := omega) only [rM L, rK L, rN L, rNf, rNv, rNp, rNd, rRow, rLeg, rMark, nat_cast, Int.reduceToNat, m88]; with_reducible exact rfl))
            | with_reducible apply bI_go
            | with_reducible apply bV_go
            | with_reducible apply bL_go
            | (with_reducible apply it_1; (first | omega | (simp (disch := omega) only [not_false_eq_true, not_true_eq_false, w32_id, tLt, fLt, tLe, fEq, itE, and_true, true_and, and_self, and_false, false_and, ↓reduceIte, nat_add, nat_mul3, nat_mul4, nat_mul6, nat_mul15, nat_mul60, nat_cast, nc1, Int.reduceToNat, upE, upN, fill_ne, fill_in, i0, m88] <;> omega)))
            | (with_reducible apply it_2; (first | omega | (simp (disch := omega) only [not_false_eq_true, not_true_eq_false, w32_id, tLt, fLt, tLe, fEq, itE, and_true, true_and, and_self, and_false, false_and, ↓reduceIte, nat_add, nat_mul3, nat_mul4, nat_mul6, nat_mul15, nat_mul60, nat_cast, nc1, Int.reduceToNat, upE, upN, fill_ne, fill_in, i0, m88] <;> omega)))
            | (with_reducible refine cl_go ?_; simp (disch := omega) only [not_false_eq_true, not_true_eq_false, w32_id, tLt, fLt, tLe, fEq, itE, and_true, true_and, and_self, and_false, false_and, ↓reduceIte, nat_add, nat_mul3, nat_mul4, nat_mul6, nat_mul15, nat_mul60, nat_cast, nc1, Int.reduceToNat, upE, upN, fill_ne, fill_in, i0, m88])
            | rw [c_Mo_aNation (by omega), b_Mo_aNation_0]
            | with_reducible exact c2
            | with_reducible exact i1
            | with_reducible exact j1 _ (by omega)
            | with_reducible exact i2
            | with_reducible exact p3
            | with_reducible exact p3' _ (by omega)
            | (with_reducible refine rn_go ?_; simp (disch := omega) only [not_false_eq_true, not_true_eq_false, w32_id, tLt, fLt, tLe, fEq, itE, and_true, true_and, and_self, and_false, false_and, ↓reduceIte, nat_add, nat_mul3, nat_mul4, nat_mul6, nat_mul15, nat_mul60, nat_cast, nc1, Int.reduceToNat, upE, upN, fill_ne, fill_in, i0, m88])
            | (with_reducible refine lf_go ?_; simp (disch := omega) only [not_false_eq_true, not_true_eq_false, w32_id, tLt, fLt, tLe, fEq, itE, and_true, true_and, and_self, and_false, false_and, ↓reduceIte, nat_add, nat_mul3, nat_mul4, nat_mul6, nat_mul15, nat_mul60, nat_cast, nc1, Int.reduceToNat, upE, upN, fill_ne, fill_in, i0, m88])
            | with_reducible exact rfl
        · repeat' first
            | (with_reducible apply bR_go; (simp (disch := omega) only [rM L, rK L, rN L, rNf, rNv, rNp, rNd, rRow, rLeg, rMark, nat_cast, Int.reduceToNat, m88]; with_reducible exact rfl))
            | with_reducible apply bI_go
            | with_reducible apply bV_go
            | with_reducible apply bL_go
            | (with_reducible apply it_1; (first | omega | (simp (disch := omega) only [not_false_eq_true, not_true_eq_false, w32_id, tLt, fLt, tLe, fEq, itE, and_true, true_and, and_self, and_false, false_and, ↓reduceIte, nat_add, nat_mul3, nat_mul4, nat_mul6, nat_mul15, nat_mul60, nat_cast, nc1, Int.reduceToNat, upE, upN, fill_ne, fill_in, i0, m88] <;> omega)))
            | (with_reducible apply it_2; (first | omega | (simp (disch := omega) only [not_false_eq_true, not_true_eq_false, w32_id, tLt, fLt, tLe, fEq, itE, and_true, true_and, and_self, and_false, false_and, ↓reduceIte, nat_add, nat_mul3, nat_mul4, nat_mul6, nat_mul15, nat_mul60, nat_cast, nc1, Int.reduceToNat, upE, upN, fill_ne, fill_in, i0, m88] <;> omega)))
            | (with_reducible refine cl_go ?_; simp (disch := omega) only [not_false_eq_true, not_true_eq_false, w32_id, tLt, fLt, tLe, fEq, itE, and_true, true_and, and_self, and_false, false_and, ↓reduceIte, nat_add, nat_mul3, nat_mul4, nat_mul6, nat_mul15, nat_mul60, nat_cast, nc1, Int.reduceToNat, upE, upN, fill_ne, fill_in, i0, m88])
            | rw [c_Mo_aNation (by omega), b_Mo_aNation_0]
            | with_reducible exact c2
            | with_reducible exact i1
            | with_reducible exact j1 _ (by omega)
            | with_reducible exact i2
            | with_reducible exact j2 _ (by omega)
            | with_reducible exact p3
            | with_reducible exact p3' _ (by omega)
            | (with_reducible refine rn_go ?_; simp (disch := omega) only [not_false_eq_true, not_true_eq_false, w32_id, tLt, fLt, tLe, fEq, itE, and_true, true_and, and_self, and_false, false_and, ↓reduceIte, nat_add, nat_mul3, nat_mul4, nat_mul6, nat_mul15, nat_mul60, nat_cast, nc1, Int.reduceToNat, upE, upN, fill_ne, fill_in, i0, m88])
            | (with_reducible refine lf_go ?_; simp (disch := omega) only [not_false_eq_true, not_true_eq_false, w32_id, tLt, fLt, tLe, fEq, itE, and_true, true_and, and_self, and_false, false_and, ↓reduceIte, nat_add, nat_mul3, nat_mul4, nat_mul6, nat_mul15, nat_mul60, nat_cast, nc1, Int.reduceToNat, upE, upN, fill_ne, fill_in, i0, m88])
            | with_reducible exact rfl
  have h88 : Mh 272 2288 = (a : Int) := by rw [ft3 _ _ (by omega) (by omega), ft2 _ _ (by omega) (by omega), ft1 _ _ (by omega) (by omega), upN (by omega), fB _ _ (by omega) (by omega)]; exact m88
  have th : TK bt n qd ed (up Mg 75 a v3) (up Mh 272 2288 ((a : Int) + 1)) := tg.fr (fun b j hb => upN (by omega)) fun b j hb => upN (by omega)
  have b88 : Mb 272 2288 = (a : Int) := by rw [fB _ _ (by omega) (by omega)]; exact m88
  -- the model's row is made
  have mo : callD d2 m_Mo_aNation [vR 12 0 271] (SH L) M2 = some (some (vI 1), SH L, up Mh 272 2288 ((a : Int) + 1)) := by
    clear x2 x3
    rcases p1 with ⟨i1, rfl⟩ | ⟨Mx1, i1, _, j1⟩
    · rcases p2 with ⟨i2, rfl⟩ | ⟨Mx2, i2, _, j2⟩
      · rcases p3 with ⟨i3, rfl⟩ | ⟨Mx3, i3, _, j3⟩
        · repeat' first
            | (with_reducible apply bR_go; (simp (disch := omega) only [rM L, rK L, rN L, rNf, rNv, rNp, rNd, rRow, rLeg, rMark, nat_cast, Int.reduceToNat, m88, h88, b88]; with_reducible exact rfl))
            | with_reducible apply bI_go
            | with_reducible apply bV_go
            | with_reducible apply bL_go
            | (with_reducible apply it_1; (first | omega | (simp (disch := omega) only [not_false_eq_true, not_true_eq_false, w32_id, tLt, fLt, tLe, fEq, itE, and_true, true_and, and_self, and_false, false_and, ↓reduceIte, nat_add, nat_mul3, nat_mul4, nat_mul6, nat_mul15, nat_mul60, nat_cast, nc1, Int.reduceToNat, upE, upN, fill_ne, fill_in, i0, m88, h88, b88] <;> omega)))
            | (with_reducible apply it_2; (first | omega | (simp (disch := omega) only [not_false_eq_true, not_true_eq_false, w32_id, tLt, fLt, tLe, fEq, itE, and_true, true_and, and_self, and_false, false_and, ↓reduceIte, nat_add, nat_mul3, nat_mul4, nat_mul6, nat_mul15, nat_mul60, nat_cast, nc1, Int.reduceToNat, upE, upN, fill_ne, fill_in, i0, m88, h88, b88] <;> omega)))
            | (with_reducible refine cl_go ?_; simp (disch := omega) only [not_false_eq_true, not_true_eq_false, w32_id, tLt, fLt, tLe, fEq, itE, and_true, true_and, and_self, and_false, false_and, ↓reduceIte, nat_add, nat_mul3, nat_mul4, nat_mul6, nat_mul15, nat_mul60, nat_cast, nc1, Int.reduceToNat, upE, upN, fill_ne, fill_in, i0, m88, h88, b88])
            | rw [c_Mo_aNation (by omega), b_Mo_aNation_0]
            | with_reducible exact c2
            | with_reducible exact i1
            | with_reducible exact i2
            | with_reducible exact i3
            | (with_reducible refine rn_go ?_; simp (disch := omega) only [not_false_eq_true, not_true_eq_false, w32_id, tLt, fLt, tLe, fEq, itE, and_true, true_and, and_self, and_false, false_and, ↓reduceIte, nat_add, nat_mul3, nat_mul4, nat_mul6, nat_mul15, nat_mul60, nat_cast, nc1, Int.reduceToNat, upE, upN, fill_ne, fill_in, i0, m88, h88, b88])
            | (with_reducible refine lf_go ?_; simp (disch := omega) only [not_false_eq_true, not_true_eq_false, w32_id, tLt, fLt, tLe, fEq, itE, and_true, true_and, and_self, and_false, false_and, ↓reduceIte, nat_add, nat_mul3, nat_mul4, nat_mul6, nat_mul15, nat_mul60, nat_cast, nc1, Int.reduceToNat, upE, upN, fill_ne, fill_in, i0, m88, h88, b88])
            | with_reducible exact rfl
        · repeat' first
            | (with_reducible apply bR_go; (simp (disch := omega) only [rM L, rK L, rN L, rNf, rNv, rNp, rNd, rRow, rLeg, rMark, nat_cast, Int.reduceToNat, m88, h88, b88]; with_reducible exact rfl))
            | with_reducible apply bI_go
            | with_reducible apply bV_go
            | with_reducible apply bL_go
            | (with_reducible apply it_1; (first | omega | (simp (disch := omega) only [not_false_eq_true, not_true_eq_false, w32_id, tLt, fLt, tLe, fEq, itE, and_true, true_and, and_self, and_false, false_and, ↓reduceIte, nat_add, nat_mul3, nat_mul4, nat_mul6, nat_mul15, nat_mul60, nat_cast, nc1, Int.reduceToNat, upE, upN, fill_ne, fill_in, i0, m88, h88, b88] <;> omega)))
            | (with_reducible apply it_2; (first | omega | (simp (disch := omega) only [not_false_eq_true, not_true_eq_false, w32_id, tLt, fLt, tLe, fEq, itE, and_true, true_and, and_self, and_false, false_and, ↓reduceIte, nat_add, nat_mul3, nat_mul4, nat_mul6, nat_mul15, nat_mul60, nat_cast, nc1, Int.reduceToNat, upE, upN, fill_ne, fill_in, i0, m88, h88, b88] <;> omega)))
            | (with_reducible refine cl_go ?_; simp (disch := omega) only [not_false_eq_true, not_true_eq_false, w32_id, tLt, fLt, tLe, fEq, itE, and_true, true_and, and_self, and_false, false_and, ↓reduceIte, nat_add, nat_mul3, nat_mul4, nat_mul6, nat_mul15, nat_mul60, nat_cast, nc1, Int.reduceToNat, upE, upN, fill_ne, fill_in, i0, m88, h88, b88])
            | rw [c_Mo_aNation (by omega), b_Mo_aNation_0]
            | with_reducible exact c2
            | with_reducible exact i1
            | with_reducible exact i2
            | with_reducible exact i3
            | with_reducible exact j3 _ (by omega)
            | (with_reducible refine rn_go ?_; simp (disch := omega) only [not_false_eq_true, not_true_eq_false, w32_id, tLt, fLt, tLe, fEq, itE, and_true, true_and, and_self, and_false, false_and, ↓reduceIte, nat_add, nat_mul3, nat_mul4, nat_mul6, nat_mul15, nat_mul60, nat_cast, nc1, Int.reduceToNat, upE, upN, fill_ne, fill_in, i0, m88, h88, b88])
            | (with_reducible refine lf_go ?_; simp (disch := omega) only [not_false_eq_true, not_true_eq_false, w32_id, tLt, fLt, tLe, fEq, itE, and_true, true_and, and_self, and_false, false_and, ↓reduceIte, nat_add, nat_mul3, nat_mul4, nat_mul6, nat_mul15, nat_mul60, nat_cast, nc1, Int.reduceToNat, upE, upN, fill_ne, fill_in, i0, m88, h88, b88])
            | with_reducible exact rfl
      · rcases p3 with ⟨i3, rfl⟩ | ⟨Mx3, i3, _, j3⟩
        · repeat' first
            | (with_reducible apply bR_go; (simp (disch := omega) only [rM L, rK L, rN L, rNf, rNv, rNp, rNd, rRow, rLeg, rMark, nat_cast, Int.reduceToNat, m88, h88, b88]; with_reducible exact rfl))
            | with_reducible apply bI_go
            | with_reducible apply bV_go
            | with_reducible apply bL_go
            | (with_reducible apply it_1; (first | omega | (simp (disch := omega) only [not_false_eq_true, not_true_eq_false, w32_id, tLt, fLt, tLe, fEq, itE, and_true, true_and, and_self, and_false, false_and, ↓reduceIte, nat_add, nat_mul3, nat_mul4, nat_mul6, nat_mul15, nat_mul60, nat_cast, nc1, Int.reduceToNat, upE, upN, fill_ne, fill_in, i0, m88, h88, b88] <;> omega)))
            | (with_reducible apply it_2; (first | omega | (simp (disch := omega) only [not_false_eq_true, not_true_eq_false, w32_id, tLt, fLt, tLe, fEq, itE, and_true, true_and, and_self, and_false, false_and, ↓reduceIte, nat_add, nat_mul3, nat_mul4, nat_mul6, nat_mul15, nat_mul60, nat_cast, nc1, Int.reduceToNat, upE, upN, fill_ne, fill_in, i0, m88, h88, b88] <;> omega)))
            | (with_reducible refine cl_go ?_; simp (disch := omega) only [not_false_eq_true, not_true_eq_false, w32_id, tLt, fLt, tLe, fEq, itE, and_true, true_and, and_self, and_false, false_and, ↓reduceIte, nat_add, nat_mul3, nat_mul4, nat_mul6, nat_mul15, nat_mul60, nat_cast, nc1, Int.reduceToNat, upE, upN, fill_ne, fill_in, i0, m88, h88, b88])
            | rw [c_Mo_aNation (by omega), b_Mo_aNation_0]
            | with_reducible exact c2
            | with_reducible exact i1
            | with_reducible exact i2
            | with_reducible exact j2 _ (by omega)
            | with_reducible exact i3
            | (with_reducible refine rn_go ?_; simp (disch := omega) only [not_false_eq_true, not_true_eq_false, w32_id, tLt, fLt, tLe, fEq, itE, and_true, true_and, and_self, and_false, false_and, ↓reduceIte, nat_add, nat_mul3, nat_mul4, nat_mul6, nat_mul15, nat_mul60, nat_cast, nc1, Int.reduceToNat, upE, upN, fill_ne, fill_in, i0, m88, h88, b88])
            | (with_reducible refine lf_go ?_; simp (disch := omega) only [not_false_eq_true, not_true_eq_false, w32_id, tLt, fLt, tLe, fEq, itE, and_true, true_and, and_self, and_false, false_and, ↓reduceIte, nat_add, nat_mul3, nat_mul4, nat_mul6, nat_mul15, nat_mul60, nat_cast, nc1, Int.reduceToNat, upE, upN, fill_ne, fill_in, i0, m88, h88, b88])
            | with_reducible exact rfl
        · repeat' first
            | (with_reducible apply bR_go; (simp (disch := omega) only [rM L, rK L, rN L, rNf, rNv, rNp, rNd, rRow, rLeg, rMark, nat_cast, Int.reduceToNat, m88, h88, b88]; with_reducible exact rfl))
            | with_reducible apply bI_go
            | with_reducible apply bV_go
            | with_reducible apply bL_go
            | (with_reducible apply it_1; (first | omega | (simp (disch := omega) only [not_false_eq_true, not_true_eq_false, w32_id, tLt, fLt, tLe, fEq, itE, and_true, true_and, and_self, and_false, false_and, ↓reduceIte, nat_add, nat_mul3, nat_mul4, nat_mul6, nat_mul15, nat_mul60, nat_cast, nc1, Int.reduceToNat, upE, upN, fill_ne, fill_in, i0, m88, h88, b88] <;> omega)))
            | (with_reducible apply it_2; (first | omega | (simp (disch := omega) only [not_false_eq_true, not_true_eq_false, w32_id, tLt, fLt, tLe, fEq, itE, and_true, true_and, and_self, and_false, false_and, ↓reduceIte, nat_add, nat_mul3, nat_mul4, nat_mul6, nat_mul15, nat_mul60, nat_cast, nc1, Int.reduceToNat, upE, upN, fill_ne, fill_in, i0, m88, h88, b88] <;> omega)))
            | (with_reducible refine cl_go ?_; simp (disch := omega) only [not_false_eq_true, not_true_eq_false, w32_id, tLt, fLt, tLe, fEq, itE, and_true, true_and, and_self, and_false, false_and, ↓reduceIte, nat_add, nat_mul3, nat_mul4, nat_mul6, nat_mul15, nat_mul60, nat_cast, nc1, Int.reduceToNat, upE, upN, fill_ne, fill_in, i0, m88, h88, b88])
            | rw [c_Mo_aNation (by omega), b_Mo_aNation_0]
            | with_reducible exact c2
            | with_reducible exact i1
            | with_reducible exact i2
            | with_reducible exact j2 _ (by omega)
            | with_reducible exact i3
            | with_reducible exact j3 _ (by omega)
            | (with_reducible refine rn_go ?_; simp (disch := omega) only [not_false_eq_true, not_true_eq_false, w32_id, tLt, fLt, tLe, fEq, itE, and_true, true_and, and_self, and_false, false_and, ↓reduceIte, nat_add, nat_mul3, nat_mul4, nat_mul6, nat_mul15, nat_mul60, nat_cast, nc1, Int.reduceToNat, upE, upN, fill_ne, fill_in, i0, m88, h88, b88])
            | (with_reducible refine lf_go ?_; simp (disch := omega) only [not_false_eq_true, not_true_eq_false, w32_id, tLt, fLt, tLe, fEq, itE, and_true, true_and, and_self, and_false, false_and, ↓reduceIte, nat_add, nat_mul3, nat_mul4, nat_mul6, nat_mul15, nat_mul60, nat_cast, nc1, Int.reduceToNat, upE, upN, fill_ne, fill_in, i0, m88, h88, b88])
            | with_reducible exact rfl
    · rcases p2 with ⟨i2, rfl⟩ | ⟨Mx2, i2, _, j2⟩
      · rcases p3 with ⟨i3, rfl⟩ | ⟨Mx3, i3, _, j3⟩
        · repeat' first
            | (with_reducible apply bR_go; (simp (disch := omega) only [rM L, rK L, rN L, rNf, rNv, rNp, rNd, rRow, rLeg, rMark, nat_cast, Int.reduceToNat, m88, h88, b88]; with_reducible exact rfl))
            | with_reducible apply bI_go
            | with_reducible apply bV_go
            | with_reducible apply bL_go
            | (with_reducible apply it_1; (first | omega | (simp (disch := omega) only [not_false_eq_true, not_true_eq_false, w32_id, tLt, fLt, tLe, fEq, itE, and_true, true_and, and_self, and_false, false_and, ↓reduceIte, nat_add, nat_mul3, nat_mul4, nat_mul6, nat_mul15, nat_mul60, nat_cast, nc1, Int.reduceToNat, upE, upN, fill_ne, fill_in, i0, m88, h88, b88] <;> omega)))
            | (with_reducible apply it_2; (first | omega | (simp (disch := omega) only [not_false_eq_true, not_true_eq_false, w32_id, tLt, fLt, tLe, fEq, itE, and_true, true_and, and_self, and_false, false_and, ↓reduceIte, nat_add, nat_mul3, nat_mul4, nat_mul6, nat_mul15, nat_mul60, nat_cast, nc1, Int.reduceToNat, upE, upN, fill_ne, fill_in, i0, m88, h88, b88] <;> omega)))
            | (with_reducible refine cl_go ?_; simp (disch := omega) only [not_false_eq_true, not_true_eq_false, w32_id, tLt, fLt, tLe, fEq, itE, and_true, true_and, and_self, and_false, false_and, ↓reduceIte, nat_add, nat_mul3, nat_mul4, nat_mul6, nat_mul15, nat_mul60, nat_cast, nc1, Int.reduceToNat, upE, upN, fill_ne, fill_in, i0, m88, h88, b88])
            | rw [c_Mo_aNation (by omega), b_Mo_aNation_0]
            | with_reducible exact c2
            | with_reducible exact i1
            | with_reducible exact j1 _ (by omega)
            | with_reducible exact i2
            | with_reducible exact i3
            | (with_reducible refine rn_go ?_; simp (disch := omega) only [not_false_eq_true, not_true_eq_false, w32_id, tLt, fLt, tLe, fEq, itE, and_true, true_and, and_self, and_false, false_and, ↓reduceIte, nat_add, nat_mul3, nat_mul4, nat_mul6, nat_mul15, nat_mul60, nat_cast, nc1, Int.reduceToNat, upE, upN, fill_ne, fill_in, i0, m88, h88, b88])
            | (with_reducible refine lf_go ?_; simp (disch := omega) only [not_false_eq_true, not_true_eq_false, w32_id, tLt, fLt, tLe, fEq, itE, and_true, true_and, and_self, and_false, false_and, ↓reduceIte, nat_add, nat_mul3, nat_mul4, nat_mul6, nat_mul15, nat_mul60, nat_cast, nc1, Int.reduceToNat, upE, upN, fill_ne, fill_in, i0, m88, h88, b88])
            | with_reducible exact rfl
        · repeat' first
            | (with_reducible apply bR_go; (simp (disch := omega) only [rM L, rK L, rN L, rNf, rNv, rNp, rNd, rRow, rLeg, rMark, nat_cast, Int.reduceToNat, m88, h88, b88]; with_reducible exact rfl))
            | with_reducible apply bI_go
            | with_reducible apply bV_go
            | with_reducible apply bL_go
            | (with_reducible apply it_1; (first | omega | (simp (disch := omega) only [not_false_eq_true, not_true_eq_false, w32_id, tLt, fLt, tLe, fEq, itE, and_true, true_and, and_self, and_false, false_and, ↓reduceIte, nat_add, nat_mul3, nat_mul4, nat_mul6, nat_mul15, nat_mul60, nat_cast, nc1, Int.reduceToNat, upE, upN, fill_ne, fill_in, i0, m88, h88, b88] <;> omega)))
            | (with_reducible apply it_2; (first | omega | (simp (disch := omega) only [not_false_eq_true, not_true_eq_false, w32_id, tLt, fLt, tLe, fEq, itE, and_true, true_and, and_self, and_false, false_and, ↓reduceIte, nat_add, nat_mul3, nat_mul4, nat_mul6, nat_mul15, nat_mul60, nat_cast, nc1, Int.reduceToNat, upE, upN, fill_ne, fill_in, i0, m88, h88, b88] <;> omega)))
            | (with_reducible refine cl_go ?_; simp (disch := omega) only [not_false_eq_true, not_true_eq_false, w32_id, tLt, fLt, tLe, fEq, itE, and_true, true_and, and_self, and_false, false_and, ↓reduceIte, nat_add, nat_mul3, nat_mul4, nat_mul6, nat_mul15, nat_mul60, nat_cast, nc1, Int.reduceToNat, upE, upN, fill_ne, fill_in, i0, m88, h88, b88])
            | rw [c_Mo_aNation (by omega), b_Mo_aNation_0]
            | with_reducible exact c2
            | with_reducible exact i1
            | with_reducible exact j1 _ (by omega)
            | with_reducible exact i2
            | with_reducible exact i3
            | with_reducible exact j3 _ (by omega)
            | (with_reducible refine rn_go ?_; simp (disch := omega) only [not_false_eq_true, not_true_eq_false, w32_id, tLt, fLt, tLe, fEq, itE, and_true, true_and, and_self, and_false, false_and, ↓reduceIte, nat_add, nat_mul3, nat_mul4, nat_mul6, nat_mul15, nat_mul60, nat_cast, nc1, Int.reduceToNat, upE, upN, fill_ne, fill_in, i0, m88, h88, b88])
            | (with_reducible refine lf_go ?_; simp (disch := omega) only [not_false_eq_true, not_true_eq_false, w32_id, tLt, fLt, tLe, fEq, itE, and_true, true_and, and_self, and_false, false_and, ↓reduceIte, nat_add, nat_mul3, nat_mul4, nat_mul6, nat_mul15, nat_mul60, nat_cast, nc1, Int.reduceToNat, upE, upN, fill_ne, fill_in, i0, m88, h88, b88])
            | with_reducible exact rfl
      · rcases p3 with ⟨i3, rfl⟩ | ⟨Mx3, i3, _, j3⟩
        · repeat' first
            | (with_reducible apply bR_go; (simp (disch := omega) only [rM L, rK L, rN L, rNf, rNv, rNp, rNd, rRow, rLeg, rMark, nat_cast, Int.reduceToNat, m88, h88, b88]; with_reducible exact rfl))
            | with_reducible apply bI_go
            | with_reducible apply bV_go
            | with_reducible apply bL_go
            | (with_reducible apply it_1; (first | omega | (simp (disch := omega) only [not_false_eq_true, not_true_eq_false, w32_id, tLt, fLt, tLe, fEq, itE, and_true, true_and, and_self, and_false, false_and, ↓reduceIte, nat_add, nat_mul3, nat_mul4, nat_mul6, nat_mul15, nat_mul60, nat_cast, nc1, Int.reduceToNat, upE, upN, fill_ne, fill_in, i0, m88, h88, b88] <;> omega)))
            | (with_reducible apply it_2; (first | omega | (simp (disch := omega) only [not_false_eq_true, not_true_eq_false, w32_id, tLt, fLt, tLe, fEq, itE, and_true, true_and, and_self, and_false, false_and, ↓reduceIte, nat_add, nat_mul3, nat_mul4, nat_mul6, nat_mul15, nat_mul60, nat_cast, nc1, Int.reduceToNat, upE, upN, fill_ne, fill_in, i0, m88, h88, b88] <;> omega)))
            | (with_reducible refine cl_go ?_; simp (disch := omega) only [not_false_eq_true, not_true_eq_false, w32_id, tLt, fLt, tLe, fEq, itE, and_true, true_and, and_self, and_false, false_and, ↓reduceIte, nat_add, nat_mul3, nat_mul4, nat_mul6, nat_mul15, nat_mul60, nat_cast, nc1, Int.reduceToNat, upE, upN, fill_ne, fill_in, i0, m88, h88, b88])
            | rw [c_Mo_aNation (by omega), b_Mo_aNation_0]
            | with_reducible exact c2
            | with_reducible exact i1
            | with_reducible exact j1 _ (by omega)
            | with_reducible exact i2
            | with_reducible exact j2 _ (by omega)
            | with_reducible exact i3
            | (with_reducible refine rn_go ?_; simp (disch := omega) only [not_false_eq_true, not_true_eq_false, w32_id, tLt, fLt, tLe, fEq, itE, and_true, true_and, and_self, and_false, false_and, ↓reduceIte, nat_add, nat_mul3, nat_mul4, nat_mul6, nat_mul15, nat_mul60, nat_cast, nc1, Int.reduceToNat, upE, upN, fill_ne, fill_in, i0, m88, h88, b88])
            | (with_reducible refine lf_go ?_; simp (disch := omega) only [not_false_eq_true, not_true_eq_false, w32_id, tLt, fLt, tLe, fEq, itE, and_true, true_and, and_self, and_false, false_and, ↓reduceIte, nat_add, nat_mul3, nat_mul4, nat_mul6, nat_mul15, nat_mul60, nat_cast, nc1, Int.reduceToNat, upE, upN, fill_ne, fill_in, i0, m88, h88, b88])
            | with_reducible exact rfl
        · repeat' first
            | (with_reducible apply bR_go; (simp (disch := omega) only [rM L, rK L, rN L, rNf, rNv, rNp, rNd, rRow, rLeg, rMark, nat_cast, Int.reduceToNat, m88, h88, b88]; with_reducible exact rfl))
            | with_reducible apply bI_go
            | with_reducible apply bV_go
            | with_reducible apply bL_go
            | (with_reducible apply it_1; (first | omega | (simp (disch := omega) only [not_false_eq_true, not_true_eq_false, w32_id, tLt, fLt, tLe, fEq, itE, and_true, true_and, and_self, and_false, false_and, ↓reduceIte, nat_add, nat_mul3, nat_mul4, nat_mul6, nat_mul15, nat_mul60, nat_cast, nc1, Int.reduceToNat, upE, upN, fill_ne, fill_in, i0, m88, h88, b88] <;> omega)))
            | (with_reducible apply it_2; (first | omega | (simp (disch := omega) only [not_false_eq_true, not_true_eq_false, w32_id, tLt, fLt, tLe, fEq, itE, and_true, true_and, and_self, and_false, false_and, ↓reduceIte, nat_add, nat_mul3, nat_mul4, nat_mul6, nat_mul15, nat_mul60, nat_cast, nc1, Int.reduceToNat, upE, upN, fill_ne, fill_in, i0, m88, h88, b88] <;> omega)))
            | (with_reducible refine cl_go ?_; simp (disch := omega) only [not_false_eq_true, not_true_eq_false, w32_id, tLt, fLt, tLe, fEq, itE, and_true, true_and, and_self, and_false, false_and, ↓reduceIte, nat_add, nat_mul3, nat_mul4, nat_mul6, nat_mul15, nat_mul60, nat_cast, nc1, Int.reduceToNat, upE, upN, fill_ne, fill_in, i0, m88, h88, b88])
            | rw [c_Mo_aNation (by omega), b_Mo_aNation_0]
            | with_reducible exact c2
            | with_reducible exact i1
            | with_reducible exact j1 _ (by omega)
            | with_reducible exact i2
            | with_reducible exact j2 _ (by omega)
            | with_reducible exact i3
            | with_reducible exact j3 _ (by omega)
            | (with_reducible refine rn_go ?_; simp (disch := omega) only [not_false_eq_true, not_true_eq_false, w32_id, tLt, fLt, tLe, fEq, itE, and_true, true_and, and_self, and_false, false_and, ↓reduceIte, nat_add, nat_mul3, nat_mul4, nat_mul6, nat_mul15, nat_mul60, nat_cast, nc1, Int.reduceToNat, upE, upN, fill_ne, fill_in, i0, m88, h88, b88])
            | (with_reducible refine lf_go ?_; simp (disch := omega) only [not_false_eq_true, not_true_eq_false, w32_id, tLt, fLt, tLe, fEq, itE, and_true, true_and, and_self, and_false, false_and, ↓reduceIte, nat_add, nat_mul3, nat_mul4, nat_mul6, nat_mul15, nat_mul60, nat_cast, nc1, Int.reduceToNat, upE, upN, fill_ne, fill_in, i0, m88, h88, b88])
            | with_reducible exact rfl
  have w1 : FcW M1 (up Mg 75 a v3) := (((((wA.trans fa1.w).u (by omega)).trans fa2.w).u (by omega)).trans fa3.w).u (by omega)
  have w2 : FmW M2 (up Mh 272 2288 ((a : Int) + 1)) := ((((wB.u (by omega)).trans (ft1.w (by omega))).trans (ft2.w (by omega))).trans (ft3.w (by omega))).u (by omega)
  rcases k_stop (L := L) (d1 := d1 - 1) (d2 := d2) (by omega) (by omega) th with ⟨qe, ee, Mj, Mk, s1, s2, tk, le', fj, fk⟩ | ⟨Mj, Mk, s1, s2, f, fj, fk⟩
  rotate_left
  · right; right
    refine ⟨Mj, _, Mk, ?_, mo, s2, f, w1.trans fj.w, w2.trans fk.w⟩
    repeat' first
      | (with_reducible apply bR_go; (simp (disch := omega) only [rM L, rK L, rN L, rNf, rNv, rNp, rNd, rRow, rLeg, rMark, nat_cast, Int.reduceToNat, rc]; with_reducible exact rfl))
      | with_reducible apply bI_go
      | with_reducible apply bV_go
      | with_reducible apply bL_go
      | (with_reducible apply it_1; (first | omega | (simp (disch := omega) only [not_false_eq_true, not_true_eq_false, w32_id, tLt, fLt, tLe, fEq, itE, and_true, true_and, and_self, and_false, false_and, ↓reduceIte, nat_add, nat_mul3, nat_mul4, nat_mul6, nat_mul15, nat_mul60, nat_cast, nc1, Int.reduceToNat, upE, upN, fill_ne, fill_in, i0, rc] <;> omega)))
      | (with_reducible apply it_2; (first | omega | (simp (disch := omega) only [not_false_eq_true, not_true_eq_false, w32_id, tLt, fLt, tLe, fEq, itE, and_true, true_and, and_self, and_false, false_and, ↓reduceIte, nat_add, nat_mul3, nat_mul4, nat_mul6, nat_mul15, nat_mul60, nat_cast, nc1, Int.reduceToNat, upE, upN, fill_ne, fill_in, i0, rc] <;> omega)))
      | (with_reducible refine cl_go ?_; simp (disch := omega) only [not_false_eq_true, not_true_eq_false, w32_id, tLt, fLt, tLe, fEq, itE, and_true, true_and, and_self, and_false, false_and, ↓reduceIte, nat_add, nat_mul3, nat_mul4, nat_mul6, nat_mul15, nat_mul60, nat_cast, nc1, Int.reduceToNat, upE, upN, fill_ne, fill_in, i0, rc])
      | rw [c_WorldText_takesNation (by omega), b_WorldText_takesNation_0]
      | with_reducible exact c1
      | with_reducible exact o1
      | with_reducible exact o2
      | with_reducible exact o3
      | with_reducible exact s1
      | (with_reducible refine rn_go ?_; simp (disch := omega) only [not_false_eq_true, not_true_eq_false, w32_id, tLt, fLt, tLe, fEq, itE, and_true, true_and, and_self, and_false, false_and, ↓reduceIte, nat_add, nat_mul3, nat_mul4, nat_mul6, nat_mul15, nat_mul60, nat_cast, nc1, Int.reduceToNat, upE, upN, fill_ne, fill_in, i0, rc])
      | (with_reducible refine lf_go ?_; simp (disch := omega) only [not_false_eq_true, not_true_eq_false, w32_id, tLt, fLt, tLe, fEq, itE, and_true, true_and, and_self, and_false, false_and, ↓reduceIte, nat_add, nat_mul3, nat_mul4, nat_mul6, nat_mul15, nat_mul60, nat_cast, nc1, Int.reduceToNat, upE, upN, fill_ne, fill_in, i0, rc])
      | with_reducible exact rfl
  left
  refine ⟨qe, ee, Mj, _, Mk, ?_, mo, s2, tk, by have := tg.2.2.2.2.1.bd; omega, ?_, w1.trans fj.w, w2.trans fk.w⟩
  · repeat' first
      | (with_reducible apply bR_go; (simp (disch := omega) only [rM L, rK L, rN L, rNf, rNv, rNp, rNd, rRow, rLeg, rMark, nat_cast, Int.reduceToNat, rc]; with_reducible exact rfl))
      | with_reducible apply bI_go
      | with_reducible apply bV_go
      | with_reducible apply bL_go
      | (with_reducible apply it_1; (first | omega | (simp (disch := omega) only [not_false_eq_true, not_true_eq_false, w32_id, tLt, fLt, tLe, fEq, itE, and_true, true_and, and_self, and_false, false_and, ↓reduceIte, nat_add, nat_mul3, nat_mul4, nat_mul6, nat_mul15, nat_mul60, nat_cast, nc1, Int.reduceToNat, upE, upN, fill_ne, fill_in, i0, rc] <;> omega)))
      | (with_reducible apply it_2; (first | omega | (simp (disch := omega) only [not_false_eq_true, not_true_eq_false, w32_id, tLt, fLt, tLe, fEq, itE, and_true, true_and, and_self, and_false, false_and, ↓reduceIte, nat_add, nat_mul3, nat_mul4, nat_mul6, nat_mul15, nat_mul60, nat_cast, nc1, Int.reduceToNat, upE, upN, fill_ne, fill_in, i0, rc] <;> omega)))
      | (with_reducible refine cl_go ?_; simp (disch := omega) only [not_false_eq_true, not_true_eq_false, w32_id, tLt, fLt, tLe, fEq, itE, and_true, true_and, and_self, and_false, false_and, ↓reduceIte, nat_add, nat_mul3, nat_mul4, nat_mul6, nat_mul15, nat_mul60, nat_cast, nc1, Int.reduceToNat, upE, upN, fill_ne, fill_in, i0, rc])
      | rw [c_WorldText_takesNation (by omega), b_WorldText_takesNation_0]
      | with_reducible exact c1
      | with_reducible exact o1
      | with_reducible exact o2
      | with_reducible exact o3
      | with_reducible exact s1
      | (with_reducible refine rn_go ?_; simp (disch := omega) only [not_false_eq_true, not_true_eq_false, w32_id, tLt, fLt, tLe, fEq, itE, and_true, true_and, and_self, and_false, false_and, ↓reduceIte, nat_add, nat_mul3, nat_mul4, nat_mul6, nat_mul15, nat_mul60, nat_cast, nc1, Int.reduceToNat, upE, upN, fill_ne, fill_in, i0, rc])
      | (with_reducible refine lf_go ?_; simp (disch := omega) only [not_false_eq_true, not_true_eq_false, w32_id, tLt, fLt, tLe, fEq, itE, and_true, true_and, and_self, and_false, false_and, ↓reduceIte, nat_add, nat_mul3, nat_mul4, nat_mul6, nat_mul15, nat_mul60, nat_cast, nc1, Int.reduceToNat, upE, upN, fill_ne, fill_in, i0, rc])
      | with_reducible exact rfl
  -- the draft
  have gC : ∀ b j, ¬(b = 12 ∧ 4 ≤ j) → ¬(b = 67 ∧ j = 0) → ¬(b = 69 ∧ j = a) → ¬(b = 73 ∧ j = a) → ¬(b = 74 ∧ j = a) → ¬(b = 75 ∧ j = a) → Mj b j = M1 b j := fun b j y1 y2 y3 y4 y5 y6 => by
    rw [fj _ _ y1, upN (by omega), fa3 _ _ y1, upN (by omega), fa2 _ _ y1, upN (by omega), fa1 _ _ y1, fA _ _ y1 (by omega) (by omega)]
  have g75 : Mj 75 a = v3 := by rw [fj _ _ (by omega), upE rfl rfl]
  have g74 : Mj 74 a = v2 := by rw [fj _ _ (by omega), upN (by omega), fa3 _ _ (by omega), upE rfl rfl]
  have g73 : Mj 73 a = v1 := by rw [fj _ _ (by omega), upN (by omega), fa3 _ _ (by omega), upN (by omega), fa2 _ _ (by omega), upE rfl rfl]
  have g67 : Mj 67 0 = (a : Int) + 1 := by rw [fj _ _ (by omega), upN (by omega), fa3 _ _ (by omega), upN (by omega), fa2 _ _ (by omega), upN (by omega), fa1 _ _ (by omega)]; exact k67
  have g69 : Mj 69 a = Ma 69 a := by rw [fj _ _ (by omega), upN (by omega), fa3 _ _ (by omega), upN (by omega), fa2 _ _ (by omega), upN (by omega), fa1 _ _ (by omega)]
  have gA : ∀ k, k ≠ 0 → k ≠ 8 + 4 * a → k ≠ 9 + 4 * a → k ≠ 10 + 4 * a → dA Mk k = dA M2 k := fun k y0 y1 y2 y3 => by
    unfold dA
    rw [fk _ _ (by omega), upN (by omega), ft3 _ _ (by omega) (by omega), ft2 _ _ (by omega) (by omega), ft1 _ _ (by omega) (by omega), upN (by omega), fB _ _ (by omega) (by omega)]
  have e0 : dA Mk 0 = (a : Int) + 1 := by unfold dA; rw [fk _ _ (by omega), upE rfl rfl]
  have e8 : dA Mk (8 + 4 * a) = v1 := by
    unfold dA
    rw [fk _ _ (by omega), upN (by omega), ft3 _ _ (by omega) (by omega), ft2 _ _ (by omega) (by omega), show 2288 + (8 + 4 * a) = 2296 + 4 * a by omega]
    exact ev1
  have e9 : dA Mk (9 + 4 * a) = v2 := by
    unfold dA
    rw [fk _ _ (by omega), upN (by omega), ft3 _ _ (by omega) (by omega), show 2288 + (9 + 4 * a) = 2297 + 4 * a by omega]
    exact ev2
  have e10 : dA Mk (10 + 4 * a) = v3 := by
    unfold dA
    rw [fk _ _ (by omega), upN (by omega), show 2288 + (10 + 4 * a) = 2298 + 4 * a by omega]
    exact ev3
  have gN : ∀ k, k ≠ a → dN Mk k = dN M2 k := fun k y => by
    unfold dN
    rw [fk _ _ (by omega), upN (by omega), ft3 _ _ (by omega) (by omega), ft2 _ _ (by omega) (by omega), ft1 _ _ (by omega) (by omega), upN (by omega), fB _ _ (by omega) (by omega)]
  have eN : dN Mk a = Mb 273 (96 + a) := by
    unfold dN
    rw [fk _ _ (by omega), upN (by omega), ft3 _ _ (by omega) (by omega), ft2 _ _ (by omega) (by omega), ft1 _ _ (by omega) (by omega), upN (by omega)]
  have r20 : Mk 271 20 = M2 271 20 := by rw [fk _ _ (by omega), upN (by omega), ft3 _ _ (by omega) (by omega), ft2 _ _ (by omega) (by omega), ft1 _ _ (by omega) (by omega), upN (by omega), fB _ _ (by omega) (by omega)]
  exact dd_nation hD0 ha lt ⟨hv1.1, hv1.2.1⟩ ⟨hv2.1, hv2.2.1⟩ ⟨hv3.1, hv3.2.1⟩ gC g75 g74 g73 g67 g69 gA e0 e8 e9 e10 gN eN (by have := knm; rwa [show 69 + 0 = 69 from rfl, show 96 + 0 + a = 96 + a by omega] at this) r20
end

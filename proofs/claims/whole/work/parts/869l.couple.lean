/-! THE PARTS OF A WORLD: wars and ways -/
theorem orb_bit : ∀ f : Fin 64, ∀ b c : Fin 6, and32 (shr32 (or32 (f.val : Int) (shl32 1 (b.val : Int))) (c.val : Int)) 1 = if c.val = b.val then 1 else and32 (shr32 (f.val : Int) (c.val : Int)) 1 := by decide +kernel
theorem orb_bd : ∀ f : Fin 64, ∀ b : Fin 6, ∀ m : Fin 7, f.val < 2 ^ m.val → b.val < m.val → 0 ≤ or32 (f.val : Int) (shl32 1 (b.val : Int)) ∧ or32 (f.val : Int) (shl32 1 (b.val : Int)) < ((2 ^ m.val : Nat) : Int) := by decide +kernel
section
variable {bt : Nat → Int} {n q e : Nat} {M M1 M2 : Mm} {L d d1 d2 d3 : Nat}
theorem dx_get {A : Nat → Int} (h : DX M A) {k b j : Nat} (hk : vd A k) (hb : cl k = b ∧ pl k = j) : M (b + 47) j = A k := by rw [← hb.1, ← hb.2]; exact h.2 k hk
theorem dd_war {Mj Mk : Mm} (hD : DD M1 M2) {v w : Nat} (hv : (v : Int) < dA M2 0) (hw : (w : Int) < dA M2 0) (vw : w ≠ v) (gC : ∀ b j, 65 ≤ b → b ≤ 111 → ¬(b = 76 ∧ (j = v ∨ j = w)) → Mj b j = M1 b j) (c1 : Mj 76 v = or32 (M1 76 v) (shl32 1 (w : Int))) (c2 : Mj 76 w = or32 (M1 76 w) (shl32 1 (v : Int))) (gA : ∀ k, k < 206 → k ≠ 11 + 4 * v → k ≠ 11 + 4 * w → dA Mk k = dA M2 k) (e1 : dA Mk (11 + 4 * v) = or32 (dA M2 (11 + 4 * v)) (shl32 1 (w : Int))) (e2 : dA Mk (11 + 4 * w) = or32 (dA M2 (11 + 4 * w)) (shl32 1 (v : Int))) (hN : ∀ j, 96 ≤ j → j < 120 → Mk 273 j = M2 273 j) (r0 : Mj 15 0 = M1 15 0) (r20 : Mk 271 20 = M2 271 20) : DD Mj Mk := by
  have hI := hD.2.1
  have fb := hD.2.2.2.1
  have dx := hD.1
  have hC := hI.1
  unfold Cn at hC
  have q1 := cl_n (n := v) (w := 3) (k := 11 + 4 * v) (by omega) (by omega) (by omega)
  have q2 := cl_n (n := w) (w := 3) (k := 11 + 4 * w) (by omega) (by omega) (by omega)
  have x1 : M1 76 v = dA M2 (11 + 4 * v) := dx_get dx (by unfold vd; omega) q1
  have x2 : M1 76 w = dA M2 (11 + 4 * w) := dx_get dx (by unfold vd; omega) q2
  obtain ⟨i1, i2, i3, i4, i5, i6, i7, i8, i9⟩ := hI
  obtain ⟨a, ha⟩ := Int.eq_ofNat_of_zero_le hC.1
  have a0 := gA 0 (by omega) (by omega) (by omega)
  have a1 := gA 1 (by omega) (by omega) (by omega)
  have a2 := gA 2 (by omega) (by omega) (by omega)
  have a3 := gA 3 (by omega) (by omega) (by omega)
  have a4 := gA 4 (by omega) (by omega) (by omega)
  have nat : ∀ x : Nat, (x : Int) < dA M2 0 → ∃ f : Nat, dA M2 (11 + 4 * x) = (f : Int) ∧ f < 64 ∧ f < 2 ^ a := fun x hx => by
    have f1 := fb x hx
    have f2 := i3 x hx
    obtain ⟨f, hf⟩ := Int.eq_ofNat_of_zero_le f2.2.2.2.2.2.2.1
    rw [ha, nat_cast, hf] at f1
    exact ⟨f, hf, by omega, by omega⟩
  obtain ⟨fv, hfv, fv1, fv2⟩ := nat v hv
  obtain ⟨fw, hfw, fw1, fw2⟩ := nat w hw
  have pa : 2 ^ a ≤ 2 ^ 6 := pow_le (by omega)
  have bv := orb_bd ⟨fv, fv1⟩ ⟨w, by omega⟩ ⟨a, by omega⟩ fv2 (by dsimp only; omega)
  have bw := orb_bd ⟨fw, fw1⟩ ⟨v, by omega⟩ ⟨a, by omega⟩ fw2 (by dsimp only; omega)
  dsimp only at bv bw
  rw [← hfv, ← e1] at bv
  rw [← hfw, ← e2] at bw
  refine hD.same (fun k => k = 11 + 4 * v ∨ k = 11 + 4 * w) (fun k hk => by unfold vd; omega) ⟨?_, i2.cg (by omega) a1 (fun k _ _ => gA k (by omega) (by omega) (by omega)) i1, fun m hm => ?_, i4.cg (by omega) a2 (fun p _ => gA _ (by omega) (by omega) (by omega)) i1, i5.cg fun k _ _ _ => gA k (by omega) (by omega) (by omega), i6.cg fun k _ _ _ => gA k (by omega) (by omega) (by omega), i7.cg (by omega) (by omega) a3 (fun k _ _ => gA k (by omega) (by omega) (by omega)) i1, by rw [gA 5 (by omega) (by omega) (by omega)]; exact i8, fun x y hx hy => ?_⟩ (fun m hm => ?_) (fun k y1 y2 => gA k y1 (by omega) (by omega)) (fun k hk => ?_) (fun b j y1 y2 y3 => ?_) hN ?_ ?_
  · unfold Cn
    rw [a0, a1, a2, a3, a4]
    omega
  · rw [a0] at hm
    have o := i3 m hm
    rw [gA (8 + 4 * m) (by omega) (by omega) (by omega), gA (9 + 4 * m) (by omega) (by omega) (by omega), gA (10 + 4 * m) (by omega) (by omega) (by omega)]
    by_cases z : m = v
    · subst z
      omega
    · by_cases z' : m = w
      · subst z'
        omega
      · rw [gA (11 + 4 * m) (by omega) (by omega) (by omega)]
        exact o
  · rw [a0] at hx hy
    have bit : ∀ x : Nat, (x : Int) < dA M2 0 → ∀ y : Nat, (y : Int) < dA M2 0 → and32 (shr32 (dA Mk (11 + 4 * x)) (y : Int)) 1 = if x = v ∧ y = w ∨ x = w ∧ y = v then 1 else and32 (shr32 (dA M2 (11 + 4 * x)) (y : Int)) 1 := fun x hx y hy => by
      by_cases z : x = v
      · subst z
        rw [e1, hfv]
        have := orb_bit ⟨fv, fv1⟩ ⟨w, by omega⟩ ⟨y, by omega⟩
        dsimp only at this
        rw [this]
        by_cases t : y = w
        · rw [if_pos t, if_pos (by omega)]
        · rw [if_neg t, if_neg (by omega)]
      · by_cases z' : x = w
        · subst z'
          rw [e2, hfw]
          have := orb_bit ⟨fw, fw1⟩ ⟨v, by omega⟩ ⟨y, by omega⟩
          dsimp only at this
          rw [this]
          by_cases t : y = v
          · rw [if_pos t, if_pos (by omega)]
          · rw [if_neg t, if_neg (by omega)]
        · rw [gA _ (by omega) (by omega) (by omega), if_neg (by omega)]
    rw [bit x hx y hy, bit y hy x hx, i9 x y hx hy]
    by_cases z : x = v ∧ y = w ∨ x = w ∧ y = v
    · rw [if_pos z, if_pos (by omega)]
    · rw [if_neg z, if_neg (by omega)]
  · rw [a0] at hm ⊢
    by_cases z : m = v
    · subst z
      rw [ha, nat_cast]
      omega
    · by_cases z' : m = w
      · subst z'
        rw [ha, nat_cast]
        omega
      · rw [gA _ (by omega) (by omega) (by omega)]
        exact fb m hm
  · rcases hk with rfl | rfl
    · rw [q1.1, q1.2, e1]
      exact c1.trans (by rw [x1])
    · rw [q2.1, q2.2, e2]
      exact c2.trans (by rw [x2])
  · have z1 := y3 _ (Or.inl rfl)
    have z2 := y3 _ (Or.inr rfl)
    rw [q1.1, q1.2] at z1
    rw [q2.1, q2.2] at z2
    exact gC b j y1 y2 (by omega)
  · rw [r0, r20]; exact hD.2.2.2.2.2.2.2.1
  · rw [r20]; exact hD.2.2.2.2.2.2.2.2
theorem p_war (h1 : 12 ≤ d1) (h2 : 12 ≤ d2) (h : TK bt n q e M1 M2) (hD : DD M1 M2) (hq : q < e) : PO bt n q L d1 d2 (callD d1 m_WorldText_takesWar [vR 6 0 12, vR 0 0 66] (SH L) M1) (callD d2 m_Mo_aCouple [vR 12 0 271, vI 1] (SH L) M2) M1 M2 := by
  have hI := hD.2.1
  have hC := hI.1
  unfold Cn at hC
  have ch66 : isCh 66 := Or.inr (Or.inl rfl)
  have rc := rC (L := L) ch66
  obtain ⟨a, ha⟩ := Int.eq_ofNat_of_zero_le hC.1
  obtain ⟨k0, -, -, -⟩ := hD.nm.k
  rw [ha, nat_cast] at k0
  have m88 : M2 272 2288 = (a : Int) := ha
  obtain ⟨qa, ea, Ma, Mb, a1, a2, ta, la, fa, fb⟩ := k_adv (L := L) (d1 := d1 - 1) (d2 := d2 - 1) (by omega) (by omega) h
  have b88 : Mb 272 2288 = (a : Int) := by rw [fb _ _ (by omega)]; exact m88
  have k0' := k0.fr (by omega) fa fb.nn
  rcases k_thing (L := L) (d1 := d1 - 1) (d2 := d2 - 1 - 1) (by omega) (by omega) ta (c := 66) (kd := 0) (to := 2854) ch66 (by omega) k0' (by omega) with ⟨qb, eb, v, Mc, Md, c1, c2, hv, tb, lb, fa1, ft1, ev⟩ | ⟨M1', M2', c1, c2, f, fa1, ft1⟩
  rotate_left
  · right; left
    have c1 := c1 0 rfl
    refine ⟨M1', M2', ?_, wp_un ?_, f, fa.w.trans fa1.w, fb.w.trans (ft1.w (by omega))⟩
    · repeat' first
        | (with_reducible apply bR_go; (simp (disch := omega) only [rM L, rK L, rN L, rNf, rNv, rNp, rNd, rRow, rLeg, rMark, nat_cast, Int.reduceToNat]; with_reducible exact rfl))
        | with_reducible apply bI_go
        | with_reducible apply bV_go
        | with_reducible apply bL_go
        | (with_reducible apply it_1; (first | omega | (simp (disch := omega) only [not_false_eq_true, not_true_eq_false, w32_id, tLt, fLt, tLe, fEq, itE, and_true, true_and, and_self, and_false, false_and, ↓reduceIte, nat_add, nat_mul3, nat_mul4, nat_mul6, nat_mul15, nat_mul60, nat_cast, nc1, Int.reduceToNat, upE, upN, fill_ne, fill_in, i0] <;> omega)))
        | (with_reducible apply it_2; (first | omega | (simp (disch := omega) only [not_false_eq_true, not_true_eq_false, w32_id, tLt, fLt, tLe, fEq, itE, and_true, true_and, and_self, and_false, false_and, ↓reduceIte, nat_add, nat_mul3, nat_mul4, nat_mul6, nat_mul15, nat_mul60, nat_cast, nc1, Int.reduceToNat, upE, upN, fill_ne, fill_in, i0] <;> omega)))
        | (with_reducible refine cl_go ?_; simp (disch := omega) only [not_false_eq_true, not_true_eq_false, w32_id, tLt, fLt, tLe, fEq, itE, and_true, true_and, and_self, and_false, false_and, ↓reduceIte, nat_add, nat_mul3, nat_mul4, nat_mul6, nat_mul15, nat_mul60, nat_cast, nc1, Int.reduceToNat, upE, upN, fill_ne, fill_in, i0])
        | rw [c_WorldText_takesWar (by omega), b_WorldText_takesWar_0]
        | with_reducible exact a1
        | with_reducible exact c1
        | (with_reducible refine rn_go ?_; simp (disch := omega) only [not_false_eq_true, not_true_eq_false, w32_id, tLt, fLt, tLe, fEq, itE, and_true, true_and, and_self, and_false, false_and, ↓reduceIte, nat_add, nat_mul3, nat_mul4, nat_mul6, nat_mul15, nat_mul60, nat_cast, nc1, Int.reduceToNat, upE, upN, fill_ne, fill_in, i0])
        | (with_reducible refine lf_go ?_; simp (disch := omega) only [not_false_eq_true, not_true_eq_false, w32_id, tLt, fLt, tLe, fEq, itE, and_true, true_and, and_self, and_false, false_and, ↓reduceIte, nat_add, nat_mul3, nat_mul4, nat_mul6, nat_mul15, nat_mul60, nat_cast, nc1, Int.reduceToNat, upE, upN, fill_ne, fill_in, i0])
        | with_reducible exact rfl
    · repeat' first
        | (with_reducible apply wp_bR; (simp (disch := omega) only [rM L, rK L, rN L, rNf, rNv, rNp, rNd, rRow, rLeg, rMark, nat_cast, Int.reduceToNat, b88, Int.reduceMod]; with_reducible exact rfl))
        | with_reducible apply wp_bI
        | with_reducible apply wp_bV
        | with_reducible apply wp_bL
        | with_reducible apply wp_rI
        | with_reducible apply wp_rV
        | with_reducible apply wp_rL
        | (with_reducible apply wp_1; (first | omega | (simp (disch := omega) only [not_false_eq_true, not_true_eq_false, w32_id, tLt, fLt, tLe, fEq, itE, and_true, true_and, and_self, and_false, false_and, ↓reduceIte, nat_add, nat_mul3, nat_mul4, nat_mul6, nat_mul15, nat_mul60, nat_cast, nc1, Int.reduceToNat, upE, upN, fill_ne, fill_in, i0, b88, Int.reduceMod] <;> omega)))
        | (with_reducible apply wp_2; (first | omega | (simp (disch := omega) only [not_false_eq_true, not_true_eq_false, w32_id, tLt, fLt, tLe, fEq, itE, and_true, true_and, and_self, and_false, false_and, ↓reduceIte, nat_add, nat_mul3, nat_mul4, nat_mul6, nat_mul15, nat_mul60, nat_cast, nc1, Int.reduceToNat, upE, upN, fill_ne, fill_in, i0, b88, Int.reduceMod] <;> omega)))
        | (with_reducible apply wp_s; (first | (simp (disch := omega) only [not_false_eq_true, not_true_eq_false, w32_id, tLt, fLt, tLe, fEq, itE, and_true, true_and, and_self, and_false, false_and, ↓reduceIte, nat_add, nat_mul3, nat_mul4, nat_mul6, nat_mul15, nat_mul60, nat_cast, nc1, Int.reduceToNat, upE, upN, fill_ne, fill_in, i0, b88, Int.reduceMod]; with_reducible exact Iff.rfl) | with_reducible exact Iff.rfl); intro hc__; (try subst hc__); rotate_left; intro hc__; rotate_left)
        | (with_reducible apply wp_eq; (with_reducible apply cl_go; simp (disch := omega) only [not_false_eq_true, not_true_eq_false, w32_id, tLt, fLt, tLe, fEq, itE, and_true, true_and, and_self, and_false, false_and, ↓reduceIte, nat_add, nat_mul3, nat_mul4, nat_mul6, nat_mul15, nat_mul60, nat_cast, nc1, Int.reduceToNat, upE, upN, fill_ne, fill_in, i0, b88, Int.reduceMod]; with_reducible exact rfl))
        | (with_reducible refine wp_eq (c_Mo_aCouple (by omega) _ _ _ _) ?_; with_reducible refine wp_eq (b_Mo_aCouple_0 _ _ _ _ _) ?_)
        | (with_reducible refine wp_eq (c_Mo_nationTo (by omega) _ _ _ _) ?_; with_reducible refine wp_eq (b_Mo_nationTo_0 _ _ _ _ _) ?_)
        | with_reducible refine wp_eq (b_Mo_aCouple_92 _ _ _ _ _ _) ?_
        | with_reducible refine wp_eq (a2) ?_
        | with_reducible refine wp_eq (c2 _ _ _ (by omega) (by omega) (by omega)) ?_
        | (with_reducible apply wp_eq; (with_reducible apply lf_go; simp (disch := omega) only [not_false_eq_true, not_true_eq_false, w32_id, tLt, fLt, tLe, fEq, itE, and_true, true_and, and_self, and_false, false_and, ↓reduceIte, nat_add, nat_mul3, nat_mul4, nat_mul6, nat_mul15, nat_mul60, nat_cast, nc1, Int.reduceToNat, upE, upN, fill_ne, fill_in, i0, b88, Int.reduceMod]; with_reducible exact rfl))
        | with_reducible apply wp_q1
      exact ⟨_, _, _, rfl, rfl, rfl, rfl⟩
  have c1 := c1 0 rfl
  have d88 : Md 272 2288 = (a : Int) := by rw [ft1 _ _ (by omega) (by omega)]; exact b88
  rcases k_thing2 (L := L) (d1 := d1 - 1) (d2 := d2 - 1 - 1) (d3 := d2 - 1) (by omega) (by omega) (by omega) tb (c := 66) (kd := 0) (to := 2855) (t := v) ch66 (by omega) (k0'.fr (by omega) fa1 ft1.nn) (by omega) with ⟨M1', M2', c3, i1, c4, f, fa2, ft2⟩ | ⟨r, i1, f1, ⟨M1', M2', rfl, c3, c4, f, fa2, fb2⟩ | ⟨M1', M2', rfl, c3, c4, f, fa2, ft2⟩ | ⟨qc, ec, w, Me, Mf, rfl, vw, c3, c4, hw, tc, lc, fa2, ft2, ew⟩⟩
  · right; left
    have c3 := c3 0 rfl
    refine ⟨M1', M2', ?_, wp_un ?_, f, (fa.w.trans fa1.w).trans fa2.w, (fb.w.trans (ft1.w (by omega))).trans (ft2.w (by omega))⟩
    · repeat' first
        | (with_reducible apply bR_go; (simp (disch := omega) only [rM L, rK L, rN L, rNf, rNv, rNp, rNd, rRow, rLeg, rMark, nat_cast, Int.reduceToNat]; with_reducible exact rfl))
        | with_reducible apply bI_go
        | with_reducible apply bV_go
        | with_reducible apply bL_go
        | (with_reducible apply it_1; (first | omega | (simp (disch := omega) only [not_false_eq_true, not_true_eq_false, w32_id, tLt, fLt, tLe, fEq, itE, and_true, true_and, and_self, and_false, false_and, ↓reduceIte, nat_add, nat_mul3, nat_mul4, nat_mul6, nat_mul15, nat_mul60, nat_cast, nc1, Int.reduceToNat, upE, upN, fill_ne, fill_in, i0] <;> omega)))
        | (with_reducible apply it_2; (first | omega | (simp (disch := omega) only [not_false_eq_true, not_true_eq_false, w32_id, tLt, fLt, tLe, fEq, itE, and_true, true_and, and_self, and_false, false_and, ↓reduceIte, nat_add, nat_mul3, nat_mul4, nat_mul6, nat_mul15, nat_mul60, nat_cast, nc1, Int.reduceToNat, upE, upN, fill_ne, fill_in, i0] <;> omega)))
        | (with_reducible refine cl_go ?_; simp (disch := omega) only [not_false_eq_true, not_true_eq_false, w32_id, tLt, fLt, tLe, fEq, itE, and_true, true_and, and_self, and_false, false_and, ↓reduceIte, nat_add, nat_mul3, nat_mul4, nat_mul6, nat_mul15, nat_mul60, nat_cast, nc1, Int.reduceToNat, upE, upN, fill_ne, fill_in, i0])
        | rw [c_WorldText_takesWar (by omega), b_WorldText_takesWar_0]
        | with_reducible exact a1
        | with_reducible exact c1
        | with_reducible exact c3
        | (with_reducible refine rn_go ?_; simp (disch := omega) only [not_false_eq_true, not_true_eq_false, w32_id, tLt, fLt, tLe, fEq, itE, and_true, true_and, and_self, and_false, false_and, ↓reduceIte, nat_add, nat_mul3, nat_mul4, nat_mul6, nat_mul15, nat_mul60, nat_cast, nc1, Int.reduceToNat, upE, upN, fill_ne, fill_in, i0])
        | (with_reducible refine lf_go ?_; simp (disch := omega) only [not_false_eq_true, not_true_eq_false, w32_id, tLt, fLt, tLe, fEq, itE, and_true, true_and, and_self, and_false, false_and, ↓reduceIte, nat_add, nat_mul3, nat_mul4, nat_mul6, nat_mul15, nat_mul60, nat_cast, nc1, Int.reduceToNat, upE, upN, fill_ne, fill_in, i0])
        | with_reducible exact rfl
    · repeat' first
        | (with_reducible apply wp_bR; (simp (disch := omega) only [rM L, rK L, rN L, rNf, rNv, rNp, rNd, rRow, rLeg, rMark, nat_cast, Int.reduceToNat, b88, d88, Int.reduceMod]; with_reducible exact rfl))
        | with_reducible apply wp_bI
        | with_reducible apply wp_bV
        | with_reducible apply wp_bL
        | with_reducible apply wp_rI
        | with_reducible apply wp_rV
        | with_reducible apply wp_rL
        | (with_reducible apply wp_1; (first | omega | (simp (disch := omega) only [not_false_eq_true, not_true_eq_false, w32_id, tLt, fLt, tLe, fEq, itE, and_true, true_and, and_self, and_false, false_and, ↓reduceIte, nat_add, nat_mul3, nat_mul4, nat_mul6, nat_mul15, nat_mul60, nat_cast, nc1, Int.reduceToNat, upE, upN, fill_ne, fill_in, i0, b88, d88, Int.reduceMod] <;> omega)))
        | (with_reducible apply wp_2; (first | omega | (simp (disch := omega) only [not_false_eq_true, not_true_eq_false, w32_id, tLt, fLt, tLe, fEq, itE, and_true, true_and, and_self, and_false, false_and, ↓reduceIte, nat_add, nat_mul3, nat_mul4, nat_mul6, nat_mul15, nat_mul60, nat_cast, nc1, Int.reduceToNat, upE, upN, fill_ne, fill_in, i0, b88, d88, Int.reduceMod] <;> omega)))
        | (with_reducible apply wp_s; (first | (simp (disch := omega) only [not_false_eq_true, not_true_eq_false, w32_id, tLt, fLt, tLe, fEq, itE, and_true, true_and, and_self, and_false, false_and, ↓reduceIte, nat_add, nat_mul3, nat_mul4, nat_mul6, nat_mul15, nat_mul60, nat_cast, nc1, Int.reduceToNat, upE, upN, fill_ne, fill_in, i0, b88, d88, Int.reduceMod]; with_reducible exact Iff.rfl) | with_reducible exact Iff.rfl); intro hc__; (try subst hc__); rotate_left; intro hc__; rotate_left)
        | (with_reducible apply wp_eq; (with_reducible apply cl_go; simp (disch := omega) only [not_false_eq_true, not_true_eq_false, w32_id, tLt, fLt, tLe, fEq, itE, and_true, true_and, and_self, and_false, false_and, ↓reduceIte, nat_add, nat_mul3, nat_mul4, nat_mul6, nat_mul15, nat_mul60, nat_cast, nc1, Int.reduceToNat, upE, upN, fill_ne, fill_in, i0, b88, d88, Int.reduceMod]; with_reducible exact rfl))
        | (with_reducible refine wp_eq (c_Mo_aCouple (by omega) _ _ _ _) ?_; with_reducible refine wp_eq (b_Mo_aCouple_0 _ _ _ _ _) ?_)
        | (with_reducible refine wp_eq (c_Mo_nationTo (by omega) _ _ _ _) ?_; with_reducible refine wp_eq (b_Mo_nationTo_0 _ _ _ _ _) ?_)
        | with_reducible refine wp_eq (b_Mo_aCouple_92 _ _ _ _ _ _) ?_
        | with_reducible refine wp_eq (a2) ?_
        | with_reducible refine wp_eq (c2 _ _ _ (by omega) (by omega) (by omega)) ?_
        | with_reducible refine wp_eq (i1) ?_
        | with_reducible refine wp_eq (c4 _ _ _ (by omega) (by omega) (by omega)) ?_
        | (with_reducible apply wp_eq; (with_reducible apply lf_go; simp (disch := omega) only [not_false_eq_true, not_true_eq_false, w32_id, tLt, fLt, tLe, fEq, itE, and_true, true_and, and_self, and_false, false_and, ↓reduceIte, nat_add, nat_mul3, nat_mul4, nat_mul6, nat_mul15, nat_mul60, nat_cast, nc1, Int.reduceToNat, upE, upN, fill_ne, fill_in, i0, b88, d88, Int.reduceMod]; with_reducible exact rfl))
        | with_reducible apply wp_q1
      exact ⟨_, _, _, rfl, rfl, rfl, rfl⟩
  · right; left
    have c3 := c3 0 rfl
    refine ⟨M1', M2', ?_, wp_un ?_, f, (fa.w.trans fa1.w).trans fa2.w, (fb.w.trans (ft1.w (by omega))).trans fb2.w⟩
    · repeat' first
        | (with_reducible apply bR_go; (simp (disch := omega) only [rM L, rK L, rN L, rNf, rNv, rNp, rNd, rRow, rLeg, rMark, nat_cast, Int.reduceToNat]; with_reducible exact rfl))
        | with_reducible apply bI_go
        | with_reducible apply bV_go
        | with_reducible apply bL_go
        | (with_reducible apply it_1; (first | omega | (simp (disch := omega) only [not_false_eq_true, not_true_eq_false, w32_id, tLt, fLt, tLe, fEq, itE, and_true, true_and, and_self, and_false, false_and, ↓reduceIte, nat_add, nat_mul3, nat_mul4, nat_mul6, nat_mul15, nat_mul60, nat_cast, nc1, Int.reduceToNat, upE, upN, fill_ne, fill_in, i0] <;> omega)))
        | (with_reducible apply it_2; (first | omega | (simp (disch := omega) only [not_false_eq_true, not_true_eq_false, w32_id, tLt, fLt, tLe, fEq, itE, and_true, true_and, and_self, and_false, false_and, ↓reduceIte, nat_add, nat_mul3, nat_mul4, nat_mul6, nat_mul15, nat_mul60, nat_cast, nc1, Int.reduceToNat, upE, upN, fill_ne, fill_in, i0] <;> omega)))
        | (with_reducible refine cl_go ?_; simp (disch := omega) only [not_false_eq_true, not_true_eq_false, w32_id, tLt, fLt, tLe, fEq, itE, and_true, true_and, and_self, and_false, false_and, ↓reduceIte, nat_add, nat_mul3, nat_mul4, nat_mul6, nat_mul15, nat_mul60, nat_cast, nc1, Int.reduceToNat, upE, upN, fill_ne, fill_in, i0])
        | rw [c_WorldText_takesWar (by omega), b_WorldText_takesWar_0]
        | with_reducible exact a1
        | with_reducible exact c1
        | with_reducible exact c3
        | (with_reducible refine rn_go ?_; simp (disch := omega) only [not_false_eq_true, not_true_eq_false, w32_id, tLt, fLt, tLe, fEq, itE, and_true, true_and, and_self, and_false, false_and, ↓reduceIte, nat_add, nat_mul3, nat_mul4, nat_mul6, nat_mul15, nat_mul60, nat_cast, nc1, Int.reduceToNat, upE, upN, fill_ne, fill_in, i0])
        | (with_reducible refine lf_go ?_; simp (disch := omega) only [not_false_eq_true, not_true_eq_false, w32_id, tLt, fLt, tLe, fEq, itE, and_true, true_and, and_self, and_false, false_and, ↓reduceIte, nat_add, nat_mul3, nat_mul4, nat_mul6, nat_mul15, nat_mul60, nat_cast, nc1, Int.reduceToNat, upE, upN, fill_ne, fill_in, i0])
        | with_reducible exact rfl
    · repeat' first
        | (with_reducible apply wp_bR; (simp (disch := omega) only [rM L, rK L, rN L, rNf, rNv, rNp, rNd, rRow, rLeg, rMark, nat_cast, Int.reduceToNat, b88, d88, ev, Int.reduceMod]; with_reducible exact rfl))
        | with_reducible apply wp_bI
        | with_reducible apply wp_bV
        | with_reducible apply wp_bL
        | with_reducible apply wp_rI
        | with_reducible apply wp_rV
        | with_reducible apply wp_rL
        | (with_reducible apply wp_1; (first | omega | (simp (disch := omega) only [not_false_eq_true, not_true_eq_false, w32_id, tLt, fLt, tLe, fEq, itE, and_true, true_and, and_self, and_false, false_and, ↓reduceIte, nat_add, nat_mul3, nat_mul4, nat_mul6, nat_mul15, nat_mul60, nat_cast, nc1, Int.reduceToNat, upE, upN, fill_ne, fill_in, i0, b88, d88, ev, Int.reduceMod] <;> omega)))
        | (with_reducible apply wp_2; (first | omega | (simp (disch := omega) only [not_false_eq_true, not_true_eq_false, w32_id, tLt, fLt, tLe, fEq, itE, and_true, true_and, and_self, and_false, false_and, ↓reduceIte, nat_add, nat_mul3, nat_mul4, nat_mul6, nat_mul15, nat_mul60, nat_cast, nc1, Int.reduceToNat, upE, upN, fill_ne, fill_in, i0, b88, d88, ev, Int.reduceMod] <;> omega)))
        | (with_reducible apply wp_s; (first | (simp (disch := omega) only [not_false_eq_true, not_true_eq_false, w32_id, tLt, fLt, tLe, fEq, itE, and_true, true_and, and_self, and_false, false_and, ↓reduceIte, nat_add, nat_mul3, nat_mul4, nat_mul6, nat_mul15, nat_mul60, nat_cast, nc1, Int.reduceToNat, upE, upN, fill_ne, fill_in, i0, b88, d88, ev, Int.reduceMod]; with_reducible exact Iff.rfl) | with_reducible exact Iff.rfl); intro hc__; (try subst hc__); rotate_left; intro hc__; rotate_left)
        | (with_reducible apply wp_eq; (with_reducible apply cl_go; simp (disch := omega) only [not_false_eq_true, not_true_eq_false, w32_id, tLt, fLt, tLe, fEq, itE, and_true, true_and, and_self, and_false, false_and, ↓reduceIte, nat_add, nat_mul3, nat_mul4, nat_mul6, nat_mul15, nat_mul60, nat_cast, nc1, Int.reduceToNat, upE, upN, fill_ne, fill_in, i0, b88, d88, ev, Int.reduceMod]; with_reducible exact rfl))
        | (with_reducible refine wp_eq (c_Mo_aCouple (by omega) _ _ _ _) ?_; with_reducible refine wp_eq (b_Mo_aCouple_0 _ _ _ _ _) ?_)
        | (with_reducible refine wp_eq (c_Mo_nationTo (by omega) _ _ _ _) ?_; with_reducible refine wp_eq (b_Mo_nationTo_0 _ _ _ _ _) ?_)
        | with_reducible refine wp_eq (b_Mo_aCouple_92 _ _ _ _ _ _) ?_
        | with_reducible refine wp_eq (a2) ?_
        | with_reducible refine wp_eq (c2 _ _ _ (by omega) (by omega) (by omega)) ?_
        | with_reducible refine wp_eq (i1) ?_
        | with_reducible refine wp_eq (f1 _ _ (by omega) (by omega)) ?_
        | with_reducible refine wp_eq (c4) ?_
        | (with_reducible apply wp_eq; (with_reducible apply lf_go; simp (disch := omega) only [not_false_eq_true, not_true_eq_false, w32_id, tLt, fLt, tLe, fEq, itE, and_true, true_and, and_self, and_false, false_and, ↓reduceIte, nat_add, nat_mul3, nat_mul4, nat_mul6, nat_mul15, nat_mul60, nat_cast, nc1, Int.reduceToNat, upE, upN, fill_ne, fill_in, i0, b88, d88, ev, Int.reduceMod]; with_reducible exact rfl))
        | with_reducible apply wp_q1
      exact ⟨_, _, _, rfl, rfl, rfl, rfl⟩
  · right; left
    have c3 := c3 0 rfl
    refine ⟨M1', M2', ?_, wp_un ?_, f, (fa.w.trans fa1.w).trans fa2.w, (fb.w.trans (ft1.w (by omega))).trans (ft2.w (by omega))⟩
    · repeat' first
        | (with_reducible apply bR_go; (simp (disch := omega) only [rM L, rK L, rN L, rNf, rNv, rNp, rNd, rRow, rLeg, rMark, nat_cast, Int.reduceToNat]; with_reducible exact rfl))
        | with_reducible apply bI_go
        | with_reducible apply bV_go
        | with_reducible apply bL_go
        | (with_reducible apply it_1; (first | omega | (simp (disch := omega) only [not_false_eq_true, not_true_eq_false, w32_id, tLt, fLt, tLe, fEq, itE, and_true, true_and, and_self, and_false, false_and, ↓reduceIte, nat_add, nat_mul3, nat_mul4, nat_mul6, nat_mul15, nat_mul60, nat_cast, nc1, Int.reduceToNat, upE, upN, fill_ne, fill_in, i0] <;> omega)))
        | (with_reducible apply it_2; (first | omega | (simp (disch := omega) only [not_false_eq_true, not_true_eq_false, w32_id, tLt, fLt, tLe, fEq, itE, and_true, true_and, and_self, and_false, false_and, ↓reduceIte, nat_add, nat_mul3, nat_mul4, nat_mul6, nat_mul15, nat_mul60, nat_cast, nc1, Int.reduceToNat, upE, upN, fill_ne, fill_in, i0] <;> omega)))
        | (with_reducible refine cl_go ?_; simp (disch := omega) only [not_false_eq_true, not_true_eq_false, w32_id, tLt, fLt, tLe, fEq, itE, and_true, true_and, and_self, and_false, false_and, ↓reduceIte, nat_add, nat_mul3, nat_mul4, nat_mul6, nat_mul15, nat_mul60, nat_cast, nc1, Int.reduceToNat, upE, upN, fill_ne, fill_in, i0])
        | rw [c_WorldText_takesWar (by omega), b_WorldText_takesWar_0]
        | with_reducible exact a1
        | with_reducible exact c1
        | with_reducible exact c3
        | (with_reducible refine rn_go ?_; simp (disch := omega) only [not_false_eq_true, not_true_eq_false, w32_id, tLt, fLt, tLe, fEq, itE, and_true, true_and, and_self, and_false, false_and, ↓reduceIte, nat_add, nat_mul3, nat_mul4, nat_mul6, nat_mul15, nat_mul60, nat_cast, nc1, Int.reduceToNat, upE, upN, fill_ne, fill_in, i0])
        | (with_reducible refine lf_go ?_; simp (disch := omega) only [not_false_eq_true, not_true_eq_false, w32_id, tLt, fLt, tLe, fEq, itE, and_true, true_and, and_self, and_false, false_and, ↓reduceIte, nat_add, nat_mul3, nat_mul4, nat_mul6, nat_mul15, nat_mul60, nat_cast, nc1, Int.reduceToNat, upE, upN, fill_ne, fill_in, i0])
        | with_reducible exact rfl
    · repeat' first
        | (with_reducible apply wp_bR; (simp (disch := omega) only [rM L, rK L, rN L, rNf, rNv, rNp, rNd, rRow, rLeg, rMark, nat_cast, Int.reduceToNat, b88, d88, ev, Int.reduceMod]; with_reducible exact rfl))
        | with_reducible apply wp_bI
        | with_reducible apply wp_bV
        | with_reducible apply wp_bL
        | with_reducible apply wp_rI
        | with_reducible apply wp_rV
        | with_reducible apply wp_rL
        | (with_reducible apply wp_1; (first | omega | (simp (disch := omega) only [not_false_eq_true, not_true_eq_false, w32_id, tLt, fLt, tLe, fEq, itE, and_true, true_and, and_self, and_false, false_and, ↓reduceIte, nat_add, nat_mul3, nat_mul4, nat_mul6, nat_mul15, nat_mul60, nat_cast, nc1, Int.reduceToNat, upE, upN, fill_ne, fill_in, i0, b88, d88, ev, Int.reduceMod] <;> omega)))
        | (with_reducible apply wp_2; (first | omega | (simp (disch := omega) only [not_false_eq_true, not_true_eq_false, w32_id, tLt, fLt, tLe, fEq, itE, and_true, true_and, and_self, and_false, false_and, ↓reduceIte, nat_add, nat_mul3, nat_mul4, nat_mul6, nat_mul15, nat_mul60, nat_cast, nc1, Int.reduceToNat, upE, upN, fill_ne, fill_in, i0, b88, d88, ev, Int.reduceMod] <;> omega)))
        | (with_reducible apply wp_s; (first | (simp (disch := omega) only [not_false_eq_true, not_true_eq_false, w32_id, tLt, fLt, tLe, fEq, itE, and_true, true_and, and_self, and_false, false_and, ↓reduceIte, nat_add, nat_mul3, nat_mul4, nat_mul6, nat_mul15, nat_mul60, nat_cast, nc1, Int.reduceToNat, upE, upN, fill_ne, fill_in, i0, b88, d88, ev, Int.reduceMod]; with_reducible exact Iff.rfl) | with_reducible exact Iff.rfl); intro hc__; (try subst hc__); rotate_left; intro hc__; rotate_left)
        | (with_reducible apply wp_eq; (with_reducible apply cl_go; simp (disch := omega) only [not_false_eq_true, not_true_eq_false, w32_id, tLt, fLt, tLe, fEq, itE, and_true, true_and, and_self, and_false, false_and, ↓reduceIte, nat_add, nat_mul3, nat_mul4, nat_mul6, nat_mul15, nat_mul60, nat_cast, nc1, Int.reduceToNat, upE, upN, fill_ne, fill_in, i0, b88, d88, ev, Int.reduceMod]; with_reducible exact rfl))
        | (with_reducible refine wp_eq (c_Mo_aCouple (by omega) _ _ _ _) ?_; with_reducible refine wp_eq (b_Mo_aCouple_0 _ _ _ _ _) ?_)
        | (with_reducible refine wp_eq (c_Mo_nationTo (by omega) _ _ _ _) ?_; with_reducible refine wp_eq (b_Mo_nationTo_0 _ _ _ _ _) ?_)
        | with_reducible refine wp_eq (b_Mo_aCouple_92 _ _ _ _ _ _) ?_
        | with_reducible refine wp_eq (a2) ?_
        | with_reducible refine wp_eq (c2 _ _ _ (by omega) (by omega) (by omega)) ?_
        | with_reducible refine wp_eq (i1) ?_
        | with_reducible refine wp_eq (f1 _ _ (by omega) (by omega)) ?_
        | with_reducible refine wp_eq (c4 _ _ _ (by omega) (by omega) (by omega)) ?_
        | (with_reducible apply wp_eq; (with_reducible apply lf_go; simp (disch := omega) only [not_false_eq_true, not_true_eq_false, w32_id, tLt, fLt, tLe, fEq, itE, and_true, true_and, and_self, and_false, false_and, ↓reduceIte, nat_add, nat_mul3, nat_mul4, nat_mul6, nat_mul15, nat_mul60, nat_cast, nc1, Int.reduceToNat, upE, upN, fill_ne, fill_in, i0, b88, d88, ev, Int.reduceMod]; with_reducible exact rfl))
        | with_reducible apply wp_q1
      exact ⟨_, _, _, rfl, rfl, rfl, rfl⟩
  have c3 := c3 0 rfl
  have f54 : Mf 272 2854 = (v : Int) := by rw [ft2 _ _ (by omega) (by omega)]; exact ev
  have sw : callD (d1 - 1) m_Chart_setWar [vR 0 0 66, vI (v : Int), vI (w : Int), vI 1] (SH L) Me = some (none, SH L, up (up Me 76 v (or32 (Me 76 v) (shl32 1 (w : Int)))) 76 w (or32 (Me 76 w) (shl32 1 (v : Int)))) := by
    repeat' first
      | (with_reducible apply bR_go; (simp (disch := omega) only [rM L, rK L, rN L, rNf, rNv, rNp, rNd, rRow, rLeg, rMark, nat_cast, Int.reduceToNat, rc]; with_reducible exact rfl))
      | with_reducible apply bI_go
      | with_reducible apply bV_go
      | with_reducible apply bL_go
      | (with_reducible apply it_1; (first | omega | (simp (disch := omega) only [not_false_eq_true, not_true_eq_false, w32_id, tLt, fLt, tLe, fEq, itE, and_true, true_and, and_self, and_false, false_and, ↓reduceIte, nat_add, nat_mul3, nat_mul4, nat_mul6, nat_mul15, nat_mul60, nat_cast, nc1, Int.reduceToNat, upE, upN, fill_ne, fill_in, i0, rc] <;> omega)))
      | (with_reducible apply it_2; (first | omega | (simp (disch := omega) only [not_false_eq_true, not_true_eq_false, w32_id, tLt, fLt, tLe, fEq, itE, and_true, true_and, and_self, and_false, false_and, ↓reduceIte, nat_add, nat_mul3, nat_mul4, nat_mul6, nat_mul15, nat_mul60, nat_cast, nc1, Int.reduceToNat, upE, upN, fill_ne, fill_in, i0, rc] <;> omega)))
      | (with_reducible refine cl_go ?_; simp (disch := omega) only [not_false_eq_true, not_true_eq_false, w32_id, tLt, fLt, tLe, fEq, itE, and_true, true_and, and_self, and_false, false_and, ↓reduceIte, nat_add, nat_mul3, nat_mul4, nat_mul6, nat_mul15, nat_mul60, nat_cast, nc1, Int.reduceToNat, upE, upN, fill_ne, fill_in, i0, rc])
      | rw [c_Chart_setWar (by omega), b_Chart_setWar_0]
      | (with_reducible refine rn_go ?_; simp (disch := omega) only [not_false_eq_true, not_true_eq_false, w32_id, tLt, fLt, tLe, fEq, itE, and_true, true_and, and_self, and_false, false_and, ↓reduceIte, nat_add, nat_mul3, nat_mul4, nat_mul6, nat_mul15, nat_mul60, nat_cast, nc1, Int.reduceToNat, upE, upN, fill_ne, fill_in, i0, rc])
      | (with_reducible refine lf_go ?_; simp (disch := omega) only [not_false_eq_true, not_true_eq_false, w32_id, tLt, fLt, tLe, fEq, itE, and_true, true_and, and_self, and_false, false_and, ↓reduceIte, nat_add, nat_mul3, nat_mul4, nat_mul6, nat_mul15, nat_mul60, nat_cast, nc1, Int.reduceToNat, upE, upN, fill_ne, fill_in, i0, rc])
      | with_reducible exact rfl
  generalize hX : up (up Mf 272 (2296 + 4 * v + 3) (or32 (Mf 272 (2296 + 4 * v + 3)) (shl32 1 (w : Int)))) 272 (2296 + 4 * w + 3) (or32 (Mf 272 (2296 + 4 * w + 3)) (shl32 1 (v : Int))) = X
  have mo : callD d2 m_Mo_aCouple [vR 12 0 271, vI 1] (SH L) M2 = some (some (vI 1), SH L, X) := by
    rw [← hX]
    refine wp_un ?_
    repeat' first
      | (with_reducible apply wp_bR; (simp (disch := omega) only [rM L, rK L, rN L, rNf, rNv, rNp, rNd, rRow, rLeg, rMark, nat_cast, Int.reduceToNat, b88, d88, ev, f54, ew, Int.reduceMod, Int.reduceAdd]; with_reducible exact rfl))
      | with_reducible apply wp_bI
      | with_reducible apply wp_bV
      | with_reducible apply wp_bL
      | with_reducible apply wp_rI
      | with_reducible apply wp_rV
      | with_reducible apply wp_rL
      | (with_reducible apply wp_1; (first | omega | (simp (disch := omega) only [not_false_eq_true, not_true_eq_false, w32_id, tLt, fLt, tLe, fEq, itE, and_true, true_and, and_self, and_false, false_and, ↓reduceIte, nat_add, nat_mul3, nat_mul4, nat_mul6, nat_mul15, nat_mul60, nat_cast, nc1, Int.reduceToNat, upE, upN, fill_ne, fill_in, i0, b88, d88, ev, f54, ew, Int.reduceMod, Int.reduceAdd] <;> omega)))
      | (with_reducible apply wp_2; (first | omega | (simp (disch := omega) only [not_false_eq_true, not_true_eq_false, w32_id, tLt, fLt, tLe, fEq, itE, and_true, true_and, and_self, and_false, false_and, ↓reduceIte, nat_add, nat_mul3, nat_mul4, nat_mul6, nat_mul15, nat_mul60, nat_cast, nc1, Int.reduceToNat, upE, upN, fill_ne, fill_in, i0, b88, d88, ev, f54, ew, Int.reduceMod, Int.reduceAdd] <;> omega)))
      | (with_reducible apply wp_s; (first | (simp (disch := omega) only [not_false_eq_true, not_true_eq_false, w32_id, tLt, fLt, tLe, fEq, itE, and_true, true_and, and_self, and_false, false_and, ↓reduceIte, nat_add, nat_mul3, nat_mul4, nat_mul6, nat_mul15, nat_mul60, nat_cast, nc1, Int.reduceToNat, upE, upN, fill_ne, fill_in, i0, b88, d88, ev, f54, ew, Int.reduceMod, Int.reduceAdd]; with_reducible exact Iff.rfl) | with_reducible exact Iff.rfl); intro hc__; (try subst hc__); rotate_left; intro hc__; rotate_left)
      | (with_reducible apply wp_eq; (with_reducible apply cl_go; simp (disch := omega) only [not_false_eq_true, not_true_eq_false, w32_id, tLt, fLt, tLe, fEq, itE, and_true, true_and, and_self, and_false, false_and, ↓reduceIte, nat_add, nat_mul3, nat_mul4, nat_mul6, nat_mul15, nat_mul60, nat_cast, nc1, Int.reduceToNat, upE, upN, fill_ne, fill_in, i0, b88, d88, ev, f54, ew, Int.reduceMod, Int.reduceAdd]; with_reducible exact rfl))
      | (with_reducible refine wp_eq (c_Mo_aCouple (by omega) _ _ _ _) ?_; with_reducible refine wp_eq (b_Mo_aCouple_0 _ _ _ _ _) ?_)
      | (with_reducible refine wp_eq (c_Mo_nationTo (by omega) _ _ _ _) ?_; with_reducible refine wp_eq (b_Mo_nationTo_0 _ _ _ _ _) ?_)
      | with_reducible refine wp_eq (b_Mo_aCouple_92 _ _ _ _ _ _) ?_
      | with_reducible refine wp_eq (a2) ?_
      | with_reducible refine wp_eq (c2 _ _ _ (by omega) (by omega) (by omega)) ?_
      | with_reducible refine wp_eq (i1) ?_
      | with_reducible refine wp_eq (f1 _ _ (by omega) (by omega)) ?_
      | with_reducible refine wp_eq (c4 _ _ _ (by omega) (by omega) (by omega)) ?_
      | (with_reducible apply wp_eq; (with_reducible apply lf_go; simp (disch := omega) only [not_false_eq_true, not_true_eq_false, w32_id, tLt, fLt, tLe, fEq, itE, and_true, true_and, and_self, and_false, false_and, ↓reduceIte, nat_add, nat_mul3, nat_mul4, nat_mul6, nat_mul15, nat_mul60, nat_cast, nc1, Int.reduceToNat, upE, upN, fill_ne, fill_in, i0, b88, d88, ev, f54, ew, Int.reduceMod, Int.reduceAdd]; with_reducible exact rfl))
      | with_reducible apply wp_q1
    exact ⟨_, _, _, rfl, rfl, rfl, rfl⟩
  have th : TK bt n qc ec (up (up Me 76 v (or32 (Me 76 v) (shl32 1 (w : Int)))) 76 w (or32 (Me 76 w) (shl32 1 (v : Int)))) X := tc.fr (fun b j hb => by rw [upN (by omega), upN (by omega)]) fun b j hb => by rw [← hX, upN (by omega), upN (by omega)]
  have w1 := (((fa.w.trans fa1.w).trans fa2.w).u (c := 76) (j := v) (v := or32 (Me 76 v) (shl32 1 (w : Int))) (by omega)).u (c := 76) (j := w) (v := or32 (Me 76 w) (shl32 1 (v : Int))) (by omega)
  have w2 : FmW M2 X := by rw [← hX]; exact (((fb.w.trans (ft1.w (by omega))).trans (ft2.w (by omega))).u (by omega)).u (by omega)
  rcases k_stop (L := L) (d1 := d1 - 1) (d2 := d2) (by omega) (by omega) th with ⟨qe, ee, Mj, Mk, s1, s2, tk, le', fj, fk⟩ | ⟨Mj, Mk, s1, s2, f, fj, fk⟩
  rotate_left
  · right; right
    refine ⟨Mj, _, Mk, ?_, mo, s2, f, w1.trans fj.w, w2.trans fk.w⟩
    repeat' first
      | (with_reducible apply bR_go; (simp (disch := omega) only [rM L, rK L, rN L, rNf, rNv, rNp, rNd, rRow, rLeg, rMark, nat_cast, Int.reduceToNat, Int.reduceMod]; with_reducible exact rfl))
      | with_reducible apply bI_go
      | with_reducible apply bV_go
      | with_reducible apply bL_go
      | (with_reducible apply it_1; (first | omega | (simp (disch := omega) only [not_false_eq_true, not_true_eq_false, w32_id, tLt, fLt, tLe, fEq, itE, and_true, true_and, and_self, and_false, false_and, ↓reduceIte, nat_add, nat_mul3, nat_mul4, nat_mul6, nat_mul15, nat_mul60, nat_cast, nc1, Int.reduceToNat, upE, upN, fill_ne, fill_in, i0, Int.reduceMod] <;> omega)))
      | (with_reducible apply it_2; (first | omega | (simp (disch := omega) only [not_false_eq_true, not_true_eq_false, w32_id, tLt, fLt, tLe, fEq, itE, and_true, true_and, and_self, and_false, false_and, ↓reduceIte, nat_add, nat_mul3, nat_mul4, nat_mul6, nat_mul15, nat_mul60, nat_cast, nc1, Int.reduceToNat, upE, upN, fill_ne, fill_in, i0, Int.reduceMod] <;> omega)))
      | (with_reducible refine cl_go ?_; simp (disch := omega) only [not_false_eq_true, not_true_eq_false, w32_id, tLt, fLt, tLe, fEq, itE, and_true, true_and, and_self, and_false, false_and, ↓reduceIte, nat_add, nat_mul3, nat_mul4, nat_mul6, nat_mul15, nat_mul60, nat_cast, nc1, Int.reduceToNat, upE, upN, fill_ne, fill_in, i0, Int.reduceMod])
      | rw [c_WorldText_takesWar (by omega), b_WorldText_takesWar_0]
      | with_reducible exact a1
      | with_reducible exact c1
      | with_reducible exact c3
      | with_reducible exact sw
      | with_reducible exact s1
      | (with_reducible refine rn_go ?_; simp (disch := omega) only [not_false_eq_true, not_true_eq_false, w32_id, tLt, fLt, tLe, fEq, itE, and_true, true_and, and_self, and_false, false_and, ↓reduceIte, nat_add, nat_mul3, nat_mul4, nat_mul6, nat_mul15, nat_mul60, nat_cast, nc1, Int.reduceToNat, upE, upN, fill_ne, fill_in, i0, Int.reduceMod])
      | (with_reducible refine lf_go ?_; simp (disch := omega) only [not_false_eq_true, not_true_eq_false, w32_id, tLt, fLt, tLe, fEq, itE, and_true, true_and, and_self, and_false, false_and, ↓reduceIte, nat_add, nat_mul3, nat_mul4, nat_mul6, nat_mul15, nat_mul60, nat_cast, nc1, Int.reduceToNat, upE, upN, fill_ne, fill_in, i0, Int.reduceMod])
      | with_reducible exact rfl
  left
  refine ⟨qe, ee, Mj, _, Mk, ?_, mo, s2, tk, by have b1 := ta.2.2.2.2.1.bd; have b2 := tb.2.2.2.2.1.bd; have b3 := tc.2.2.2.2.1.bd; omega, ?_, w1.trans fj.w, w2.trans fk.w⟩
  · repeat' first
      | (with_reducible apply bR_go; (simp (disch := omega) only [rM L, rK L, rN L, rNf, rNv, rNp, rNd, rRow, rLeg, rMark, nat_cast, Int.reduceToNat, Int.reduceMod]; with_reducible exact rfl))
      | with_reducible apply bI_go
      | with_reducible apply bV_go
      | with_reducible apply bL_go
      | (with_reducible apply it_1; (first | omega | (simp (disch := omega) only [not_false_eq_true, not_true_eq_false, w32_id, tLt, fLt, tLe, fEq, itE, and_true, true_and, and_self, and_false, false_and, ↓reduceIte, nat_add, nat_mul3, nat_mul4, nat_mul6, nat_mul15, nat_mul60, nat_cast, nc1, Int.reduceToNat, upE, upN, fill_ne, fill_in, i0, Int.reduceMod] <;> omega)))
      | (with_reducible apply it_2; (first | omega | (simp (disch := omega) only [not_false_eq_true, not_true_eq_false, w32_id, tLt, fLt, tLe, fEq, itE, and_true, true_and, and_self, and_false, false_and, ↓reduceIte, nat_add, nat_mul3, nat_mul4, nat_mul6, nat_mul15, nat_mul60, nat_cast, nc1, Int.reduceToNat, upE, upN, fill_ne, fill_in, i0, Int.reduceMod] <;> omega)))
      | (with_reducible refine cl_go ?_; simp (disch := omega) only [not_false_eq_true, not_true_eq_false, w32_id, tLt, fLt, tLe, fEq, itE, and_true, true_and, and_self, and_false, false_and, ↓reduceIte, nat_add, nat_mul3, nat_mul4, nat_mul6, nat_mul15, nat_mul60, nat_cast, nc1, Int.reduceToNat, upE, upN, fill_ne, fill_in, i0, Int.reduceMod])
      | rw [c_WorldText_takesWar (by omega), b_WorldText_takesWar_0]
      | with_reducible exact a1
      | with_reducible exact c1
      | with_reducible exact c3
      | with_reducible exact sw
      | with_reducible exact s1
      | (with_reducible refine rn_go ?_; simp (disch := omega) only [not_false_eq_true, not_true_eq_false, w32_id, tLt, fLt, tLe, fEq, itE, and_true, true_and, and_self, and_false, false_and, ↓reduceIte, nat_add, nat_mul3, nat_mul4, nat_mul6, nat_mul15, nat_mul60, nat_cast, nc1, Int.reduceToNat, upE, upN, fill_ne, fill_in, i0, Int.reduceMod])
      | (with_reducible refine lf_go ?_; simp (disch := omega) only [not_false_eq_true, not_true_eq_false, w32_id, tLt, fLt, tLe, fEq, itE, and_true, true_and, and_self, and_false, false_and, ↓reduceIte, nat_add, nat_mul3, nat_mul4, nat_mul6, nat_mul15, nat_mul60, nat_cast, nc1, Int.reduceToNat, upE, upN, fill_ne, fill_in, i0, Int.reduceMod])
      | with_reducible exact rfl
  have o : ∀ j, Me 76 j = M1 76 j := fun j => by rw [fa2 _ _ (by omega), fa1 _ _ (by omega), fa _ _ (by omega)]
  have oA : ∀ k, k < 206 → Mf 272 (2288 + k) = dA M2 k := fun k hk => by
    rw [ft2 _ _ (by omega) (by omega), ft1 _ _ (by omega) (by omega), fb _ _ (by omega)]
    rfl
  refine dd_war hD (v := v) (w := w) (by omega) (by omega) vw (fun b j y1 y2 y3 => ?_) ?_ ?_ (fun k y1 y2 y3 => ?_) ?_ ?_ (fun j _ _ => ?_) ?_ ?_
  · rw [fj _ _ (by omega), upN (by omega), upN (by omega), fa2 _ _ (by omega), fa1 _ _ (by omega), fa _ _ (by omega)]
  · rw [fj _ _ (by omega), upN (by omega), upE rfl rfl, o]
  · rw [fj _ _ (by omega), upE rfl rfl, o]
  · unfold dA
    rw [fk _ _ (by omega), ← hX, upN (by omega), upN (by omega)]
    exact oA k y1
  · have := oA (11 + 4 * v) (by omega)
    rw [show 2288 + (11 + 4 * v) = 2296 + 4 * v + 3 by omega] at this
    unfold dA
    rw [fk _ _ (by omega), ← hX, upN (by omega), show 2288 + (11 + 4 * v) = 2296 + 4 * v + 3 by omega, upE rfl rfl, this]
    unfold dA
    rw [show 2288 + (11 + 4 * v) = 2296 + 4 * v + 3 by omega]
  · have := oA (11 + 4 * w) (by omega)
    rw [show 2288 + (11 + 4 * w) = 2296 + 4 * w + 3 by omega] at this
    unfold dA
    rw [fk _ _ (by omega), ← hX, show 2288 + (11 + 4 * w) = 2296 + 4 * w + 3 by omega, upE rfl rfl, this]
    unfold dA
    rw [show 2288 + (11 + 4 * w) = 2296 + 4 * w + 3 by omega]
  · rw [fk _ _ (by omega), ← hX, upN (by omega), upN (by omega), ft2 _ _ (by omega) (by omega), ft1 _ _ (by omega) (by omega), fb _ _ (by omega)]
  · rw [fj _ _ (by omega), upN (by omega), upN (by omega), fa2 _ _ (by omega), fa1 _ _ (by omega), fa _ _ (by omega)]
  · rw [fk _ _ (by omega), ← hX, upN (by omega), upN (by omega), ft2 _ _ (by omega) (by omega), ft1 _ _ (by omega) (by omega), fb _ _ (by omega)]
end

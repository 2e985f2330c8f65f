/-! THE PLAN'S TEXT, a part at a time: an END, and what fits nowhere -/
def FcL (M M' : Mm) : Prop := ∀ b j, ¬(b = 12 ∧ 4 ≤ j) → b ≠ 16 → b ≠ 17 → ¬(98 ≤ b ∧ b ≤ 103) → M' b j = M b j
def FmL (M M' : Mm) : Prop := ∀ b j, ¬(b = 271 ∧ (12 ≤ j ∧ j ≤ 15 ∨ j = 17 ∨ j = 18 ∨ j = 22 ∨ j = 23)) → ¬(b = 272 ∧ 2294 ≤ j ∧ j < 2860) → b ≠ 279 → M' b j = M b j
def VS (bt : Nat → Int) (n q L d1 x : Nat) (o1 o2 : Option Rs) (M1 M2 : Mm) : Prop :=
  (∃ (q' e' k c dp : Nat) (s : Nat → Nat) (d5 d6 : AV) (M1' M2' : Mm), o1 = Run (callD d1) tb_VoyageText_takes 12 [vR 9 0 16, vR 6 0 12, vR 0 0 19, vR 3 0 98, vI ((x + 1 : Nat) : Int), d5, d6] [] (SH L) M1' ∧ o2 = some (some (vI 1), SH L, M2') ∧ TK bt n q' e' M1' M2' ∧ q ≤ q' ∧ VI M1' M2' k c dp s ∧ FcL M1 M1' ∧ FmL M2 M2') ∨
  (∃ M1' M2', o1 = some (some (vI 0), SH L, M1') ∧ o2 = some (some (vI 0), SH L, M2') ∧ FL M1' M2' ∧ FcL M1 M1' ∧ FmL M2 M2')
theorem kM_rng1 : ∀ c : Fin 31, 19 ≤ c.val ∧ c.val ≤ 25 ∨ c.val = 28 ∨ c.val = 29 ∨ c.val = 30 ∨ (kM (c.val : Int) < 19 ∨ 28 < kM (c.val : Int)) := by decide +kernel
theorem kM_rng {w : Int} (hw : -1 ≤ w ∧ w < 31) (h : ¬(19 ≤ w ∧ w ≤ 25 ∨ w = 28 ∨ w = 29 ∨ w = 30)) : kM w < 19 ∨ 28 < kM w := by
  by_cases z : w = -1
  · subst z
    exact Or.inl (by decide)
  · obtain ⟨u, rfl⟩ := Int.eq_ofNat_of_zero_le (show 0 ≤ w by omega)
    have := kM_rng1 ⟨u, by omega⟩
    dsimp only at this
    omega
section
variable {bt : Nat → Int} {n q e : Nat} {M M' M1 M2 M1' M2' : Mm} {L d d1 d2 k c dp x : Nat} {s : Nat → Nat} {d5 d6 : AV}
theorem FrA.l (h : FrA M M') : FcL M M' := fun b j y1 _ _ _ => h b j y1
theorem FrB.l (h : FrB M M') : FmL M M' := fun b j y1 _ _ => h b j (by omega)
theorem FcL.trans {Ma : Mm} (h1 : FcL M Ma) (h2 : FcL Ma M') : FcL M M' := fun b j y1 y2 y3 y4 => (h2 b j y1 y2 y3 y4).trans (h1 b j y1 y2 y3 y4)
theorem FmL.trans {Ma : Mm} (h1 : FmL M Ma) (h2 : FmL Ma M') : FmL M M' := fun b j y1 y2 y3 => (h2 b j y1 y2 y3).trans (h1 b j y1 y2 y3)
theorem TK.w7 (h : TK bt n q e M1 M2) (hw : cwx bt n q e ≠ -1) : M1 12 7 = 1 := by
  have wd := h.wd
  rcases h.2.2.1.2.2 with c | c | c | c
  · omega
  · exact c.2.2.1
  · omega
  · omega
set_option maxHeartbeats 4000000 in
theorem v_end {p : Nat} (h1 : 10 ≤ d1) (h2 : 10 ≤ d2) (h : TK bt n q e M1 M2) (hV : VI M1 M2 k c (p + 1) s) (hx : x ≤ 300) (hq : cwx bt n q e = 29) : VS bt n e L d1 x (Run (callD d1) tb_VoyageText_takes 12 [vR 9 0 16, vR 6 0 12, vR 0 0 19, vR 3 0 98, vI (x : Int), d5, d6] [] (SH L) M1) (callD d2 m_Mo_voyageStep [vR 12 0 271] (SH L) M2) M1 M2 := by
  obtain ⟨⟨g5, g6, g1⟩, ⟨m94, m23, m22⟩, ⟨b1, b2, b3⟩, st, -, -, -⟩ := id hV
  obtain ⟨t1, t2, t3, -, -⟩ := st p (by omega)
  have w7 := h.w7 (by omega)
  have wd := h.wd
  have iw := h.iw (L := L) (d2 := d2 - 1) (by omega)
  rw [hq] at wd iw
  rw [show kM 29 = 27 from rfl] at iw
  have rs := rS (L := L) (s := 65) (Or.inr (Or.inl rfl))
  have hd := m_head (L := L) (d2 := d2) (by omega) (kw := 27) (bl := 0) (c' := (c : Int)) iw (k := k) (by omega) m94 m23 (by omega) (Or.inr (Or.inr (Or.inl ⟨rfl, rfl, by omega, rfl⟩)))
  have hu : TK bt n q e M1 (stp M2 k c 27) := h.fr (fun _ _ _ => rfl) fun b j hb => stp_ne (by omega) (by omega)
  obtain ⟨qa, ea, Mp, Mq, p1, p2, ta, la, fp, fq⟩ := k_adv (L := L) (d1 := d1 - 1) (d2 := d2 - 1) (by omega) (by omega) hu
  obtain ⟨e23, e94, e0, e4⟩ := stp_at (M := M2) (k := k) (c := (c : Int)) (w := 27)
  generalize ho : s p = o at *
  have ed : (p : Int) + 1 - 1 = (p : Int) := by omega
  have x1 : Mp 16 1 = (p : Int) + 1 := by rw [fp _ _ (by omega), g1]; rfl
  have x2 : Mp 17 p = (o : Int) := by rw [fp _ _ (by omega)]; exact t1
  have x5 : Mp 98 5 = (k : Int) := by rw [fp _ _ (by omega)]; exact g5
  have y22 : Mq 271 22 = (p : Int) + 1 := by rw [fq _ _ (by omega), stp_ne (by omega) (by omega), m22]; rfl
  have y79 : Mq 279 p = (o : Int) := by rw [fq _ _ (by omega), stp_ne (by omega) (by omega)]; exact t2
  have z94 : zr (up (up M2 271 23 (c : Int)) 272 (2494 + 6 * k) 27) k 272 2294 = (k : Int) := by rw [zr_ne (by omega), upN (by omega), upN (by omega)]; exact m94
  have tx : TK bt n qa ea (up (up (up (up (up Mp 16 1 (p : Int)) 99 k 13) 103 k (o : Int)) 103 o (k : Int)) 98 5 ((k : Int) + 1)) (up (up (up Mq 271 22 (p : Int)) 272 (2494 + 6 * k + 4) (o : Int)) 272 (2494 + 6 * o + 4) (k : Int)) := ta.fr (fun b j hb => by rw [upN (by omega), upN (by omega), upN (by omega), upN (by omega), upN (by omega)]) fun b j hb => by rw [upN (by omega), upN (by omega), upN (by omega)]
  have fX1 : FcL M1 (up (up (up (up (up Mp 16 1 (p : Int)) 99 k 13) 103 k (o : Int)) 103 o (k : Int)) 98 5 ((k : Int) + 1)) := fun b j q1 q2 q3 q4 => by rw [upN (by omega), upN (by omega), upN (by omega), upN (by omega), upN (by omega)]; exact fp b j q1
  have fX2 : FmL M2 (up (up (up Mq 271 22 (p : Int)) 272 (2494 + 6 * k + 4) (o : Int)) 272 (2494 + 6 * o + 4) (k : Int)) := fun b j q1 q2 q3 => by rw [upN (by omega), upN (by omega), upN (by omega), fq _ _ (by omega), stp_ne (by omega) (by omega)]
  unfold stp at p2
  rcases k_stop (L := L) (d1 := d1) (d2 := d2 - 1) (by omega) (by omega) tx with ⟨qe, ee, Mc, Md, s1, s2, tk, le, fc, fd⟩ | ⟨Mc, Md, s1, s2, f, fc, fd⟩
  rotate_left
  · right
    refine ⟨Mc, Md, ?_, ?_, f, fX1.trans fc.l, fX2.trans fd.l⟩
    · rw [b_VoyageText_takes_12]
      repeat' first
        | (with_reducible apply bR_go; (simp (disch := omega) only [rM L, rK L, rN L, rNf, rNv, rNp, rNd, rRow, rLeg, rMark, nat_cast, Int.reduceToNat, wd, rs, x1, x2, x5, ed, g1]; with_reducible exact rfl))
        | with_reducible apply bI_go
        | with_reducible apply bV_go
        | with_reducible apply bL_go
        | (with_reducible apply it_1; (first | omega | (simp (disch := omega) only [not_false_eq_true, not_true_eq_false, w32_id, tLt, fLt, tLe, fEq, itE, and_true, true_and, and_self, and_false, false_and, ↓reduceIte, nat_add, nat_mul3, nat_mul4, nat_mul6, nat_mul15, nat_mul60, nat_cast, nc1, Int.reduceToNat, upE, upN, fill_ne, fill_in, i0, wd, rs, x1, x2, x5, ed, g1] <;> omega)))
        | (with_reducible apply it_2; (first | omega | (simp (disch := omega) only [not_false_eq_true, not_true_eq_false, w32_id, tLt, fLt, tLe, fEq, itE, and_true, true_and, and_self, and_false, false_and, ↓reduceIte, nat_add, nat_mul3, nat_mul4, nat_mul6, nat_mul15, nat_mul60, nat_cast, nc1, Int.reduceToNat, upE, upN, fill_ne, fill_in, i0, wd, rs, x1, x2, x5, ed, g1] <;> omega)))
        | (with_reducible refine cl_go ?_; simp (disch := omega) only [not_false_eq_true, not_true_eq_false, w32_id, tLt, fLt, tLe, fEq, itE, and_true, true_and, and_self, and_false, false_and, ↓reduceIte, nat_add, nat_mul3, nat_mul4, nat_mul6, nat_mul15, nat_mul60, nat_cast, nc1, Int.reduceToNat, upE, upN, fill_ne, fill_in, i0, wd, rs, x1, x2, x5, ed, g1])
        | rw [c_VoyageText_takesEnd (by omega), b_VoyageText_takesEnd_0]
        | rw [c_Plan_addEnd (by omega), b_Plan_addEnd_0]
        | rw [c_VoyageText_isBlock (by omega), b_VoyageText_isBlock_0]
        | with_reducible exact p1
        | with_reducible exact s1
        | (with_reducible refine rn_go ?_; simp (disch := omega) only [not_false_eq_true, not_true_eq_false, w32_id, tLt, fLt, tLe, fEq, itE, and_true, true_and, and_self, and_false, false_and, ↓reduceIte, nat_add, nat_mul3, nat_mul4, nat_mul6, nat_mul15, nat_mul60, nat_cast, nc1, Int.reduceToNat, upE, upN, fill_ne, fill_in, i0, wd, rs, x1, x2, x5, ed, g1])
        | (with_reducible refine lf_go ?_; simp (disch := omega) only [not_false_eq_true, not_true_eq_false, w32_id, tLt, fLt, tLe, fEq, itE, and_true, true_and, and_self, and_false, false_and, ↓reduceIte, nat_add, nat_mul3, nat_mul4, nat_mul6, nat_mul15, nat_mul60, nat_cast, nc1, Int.reduceToNat, upE, upN, fill_ne, fill_in, i0, wd, rs, x1, x2, x5, ed, g1])
        | with_reducible exact rfl
    · rw [hd, b_Mo_voyageStep_147]
      repeat' first
        | (with_reducible apply bR_go; (simp (disch := omega) only [rM L, rK L, rN L, rNf, rNv, rNp, rNd, rRow, rLeg, rMark, nat_cast, Int.reduceToNat, z94, y22, y79, ed, Int.reduceMod]; with_reducible exact rfl))
        | with_reducible apply bI_go
        | with_reducible apply bV_go
        | with_reducible apply bL_go
        | (with_reducible apply it_1; (first | omega | (simp (disch := omega) only [not_false_eq_true, not_true_eq_false, w32_id, tLt, fLt, tLe, fEq, itE, and_true, true_and, and_self, and_false, false_and, ↓reduceIte, nat_add, nat_mul3, nat_mul4, nat_mul6, nat_mul15, nat_mul60, nat_cast, nc1, Int.reduceToNat, upE, upN, fill_ne, fill_in, i0, z94, y22, y79, ed, Int.reduceMod] <;> omega)))
        | (with_reducible apply it_2; (first | omega | (simp (disch := omega) only [not_false_eq_true, not_true_eq_false, w32_id, tLt, fLt, tLe, fEq, itE, and_true, true_and, and_self, and_false, false_and, ↓reduceIte, nat_add, nat_mul3, nat_mul4, nat_mul6, nat_mul15, nat_mul60, nat_cast, nc1, Int.reduceToNat, upE, upN, fill_ne, fill_in, i0, z94, y22, y79, ed, Int.reduceMod] <;> omega)))
        | (with_reducible refine cl_go ?_; simp (disch := omega) only [not_false_eq_true, not_true_eq_false, w32_id, tLt, fLt, tLe, fEq, itE, and_true, true_and, and_self, and_false, false_and, ↓reduceIte, nat_add, nat_mul3, nat_mul4, nat_mul6, nat_mul15, nat_mul60, nat_cast, nc1, Int.reduceToNat, upE, upN, fill_ne, fill_in, i0, z94, y22, y79, ed, Int.reduceMod])
        | rw [c_Mo_voyageOrder (by omega), b_Mo_voyageOrder_0]
        | with_reducible exact p2
        | with_reducible exact s2
        | (with_reducible refine rn_go ?_; simp (disch := omega) only [not_false_eq_true, not_true_eq_false, w32_id, tLt, fLt, tLe, fEq, itE, and_true, true_and, and_self, and_false, false_and, ↓reduceIte, nat_add, nat_mul3, nat_mul4, nat_mul6, nat_mul15, nat_mul60, nat_cast, nc1, Int.reduceToNat, upE, upN, fill_ne, fill_in, i0, z94, y22, y79, ed, Int.reduceMod])
        | (with_reducible refine lf_go ?_; simp (disch := omega) only [not_false_eq_true, not_true_eq_false, w32_id, tLt, fLt, tLe, fEq, itE, and_true, true_and, and_self, and_false, false_and, ↓reduceIte, nat_add, nat_mul3, nat_mul4, nat_mul6, nat_mul15, nat_mul60, nat_cast, nc1, Int.reduceToNat, upE, upN, fill_ne, fill_in, i0, z94, y22, y79, ed, Int.reduceMod])
        | with_reducible exact rfl
  left
  refine ⟨qe, ee, k + 1, c, p, s, vI 29, vI 1, Mc, Md, ?_, ?_, tk, by have z1 := ta.2.2.2.2.1.bd; omega, ?_, fX1.trans fc.l, fX2.trans fd.l⟩
  · rw [b_VoyageText_takes_12]
    repeat' first
      | (with_reducible apply bR_go; (simp (disch := omega) only [rM L, rK L, rN L, rNf, rNv, rNp, rNd, rRow, rLeg, rMark, nat_cast, Int.reduceToNat, wd, rs, x1, x2, x5, ed, g1]; with_reducible exact rfl))
      | with_reducible apply bI_go
      | with_reducible apply bV_go
      | with_reducible apply bL_go
      | (with_reducible apply it_1; (first | omega | (simp (disch := omega) only [not_false_eq_true, not_true_eq_false, w32_id, tLt, fLt, tLe, fEq, itE, and_true, true_and, and_self, and_false, false_and, ↓reduceIte, nat_add, nat_mul3, nat_mul4, nat_mul6, nat_mul15, nat_mul60, nat_cast, nc1, Int.reduceToNat, upE, upN, fill_ne, fill_in, i0, wd, rs, x1, x2, x5, ed, g1] <;> omega)))
      | (with_reducible apply it_2; (first | omega | (simp (disch := omega) only [not_false_eq_true, not_true_eq_false, w32_id, tLt, fLt, tLe, fEq, itE, and_true, true_and, and_self, and_false, false_and, ↓reduceIte, nat_add, nat_mul3, nat_mul4, nat_mul6, nat_mul15, nat_mul60, nat_cast, nc1, Int.reduceToNat, upE, upN, fill_ne, fill_in, i0, wd, rs, x1, x2, x5, ed, g1] <;> omega)))
      | (with_reducible refine cl_go ?_; simp (disch := omega) only [not_false_eq_true, not_true_eq_false, w32_id, tLt, fLt, tLe, fEq, itE, and_true, true_and, and_self, and_false, false_and, ↓reduceIte, nat_add, nat_mul3, nat_mul4, nat_mul6, nat_mul15, nat_mul60, nat_cast, nc1, Int.reduceToNat, upE, upN, fill_ne, fill_in, i0, wd, rs, x1, x2, x5, ed, g1])
      | rw [c_VoyageText_takesEnd (by omega), b_VoyageText_takesEnd_0]
      | rw [c_Plan_addEnd (by omega), b_Plan_addEnd_0]
      | rw [c_VoyageText_isBlock (by omega), b_VoyageText_isBlock_0]
      | with_reducible exact p1
      | with_reducible exact s1
      | (with_reducible refine rn_go ?_; simp (disch := omega) only [not_false_eq_true, not_true_eq_false, w32_id, tLt, fLt, tLe, fEq, itE, and_true, true_and, and_self, and_false, false_and, ↓reduceIte, nat_add, nat_mul3, nat_mul4, nat_mul6, nat_mul15, nat_mul60, nat_cast, nc1, Int.reduceToNat, upE, upN, fill_ne, fill_in, i0, wd, rs, x1, x2, x5, ed, g1])
      | (with_reducible refine lf_go ?_; simp (disch := omega) only [not_false_eq_true, not_true_eq_false, w32_id, tLt, fLt, tLe, fEq, itE, and_true, true_and, and_self, and_false, false_and, ↓reduceIte, nat_add, nat_mul3, nat_mul4, nat_mul6, nat_mul15, nat_mul60, nat_cast, nc1, Int.reduceToNat, upE, upN, fill_ne, fill_in, i0, wd, rs, x1, x2, x5, ed, g1])
      | with_reducible exact rfl
  · rw [hd, b_Mo_voyageStep_147]
    repeat' first
      | (with_reducible apply bR_go; (simp (disch := omega) only [rM L, rK L, rN L, rNf, rNv, rNp, rNd, rRow, rLeg, rMark, nat_cast, Int.reduceToNat, z94, y22, y79, ed, Int.reduceMod]; with_reducible exact rfl))
      | with_reducible apply bI_go
      | with_reducible apply bV_go
      | with_reducible apply bL_go
      | (with_reducible apply it_1; (first | omega | (simp (disch := omega) only [not_false_eq_true, not_true_eq_false, w32_id, tLt, fLt, tLe, fEq, itE, and_true, true_and, and_self, and_false, false_and, ↓reduceIte, nat_add, nat_mul3, nat_mul4, nat_mul6, nat_mul15, nat_mul60, nat_cast, nc1, Int.reduceToNat, upE, upN, fill_ne, fill_in, i0, z94, y22, y79, ed, Int.reduceMod] <;> omega)))
      | (with_reducible apply it_2; (first | omega | (simp (disch := omega) only [not_false_eq_true, not_true_eq_false, w32_id, tLt, fLt, tLe, fEq, itE, and_true, true_and, and_self, and_false, false_and, ↓reduceIte, nat_add, nat_mul3, nat_mul4, nat_mul6, nat_mul15, nat_mul60, nat_cast, nc1, Int.reduceToNat, upE, upN, fill_ne, fill_in, i0, z94, y22, y79, ed, Int.reduceMod] <;> omega)))
      | (with_reducible refine cl_go ?_; simp (disch := omega) only [not_false_eq_true, not_true_eq_false, w32_id, tLt, fLt, tLe, fEq, itE, and_true, true_and, and_self, and_false, false_and, ↓reduceIte, nat_add, nat_mul3, nat_mul4, nat_mul6, nat_mul15, nat_mul60, nat_cast, nc1, Int.reduceToNat, upE, upN, fill_ne, fill_in, i0, z94, y22, y79, ed, Int.reduceMod])
      | rw [c_Mo_voyageOrder (by omega), b_Mo_voyageOrder_0]
      | with_reducible exact p2
      | with_reducible exact s2
      | (with_reducible refine rn_go ?_; simp (disch := omega) only [not_false_eq_true, not_true_eq_false, w32_id, tLt, fLt, tLe, fEq, itE, and_true, true_and, and_self, and_false, false_and, ↓reduceIte, nat_add, nat_mul3, nat_mul4, nat_mul6, nat_mul15, nat_mul60, nat_cast, nc1, Int.reduceToNat, upE, upN, fill_ne, fill_in, i0, z94, y22, y79, ed, Int.reduceMod])
      | (with_reducible refine lf_go ?_; simp (disch := omega) only [not_false_eq_true, not_true_eq_false, w32_id, tLt, fLt, tLe, fEq, itE, and_true, true_and, and_self, and_false, false_and, ↓reduceIte, nat_add, nat_mul3, nat_mul4, nat_mul6, nat_mul15, nat_mul60, nat_cast, nc1, Int.reduceToNat, upE, upN, fill_ne, fill_in, i0, z94, y22, y79, ed, Int.reduceMod])
      | with_reducible exact rfl
  refine hV.fin (o := o) ho.symm ?_ ?_ ?_ ⟨?_, ?_, ?_⟩ (fun b j q1 q2 q3 q4 => ?_) (fun i => ?_) ?_ ?_ ?_ ⟨?_, ?_, ?_⟩ (fun i q1 q2 q3 => ?_) (fun i hi => ?_) (fun i => ?_)
  · rw [fc _ _ (by omega), upE rfl rfl]; rfl
  · rw [fc _ _ (by omega), upN (by omega), upN (by omega), upN (by omega), upN (by omega), upN (by omega), fp _ _ (by omega)]; exact g6
  · rw [fc _ _ (by omega), upN (by omega), upN (by omega), upN (by omega), upN (by omega), upE rfl rfl]
  · rw [fc _ _ (by omega), upN (by omega), upN (by omega), upN (by omega), upE rfl rfl]
  · rw [fc _ _ (by omega), upN (by omega), upN (by omega), upE rfl rfl]
  · rw [fc _ _ (by omega), upN (by omega), upE rfl rfl]
  · rw [fc _ _ (by omega), upN (by omega), upN (by omega), upN (by omega), upN (by omega), upN (by omega), fp _ _ (by omega)]
  · rw [fc _ _ (by omega), upN (by omega), upN (by omega), upN (by omega), upN (by omega), upN (by omega), fp _ _ (by omega)]
  · rw [fd _ _ (by omega), upN (by omega), upN (by omega), upN (by omega), fq _ _ (by omega), e94]; rfl
  · rw [fd _ _ (by omega), upN (by omega), upN (by omega), upN (by omega), fq _ _ (by omega), e23]
  · rw [fd _ _ (by omega), upN (by omega), upN (by omega), upE rfl rfl]
  · rw [fd _ _ (by omega), upN (by omega), upN (by omega), upN (by omega), fq _ _ (by omega), e0]
  · rw [fd _ _ (by omega), upN (by omega), upE rfl (by omega)]
  · rw [fd _ _ (by omega), upE rfl (by omega)]
  · rw [fd _ _ (by omega), upN (by omega), upN (by omega), upN (by omega), fq _ _ (by omega), stp_ne (by omega) (by omega)]
  · rw [fd _ _ (by omega), upN (by omega), upN (by omega), upN (by omega), fq _ _ (by omega), stp_ne (by omega) (by omega)]
  · rw [fd _ _ (by omega), upN (by omega), upN (by omega), upN (by omega), fq _ _ (by omega), stp_ne (by omega) (by omega)]
/-- what fits nowhere -/
theorem v_no (h1 : 10 ≤ d1) (h2 : 10 ≤ d2) (h : TK bt n q e M1 M2) (hV : VI M1 M2 k c dp s) (hx : x ≤ 300) (h7 : M1 12 7 ≠ 0) (hq : cwx bt n q e = 29 ∧ dp = 0 ∨ ¬(19 ≤ cwx bt n q e ∧ cwx bt n q e ≤ 25 ∨ cwx bt n q e = 28 ∨ cwx bt n q e = 29 ∨ cwx bt n q e = 30)) : VS bt n e L d1 x (Run (callD d1) tb_VoyageText_takes 12 [vR 9 0 16, vR 6 0 12, vR 0 0 19, vR 3 0 98, vI (x : Int), d5, d6] [] (SH L) M1) (callD d2 m_Mo_voyageStep [vR 12 0 271] (SH L) M2) M1 M2 := by
  obtain ⟨⟨g5, g6, g1⟩, ⟨m94, m23, m22⟩, -, -, -, -, -⟩ := hV
  have wd := h.wd
  have iw := h.iw (L := L) (d2 := d2 - 1) (by omega)
  have cb := cwx_bd (bt := bt) (n := n) (q := q) (e := e)
  obtain ⟨Mc, Md, s1, s2, f, fc, fd⟩ := k_misfit (L := L) (d1 := d1 - 1) (d2 := d2 - 1) (by omega) (by omega) h
  right
  refine ⟨Mc, Md, ?_, ?_, f, fc.l, fd.l⟩
  · rw [b_VoyageText_takes_12]
    rcases hq with ⟨hq, rfl⟩ | hq
    · rw [hq] at wd
      have g1 : M1 16 1 = 0 := g1
      repeat' first
        | (with_reducible apply bR_go; (simp (disch := omega) only [rM L, rK L, rN L, rNf, rNv, rNp, rNd, rRow, rLeg, rMark, nat_cast, Int.reduceToNat, wd, g1, Int.reduceMod]; with_reducible exact rfl))
        | with_reducible apply bI_go
        | with_reducible apply bV_go
        | with_reducible apply bL_go
        | (with_reducible apply it_1; (first | omega | (simp (disch := omega) only [not_false_eq_true, not_true_eq_false, w32_id, tLt, fLt, tLe, fEq, itE, and_true, true_and, and_self, and_false, false_and, ↓reduceIte, nat_add, nat_mul3, nat_mul4, nat_mul6, nat_mul15, nat_mul60, nat_cast, nc1, Int.reduceToNat, upE, upN, fill_ne, fill_in, i0, wd, g1, Int.reduceMod] <;> omega)))
        | (with_reducible apply it_2; (first | omega | (simp (disch := omega) only [not_false_eq_true, not_true_eq_false, w32_id, tLt, fLt, tLe, fEq, itE, and_true, true_and, and_self, and_false, false_and, ↓reduceIte, nat_add, nat_mul3, nat_mul4, nat_mul6, nat_mul15, nat_mul60, nat_cast, nc1, Int.reduceToNat, upE, upN, fill_ne, fill_in, i0, wd, g1, Int.reduceMod] <;> omega)))
        | (with_reducible refine cl_go ?_; simp (disch := omega) only [not_false_eq_true, not_true_eq_false, w32_id, tLt, fLt, tLe, fEq, itE, and_true, true_and, and_self, and_false, false_and, ↓reduceIte, nat_add, nat_mul3, nat_mul4, nat_mul6, nat_mul15, nat_mul60, nat_cast, nc1, Int.reduceToNat, upE, upN, fill_ne, fill_in, i0, wd, g1, Int.reduceMod])
        | rw [c_VoyageText_takesEnd (by omega), b_VoyageText_takesEnd_0]
        | with_reducible exact s1
        | (with_reducible refine rn_go ?_; simp (disch := omega) only [not_false_eq_true, not_true_eq_false, w32_id, tLt, fLt, tLe, fEq, itE, and_true, true_and, and_self, and_false, false_and, ↓reduceIte, nat_add, nat_mul3, nat_mul4, nat_mul6, nat_mul15, nat_mul60, nat_cast, nc1, Int.reduceToNat, upE, upN, fill_ne, fill_in, i0, wd, g1, Int.reduceMod])
        | (with_reducible refine lf_go ?_; simp (disch := omega) only [not_false_eq_true, not_true_eq_false, w32_id, tLt, fLt, tLe, fEq, itE, and_true, true_and, and_self, and_false, false_and, ↓reduceIte, nat_add, nat_mul3, nat_mul4, nat_mul6, nat_mul15, nat_mul60, nat_cast, nc1, Int.reduceToNat, upE, upN, fill_ne, fill_in, i0, wd, g1, Int.reduceMod])
        | with_reducible exact rfl
    · by_cases z : 19 ≤ cwx bt n q e
      · repeat' first
          | (with_reducible apply bR_go; (simp (disch := omega) only [rM L, rK L, rN L, rNf, rNv, rNp, rNd, rRow, rLeg, rMark, nat_cast, Int.reduceToNat, wd, Int.reduceMod]; with_reducible exact rfl))
          | with_reducible apply bI_go
          | with_reducible apply bV_go
          | with_reducible apply bL_go
          | (with_reducible apply it_1; (first | omega | (simp (disch := omega) only [not_false_eq_true, not_true_eq_false, w32_id, tLt, fLt, tLe, fEq, itE, and_true, true_and, and_self, and_false, false_and, ↓reduceIte, nat_add, nat_mul3, nat_mul4, nat_mul6, nat_mul15, nat_mul60, nat_cast, nc1, Int.reduceToNat, upE, upN, fill_ne, fill_in, i0, wd, Int.reduceMod] <;> omega)))
          | (with_reducible apply it_2; (first | omega | (simp (disch := omega) only [not_false_eq_true, not_true_eq_false, w32_id, tLt, fLt, tLe, fEq, itE, and_true, true_and, and_self, and_false, false_and, ↓reduceIte, nat_add, nat_mul3, nat_mul4, nat_mul6, nat_mul15, nat_mul60, nat_cast, nc1, Int.reduceToNat, upE, upN, fill_ne, fill_in, i0, wd, Int.reduceMod] <;> omega)))
          | (with_reducible refine cl_go ?_; simp (disch := omega) only [not_false_eq_true, not_true_eq_false, w32_id, tLt, fLt, tLe, fEq, itE, and_true, true_and, and_self, and_false, false_and, ↓reduceIte, nat_add, nat_mul3, nat_mul4, nat_mul6, nat_mul15, nat_mul60, nat_cast, nc1, Int.reduceToNat, upE, upN, fill_ne, fill_in, i0, wd, Int.reduceMod])
          | rw [c_VoyageText_mayBegin (by omega), b_VoyageText_mayBegin_0]
          | rw [c_Ca_within (by omega), b_Ca_within_0]
          | with_reducible exact s1
          | (with_reducible refine rn_go ?_; simp (disch := omega) only [not_false_eq_true, not_true_eq_false, w32_id, tLt, fLt, tLe, fEq, itE, and_true, true_and, and_self, and_false, false_and, ↓reduceIte, nat_add, nat_mul3, nat_mul4, nat_mul6, nat_mul15, nat_mul60, nat_cast, nc1, Int.reduceToNat, upE, upN, fill_ne, fill_in, i0, wd, Int.reduceMod])
          | (with_reducible refine lf_go ?_; simp (disch := omega) only [not_false_eq_true, not_true_eq_false, w32_id, tLt, fLt, tLe, fEq, itE, and_true, true_and, and_self, and_false, false_and, ↓reduceIte, nat_add, nat_mul3, nat_mul4, nat_mul6, nat_mul15, nat_mul60, nat_cast, nc1, Int.reduceToNat, upE, upN, fill_ne, fill_in, i0, wd, Int.reduceMod])
          | with_reducible exact rfl
      · repeat' first
          | (with_reducible apply bR_go; (simp (disch := omega) only [rM L, rK L, rN L, rNf, rNv, rNp, rNd, rRow, rLeg, rMark, nat_cast, Int.reduceToNat, wd, Int.reduceMod]; with_reducible exact rfl))
          | with_reducible apply bI_go
          | with_reducible apply bV_go
          | with_reducible apply bL_go
          | (with_reducible apply it_1; (first | omega | (simp (disch := omega) only [not_false_eq_true, not_true_eq_false, w32_id, tLt, fLt, tLe, fEq, itE, and_true, true_and, and_self, and_false, false_and, ↓reduceIte, nat_add, nat_mul3, nat_mul4, nat_mul6, nat_mul15, nat_mul60, nat_cast, nc1, Int.reduceToNat, upE, upN, fill_ne, fill_in, i0, wd, Int.reduceMod] <;> omega)))
          | (with_reducible apply it_2; (first | omega | (simp (disch := omega) only [not_false_eq_true, not_true_eq_false, w32_id, tLt, fLt, tLe, fEq, itE, and_true, true_and, and_self, and_false, false_and, ↓reduceIte, nat_add, nat_mul3, nat_mul4, nat_mul6, nat_mul15, nat_mul60, nat_cast, nc1, Int.reduceToNat, upE, upN, fill_ne, fill_in, i0, wd, Int.reduceMod] <;> omega)))
          | (with_reducible refine cl_go ?_; simp (disch := omega) only [not_false_eq_true, not_true_eq_false, w32_id, tLt, fLt, tLe, fEq, itE, and_true, true_and, and_self, and_false, false_and, ↓reduceIte, nat_add, nat_mul3, nat_mul4, nat_mul6, nat_mul15, nat_mul60, nat_cast, nc1, Int.reduceToNat, upE, upN, fill_ne, fill_in, i0, wd, Int.reduceMod])
          | rw [c_VoyageText_mayBegin (by omega), b_VoyageText_mayBegin_0]
          | rw [c_Ca_within (by omega), b_Ca_within_0]
          | with_reducible exact s1
          | (with_reducible refine rn_go ?_; simp (disch := omega) only [not_false_eq_true, not_true_eq_false, w32_id, tLt, fLt, tLe, fEq, itE, and_true, true_and, and_self, and_false, false_and, ↓reduceIte, nat_add, nat_mul3, nat_mul4, nat_mul6, nat_mul15, nat_mul60, nat_cast, nc1, Int.reduceToNat, upE, upN, fill_ne, fill_in, i0, wd, Int.reduceMod])
          | (with_reducible refine lf_go ?_; simp (disch := omega) only [not_false_eq_true, not_true_eq_false, w32_id, tLt, fLt, tLe, fEq, itE, and_true, true_and, and_self, and_false, false_and, ↓reduceIte, nat_add, nat_mul3, nat_mul4, nat_mul6, nat_mul15, nat_mul60, nat_cast, nc1, Int.reduceToNat, upE, upN, fill_ne, fill_in, i0, wd, Int.reduceMod])
          | with_reducible exact rfl
  · rcases hq with ⟨hq, rfl⟩ | hq
    · rw [hq, show kM 29 = 27 from rfl] at iw
      have m22 : M2 271 22 = 0 := m22
      repeat' first
        | (with_reducible apply bR_go; (simp (disch := omega) only [rM L, rK L, rN L, rNf, rNv, rNp, rNd, rRow, rLeg, rMark, nat_cast, Int.reduceToNat, m22, Int.reduceMod]; with_reducible exact rfl))
        | with_reducible apply bI_go
        | with_reducible apply bV_go
        | with_reducible apply bL_go
        | (with_reducible apply it_1; (first | omega | (simp (disch := omega) only [not_false_eq_true, not_true_eq_false, w32_id, tLt, fLt, tLe, fEq, itE, and_true, true_and, and_self, and_false, false_and, ↓reduceIte, nat_add, nat_mul3, nat_mul4, nat_mul6, nat_mul15, nat_mul60, nat_cast, nc1, Int.reduceToNat, upE, upN, fill_ne, fill_in, i0, m22, Int.reduceMod] <;> omega)))
        | (with_reducible apply it_2; (first | omega | (simp (disch := omega) only [not_false_eq_true, not_true_eq_false, w32_id, tLt, fLt, tLe, fEq, itE, and_true, true_and, and_self, and_false, false_and, ↓reduceIte, nat_add, nat_mul3, nat_mul4, nat_mul6, nat_mul15, nat_mul60, nat_cast, nc1, Int.reduceToNat, upE, upN, fill_ne, fill_in, i0, m22, Int.reduceMod] <;> omega)))
        | (with_reducible refine cl_go ?_; simp (disch := omega) only [not_false_eq_true, not_true_eq_false, w32_id, tLt, fLt, tLe, fEq, itE, and_true, true_and, and_self, and_false, false_and, ↓reduceIte, nat_add, nat_mul3, nat_mul4, nat_mul6, nat_mul15, nat_mul60, nat_cast, nc1, Int.reduceToNat, upE, upN, fill_ne, fill_in, i0, m22, Int.reduceMod])
        | rw [c_Mo_voyageStep (by omega), b_Mo_voyageStep_0]
        | with_reducible exact iw
        | with_reducible exact s2
        | (with_reducible refine rn_go ?_; simp (disch := omega) only [not_false_eq_true, not_true_eq_false, w32_id, tLt, fLt, tLe, fEq, itE, and_true, true_and, and_self, and_false, false_and, ↓reduceIte, nat_add, nat_mul3, nat_mul4, nat_mul6, nat_mul15, nat_mul60, nat_cast, nc1, Int.reduceToNat, upE, upN, fill_ne, fill_in, i0, m22, Int.reduceMod])
        | (with_reducible refine lf_go ?_; simp (disch := omega) only [not_false_eq_true, not_true_eq_false, w32_id, tLt, fLt, tLe, fEq, itE, and_true, true_and, and_self, and_false, false_and, ↓reduceIte, nat_add, nat_mul3, nat_mul4, nat_mul6, nat_mul15, nat_mul60, nat_cast, nc1, Int.reduceToNat, upE, upN, fill_ne, fill_in, i0, m22, Int.reduceMod])
        | with_reducible exact rfl
    · have kr := kM_rng cb hq
      generalize kM (cwx bt n q e) = kw at *
      rcases kr with kr | kr
      · repeat' first
          | (with_reducible apply bR_go; (simp (disch := omega) only [rM L, rK L, rN L, rNf, rNv, rNp, rNd, rRow, rLeg, rMark, nat_cast, Int.reduceToNat, Int.reduceMod]; with_reducible exact rfl))
          | with_reducible apply bI_go
          | with_reducible apply bV_go
          | with_reducible apply bL_go
          | (with_reducible apply it_1; (first | omega | (simp (disch := omega) only [not_false_eq_true, not_true_eq_false, w32_id, tLt, fLt, tLe, fEq, itE, and_true, true_and, and_self, and_false, false_and, ↓reduceIte, nat_add, nat_mul3, nat_mul4, nat_mul6, nat_mul15, nat_mul60, nat_cast, nc1, Int.reduceToNat, upE, upN, fill_ne, fill_in, i0, Int.reduceMod] <;> omega)))
          | (with_reducible apply it_2; (first | omega | (simp (disch := omega) only [not_false_eq_true, not_true_eq_false, w32_id, tLt, fLt, tLe, fEq, itE, and_true, true_and, and_self, and_false, false_and, ↓reduceIte, nat_add, nat_mul3, nat_mul4, nat_mul6, nat_mul15, nat_mul60, nat_cast, nc1, Int.reduceToNat, upE, upN, fill_ne, fill_in, i0, Int.reduceMod] <;> omega)))
          | (with_reducible refine cl_go ?_; simp (disch := omega) only [not_false_eq_true, not_true_eq_false, w32_id, tLt, fLt, tLe, fEq, itE, and_true, true_and, and_self, and_false, false_and, ↓reduceIte, nat_add, nat_mul3, nat_mul4, nat_mul6, nat_mul15, nat_mul60, nat_cast, nc1, Int.reduceToNat, upE, upN, fill_ne, fill_in, i0, Int.reduceMod])
          | rw [c_Mo_voyageStep (by omega), b_Mo_voyageStep_0]
          | with_reducible exact iw
          | with_reducible exact s2
          | (with_reducible refine rn_go ?_; simp (disch := omega) only [not_false_eq_true, not_true_eq_false, w32_id, tLt, fLt, tLe, fEq, itE, and_true, true_and, and_self, and_false, false_and, ↓reduceIte, nat_add, nat_mul3, nat_mul4, nat_mul6, nat_mul15, nat_mul60, nat_cast, nc1, Int.reduceToNat, upE, upN, fill_ne, fill_in, i0, Int.reduceMod])
          | (with_reducible refine lf_go ?_; simp (disch := omega) only [not_false_eq_true, not_true_eq_false, w32_id, tLt, fLt, tLe, fEq, itE, and_true, true_and, and_self, and_false, false_and, ↓reduceIte, nat_add, nat_mul3, nat_mul4, nat_mul6, nat_mul15, nat_mul60, nat_cast, nc1, Int.reduceToNat, upE, upN, fill_ne, fill_in, i0, Int.reduceMod])
          | with_reducible exact rfl
      · repeat' first
          | (with_reducible apply bR_go; (simp (disch := omega) only [rM L, rK L, rN L, rNf, rNv, rNp, rNd, rRow, rLeg, rMark, nat_cast, Int.reduceToNat, Int.reduceMod]; with_reducible exact rfl))
          | with_reducible apply bI_go
          | with_reducible apply bV_go
          | with_reducible apply bL_go
          | (with_reducible apply it_1; (first | omega | (simp (disch := omega) only [not_false_eq_true, not_true_eq_false, w32_id, tLt, fLt, tLe, fEq, itE, and_true, true_and, and_self, and_false, false_and, ↓reduceIte, nat_add, nat_mul3, nat_mul4, nat_mul6, nat_mul15, nat_mul60, nat_cast, nc1, Int.reduceToNat, upE, upN, fill_ne, fill_in, i0, Int.reduceMod] <;> omega)))
          | (with_reducible apply it_2; (first | omega | (simp (disch := omega) only [not_false_eq_true, not_true_eq_false, w32_id, tLt, fLt, tLe, fEq, itE, and_true, true_and, and_self, and_false, false_and, ↓reduceIte, nat_add, nat_mul3, nat_mul4, nat_mul6, nat_mul15, nat_mul60, nat_cast, nc1, Int.reduceToNat, upE, upN, fill_ne, fill_in, i0, Int.reduceMod] <;> omega)))
          | (with_reducible refine cl_go ?_; simp (disch := omega) only [not_false_eq_true, not_true_eq_false, w32_id, tLt, fLt, tLe, fEq, itE, and_true, true_and, and_self, and_false, false_and, ↓reduceIte, nat_add, nat_mul3, nat_mul4, nat_mul6, nat_mul15, nat_mul60, nat_cast, nc1, Int.reduceToNat, upE, upN, fill_ne, fill_in, i0, Int.reduceMod])
          | rw [c_Mo_voyageStep (by omega), b_Mo_voyageStep_0]
          | with_reducible exact iw
          | with_reducible exact s2
          | (with_reducible refine rn_go ?_; simp (disch := omega) only [not_false_eq_true, not_true_eq_false, w32_id, tLt, fLt, tLe, fEq, itE, and_true, true_and, and_self, and_false, false_and, ↓reduceIte, nat_add, nat_mul3, nat_mul4, nat_mul6, nat_mul15, nat_mul60, nat_cast, nc1, Int.reduceToNat, upE, upN, fill_ne, fill_in, i0, Int.reduceMod])
          | (with_reducible refine lf_go ?_; simp (disch := omega) only [not_false_eq_true, not_true_eq_false, w32_id, tLt, fLt, tLe, fEq, itE, and_true, true_and, and_self, and_false, false_and, ↓reduceIte, nat_add, nat_mul3, nat_mul4, nat_mul6, nat_mul15, nat_mul60, nat_cast, nc1, Int.reduceToNat, upE, upN, fill_ne, fill_in, i0, Int.reduceMod])
          | with_reducible exact rfl
end

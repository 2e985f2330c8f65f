/-! THE PLAN'S TEXT, a part at a time: a step that opens a block; any part; the loop (DRAFT, never built) -/
section
variable {bt : Nat → Int} {n q e : Nat} {M M' M1 M2 M1' M2' : Mm} {L d d1 d2 k c dp x : Nat} {s : Nat → Nat} {d5 d6 : AV} {c0 c1 c2 c3 : Nat}
theorem v_step1 (h1 : 12 ≤ d1) (h2 : 13 ≤ d2) (h : TK bt n q e M1 M2) (hN : NV M1 M2 c0 c1 c2 c3) (hV : VI M1 M2 k c dp s) (hx : x ≤ 300) {w : Int} (hq : cwx bt n q e = w) (hb : w = 25 ∨ w = 28) (hc : c < 30) (h3 : dp < 3) : VS bt n e L d1 x (Run (callD d1) tb_VoyageText_takes 12 [vR 9 0 16, vR 6 0 12, vR 0 0 19, vR 3 0 98, vI (x : Int), d5, d6] [] (SH L) M1) (callD d2 m_Mo_voyageStep [vR 12 0 271] (SH L) M2) M1 M2 := by
  obtain ⟨⟨g5, g6, g1⟩, ⟨m94, m23, m22⟩, ⟨b1, b2, b3⟩, st, -, -, -⟩ := id hV
  have hw : 19 ≤ w ∧ w ≤ 25 ∨ w = 28 ∨ w = 30 := by omega
  have w7 := h.w7 (by omega)
  have wd := h.wd
  have iw := h.iw (L := L) (d2 := d2 - 1) (by omega)
  rw [hq] at wd iw
  have kw := kM_st hw
  have may := c_may (L := L) (d1 := d1) (by omega) wd g6 g1 hw hc (Or.inl ⟨hb, h3⟩)
  have isb : ∀ M, callD d1 m_VoyageText_isBlock [vI w] (SH L) M = some (some (vI 1), SH L, M) := fun M => by
    rcases hb with rfl | rfl
    · repeat' first
        | (with_reducible apply bR_go; (simp (disch := omega) only [rM L, rK L, rN L, rNf, rNv, rNp, rNd, rRow, rLeg, rMark, nat_cast, Int.reduceToNat]; with_reducible exact rfl))
        | with_reducible apply bI_go
        | with_reducible apply bV_go
        | with_reducible apply bL_go
        | (with_reducible apply it_1; (first | omega | (simp (disch := omega) only [not_false_eq_true, not_true_eq_false, w32_id, tLt, fLt, tLe, fEq, itE, and_true, true_and, and_self, and_false, false_and, ↓reduceIte, nat_add, nat_mul3, nat_mul4, nat_mul6, nat_mul15, nat_mul60, nat_cast, nc1, Int.reduceToNat, upE, upN, fill_ne, fill_in, i0] <;> omega)))
        | (with_reducible apply it_2; (first | omega | (simp (disch := omega) only [not_false_eq_true, not_true_eq_false, w32_id, tLt, fLt, tLe, fEq, itE, and_true, true_and, and_self, and_false, false_and, ↓reduceIte, nat_add, nat_mul3, nat_mul4, nat_mul6, nat_mul15, nat_mul60, nat_cast, nc1, Int.reduceToNat, upE, upN, fill_ne, fill_in, i0] <;> omega)))
        | (with_reducible refine cl_go ?_; simp (disch := omega) only [not_false_eq_true, not_true_eq_false, w32_id, tLt, fLt, tLe, fEq, itE, and_true, true_and, and_self, and_false, false_and, ↓reduceIte, nat_add, nat_mul3, nat_mul4, nat_mul6, nat_mul15, nat_mul60, nat_cast, nc1, Int.reduceToNat, upE, upN, fill_ne, fill_in, i0])
        | rw [c_VoyageText_isBlock (by omega), b_VoyageText_isBlock_0]
        | (with_reducible refine rn_go ?_; simp (disch := omega) only [not_false_eq_true, not_true_eq_false, w32_id, tLt, fLt, tLe, fEq, itE, and_true, true_and, and_self, and_false, false_and, ↓reduceIte, nat_add, nat_mul3, nat_mul4, nat_mul6, nat_mul15, nat_mul60, nat_cast, nc1, Int.reduceToNat, upE, upN, fill_ne, fill_in, i0])
        | (with_reducible refine lf_go ?_; simp (disch := omega) only [not_false_eq_true, not_true_eq_false, w32_id, tLt, fLt, tLe, fEq, itE, and_true, true_and, and_self, and_false, false_and, ↓reduceIte, nat_add, nat_mul3, nat_mul4, nat_mul6, nat_mul15, nat_mul60, nat_cast, nc1, Int.reduceToNat, upE, upN, fill_ne, fill_in, i0])
        | with_reducible exact rfl
    · repeat' first
        | (with_reducible apply bR_go; (simp (disch := omega) only [rM L, rK L, rN L, rNf, rNv, rNp, rNd, rRow, rLeg, rMark, nat_cast, Int.reduceToNat]; with_reducible exact rfl))
        | with_reducible apply bI_go
        | with_reducible apply bV_go
        | with_reducible apply bL_go
        | (with_reducible apply it_1; (first | omega | (simp (disch := omega) only [not_false_eq_true, not_true_eq_false, w32_id, tLt, fLt, tLe, fEq, itE, and_true, true_and, and_self, and_false, false_and, ↓reduceIte, nat_add, nat_mul3, nat_mul4, nat_mul6, nat_mul15, nat_mul60, nat_cast, nc1, Int.reduceToNat, upE, upN, fill_ne, fill_in, i0] <;> omega)))
        | (with_reducible apply it_2; (first | omega | (simp (disch := omega) only [not_false_eq_true, not_true_eq_false, w32_id, tLt, fLt, tLe, fEq, itE, and_true, true_and, and_self, and_false, false_and, ↓reduceIte, nat_add, nat_mul3, nat_mul4, nat_mul6, nat_mul15, nat_mul60, nat_cast, nc1, Int.reduceToNat, upE, upN, fill_ne, fill_in, i0] <;> omega)))
        | (with_reducible refine cl_go ?_; simp (disch := omega) only [not_false_eq_true, not_true_eq_false, w32_id, tLt, fLt, tLe, fEq, itE, and_true, true_and, and_self, and_false, false_and, ↓reduceIte, nat_add, nat_mul3, nat_mul4, nat_mul6, nat_mul15, nat_mul60, nat_cast, nc1, Int.reduceToNat, upE, upN, fill_ne, fill_in, i0])
        | rw [c_VoyageText_isBlock (by omega), b_VoyageText_isBlock_0]
        | (with_reducible refine rn_go ?_; simp (disch := omega) only [not_false_eq_true, not_true_eq_false, w32_id, tLt, fLt, tLe, fEq, itE, and_true, true_and, and_self, and_false, false_and, ↓reduceIte, nat_add, nat_mul3, nat_mul4, nat_mul6, nat_mul15, nat_mul60, nat_cast, nc1, Int.reduceToNat, upE, upN, fill_ne, fill_in, i0])
        | (with_reducible refine lf_go ?_; simp (disch := omega) only [not_false_eq_true, not_true_eq_false, w32_id, tLt, fLt, tLe, fEq, itE, and_true, true_and, and_self, and_false, false_and, ↓reduceIte, nat_add, nat_mul3, nat_mul4, nat_mul6, nat_mul15, nat_mul60, nat_cast, nc1, Int.reduceToNat, upE, upN, fill_ne, fill_in, i0])
        | with_reducible exact rfl
  have hd := m_head (L := L) (d2 := d2) (by omega) (kw := kM w) (bl := 1) (c' := (c : Int) + 1) iw (k := k) (by omega) m94 m23 (by omega) (by omega)
  obtain ⟨e23, e94, e0, e4⟩ := stp_at (M := M2) (k := k) (c := (c : Int) + 1) (w := kM w)
  have hu : TK bt n q e M1 (stp M2 k ((c : Int) + 1) (kM w)) := h.fr (fun _ _ _ => rfl) fun b j hb => stp_ne (by omega) (by omega)
  have hM : NV M1 (stp M2 k ((c : Int) + 1) (kM w)) c0 c1 c2 c3 := hN.fr (fun _ _ _ _ => rfl) (fun j => stp_ne (by omega) (by omega)) fun j _ => stp_ne (by omega) (by omega)
  obtain ⟨Mz, p2, ord⟩ := k_order (L := L) (d1 := d1) (d2 := d2 - 1) (by omega) (by omega) hu hM g5 (by omega) g6 (by omega) hw e0
  have z94 : zr (up (up M2 271 23 ((c : Int) + 1)) 272 (2494 + 6 * k) (kM w)) k 272 2294 = (k : Int) := by rw [zr_ne (by omega), upN (by omega), upN (by omega)]; exact m94
  have fS : FmL M2 (stp M2 k ((c : Int) + 1) (kM w)) := fun b j q1 q2 _ => stp_ne (by omega) (by omega)
  have kn : ¬ kM w = 27 := by omega
  unfold stp at p2
  rcases ord with ⟨qa, ea, Ma, Mb, a1, a2, ta, la, ⟨a5, a6⟩, r, fa, fb⟩ | ⟨Mc, Md, a1, a2, f, fc, fd⟩
  rotate_left
  · right
    refine ⟨Mc, Md, ?_, ?_, f, fc.l, fun b j q1 q2 q3 => by rw [fd b j (by omega) (by omega)]; exact fS b j q1 q2 q3⟩
    · rw [b_VoyageText_takes_12]
      repeat' first
        | (with_reducible apply bR_go; (simp (disch := omega) only [rM L, rK L, rN L, rNf, rNv, rNp, rNd, rRow, rLeg, rMark, nat_cast, Int.reduceToNat, wd]; with_reducible exact rfl))
        | with_reducible apply bI_go
        | with_reducible apply bV_go
        | with_reducible apply bL_go
        | (with_reducible apply it_1; (first | omega | (simp (disch := omega) only [not_false_eq_true, not_true_eq_false, w32_id, tLt, fLt, tLe, fEq, itE, and_true, true_and, and_self, and_false, false_and, ↓reduceIte, nat_add, nat_mul3, nat_mul4, nat_mul6, nat_mul15, nat_mul60, nat_cast, nc1, Int.reduceToNat, upE, upN, fill_ne, fill_in, i0, wd] <;> omega)))
        | (with_reducible apply it_2; (first | omega | (simp (disch := omega) only [not_false_eq_true, not_true_eq_false, w32_id, tLt, fLt, tLe, fEq, itE, and_true, true_and, and_self, and_false, false_and, ↓reduceIte, nat_add, nat_mul3, nat_mul4, nat_mul6, nat_mul15, nat_mul60, nat_cast, nc1, Int.reduceToNat, upE, upN, fill_ne, fill_in, i0, wd] <;> omega)))
        | (with_reducible refine cl_go ?_; simp (disch := omega) only [not_false_eq_true, not_true_eq_false, w32_id, tLt, fLt, tLe, fEq, itE, and_true, true_and, and_self, and_false, false_and, ↓reduceIte, nat_add, nat_mul3, nat_mul4, nat_mul6, nat_mul15, nat_mul60, nat_cast, nc1, Int.reduceToNat, upE, upN, fill_ne, fill_in, i0, wd])
        | with_reducible exact may
        | with_reducible exact a1
        | (with_reducible refine rn_go ?_; simp (disch := omega) only [not_false_eq_true, not_true_eq_false, w32_id, tLt, fLt, tLe, fEq, itE, and_true, true_and, and_self, and_false, false_and, ↓reduceIte, nat_add, nat_mul3, nat_mul4, nat_mul6, nat_mul15, nat_mul60, nat_cast, nc1, Int.reduceToNat, upE, upN, fill_ne, fill_in, i0, wd])
        | (with_reducible refine lf_go ?_; simp (disch := omega) only [not_false_eq_true, not_true_eq_false, w32_id, tLt, fLt, tLe, fEq, itE, and_true, true_and, and_self, and_false, false_and, ↓reduceIte, nat_add, nat_mul3, nat_mul4, nat_mul6, nat_mul15, nat_mul60, nat_cast, nc1, Int.reduceToNat, upE, upN, fill_ne, fill_in, i0, wd])
        | with_reducible exact rfl
    · rw [hd, b_Mo_voyageStep_147]
      repeat' first
        | (with_reducible apply bR_go; (simp (disch := omega) only [rM L, rK L, rN L, rNf, rNv, rNp, rNd, rRow, rLeg, rMark, nat_cast, Int.reduceToNat, z94]; with_reducible exact rfl))
        | with_reducible apply bI_go
        | with_reducible apply bV_go
        | with_reducible apply bL_go
        | (with_reducible apply it_1; (first | omega | (simp (disch := omega) only [not_false_eq_true, not_true_eq_false, w32_id, tLt, fLt, tLe, fEq, itE, and_true, true_and, and_self, and_false, false_and, ↓reduceIte, nat_add, nat_mul3, nat_mul4, nat_mul6, nat_mul15, nat_mul60, nat_cast, nc1, Int.reduceToNat, upE, upN, fill_ne, fill_in, i0, z94] <;> omega)))
        | (with_reducible apply it_2; (first | omega | (simp (disch := omega) only [not_false_eq_true, not_true_eq_false, w32_id, tLt, fLt, tLe, fEq, itE, and_true, true_and, and_self, and_false, false_and, ↓reduceIte, nat_add, nat_mul3, nat_mul4, nat_mul6, nat_mul15, nat_mul60, nat_cast, nc1, Int.reduceToNat, upE, upN, fill_ne, fill_in, i0, z94] <;> omega)))
        | (with_reducible refine cl_go ?_; simp (disch := omega) only [not_false_eq_true, not_true_eq_false, w32_id, tLt, fLt, tLe, fEq, itE, and_true, true_and, and_self, and_false, false_and, ↓reduceIte, nat_add, nat_mul3, nat_mul4, nat_mul6, nat_mul15, nat_mul60, nat_cast, nc1, Int.reduceToNat, upE, upN, fill_ne, fill_in, i0, z94])
        | with_reducible exact p2
        | with_reducible exact a2
        | (with_reducible refine rn_go ?_; simp (disch := omega) only [not_false_eq_true, not_true_eq_false, w32_id, tLt, fLt, tLe, fEq, itE, and_true, true_and, and_self, and_false, false_and, ↓reduceIte, nat_add, nat_mul3, nat_mul4, nat_mul6, nat_mul15, nat_mul60, nat_cast, nc1, Int.reduceToNat, upE, upN, fill_ne, fill_in, i0, z94])
        | (with_reducible refine lf_go ?_; simp (disch := omega) only [not_false_eq_true, not_true_eq_false, w32_id, tLt, fLt, tLe, fEq, itE, and_true, true_and, and_self, and_false, false_and, ↓reduceIte, nat_add, nat_mul3, nat_mul4, nat_mul6, nat_mul15, nat_mul60, nat_cast, nc1, Int.reduceToNat, upE, upN, fill_ne, fill_in, i0, z94])
        | with_reducible exact rfl
  have y22 : Mb 271 22 = (dp : Int) := by rw [fb _ _ (by omega) (by omega), stp_ne (by omega) (by omega)]; exact m22
  have tb : TK bt n qa ea Ma (up (up Mb 279 dp (k : Int)) 271 22 ((dp : Int) + 1)) := ta.fr (fun _ _ _ => rfl) fun b j hb => by rw [upN (by omega), upN (by omega)]
  have fB : FmL M2 (up (up Mb 279 dp (k : Int)) 271 22 ((dp : Int) + 1)) := fun b j q1 q2 q3 => by rw [upN (by omega), upN (by omega), fb b j (by omega) (by omega)]; exact fS b j q1 q2 q3
  rcases k_stop (L := L) (d1 := d1) (d2 := d2 - 1) (by omega) (by omega) tb with ⟨qe, ee, Mc, Md, s1, s2, tk, le, fc, fd⟩ | ⟨Mc, Md, s1, s2, f, fc, fd⟩
  rotate_left
  · right
    refine ⟨Mc, Md, ?_, ?_, f, fa.l.trans fc.l, fB.trans fd.l⟩
    · rw [b_VoyageText_takes_12]
      repeat' first
        | (with_reducible apply bR_go; (simp (disch := omega) only [rM L, rK L, rN L, rNf, rNv, rNp, rNd, rRow, rLeg, rMark, nat_cast, Int.reduceToNat, wd]; with_reducible exact rfl))
        | with_reducible apply bI_go
        | with_reducible apply bV_go
        | with_reducible apply bL_go
        | (with_reducible apply it_1; (first | omega | (simp (disch := omega) only [not_false_eq_true, not_true_eq_false, w32_id, tLt, fLt, tLe, fEq, itE, and_true, true_and, and_self, and_false, false_and, ↓reduceIte, nat_add, nat_mul3, nat_mul4, nat_mul6, nat_mul15, nat_mul60, nat_cast, nc1, Int.reduceToNat, upE, upN, fill_ne, fill_in, i0, wd] <;> omega)))
        | (with_reducible apply it_2; (first | omega | (simp (disch := omega) only [not_false_eq_true, not_true_eq_false, w32_id, tLt, fLt, tLe, fEq, itE, and_true, true_and, and_self, and_false, false_and, ↓reduceIte, nat_add, nat_mul3, nat_mul4, nat_mul6, nat_mul15, nat_mul60, nat_cast, nc1, Int.reduceToNat, upE, upN, fill_ne, fill_in, i0, wd] <;> omega)))
        | (with_reducible refine cl_go ?_; simp (disch := omega) only [not_false_eq_true, not_true_eq_false, w32_id, tLt, fLt, tLe, fEq, itE, and_true, true_and, and_self, and_false, false_and, ↓reduceIte, nat_add, nat_mul3, nat_mul4, nat_mul6, nat_mul15, nat_mul60, nat_cast, nc1, Int.reduceToNat, upE, upN, fill_ne, fill_in, i0, wd])
        | with_reducible exact may
        | with_reducible exact a1
        | with_reducible exact s1
        | (with_reducible refine rn_go ?_; simp (disch := omega) only [not_false_eq_true, not_true_eq_false, w32_id, tLt, fLt, tLe, fEq, itE, and_true, true_and, and_self, and_false, false_and, ↓reduceIte, nat_add, nat_mul3, nat_mul4, nat_mul6, nat_mul15, nat_mul60, nat_cast, nc1, Int.reduceToNat, upE, upN, fill_ne, fill_in, i0, wd])
        | (with_reducible refine lf_go ?_; simp (disch := omega) only [not_false_eq_true, not_true_eq_false, w32_id, tLt, fLt, tLe, fEq, itE, and_true, true_and, and_self, and_false, false_and, ↓reduceIte, nat_add, nat_mul3, nat_mul4, nat_mul6, nat_mul15, nat_mul60, nat_cast, nc1, Int.reduceToNat, upE, upN, fill_ne, fill_in, i0, wd])
        | with_reducible exact rfl
    · rw [hd, b_Mo_voyageStep_147]
      repeat' first
        | (with_reducible apply bR_go; (simp (disch := omega) only [rM L, rK L, rN L, rNf, rNv, rNp, rNd, rRow, rLeg, rMark, nat_cast, Int.reduceToNat, z94, y22, Int.reduceMod]; with_reducible exact rfl))
        | with_reducible apply bI_go
        | with_reducible apply bV_go
        | with_reducible apply bL_go
        | (with_reducible apply it_1; (first | omega | (simp (disch := omega) only [not_false_eq_true, not_true_eq_false, w32_id, tLt, fLt, tLe, fEq, itE, and_true, true_and, and_self, and_false, false_and, ↓reduceIte, nat_add, nat_mul3, nat_mul4, nat_mul6, nat_mul15, nat_mul60, nat_cast, nc1, Int.reduceToNat, upE, upN, fill_ne, fill_in, i0, z94, y22, Int.reduceMod] <;> omega)))
        | (with_reducible apply it_2; (first | omega | (simp (disch := omega) only [not_false_eq_true, not_true_eq_false, w32_id, tLt, fLt, tLe, fEq, itE, and_true, true_and, and_self, and_false, false_and, ↓reduceIte, nat_add, nat_mul3, nat_mul4, nat_mul6, nat_mul15, nat_mul60, nat_cast, nc1, Int.reduceToNat, upE, upN, fill_ne, fill_in, i0, z94, y22, Int.reduceMod] <;> omega)))
        | (with_reducible refine cl_go ?_; simp (disch := omega) only [not_false_eq_true, not_true_eq_false, w32_id, tLt, fLt, tLe, fEq, itE, and_true, true_and, and_self, and_false, false_and, ↓reduceIte, nat_add, nat_mul3, nat_mul4, nat_mul6, nat_mul15, nat_mul60, nat_cast, nc1, Int.reduceToNat, upE, upN, fill_ne, fill_in, i0, z94, y22, Int.reduceMod])
        | with_reducible exact p2
        | with_reducible exact a2
        | with_reducible exact s2
        | (with_reducible refine rn_go ?_; simp (disch := omega) only [not_false_eq_true, not_true_eq_false, w32_id, tLt, fLt, tLe, fEq, itE, and_true, true_and, and_self, and_false, false_and, ↓reduceIte, nat_add, nat_mul3, nat_mul4, nat_mul6, nat_mul15, nat_mul60, nat_cast, nc1, Int.reduceToNat, upE, upN, fill_ne, fill_in, i0, z94, y22, Int.reduceMod])
        | (with_reducible refine lf_go ?_; simp (disch := omega) only [not_false_eq_true, not_true_eq_false, w32_id, tLt, fLt, tLe, fEq, itE, and_true, true_and, and_self, and_false, false_and, ↓reduceIte, nat_add, nat_mul3, nat_mul4, nat_mul6, nat_mul15, nat_mul60, nat_cast, nc1, Int.reduceToNat, upE, upN, fill_ne, fill_in, i0, z94, y22, Int.reduceMod])
        | with_reducible exact rfl
  left
  have ek : (k : Int) + 1 - 1 = (k : Int) := by omega
  have x5 : Mc 98 5 = (k : Int) + 1 := by rw [fc _ _ (by omega)]; exact a5
  have x1 : Mc 16 1 = (dp : Int) := by rw [fc _ _ (by omega), fa _ _ (by omega) (by omega) (by omega)]; exact g1
  have tc : TK bt n qe ee (up (up Mc 17 dp (k : Int)) 16 1 ((dp : Int) + 1)) Md := tk.fr (fun b j hb => by rw [upN (by omega), upN (by omega)]) fun _ _ _ => rfl
  have fC : FcL M1 (up (up Mc 17 dp (k : Int)) 16 1 ((dp : Int) + 1)) := fun b j q1 q2 q3 q4 => by rw [upN (by omega), upN (by omega)]; exact (fa.l.trans fc.l) b j q1 q2 q3 q4
  refine ⟨qe, ee, k + 1, c + 1, dp + 1, fun i => if i = dp then k else s i, vI w, vI 1, _, Md, ?_, ?_, tc, by have z1 := ta.2.2.2.2.1.bd; omega, ?_, fC, fB.trans fd.l⟩
  · rw [b_VoyageText_takes_12]
    repeat' first
      | (with_reducible apply bR_go; (simp (disch := omega) only [rM L, rK L, rN L, rNf, rNv, rNp, rNd, rRow, rLeg, rMark, nat_cast, Int.reduceToNat, wd, x1, x5, ek]; with_reducible exact rfl))
      | with_reducible apply bI_go
      | with_reducible apply bV_go
      | with_reducible apply bL_go
      | (with_reducible apply it_1; (first | omega | (simp (disch := omega) only [not_false_eq_true, not_true_eq_false, w32_id, tLt, fLt, tLe, fEq, itE, and_true, true_and, and_self, and_false, false_and, ↓reduceIte, nat_add, nat_mul3, nat_mul4, nat_mul6, nat_mul15, nat_mul60, nat_cast, nc1, Int.reduceToNat, upE, upN, fill_ne, fill_in, i0, wd, x1, x5, ek] <;> omega)))
      | (with_reducible apply it_2; (first | omega | (simp (disch := omega) only [not_false_eq_true, not_true_eq_false, w32_id, tLt, fLt, tLe, fEq, itE, and_true, true_and, and_self, and_false, false_and, ↓reduceIte, nat_add, nat_mul3, nat_mul4, nat_mul6, nat_mul15, nat_mul60, nat_cast, nc1, Int.reduceToNat, upE, upN, fill_ne, fill_in, i0, wd, x1, x5, ek] <;> omega)))
      | (with_reducible refine cl_go ?_; simp (disch := omega) only [not_false_eq_true, not_true_eq_false, w32_id, tLt, fLt, tLe, fEq, itE, and_true, true_and, and_self, and_false, false_and, ↓reduceIte, nat_add, nat_mul3, nat_mul4, nat_mul6, nat_mul15, nat_mul60, nat_cast, nc1, Int.reduceToNat, upE, upN, fill_ne, fill_in, i0, wd, x1, x5, ek])
      | with_reducible exact may
      | with_reducible exact a1
      | with_reducible exact s1
      | with_reducible exact isb _
      | (with_reducible refine rn_go ?_; simp (disch := omega) only [not_false_eq_true, not_true_eq_false, w32_id, tLt, fLt, tLe, fEq, itE, and_true, true_and, and_self, and_false, false_and, ↓reduceIte, nat_add, nat_mul3, nat_mul4, nat_mul6, nat_mul15, nat_mul60, nat_cast, nc1, Int.reduceToNat, upE, upN, fill_ne, fill_in, i0, wd, x1, x5, ek])
      | (with_reducible refine lf_go ?_; simp (disch := omega) only [not_false_eq_true, not_true_eq_false, w32_id, tLt, fLt, tLe, fEq, itE, and_true, true_and, and_self, and_false, false_and, ↓reduceIte, nat_add, nat_mul3, nat_mul4, nat_mul6, nat_mul15, nat_mul60, nat_cast, nc1, Int.reduceToNat, upE, upN, fill_ne, fill_in, i0, wd, x1, x5, ek])
      | with_reducible exact rfl
  · rw [hd, b_Mo_voyageStep_147]
    repeat' first
      | (with_reducible apply bR_go; (simp (disch := omega) only [rM L, rK L, rN L, rNf, rNv, rNp, rNd, rRow, rLeg, rMark, nat_cast, Int.reduceToNat, z94, y22, Int.reduceMod]; with_reducible exact rfl))
      | with_reducible apply bI_go
      | with_reducible apply bV_go
      | with_reducible apply bL_go
      | (with_reducible apply it_1; (first | omega | (simp (disch := omega) only [not_false_eq_true, not_true_eq_false, w32_id, tLt, fLt, tLe, fEq, itE, and_true, true_and, and_self, and_false, false_and, ↓reduceIte, nat_add, nat_mul3, nat_mul4, nat_mul6, nat_mul15, nat_mul60, nat_cast, nc1, Int.reduceToNat, upE, upN, fill_ne, fill_in, i0, z94, y22, Int.reduceMod] <;> omega)))
      | (with_reducible apply it_2; (first | omega | (simp (disch := omega) only [not_false_eq_true, not_true_eq_false, w32_id, tLt, fLt, tLe, fEq, itE, and_true, true_and, and_self, and_false, false_and, ↓reduceIte, nat_add, nat_mul3, nat_mul4, nat_mul6, nat_mul15, nat_mul60, nat_cast, nc1, Int.reduceToNat, upE, upN, fill_ne, fill_in, i0, z94, y22, Int.reduceMod] <;> omega)))
      | (with_reducible refine cl_go ?_; simp (disch := omega) only [not_false_eq_true, not_true_eq_false, w32_id, tLt, fLt, tLe, fEq, itE, and_true, true_and, and_self, and_false, false_and, ↓reduceIte, nat_add, nat_mul3, nat_mul4, nat_mul6, nat_mul15, nat_mul60, nat_cast, nc1, Int.reduceToNat, upE, upN, fill_ne, fill_in, i0, z94, y22, Int.reduceMod])
      | with_reducible exact p2
      | with_reducible exact a2
      | with_reducible exact s2
      | (with_reducible refine rn_go ?_; simp (disch := omega) only [not_false_eq_true, not_true_eq_false, w32_id, tLt, fLt, tLe, fEq, itE, and_true, true_and, and_self, and_false, false_and, ↓reduceIte, nat_add, nat_mul3, nat_mul4, nat_mul6, nat_mul15, nat_mul60, nat_cast, nc1, Int.reduceToNat, upE, upN, fill_ne, fill_in, i0, z94, y22, Int.reduceMod])
      | (with_reducible refine lf_go ?_; simp (disch := omega) only [not_false_eq_true, not_true_eq_false, w32_id, tLt, fLt, tLe, fEq, itE, and_true, true_and, and_self, and_false, false_and, ↓reduceIte, nat_add, nat_mul3, nat_mul4, nat_mul6, nat_mul15, nat_mul60, nat_cast, nc1, Int.reduceToNat, upE, upN, fill_ne, fill_in, i0, z94, y22, Int.reduceMod])
      | with_reducible exact rfl
  have r' : StW w (up (up Mc 17 dp (k : Int)) 16 1 ((dp : Int) + 1)) (vA Md) k := by
    have eA : ∀ i, vA Md i = vA Mb i := fun i => by
      unfold vA
      split
      · rw [fd _ _ (by omega), upN (by omega), upN (by omega)]
      · rw [fd _ _ (by omega), upN (by omega), upN (by omega)]
    rcases r with r | r
    · exact Or.inl ⟨hb, r.2.cg (fun b y1 y2 => by rw [upN (by omega), upN (by omega), fc _ _ (by omega)]) (fun i _ => eA i) fun i _ _ _ => eA i⟩
    · exact absurd hb r.1
  refine hV.more (b := 1) (w := w) hc (Or.inl ⟨hb, rfl, h3⟩) (fun i hi => if_neg (by omega)) (fun _ => if_pos rfl) r' ?_ ?_ ?_ (fun b j q1 q2 q3 => ?_) (fun i _ => ?_) (fun y => ?_) ?_ ?_ ?_ ?_ (fun i q1 q2 => ?_) (fun i hi => ?_) (fun i _ => ?_) (fun y => ?_)
  · rw [upN (by omega), upN (by omega), x5]; rfl
  · rw [upN (by omega), upN (by omega), fc _ _ (by omega), a6]; rfl
  · rw [upE rfl rfl]; rfl
  · rw [upN (by omega), upN (by omega), fc _ _ (by omega), fa _ _ (by omega) (by omega) (by omega)]
  · rw [upN (by omega), upN (by omega), fc _ _ (by omega), fa _ _ (by omega) (by omega) (by omega)]
  · rw [upN (by omega), upE rfl rfl]
  · rw [fd _ _ (by omega), upN (by omega), upN (by omega), fb _ _ (by omega) (by omega), e94]; rfl
  · rw [fd _ _ (by omega), upN (by omega), upN (by omega), fb _ _ (by omega) (by omega), e23]; rfl
  · rw [fd _ _ (by omega), upE rfl rfl]; rfl
  · rw [fd _ _ (by omega), upN (by omega), upN (by omega), fb _ _ (by omega) (by omega), e4]
  · rw [fd _ _ (by omega), upN (by omega), upN (by omega), fb _ _ (by omega) (by omega), stp_ne (by omega) (by omega)]
  · rw [fd _ _ (by omega), upN (by omega), upN (by omega), fb _ _ (by omega) (by omega), stp_ne (by omega) (by omega)]
  · rw [fd _ _ (by omega), upN (by omega), upN (by omega), fb _ _ (by omega) (by omega), stp_ne (by omega) (by omega)]
  · rw [fd _ _ (by omega), upN (by omega), upE rfl rfl]
/-- any part of the text -/
theorem v_part (h1 : 12 ≤ d1) (h2 : 13 ≤ d2) (h : TK bt n q e M1 M2) (hN : NV M1 M2 c0 c1 c2 c3) (hV : VI M1 M2 k c dp s) (hx : x ≤ 300) (h7 : M1 12 7 ≠ 0) : VS bt n e L d1 x (Run (callD d1) tb_VoyageText_takes 12 [vR 9 0 16, vR 6 0 12, vR 0 0 19, vR 3 0 98, vI (x : Int), d5, d6] [] (SH L) M1) (callD d2 m_Mo_voyageStep [vR 12 0 271] (SH L) M2) M1 M2 := by
  have bd := hV.2.2.1
  by_cases y1 : cwx bt n q e = 29
  · by_cases y2 : dp = 0
    · exact v_no (by omega) (by omega) h hV hx h7 (Or.inl ⟨y1, y2⟩)
    · obtain ⟨p, rfl⟩ : ∃ p, dp = p + 1 := ⟨dp - 1, by omega⟩
      exact v_end (by omega) (by omega) h hV hx y1
  by_cases y2 : 19 ≤ cwx bt n q e ∧ cwx bt n q e ≤ 25 ∨ cwx bt n q e = 28 ∨ cwx bt n q e = 30
  · by_cases y3 : c = 30
    · exact v_full (by omega) (by omega) h hV hx rfl y2 (y := 6) (Or.inl ⟨y3, rfl⟩)
    by_cases y4 : cwx bt n q e = 25 ∨ cwx bt n q e = 28
    · by_cases y5 : dp = 3
      · exact v_full (by omega) (by omega) h hV hx rfl y2 (y := 7) (Or.inr ⟨by omega, y4, y5, rfl⟩)
      · exact v_step1 h1 h2 h hN hV hx rfl y4 (by omega) (by omega)
    · exact v_step0 h1 h2 h hN hV hx rfl y2 (by omega) y4
  · exact v_no (by omega) (by omega) h hV hx h7 (Or.inr (by omega))
/-- the text's end -/
theorem v_fin (h1 : 12 ≤ d1) (h2 : 14 ≤ d2) {y : Int} {d3 : AV} (h : TK bt n q e M1 M2) (hV : VI M1 M2 k c dp s) (hx : x ≤ 300) (h7 : M1 12 7 = 0) :
    (∃ (M1' M2' : Mm) (k c : Nat) (s : Nat → Nat), Run (callD d1) tb_VoyageText_takes 12 [vR 9 0 16, vR 6 0 12, vR 0 0 19, vR 3 0 98, vI (x : Int), d5, d6] [] (SH L) M1 = some (some (vI 1), SH L, up M1' 98 7 1) ∧ Run (callD (d2 - 1)) tb_Mo_voyages 38 [vR 12 0 271, vI y, vI 1, d3] [] (SH L) M2 = Run (callD (d2 - 1)) tb_Mo_voyages 103 [vR 12 0 271, vI y, vI 1, vI 206] [] (SH L) (up M2' 272 6 (k : Int)) ∧ VI M1' M2' k c 0 s ∧ (M1' 12 5 = 0 ∧ M2' 271 18 = 0 ∧ M2' 271 17 = -1) ∧ FcL M1 M1' ∧ FmL M2 M2') ∨
    (∃ M1' M2', Run (callD d1) tb_VoyageText_takes 12 [vR 9 0 16, vR 6 0 12, vR 0 0 19, vR 3 0 98, vI (x : Int), d5, d6] [] (SH L) M1 = some (some (vI 0), SH L, M1') ∧ Run (callD (d2 - 1)) tb_Mo_voyages 38 [vR 12 0 271, vI y, vI 1, d3] [] (SH L) M2 = (bndI (callD (d2 - 1) m_Mo_taken [vR 12 0 271, vI (M2' 271 23)] (SH L) M2') fun r S M => some (some (vI r), S, M)) ∧ FL M1' M2' ∧ FcL M1 M1' ∧ FmL M2 M2') := by
  have kd := h.kd
  have k0 : M2 271 12 = 0 := by omega
  have z2 := h.2.2.2.2.2.2.1
  obtain ⟨⟨g5, g6, g1⟩, ⟨m94, m23, m22⟩, -, -, -, -, -⟩ := id hV
  by_cases z : dp = 0
  · subst z
    left
    refine ⟨M1, M2, k, c, s, ?_, ?_, hV, ⟨h.2.2.2.2.2.1, z2, h.2.2.2.2.2.2.2⟩, fun _ _ _ _ _ _ => rfl, fun _ _ _ _ _ => rfl⟩
    · rw [b_VoyageText_takes_12, if_neg (by omega), if_pos h7, if_pos (by omega), if_neg (by rw [upE rfl rfl]; omega)]
    · have r2 := (rM L).1
      rw [b_Mo_voyages_38, if_neg (by omega), if_pos k0, if_pos z2, if_neg (by omega), if_pos z2, r2, ← m94]
      rfl
  · have hu : TK bt n q e (up M1 98 7 0) M2 := h.fr (fun b j hb => upN (by omega)) fun _ _ _ => rfl
    obtain ⟨Mc, Md, s1, s2, f, fc, fd⟩ := k_misfit (L := L) (d1 := d1) (d2 := d2 - 1) (by omega) (by omega) hu
    right
    refine ⟨Mc, Md, ?_, ?_, f, fun b j q1 q2 q3 q4 => by rw [fc b j q1, upN (by omega)], fd.l⟩
    · rw [b_VoyageText_takes_12, if_neg (by omega), if_pos h7, if_neg (by omega), if_pos (upE rfl rfl), s1]
      rfl
    · have n18 : ¬ Md 271 18 = 0 := by have := f.2.1; omega
      rw [b_Mo_voyages_38, if_neg (by omega), if_pos k0, if_pos z2, if_pos (by omega), s2]
      show (if Md 271 18 = 0 then _ else _) = _
      rw [if_neg n18]
/-- the text to its end -/
theorem v_loop (h1 : 12 ≤ d1) (h2 : 14 ≤ d2) (h3 : n ≤ 300) {y : Int} {d3 : AV} : ∀ (f q e : Nat) (M1 M2 : Mm) (x k c dp : Nat) (s : Nat → Nat) (d5 d6 : AV), n ≤ q + f → x ≤ q → TK bt n q e M1 M2 → NV M1 M2 c0 c1 c2 c3 → VI M1 M2 k c dp s →
    (∃ (M1' M2' : Mm) (k c : Nat) (s : Nat → Nat), Run (callD d1) tb_VoyageText_takes 12 [vR 9 0 16, vR 6 0 12, vR 0 0 19, vR 3 0 98, vI (x : Int), d5, d6] [] (SH L) M1 = some (some (vI 1), SH L, up M1' 98 7 1) ∧ Run (callD (d2 - 1)) tb_Mo_voyages 38 [vR 12 0 271, vI y, vI 1, d3] [] (SH L) M2 = Run (callD (d2 - 1)) tb_Mo_voyages 103 [vR 12 0 271, vI y, vI 1, vI 206] [] (SH L) (up M2' 272 6 (k : Int)) ∧ VI M1' M2' k c 0 s ∧ (M1' 12 5 = 0 ∧ M2' 271 18 = 0 ∧ M2' 271 17 = -1) ∧ FcL M1 M1' ∧ FmL M2 M2') ∨
    (∃ M1' M2', Run (callD d1) tb_VoyageText_takes 12 [vR 9 0 16, vR 6 0 12, vR 0 0 19, vR 3 0 98, vI (x : Int), d5, d6] [] (SH L) M1 = some (some (vI 0), SH L, M1') ∧ Run (callD (d2 - 1)) tb_Mo_voyages 38 [vR 12 0 271, vI y, vI 1, d3] [] (SH L) M2 = (bndI (callD (d2 - 1) m_Mo_taken [vR 12 0 271, vI (M2' 271 23)] (SH L) M2') fun r S M => some (some (vI r), S, M)) ∧ FL M1' M2' ∧ FcL M1 M1' ∧ FmL M2 M2') := by
  intro f
  induction f with
  | zero =>
    intro q e M1 M2 x k c dp s d5 d6 hf hx t hN hV
    have bd := t.2.2.2.2.1.bd
    have kd := t.kd
    exact v_fin h1 h2 t hV (by omega) (by omega)
  | succ f ih =>
    intro q e M1 M2 x k c dp s d5 d6 hf hx t hN hV
    have bd := t.2.2.2.2.1.bd
    have kd := t.kd
    by_cases k7 : M1 12 7 = 0
    · exact v_fin h1 h2 t hV (by omega) k7
    have k0 : ¬ M2 271 12 = 0 := by omega
    rcases v_part (L := L) (d1 := d1) (d2 := d2 - 1) (d5 := d5) (d6 := d6) (x := x) h1 (by omega) t hN hV (by omega) k7 with ⟨q', e', k', c', dp', s', d5', d6', Ma, Mb, r1, r2, t', le, hV', f1, f2⟩ | ⟨Ma, Mb, r1, r2, ff, f1, f2⟩
    · have s2 : Run (callD (d2 - 1)) tb_Mo_voyages 38 [vR 12 0 271, vI y, vI 1, d3] [] (SH L) M2 = Run (callD (d2 - 1)) tb_Mo_voyages 38 [vR 12 0 271, vI y, vI 1, d3] [] (SH L) Mb := by
        rw [b_Mo_voyages_38, if_neg (by omega), if_neg k0, r2]
        rfl
      have hN' : NV Ma Mb c0 c1 c2 c3 := hN.fr (fun b j _ _ => f1 b j (by omega) (by omega) (by omega) (by omega)) (fun j => f2 _ _ (by omega) (by omega) (by omega)) fun j _ => f2 _ _ (by omega) (by omega) (by omega)
      rw [r1, s2]
      rcases ih q' e' Ma Mb (x + 1) k' c' dp' s' d5' d6' (by omega) (by omega) t' hN' hV' with ⟨M1', M2', ka, ca, sa, a1, a2, a3, a4, a5, a6⟩ | ⟨M1', M2', a1, a2, a3, a4, a5⟩
      · exact Or.inl ⟨M1', M2', ka, ca, sa, a1, a2, a3, a4, f1.trans a5, f2.trans a6⟩
      · exact Or.inr ⟨M1', M2', a1, a2, a3, f1.trans a4, f2.trans a5⟩
    · right
      have n18 : ¬ Mb 271 18 = 0 := by have := ff.2.1; omega
      refine ⟨Ma, Mb, r1, ?_, ff, f1, f2⟩
      rw [b_Mo_voyages_38, if_neg (by omega), if_neg k0, r2]
      show Run (callD (d2 - 1)) tb_Mo_voyages 38 [vR 12 0 271, vI y, vI 0, d3] [] (SH L) Mb = _
      rw [b_Mo_voyages_38, if_pos rfl, if_neg n18, if_neg n18]
end

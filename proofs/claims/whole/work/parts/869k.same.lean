/-! THE PARTS OF A WORLD: what changes told rows alone; a price -/
theorem cl_56 {k : Nat} (h : VV k) : cl k ≤ 47 ∨ 57 ≤ cl k := by
  unfold VV at h
  unfold cl
  split
  · omega
  split
  · omega
  split
  · omega
  split
  · omega
  split
  · split
    · omega
    split
    · omega
    · omega
  split
  · omega
  · omega
theorem Inv.cg {A A' : Nat → Int} (h : Inv A) (e : ∀ k, k < 206 → A' k = A k) : Inv A' := by
  obtain ⟨i1, i2, i3, i4, i5, i6, i7, i8, i9⟩ := h
  have a0 := e 0 (by omega)
  have a1 := e 1 (by omega)
  have a2 := e 2 (by omega)
  have a3 := e 3 (by omega)
  exact ⟨by unfold Cn at *; rw [a0, a1, a2, a3, e 4 (by omega)]; exact i1, i2.cg (by omega) a1 (fun k _ _ => e k (by omega)) i1, i3.cg a0 (fun k _ _ => e k (by omega)) i1, i4.cg (by omega) a2 (fun p _ => e _ (by omega)) i1, i5.cg fun k _ _ _ => e k (by omega), i6.cg fun k _ _ _ => e k (by omega), i7.cg (by omega) (by omega) a3 (fun k _ _ => e k (by omega)) i1, by rw [e 5 (by omega)]; exact i8, i9.cg a0 (fun k _ => e _ (by omega)) i1⟩
theorem DD.same {M1 M2 M1' M2' : Mm} (h : DD M1 M2) (D : Nat → Prop) (hD : ∀ k, D k → vd (dA M2) k) (hI : Inv (dA M2')) (hF : FB (dA M2')) (hA : ∀ k, k < 206 → ¬D k → dA M2' k = dA M2 k) (m1 : ∀ k, D k → M1' (cl k + 47) (pl k) = dA M2' k) (me : ∀ b j, 65 ≤ b → b ≤ 111 → (∀ k, D k → ¬(b = cl k + 47 ∧ j = pl k)) → M1' b j = M1 b j) (hN : ∀ j, 96 ≤ j → j < 120 → M2' 273 j = M2 273 j) (r1 : M1' 15 0 = M2' 271 20) (r2 : M2' 271 20 = 0 ∨ M2' 271 20 = 1) : DD M1' M2' := by
  obtain ⟨dx, hI0, zr, fb, fz, pz, nm, rt, rt'⟩ := h
  have hC := hI0.1
  unfold Cn at hC
  have hV : ∀ k, D k → VV k := fun k hk => vd_VV (hD k hk)
  have lo : ∀ k, k < 4 ∨ k = 6 ∨ k = 7 → dA M2' k = dA M2 k := fun k hk => hA k (by omega) fun z => by have := hV k z; unfold VV at this; omega
  have a0 := lo 0 (by omega)
  have a1 := lo 1 (by omega)
  have a2 := lo 2 (by omega)
  have a3 := lo 3 (by omega)
  have nd : ∀ k, k < 206 → ¬vd (dA M2) k → dA M2' k = dA M2 k := fun k hk z => hA k hk fun y => z (hD k y)
  have dN' : ∀ j, j < 24 → dN M2' j = dN M2 j := fun j hj => hN _ (by omega) (by omega)
  have off : ∀ b j, 67 ≤ b ∧ b ≤ 72 ∨ b = 98 → M1' b j = M1 b j := fun b j hb => me b j (by omega) (by omega) fun k hk z => by
    have c := cl_20 (hV k hk)
    have c' := cl_56 (hV k hk)
    omega
  refine ⟨dx.upd D hV (fun k hk => by rw [off _ _ (by omega), lo k (by omega)]; exact dx.1 k hk) m1 (fun k hk hn => ⟨?_, hA k (by have := vd_VV hk; unfold VV at this; omega) hn⟩) (fun b j y1 y2 _ y4 => me b j y1 y2 y4), hI, ⟨fun m y1 y2 => ?_, fun g y1 y2 => ?_, fun s y1 y2 => ?_⟩, hF, fun m y1 y2 => ?_, ⟨?_, ?_⟩, ⟨fun i hi => ?_, fun i hi => ?_, fun i hi => ?_, fun i hi => ?_⟩, r1, r2⟩
  · unfold vd at hk ⊢
    rw [a0, a1, a2, a3] at hk
    exact hk
  · rw [a0] at y2
    rw [nd _ (by omega) (by unfold vd; omega), nd _ (by omega) (by unfold vd; omega), nd _ (by omega) (by unfold vd; omega)]
    exact zr.1 m y1 y2
  · rw [a1] at y2
    rw [nd _ (by omega) (by unfold vd; omega)]
    exact zr.2.1 g y1 y2
  · rw [a3] at y2
    obtain ⟨u1, u2, u3, u4⟩ := zr.2.2 s y1 y2
    rw [nd _ (by omega) (by unfold vd; omega), nd _ (by omega) (by unfold vd; omega), nd _ (by omega) (by unfold vd; omega)]
    exact ⟨u1, u2, u3, fun g hg => by rw [nd _ (by omega) (by unfold vd; omega)]; exact u4 g hg⟩
  · rw [a0] at y2
    rw [me _ _ (by omega) (by omega) fun k hk z => ?_]
    · exact fz m y1 y2
    · have c := cl_n (n := m) (w := 3) (k := 11 + 4 * m) (by omega) (by omega) y1
      have e1 := ix_cl (hV k hk)
      have e2 := ix_cl (k := 11 + 4 * m) (by unfold VV; omega)
      rw [c.1, c.2, show 26 + 3 = cl k by omega, z.2, e1] at e2
      have v := hD k hk
      rw [e2] at v
      unfold vd at v
      omega
  · rw [off _ _ (by omega)]; exact pz.1
  · rw [lo 6 (by omega)]; exact pz.2
  · rw [a0] at hi
    rw [off _ _ (by omega), dN' _ (by omega)]
    exact nm.1 i hi
  · rw [a1] at hi
    rw [off _ _ (by omega), dN' _ (by omega)]
    exact nm.2.1 i hi
  · rw [a2] at hi
    rw [off _ _ (by omega), dN' _ (by omega)]
    exact nm.2.2.1 i hi
  · rw [a3] at hi
    rw [off _ _ (by omega), dN' _ (by omega)]
    exact nm.2.2.2 i hi
/-- nothing told has changed -/
theorem NmD.k {M1 M2 : Mm} {A : Nat → Int} (h : NmD M1 M2 A) : NmK M1 M2 66 0 96 (A 0).toNat ∧ NmK M1 M2 66 1 102 (A 1).toNat ∧ NmK M1 M2 66 2 110 (A 2).toNat ∧ NmK M1 M2 66 3 116 (A 3).toNat := h.2.2
section
variable {bt : Nat → Int} {n q e : Nat} {M M1 M2 : Mm} {L d d1 d2 d3 : Nat}
theorem FrT.nn {M M' : Mm} {t : Nat} (h : FrT t M M') : ∀ j, M' 273 j = M 273 j := fun j => h _ _ (by omega) (by omega)
theorem FrB.nn {M M' : Mm} (h : FrB M M') : ∀ j, M' 273 j = M 273 j := fun j => h _ _ (by omega)
theorem p_price (h1 : 12 ≤ d1) (h2 : 12 ≤ d2) (h : TK bt n q e M1 M2) (hD : DD M1 M2) (hq : q < e) : PO bt n q L d1 d2 (callD d1 m_WorldText_takesPrice [vR 6 0 12, vR 0 0 66] (SH L) M1) (callD d2 m_Mo_aPrice [vR 12 0 271] (SH L) M2) M1 M2 := by
  have hI := hD.2.1
  have hC := hI.1
  unfold Cn at hC
  have ch66 : isCh 66 := Or.inr (Or.inl rfl)
  have rc := rC (L := L) ch66
  obtain ⟨cg, hg⟩ := Int.eq_ofNat_of_zero_le hC.2.2.1
  obtain ⟨cp, hp⟩ := Int.eq_ofNat_of_zero_le hC.2.2.2.2.1
  obtain ⟨k0, k1, k2, k3⟩ := hD.nm.k
  rw [hg, nat_cast] at k1
  rw [hp, nat_cast] at k2
  have m89 : M2 272 2289 = (cg : Int) := hg
  have m90 : M2 272 2290 = (cp : Int) := hp
  obtain ⟨qa, ea, Ma, Mb, a1, a2, ta, la, fa, fb⟩ := k_adv (L := L) (d1 := d1 - 1) (d2 := d2 - 1) (by omega) (by omega) h
  have b90 : Mb 272 2290 = (cp : Int) := by rw [fb _ _ (by omega)]; exact m90
  rcases k_thing (L := L) (d1 := d1 - 1) (d2 := d2 - 1 - 1) (by omega) (by omega) ta (c := 66) (kd := 2) (to := 2854) ch66 (by omega) (k2.fr (by omega) fa fb.nn) (by omega) with ⟨qb, eb, v, Mc, Md, c1, c2, hv, tb, lb, fa1, ft1, ev⟩ | ⟨M1', M2', c1, c2, f, fa1, ft1⟩
  rotate_left
  · right; left
    have c1 := c1 2 rfl
    refine ⟨M1', M2', ?_, ?_, f, fa.w.trans fa1.w, fb.w.trans (ft1.w (by omega))⟩
    · repeat' first
        | (with_reducible apply bR_go; (simp (disch := omega) only [rM L, rK L, rN L, rNf, rNv, rNp, rNd, rRow, rLeg, rMark, nat_cast, Int.reduceToNat]; with_reducible exact rfl))
        | with_reducible apply bI_go
        | with_reducible apply bV_go
        | with_reducible apply bL_go
        | (with_reducible apply it_1; (first | omega | (simp (disch := omega) only [not_false_eq_true, not_true_eq_false, w32_id, tLt, fLt, tLe, fEq, itE, and_true, true_and, and_self, and_false, false_and, ↓reduceIte, nat_add, nat_mul3, nat_mul4, nat_mul6, nat_mul15, nat_mul60, nat_cast, nc1, Int.reduceToNat, upE, upN, fill_ne, fill_in, i0] <;> omega)))
        | (with_reducible apply it_2; (first | omega | (simp (disch := omega) only [not_false_eq_true, not_true_eq_false, w32_id, tLt, fLt, tLe, fEq, itE, and_true, true_and, and_self, and_false, false_and, ↓reduceIte, nat_add, nat_mul3, nat_mul4, nat_mul6, nat_mul15, nat_mul60, nat_cast, nc1, Int.reduceToNat, upE, upN, fill_ne, fill_in, i0] <;> omega)))
        | (with_reducible refine cl_go ?_; simp (disch := omega) only [not_false_eq_true, not_true_eq_false, w32_id, tLt, fLt, tLe, fEq, itE, and_true, true_and, and_self, and_false, false_and, ↓reduceIte, nat_add, nat_mul3, nat_mul4, nat_mul6, nat_mul15, nat_mul60, nat_cast, nc1, Int.reduceToNat, upE, upN, fill_ne, fill_in, i0])
        | rw [c_WorldText_takesPrice (by omega), b_WorldText_takesPrice_0]
        | with_reducible exact a1
        | with_reducible exact c1
        | (with_reducible refine rn_go ?_; simp (disch := omega) only [not_false_eq_true, not_true_eq_false, w32_id, tLt, fLt, tLe, fEq, itE, and_true, true_and, and_self, and_false, false_and, ↓reduceIte, nat_add, nat_mul3, nat_mul4, nat_mul6, nat_mul15, nat_mul60, nat_cast, nc1, Int.reduceToNat, upE, upN, fill_ne, fill_in, i0])
        | (with_reducible refine lf_go ?_; simp (disch := omega) only [not_false_eq_true, not_true_eq_false, w32_id, tLt, fLt, tLe, fEq, itE, and_true, true_and, and_self, and_false, false_and, ↓reduceIte, nat_add, nat_mul3, nat_mul4, nat_mul6, nat_mul15, nat_mul60, nat_cast, nc1, Int.reduceToNat, upE, upN, fill_ne, fill_in, i0])
        | with_reducible exact rfl
    · repeat' first
        | (with_reducible apply bR_go; (simp (disch := omega) only [rM L, rK L, rN L, rNf, rNv, rNp, rNd, rRow, rLeg, rMark, nat_cast, Int.reduceToNat, b90, Int.reduceMod, Int.reduceAdd]; with_reducible exact rfl))
        | with_reducible apply bI_go
        | with_reducible apply bV_go
        | with_reducible apply bL_go
        | (with_reducible apply it_1; (first | omega | (simp (disch := omega) only [not_false_eq_true, not_true_eq_false, w32_id, tLt, fLt, tLe, fEq, itE, and_true, true_and, and_self, and_false, false_and, ↓reduceIte, nat_add, nat_mul3, nat_mul4, nat_mul6, nat_mul15, nat_mul60, nat_cast, nc1, Int.reduceToNat, upE, upN, fill_ne, fill_in, i0, b90, Int.reduceMod, Int.reduceAdd] <;> omega)))
        | (with_reducible apply it_2; (first | omega | (simp (disch := omega) only [not_false_eq_true, not_true_eq_false, w32_id, tLt, fLt, tLe, fEq, itE, and_true, true_and, and_self, and_false, false_and, ↓reduceIte, nat_add, nat_mul3, nat_mul4, nat_mul6, nat_mul15, nat_mul60, nat_cast, nc1, Int.reduceToNat, upE, upN, fill_ne, fill_in, i0, b90, Int.reduceMod, Int.reduceAdd] <;> omega)))
        | (with_reducible refine cl_go ?_; simp (disch := omega) only [not_false_eq_true, not_true_eq_false, w32_id, tLt, fLt, tLe, fEq, itE, and_true, true_and, and_self, and_false, false_and, ↓reduceIte, nat_add, nat_mul3, nat_mul4, nat_mul6, nat_mul15, nat_mul60, nat_cast, nc1, Int.reduceToNat, upE, upN, fill_ne, fill_in, i0, b90, Int.reduceMod, Int.reduceAdd])
        | rw [c_Mo_aPrice (by omega), b_Mo_aPrice_0]
        | rw [c_Mo_portTo (by omega), b_Mo_portTo_0]
        | with_reducible exact a2
        | with_reducible exact c2 _ _ _ (by omega) (by omega) (by omega)
        | (with_reducible refine rn_go ?_; simp (disch := omega) only [not_false_eq_true, not_true_eq_false, w32_id, tLt, fLt, tLe, fEq, itE, and_true, true_and, and_self, and_false, false_and, ↓reduceIte, nat_add, nat_mul3, nat_mul4, nat_mul6, nat_mul15, nat_mul60, nat_cast, nc1, Int.reduceToNat, upE, upN, fill_ne, fill_in, i0, b90, Int.reduceMod, Int.reduceAdd])
        | (with_reducible refine lf_go ?_; simp (disch := omega) only [not_false_eq_true, not_true_eq_false, w32_id, tLt, fLt, tLe, fEq, itE, and_true, true_and, and_self, and_false, false_and, ↓reduceIte, nat_add, nat_mul3, nat_mul4, nat_mul6, nat_mul15, nat_mul60, nat_cast, nc1, Int.reduceToNat, upE, upN, fill_ne, fill_in, i0, b90, Int.reduceMod, Int.reduceAdd])
        | with_reducible exact rfl
  have c1 := c1 2 rfl
  have d89 : Md 272 2289 = (cg : Int) := by rw [ft1 _ _ (by omega) (by omega), fb _ _ (by omega)]; exact m89
  rcases k_thing (L := L) (d1 := d1 - 1) (d2 := d2 - 1 - 1) (by omega) (by omega) tb (c := 66) (kd := 1) (to := 2855) ch66 (by omega) ((k1.fr (by omega) fa fb.nn).fr (by omega) fa1 ft1.nn) (by omega) with ⟨qc, ec, w, Me, Mf, c3, c4, hw, tc, lc, fa2, ft2, ew⟩ | ⟨M1', M2', c3, c4, f, fa2, ft2⟩
  rotate_left
  · right; left
    have c3 := c3 1 rfl
    refine ⟨M1', M2', ?_, ?_, f, (fa.w.trans fa1.w).trans fa2.w, (fb.w.trans (ft1.w (by omega))).trans (ft2.w (by omega))⟩
    · repeat' first
        | (with_reducible apply bR_go; (simp (disch := omega) only [rM L, rK L, rN L, rNf, rNv, rNp, rNd, rRow, rLeg, rMark, nat_cast, Int.reduceToNat]; with_reducible exact rfl))
        | with_reducible apply bI_go
        | with_reducible apply bV_go
        | with_reducible apply bL_go
        | (with_reducible apply it_1; (first | omega | (simp (disch := omega) only [not_false_eq_true, not_true_eq_false, w32_id, tLt, fLt, tLe, fEq, itE, and_true, true_and, and_self, and_false, false_and, ↓reduceIte, nat_add, nat_mul3, nat_mul4, nat_mul6, nat_mul15, nat_mul60, nat_cast, nc1, Int.reduceToNat, upE, upN, fill_ne, fill_in, i0] <;> omega)))
        | (with_reducible apply it_2; (first | omega | (simp (disch := omega) only [not_false_eq_true, not_true_eq_false, w32_id, tLt, fLt, tLe, fEq, itE, and_true, true_and, and_self, and_false, false_and, ↓reduceIte, nat_add, nat_mul3, nat_mul4, nat_mul6, nat_mul15, nat_mul60, nat_cast, nc1, Int.reduceToNat, upE, upN, fill_ne, fill_in, i0] <;> omega)))
        | (with_reducible refine cl_go ?_; simp (disch := omega) only [not_false_eq_true, not_true_eq_false, w32_id, tLt, fLt, tLe, fEq, itE, and_true, true_and, and_self, and_false, false_and, ↓reduceIte, nat_add, nat_mul3, nat_mul4, nat_mul6, nat_mul15, nat_mul60, nat_cast, nc1, Int.reduceToNat, upE, upN, fill_ne, fill_in, i0])
        | rw [c_WorldText_takesPrice (by omega), b_WorldText_takesPrice_0]
        | with_reducible exact a1
        | with_reducible exact c1
        | with_reducible exact c3
        | (with_reducible refine rn_go ?_; simp (disch := omega) only [not_false_eq_true, not_true_eq_false, w32_id, tLt, fLt, tLe, fEq, itE, and_true, true_and, and_self, and_false, false_and, ↓reduceIte, nat_add, nat_mul3, nat_mul4, nat_mul6, nat_mul15, nat_mul60, nat_cast, nc1, Int.reduceToNat, upE, upN, fill_ne, fill_in, i0])
        | (with_reducible refine lf_go ?_; simp (disch := omega) only [not_false_eq_true, not_true_eq_false, w32_id, tLt, fLt, tLe, fEq, itE, and_true, true_and, and_self, and_false, false_and, ↓reduceIte, nat_add, nat_mul3, nat_mul4, nat_mul6, nat_mul15, nat_mul60, nat_cast, nc1, Int.reduceToNat, upE, upN, fill_ne, fill_in, i0])
        | with_reducible exact rfl
    · repeat' first
        | (with_reducible apply bR_go; (simp (disch := omega) only [rM L, rK L, rN L, rNf, rNv, rNp, rNd, rRow, rLeg, rMark, nat_cast, Int.reduceToNat, b90, d89, Int.reduceMod, Int.reduceAdd]; with_reducible exact rfl))
        | with_reducible apply bI_go
        | with_reducible apply bV_go
        | with_reducible apply bL_go
        | (with_reducible apply it_1; (first | omega | (simp (disch := omega) only [not_false_eq_true, not_true_eq_false, w32_id, tLt, fLt, tLe, fEq, itE, and_true, true_and, and_self, and_false, false_and, ↓reduceIte, nat_add, nat_mul3, nat_mul4, nat_mul6, nat_mul15, nat_mul60, nat_cast, nc1, Int.reduceToNat, upE, upN, fill_ne, fill_in, i0, b90, d89, Int.reduceMod, Int.reduceAdd] <;> omega)))
        | (with_reducible apply it_2; (first | omega | (simp (disch := omega) only [not_false_eq_true, not_true_eq_false, w32_id, tLt, fLt, tLe, fEq, itE, and_true, true_and, and_self, and_false, false_and, ↓reduceIte, nat_add, nat_mul3, nat_mul4, nat_mul6, nat_mul15, nat_mul60, nat_cast, nc1, Int.reduceToNat, upE, upN, fill_ne, fill_in, i0, b90, d89, Int.reduceMod, Int.reduceAdd] <;> omega)))
        | (with_reducible refine cl_go ?_; simp (disch := omega) only [not_false_eq_true, not_true_eq_false, w32_id, tLt, fLt, tLe, fEq, itE, and_true, true_and, and_self, and_false, false_and, ↓reduceIte, nat_add, nat_mul3, nat_mul4, nat_mul6, nat_mul15, nat_mul60, nat_cast, nc1, Int.reduceToNat, upE, upN, fill_ne, fill_in, i0, b90, d89, Int.reduceMod, Int.reduceAdd])
        | rw [c_Mo_aPrice (by omega), b_Mo_aPrice_0]
        | rw [c_Mo_portTo (by omega), b_Mo_portTo_0]
        | rw [c_Mo_goodTo (by omega), b_Mo_goodTo_0]
        | with_reducible exact a2
        | with_reducible exact c2 _ _ _ (by omega) (by omega) (by omega)
        | with_reducible exact c4 _ _ _ (by omega) (by omega) (by omega)
        | (with_reducible refine rn_go ?_; simp (disch := omega) only [not_false_eq_true, not_true_eq_false, w32_id, tLt, fLt, tLe, fEq, itE, and_true, true_and, and_self, and_false, false_and, ↓reduceIte, nat_add, nat_mul3, nat_mul4, nat_mul6, nat_mul15, nat_mul60, nat_cast, nc1, Int.reduceToNat, upE, upN, fill_ne, fill_in, i0, b90, d89, Int.reduceMod, Int.reduceAdd])
        | (with_reducible refine lf_go ?_; simp (disch := omega) only [not_false_eq_true, not_true_eq_false, w32_id, tLt, fLt, tLe, fEq, itE, and_true, true_and, and_self, and_false, false_and, ↓reduceIte, nat_add, nat_mul3, nat_mul4, nat_mul6, nat_mul15, nat_mul60, nat_cast, nc1, Int.reduceToNat, upE, upN, fill_ne, fill_in, i0, b90, d89, Int.reduceMod, Int.reduceAdd])
        | with_reducible exact rfl
  have c3 := c3 1 rfl
  have f54 : Mf 272 2854 = (v : Int) := by rw [ft2 _ _ (by omega) (by omega)]; exact ev
  rcases k_num (L := L) (d1 := d1 - 1) (d2 := d2 - 1) (by omega) (by omega) tc 1 99 (to := 2345 + 15 * v + w) (by omega) with ⟨qd, ed, x, Mg, Mh, o1, o2, hx, td, ld, fa3, ft3, ex⟩ | ⟨M1', M2', o1, o2, f, fa3, fb3⟩
  rotate_left
  · right; left
    refine ⟨M1', M2', ?_, ?_, f, ((fa.w.trans fa1.w).trans fa2.w).trans fa3.w, ((fb.w.trans (ft1.w (by omega))).trans (ft2.w (by omega))).trans fb3.w⟩
    · repeat' first
        | (with_reducible apply bR_go; (simp (disch := omega) only [rM L, rK L, rN L, rNf, rNv, rNp, rNd, rRow, rLeg, rMark, nat_cast, Int.reduceToNat]; with_reducible exact rfl))
        | with_reducible apply bI_go
        | with_reducible apply bV_go
        | with_reducible apply bL_go
        | (with_reducible apply it_1; (first | omega | (simp (disch := omega) only [not_false_eq_true, not_true_eq_false, w32_id, tLt, fLt, tLe, fEq, itE, and_true, true_and, and_self, and_false, false_and, ↓reduceIte, nat_add, nat_mul3, nat_mul4, nat_mul6, nat_mul15, nat_mul60, nat_cast, nc1, Int.reduceToNat, upE, upN, fill_ne, fill_in, i0] <;> omega)))
        | (with_reducible apply it_2; (first | omega | (simp (disch := omega) only [not_false_eq_true, not_true_eq_false, w32_id, tLt, fLt, tLe, fEq, itE, and_true, true_and, and_self, and_false, false_and, ↓reduceIte, nat_add, nat_mul3, nat_mul4, nat_mul6, nat_mul15, nat_mul60, nat_cast, nc1, Int.reduceToNat, upE, upN, fill_ne, fill_in, i0] <;> omega)))
        | (with_reducible refine cl_go ?_; simp (disch := omega) only [not_false_eq_true, not_true_eq_false, w32_id, tLt, fLt, tLe, fEq, itE, and_true, true_and, and_self, and_false, false_and, ↓reduceIte, nat_add, nat_mul3, nat_mul4, nat_mul6, nat_mul15, nat_mul60, nat_cast, nc1, Int.reduceToNat, upE, upN, fill_ne, fill_in, i0])
        | rw [c_WorldText_takesPrice (by omega), b_WorldText_takesPrice_0]
        | with_reducible exact a1
        | with_reducible exact c1
        | with_reducible exact c3
        | with_reducible exact o1
        | (with_reducible refine rn_go ?_; simp (disch := omega) only [not_false_eq_true, not_true_eq_false, w32_id, tLt, fLt, tLe, fEq, itE, and_true, true_and, and_self, and_false, false_and, ↓reduceIte, nat_add, nat_mul3, nat_mul4, nat_mul6, nat_mul15, nat_mul60, nat_cast, nc1, Int.reduceToNat, upE, upN, fill_ne, fill_in, i0])
        | (with_reducible refine lf_go ?_; simp (disch := omega) only [not_false_eq_true, not_true_eq_false, w32_id, tLt, fLt, tLe, fEq, itE, and_true, true_and, and_self, and_false, false_and, ↓reduceIte, nat_add, nat_mul3, nat_mul4, nat_mul6, nat_mul15, nat_mul60, nat_cast, nc1, Int.reduceToNat, upE, upN, fill_ne, fill_in, i0])
        | with_reducible exact rfl
    · repeat' first
        | (with_reducible apply bR_go; (simp (disch := omega) only [rM L, rK L, rN L, rNf, rNv, rNp, rNd, rRow, rLeg, rMark, nat_cast, Int.reduceToNat, b90, d89, f54, ew, Int.reduceMod, Int.reduceAdd]; with_reducible exact rfl))
        | with_reducible apply bI_go
        | with_reducible apply bV_go
        | with_reducible apply bL_go
        | (with_reducible apply it_1; (first | omega | (simp (disch := omega) only [not_false_eq_true, not_true_eq_false, w32_id, tLt, fLt, tLe, fEq, itE, and_true, true_and, and_self, and_false, false_and, ↓reduceIte, nat_add, nat_mul3, nat_mul4, nat_mul6, nat_mul15, nat_mul60, nat_cast, nc1, Int.reduceToNat, upE, upN, fill_ne, fill_in, i0, b90, d89, f54, ew, Int.reduceMod, Int.reduceAdd] <;> omega)))
        | (with_reducible apply it_2; (first | omega | (simp (disch := omega) only [not_false_eq_true, not_true_eq_false, w32_id, tLt, fLt, tLe, fEq, itE, and_true, true_and, and_self, and_false, false_and, ↓reduceIte, nat_add, nat_mul3, nat_mul4, nat_mul6, nat_mul15, nat_mul60, nat_cast, nc1, Int.reduceToNat, upE, upN, fill_ne, fill_in, i0, b90, d89, f54, ew, Int.reduceMod, Int.reduceAdd] <;> omega)))
        | (with_reducible refine cl_go ?_; simp (disch := omega) only [not_false_eq_true, not_true_eq_false, w32_id, tLt, fLt, tLe, fEq, itE, and_true, true_and, and_self, and_false, false_and, ↓reduceIte, nat_add, nat_mul3, nat_mul4, nat_mul6, nat_mul15, nat_mul60, nat_cast, nc1, Int.reduceToNat, upE, upN, fill_ne, fill_in, i0, b90, d89, f54, ew, Int.reduceMod, Int.reduceAdd])
        | rw [c_Mo_aPrice (by omega), b_Mo_aPrice_0]
        | rw [c_Mo_portTo (by omega), b_Mo_portTo_0]
        | rw [c_Mo_goodTo (by omega), b_Mo_goodTo_0]
        | with_reducible exact a2
        | with_reducible exact c2 _ _ _ (by omega) (by omega) (by omega)
        | with_reducible exact c4 _ _ _ (by omega) (by omega) (by omega)
        | with_reducible exact o2 _ (by omega)
        | (with_reducible refine rn_go ?_; simp (disch := omega) only [not_false_eq_true, not_true_eq_false, w32_id, tLt, fLt, tLe, fEq, itE, and_true, true_and, and_self, and_false, false_and, ↓reduceIte, nat_add, nat_mul3, nat_mul4, nat_mul6, nat_mul15, nat_mul60, nat_cast, nc1, Int.reduceToNat, upE, upN, fill_ne, fill_in, i0, b90, d89, f54, ew, Int.reduceMod, Int.reduceAdd])
        | (with_reducible refine lf_go ?_; simp (disch := omega) only [not_false_eq_true, not_true_eq_false, w32_id, tLt, fLt, tLe, fEq, itE, and_true, true_and, and_self, and_false, false_and, ↓reduceIte, nat_add, nat_mul3, nat_mul4, nat_mul6, nat_mul15, nat_mul60, nat_cast, nc1, Int.reduceToNat, upE, upN, fill_ne, fill_in, i0, b90, d89, f54, ew, Int.reduceMod, Int.reduceAdd])
        | with_reducible exact rfl
  have rp := rCp (L := L) ch66 (k := v) (by omega)
  have th : TK bt n qd ed (up Mg (82 + v) w x) Mh := td.fr (fun b j hb => upN (by omega)) fun _ _ _ => rfl
  have mo : callD d2 m_Mo_aPrice [vR 12 0 271] (SH L) M2 = some (some (vI 1), SH L, Mh) := by
    repeat' first
      | (with_reducible apply bR_go; (simp (disch := omega) only [rM L, rK L, rN L, rNf, rNv, rNp, rNd, rRow, rLeg, rMark, nat_cast, Int.reduceToNat, b90, d89, f54, ew, Int.reduceMod, Int.reduceAdd]; with_reducible exact rfl))
      | with_reducible apply bI_go
      | with_reducible apply bV_go
      | with_reducible apply bL_go
      | (with_reducible apply it_1; (first | omega | (simp (disch := omega) only [not_false_eq_true, not_true_eq_false, w32_id, tLt, fLt, tLe, fEq, itE, and_true, true_and, and_self, and_false, false_and, ↓reduceIte, nat_add, nat_mul3, nat_mul4, nat_mul6, nat_mul15, nat_mul60, nat_cast, nc1, Int.reduceToNat, upE, upN, fill_ne, fill_in, i0, b90, d89, f54, ew, Int.reduceMod, Int.reduceAdd] <;> omega)))
      | (with_reducible apply it_2; (first | omega | (simp (disch := omega) only [not_false_eq_true, not_true_eq_false, w32_id, tLt, fLt, tLe, fEq, itE, and_true, true_and, and_self, and_false, false_and, ↓reduceIte, nat_add, nat_mul3, nat_mul4, nat_mul6, nat_mul15, nat_mul60, nat_cast, nc1, Int.reduceToNat, upE, upN, fill_ne, fill_in, i0, b90, d89, f54, ew, Int.reduceMod, Int.reduceAdd] <;> omega)))
      | (with_reducible refine cl_go ?_; simp (disch := omega) only [not_false_eq_true, not_true_eq_false, w32_id, tLt, fLt, tLe, fEq, itE, and_true, true_and, and_self, and_false, false_and, ↓reduceIte, nat_add, nat_mul3, nat_mul4, nat_mul6, nat_mul15, nat_mul60, nat_cast, nc1, Int.reduceToNat, upE, upN, fill_ne, fill_in, i0, b90, d89, f54, ew, Int.reduceMod, Int.reduceAdd])
      | rw [c_Mo_aPrice (by omega), b_Mo_aPrice_0]
      | rw [c_Mo_portTo (by omega), b_Mo_portTo_0]
      | rw [c_Mo_goodTo (by omega), b_Mo_goodTo_0]
      | with_reducible exact a2
      | with_reducible exact c2 _ _ _ (by omega) (by omega) (by omega)
      | with_reducible exact c4 _ _ _ (by omega) (by omega) (by omega)
      | with_reducible exact o2 _ (by omega)
      | (with_reducible refine rn_go ?_; simp (disch := omega) only [not_false_eq_true, not_true_eq_false, w32_id, tLt, fLt, tLe, fEq, itE, and_true, true_and, and_self, and_false, false_and, ↓reduceIte, nat_add, nat_mul3, nat_mul4, nat_mul6, nat_mul15, nat_mul60, nat_cast, nc1, Int.reduceToNat, upE, upN, fill_ne, fill_in, i0, b90, d89, f54, ew, Int.reduceMod, Int.reduceAdd])
      | (with_reducible refine lf_go ?_; simp (disch := omega) only [not_false_eq_true, not_true_eq_false, w32_id, tLt, fLt, tLe, fEq, itE, and_true, true_and, and_self, and_false, false_and, ↓reduceIte, nat_add, nat_mul3, nat_mul4, nat_mul6, nat_mul15, nat_mul60, nat_cast, nc1, Int.reduceToNat, upE, upN, fill_ne, fill_in, i0, b90, d89, f54, ew, Int.reduceMod, Int.reduceAdd])
      | with_reducible exact rfl
  have w1 : FcW M1 (up Mg (82 + v) w x) := (((fa.w.trans fa1.w).trans fa2.w).trans fa3.w).u (by omega)
  have w2 : FmW M2 Mh := ((fb.w.trans (ft1.w (by omega))).trans (ft2.w (by omega))).trans (ft3.w (by omega))
  rcases k_stop (L := L) (d1 := d1 - 1) (d2 := d2) (by omega) (by omega) th with ⟨qe, ee, Mj, Mk, s1, s2, tk, le', fj, fk⟩ | ⟨Mj, Mk, s1, s2, f, fj, fk⟩
  rotate_left
  · right; right
    refine ⟨Mj, _, Mk, ?_, mo, s2, f, w1.trans fj.w, w2.trans fk.w⟩
    repeat' first
      | (with_reducible apply bR_go; (simp (disch := omega) only [rM L, rK L, rN L, rNf, rNv, rNp, rNd, rRow, rLeg, rMark, nat_cast, Int.reduceToNat, rc, rp, Int.reduceMod, Int.reduceAdd]; with_reducible exact rfl))
      | with_reducible apply bI_go
      | with_reducible apply bV_go
      | with_reducible apply bL_go
      | (with_reducible apply it_1; (first | omega | (simp (disch := omega) only [not_false_eq_true, not_true_eq_false, w32_id, tLt, fLt, tLe, fEq, itE, and_true, true_and, and_self, and_false, false_and, ↓reduceIte, nat_add, nat_mul3, nat_mul4, nat_mul6, nat_mul15, nat_mul60, nat_cast, nc1, Int.reduceToNat, upE, upN, fill_ne, fill_in, i0, rc, rp, Int.reduceMod, Int.reduceAdd] <;> omega)))
      | (with_reducible apply it_2; (first | omega | (simp (disch := omega) only [not_false_eq_true, not_true_eq_false, w32_id, tLt, fLt, tLe, fEq, itE, and_true, true_and, and_self, and_false, false_and, ↓reduceIte, nat_add, nat_mul3, nat_mul4, nat_mul6, nat_mul15, nat_mul60, nat_cast, nc1, Int.reduceToNat, upE, upN, fill_ne, fill_in, i0, rc, rp, Int.reduceMod, Int.reduceAdd] <;> omega)))
      | (with_reducible refine cl_go ?_; simp (disch := omega) only [not_false_eq_true, not_true_eq_false, w32_id, tLt, fLt, tLe, fEq, itE, and_true, true_and, and_self, and_false, false_and, ↓reduceIte, nat_add, nat_mul3, nat_mul4, nat_mul6, nat_mul15, nat_mul60, nat_cast, nc1, Int.reduceToNat, upE, upN, fill_ne, fill_in, i0, rc, rp, Int.reduceMod, Int.reduceAdd])
      | rw [c_WorldText_takesPrice (by omega), b_WorldText_takesPrice_0]
      | with_reducible exact a1
      | with_reducible exact c1
      | with_reducible exact c3
      | with_reducible exact o1
      | with_reducible exact s1
      | (with_reducible refine rn_go ?_; simp (disch := omega) only [not_false_eq_true, not_true_eq_false, w32_id, tLt, fLt, tLe, fEq, itE, and_true, true_and, and_self, and_false, false_and, ↓reduceIte, nat_add, nat_mul3, nat_mul4, nat_mul6, nat_mul15, nat_mul60, nat_cast, nc1, Int.reduceToNat, upE, upN, fill_ne, fill_in, i0, rc, rp, Int.reduceMod, Int.reduceAdd])
      | (with_reducible refine lf_go ?_; simp (disch := omega) only [not_false_eq_true, not_true_eq_false, w32_id, tLt, fLt, tLe, fEq, itE, and_true, true_and, and_self, and_false, false_and, ↓reduceIte, nat_add, nat_mul3, nat_mul4, nat_mul6, nat_mul15, nat_mul60, nat_cast, nc1, Int.reduceToNat, upE, upN, fill_ne, fill_in, i0, rc, rp, Int.reduceMod, Int.reduceAdd])
      | with_reducible exact rfl
  left
  refine ⟨qe, ee, Mj, _, Mk, ?_, mo, s2, tk, by have b1 := ta.2.2.2.2.1.bd; have b2 := tb.2.2.2.2.1.bd; have b3 := tc.2.2.2.2.1.bd; have b4 := td.2.2.2.2.1.bd; omega, ?_, w1.trans fj.w, w2.trans fk.w⟩
  · repeat' first
      | (with_reducible apply bR_go; (simp (disch := omega) only [rM L, rK L, rN L, rNf, rNv, rNp, rNd, rRow, rLeg, rMark, nat_cast, Int.reduceToNat, rc, rp, Int.reduceMod, Int.reduceAdd]; with_reducible exact rfl))
      | with_reducible apply bI_go
      | with_reducible apply bV_go
      | with_reducible apply bL_go
      | (with_reducible apply it_1; (first | omega | (simp (disch := omega) only [not_false_eq_true, not_true_eq_false, w32_id, tLt, fLt, tLe, fEq, itE, and_true, true_and, and_self, and_false, false_and, ↓reduceIte, nat_add, nat_mul3, nat_mul4, nat_mul6, nat_mul15, nat_mul60, nat_cast, nc1, Int.reduceToNat, upE, upN, fill_ne, fill_in, i0, rc, rp, Int.reduceMod, Int.reduceAdd] <;> omega)))
      | (with_reducible apply it_2; (first | omega | (simp (disch := omega) only [not_false_eq_true, not_true_eq_false, w32_id, tLt, fLt, tLe, fEq, itE, and_true, true_and, and_self, and_false, false_and, ↓reduceIte, nat_add, nat_mul3, nat_mul4, nat_mul6, nat_mul15, nat_mul60, nat_cast, nc1, Int.reduceToNat, upE, upN, fill_ne, fill_in, i0, rc, rp, Int.reduceMod, Int.reduceAdd] <;> omega)))
      | (with_reducible refine cl_go ?_; simp (disch := omega) only [not_false_eq_true, not_true_eq_false, w32_id, tLt, fLt, tLe, fEq, itE, and_true, true_and, and_self, and_false, false_and, ↓reduceIte, nat_add, nat_mul3, nat_mul4, nat_mul6, nat_mul15, nat_mul60, nat_cast, nc1, Int.reduceToNat, upE, upN, fill_ne, fill_in, i0, rc, rp, Int.reduceMod, Int.reduceAdd])
      | rw [c_WorldText_takesPrice (by omega), b_WorldText_takesPrice_0]
      | with_reducible exact a1
      | with_reducible exact c1
      | with_reducible exact c3
      | with_reducible exact o1
      | with_reducible exact s1
      | (with_reducible refine rn_go ?_; simp (disch := omega) only [not_false_eq_true, not_true_eq_false, w32_id, tLt, fLt, tLe, fEq, itE, and_true, true_and, and_self, and_false, false_and, ↓reduceIte, nat_add, nat_mul3, nat_mul4, nat_mul6, nat_mul15, nat_mul60, nat_cast, nc1, Int.reduceToNat, upE, upN, fill_ne, fill_in, i0, rc, rp, Int.reduceMod, Int.reduceAdd])
      | (with_reducible refine lf_go ?_; simp (disch := omega) only [not_false_eq_true, not_true_eq_false, w32_id, tLt, fLt, tLe, fEq, itE, and_true, true_and, and_self, and_false, false_and, ↓reduceIte, nat_add, nat_mul3, nat_mul4, nat_mul6, nat_mul15, nat_mul60, nat_cast, nc1, Int.reduceToNat, upE, upN, fill_ne, fill_in, i0, rc, rp, Int.reduceMod, Int.reduceAdd])
      | with_reducible exact rfl
  have gA : ∀ k, k < 206 → k ≠ 57 + 15 * v + w → dA Mk k = dA M2 k := fun k y0 y1 => by
    unfold dA
    rw [fk _ _ (by omega), ft3 _ _ (by omega) (by omega), ft2 _ _ (by omega) (by omega), ft1 _ _ (by omega) (by omega), fb _ _ (by omega)]
  have eA : dA Mk (57 + 15 * v + w) = x := by
    unfold dA
    rw [fk _ _ (by omega), show 2288 + (57 + 15 * v + w) = 2345 + 15 * v + w by omega]
    exact ex
  have cp' := cl_p (n := v) (w := w) (k := 57 + 15 * v + w) rfl (by omega) (by omega)
  refine hD.same (fun k => k = 57 + 15 * v + w) (fun k hk => by unfold vd; omega) ((hI.price (p := v) (g := w) (x := x) (by omega) (by omega) (by omega) (by omega)).cg fun k hk => ?_) (fun m hm => ?_) (fun k y1 y2 => gA k y1 y2) (fun k hk => ?_) (fun b j y1 y2 y3 => ?_) (fun j _ _ => by rw [fk _ _ (by omega), ft3 _ _ (by omega) (by omega), ft2 _ _ (by omega) (by omega), ft1 _ _ (by omega) (by omega), fb _ _ (by omega)]) ?_ ?_
  · by_cases z : k = 57 + 15 * v + w
    · rw [z, wUE rfl]; exact eA
    · rw [wUN z]; exact gA k hk z
  · rw [gA 0 (by omega) (by omega)] at hm ⊢
    rw [gA _ (by omega) (by omega)]
    exact hD.2.2.2.1 m hm
  · subst hk
    rw [cp'.1, cp'.2, eA, show 35 + v + 47 = 82 + v by omega, fj _ _ (by omega), upE rfl rfl]
  · have y3 := y3 _ rfl
    rw [cp'.1, cp'.2] at y3
    rw [fj _ _ (by omega), upN (by omega), fa3 _ _ (by omega), fa2 _ _ (by omega), fa1 _ _ (by omega), fa _ _ (by omega)]
  · rw [fj _ _ (by omega), upN (by omega), fa3 _ _ (by omega), fa2 _ _ (by omega), fa1 _ _ (by omega), fa _ _ (by omega), fk _ _ (by omega), ft3 _ _ (by omega) (by omega), ft2 _ _ (by omega) (by omega), ft1 _ _ (by omega) (by omega), fb _ _ (by omega)]
    exact hD.2.2.2.2.2.2.2.1
  · rw [fk _ _ (by omega), ft3 _ _ (by omega) (by omega), ft2 _ _ (by omega) (by omega), ft1 _ _ (by omega) (by omega), fb _ _ (by omega)]
    exact hD.2.2.2.2.2.2.2.2
end

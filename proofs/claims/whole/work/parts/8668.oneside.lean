/-! LEAKING LOADS, one side at a time; copyLog -/
section
variable {M : Mm} {A : Nat → Int} {L d : Nat}
theorem Inv.ld6 (h : Inv A) {i : Nat} (hi : (i : Int) < A 3) : ∀ g, g < 8 → 0 ≤ ldF A i g ∧ ldF A i g ≤ 60 := fun g hg => by
  have := (h.2.2.2.2.2.2.1 i hi).ld g hg
  unfold shp at this
  unfold ldF
  rw [show 153 + 15 * i + g = 146 + 15 * i + (7 + g) by omega]
  exact this
theorem Inv.dy1 (h : Inv A) {days : Int} (h0 : 0 ≤ days) (h1 : days ≤ 99) {g : Nat} (hg : (g : Int) < A 1) : 0 ≤ days * A (34 + 3 * g) ∧ days * A (34 + 3 * g) ≤ 891 := by
  have a := h.2.1 g hg
  exact mul_bd h0 h1 a.2.2.2.2.1 a.2.2.2.2.2
theorem Inv.lkl (h : Inv A) {i : Nat} (hi : (i : Int) < A 3) {days : Int} (h0 : 0 ≤ days) (h1 : days ≤ 99) : Ld (lkF A (ldF A i) days) := fun g hg => by
  have a := h.ld6 hi g hg
  unfold lkF
  split
  · next e =>
    have := h.dy1 h0 h1 e
    omega
  · omega
theorem c_leakFor' (hd : 2 ≤ d) (h : RelC M A) {i : Nat} {days : Int} (hi : (i : Int) < A 3) (h0 : 0 ≤ days) (h1 : days ≤ 99) : callD d m_Outlook_leakFor [vR 2 0 113, vR 0 0 19, vR 8 0 (57 + 2 * i), vI days] (SH L) M = some (none, SH L, thn M A i days) := by
  have hI := h.2.2.2
  have hC := hI.1
  unfold Cn at hC
  have hct : ∀ k, k < 4 → M 20 k = A k := h.1.1
  have hg : ∀ g : Nat, (g : Int) < A 1 → M 30 g = A (32 + 3 * g) ∧ M 31 g = A (33 + 3 * g) ∧ M 32 g = A (34 + 3 * g) := h.1.2.2.2.1
  have ht : ∀ g, g < 8 → M (58 + 2 * i) g = ldF A i g := fun g hg => (h.2.2.1 i hi).2 g hg
  have st : ∀ k : Nat, k < (A 1).toNat → Run (callD (d - 1)) tb_Outlook_leakFor 3 [vR 2 0 113, vR 0 0 19, vR 8 0 (57 + 2 * i), vI days, vI (k : Int)] [] (SH L) (fillP M 114 (fun g => max 0 (ldF A i g - days * A (34 + 3 * g))) k) = Run (callD (d - 1)) tb_Outlook_leakFor 3 [vR 2 0 113, vR 0 0 19, vR 8 0 (57 + 2 * i), vI days, vI ((k + 1 : Nat) : Int)] [] (SH L) (fillP M 114 (fun g => max 0 (ldF A i g - days * A (34 + 3 * g))) (k + 1)) := by
    intro k hk
    have e1 := hI.ld6 hi k (by omega)
    have e2 := hI.dy1 h0 h1 (g := k) (by omega)
    rw [b_Outlook_leakFor_3, ← fill_s M 114 (fun g => max 0 (ldF A i g - days * A (34 + 3 * g))) k rfl]
    repeat' first
      | (with_reducible apply bR_go; (simp (disch := omega) only [rM L, rK L, rN L, rNf, rNv, rNp, rNd, rRow, rLeg, rMark, nat_cast, Int.reduceToNat, hct, hg, ht]; with_reducible exact rfl))
      | with_reducible apply bI_go
      | with_reducible apply bV_go
      | with_reducible apply bL_go
      | (with_reducible apply it_1; (first | omega | (simp (disch := omega) only [not_false_eq_true, not_true_eq_false, w32_id, tLt, fLt, tLe, fEq, itE, and_true, true_and, and_self, and_false, false_and, ↓reduceIte, nat_add, nat_mul3, nat_mul4, nat_mul6, nat_mul15, nat_mul60, nat_cast, nc1, Int.reduceToNat, upE, upN, fill_ne, fill_in, i0, hct, hg, ht] <;> omega)))
      | (with_reducible apply it_2; (first | omega | (simp (disch := omega) only [not_false_eq_true, not_true_eq_false, w32_id, tLt, fLt, tLe, fEq, itE, and_true, true_and, and_self, and_false, false_and, ↓reduceIte, nat_add, nat_mul3, nat_mul4, nat_mul6, nat_mul15, nat_mul60, nat_cast, nc1, Int.reduceToNat, upE, upN, fill_ne, fill_in, i0, hct, hg, ht] <;> omega)))
      | (with_reducible refine cl_go ?_; simp (disch := omega) only [not_false_eq_true, not_true_eq_false, w32_id, tLt, fLt, tLe, fEq, itE, and_true, true_and, and_self, and_false, false_and, ↓reduceIte, nat_add, nat_mul3, nat_mul4, nat_mul6, nat_mul15, nat_mul60, nat_cast, nc1, Int.reduceToNat, upE, upN, fill_ne, fill_in, i0, hct, hg, ht])
      | rw [c_Outlook_leaked (by omega), b_Outlook_leaked_0]
      | (with_reducible refine rn_go ?_; simp (disch := omega) only [not_false_eq_true, not_true_eq_false, w32_id, tLt, fLt, tLe, fEq, itE, and_true, true_and, and_self, and_false, false_and, ↓reduceIte, nat_add, nat_mul3, nat_mul4, nat_mul6, nat_mul15, nat_mul60, nat_cast, nc1, Int.reduceToNat, upE, upN, fill_ne, fill_in, i0, hct, hg, ht])
      | (with_reducible refine lf_go ?_; simp (disch := omega) only [not_false_eq_true, not_true_eq_false, w32_id, tLt, fLt, tLe, fEq, itE, and_true, true_and, and_self, and_false, false_and, ↓reduceIte, nat_add, nat_mul3, nat_mul4, nat_mul6, nat_mul15, nat_mul60, nat_cast, nc1, Int.reduceToNat, upE, upN, fill_ne, fill_in, i0, hct, hg, ht])
      | with_reducible exact rfl
  rw [c_Outlook_leakFor (by omega), b_Outlook_leakFor_0]
  have e := loop_up (fun k => Run (callD (d - 1)) tb_Outlook_leakFor 3 [vR 2 0 113, vR 0 0 19, vR 8 0 (57 + 2 * i), vI days, vI (k : Int)] [] (SH L) (fillP M 114 (fun g => max 0 (ldF A i g - days * A (34 + 3 * g))) k)) (A 1).toNat st 0 (by omega)
  rw [fill_0] at e
  refine e.trans ?_
  rw [b_Outlook_leakFor_3]
  unfold thn
  repeat' first
    | (with_reducible apply bR_go; (simp (disch := omega) only [rM L, rK L, rN L, rNf, rNv, rNp, rNd, rRow, rLeg, rMark, nat_cast, Int.reduceToNat, hct]; with_reducible exact rfl))
    | with_reducible apply bI_go
    | with_reducible apply bV_go
    | with_reducible apply bL_go
    | (with_reducible apply it_1; (first | omega | (simp (disch := omega) only [not_false_eq_true, not_true_eq_false, w32_id, tLt, fLt, tLe, fEq, itE, and_true, true_and, and_self, and_false, false_and, ↓reduceIte, nat_add, nat_mul3, nat_mul4, nat_mul6, nat_mul15, nat_mul60, nat_cast, nc1, Int.reduceToNat, upE, upN, fill_ne, fill_in, i0, hct] <;> omega)))
    | (with_reducible apply it_2; (first | omega | (simp (disch := omega) only [not_false_eq_true, not_true_eq_false, w32_id, tLt, fLt, tLe, fEq, itE, and_true, true_and, and_self, and_false, false_and, ↓reduceIte, nat_add, nat_mul3, nat_mul4, nat_mul6, nat_mul15, nat_mul60, nat_cast, nc1, Int.reduceToNat, upE, upN, fill_ne, fill_in, i0, hct] <;> omega)))
    | (with_reducible refine cl_go ?_; simp (disch := omega) only [not_false_eq_true, not_true_eq_false, w32_id, tLt, fLt, tLe, fEq, itE, and_true, true_and, and_self, and_false, false_and, ↓reduceIte, nat_add, nat_mul3, nat_mul4, nat_mul6, nat_mul15, nat_mul60, nat_cast, nc1, Int.reduceToNat, upE, upN, fill_ne, fill_in, i0, hct])
    | (with_reducible refine rn_go ?_; simp (disch := omega) only [not_false_eq_true, not_true_eq_false, w32_id, tLt, fLt, tLe, fEq, itE, and_true, true_and, and_self, and_false, false_and, ↓reduceIte, nat_add, nat_mul3, nat_mul4, nat_mul6, nat_mul15, nat_mul60, nat_cast, nc1, Int.reduceToNat, upE, upN, fill_ne, fill_in, i0, hct])
    | (with_reducible refine lf_go ?_; simp (disch := omega) only [not_false_eq_true, not_true_eq_false, w32_id, tLt, fLt, tLe, fEq, itE, and_true, true_and, and_self, and_false, false_and, ↓reduceIte, nat_add, nat_mul3, nat_mul4, nat_mul6, nat_mul15, nat_mul60, nat_cast, nc1, Int.reduceToNat, upE, upN, fill_ne, fill_in, i0, hct])
    | with_reducible exact rfl
theorem c_flagAfter (hd : 3 ≤ d) (h : RelC M A) {i : Nat} {days : Int} (hi : (i : Int) < A 3) (h0 : 0 ≤ days) (h1 : days ≤ 99) : callD d m_Outlook_flagAfter [vR 2 0 113, vR 0 0 19, vR 8 0 (57 + 2 * i), vI days] (SH L) M = some (some (vI (flIn A i days)), SH L, fillP (thn M A i days) 48 (fun n => wts A (lkF A (ldF A i) days) (A 4) n) (A 0).toNat) := by
  have hI := h.2.2.2
  have hch : ChW (thn M A i days) 19 A := h.1.frame hI.1 fun b j q1 q2 => thn_rd (by omega)
  have hlw : thn M A i days 19 12 = A 4 := hch.2.1
  have e := c_leakFor' (L := L) (d := d - 1) (by omega) h hi h0 h1
  have hC0 := hI.1
  have hG0 := hI.2.1
  have hLL := hI.lkl hi h0 h1
  unfold flIn
  repeat' first
    | (with_reducible apply bR_go; (simp (disch := omega) only [rM L, rK L, rN L, rNf, rNv, rNp, rNd, rRow, rLeg, rMark, nat_cast, Int.reduceToNat, hlw]; with_reducible exact rfl))
    | with_reducible apply bI_go
    | with_reducible apply bV_go
    | with_reducible apply bL_go
    | (with_reducible apply it_1; (first | omega | (simp (disch := omega) only [not_false_eq_true, not_true_eq_false, w32_id, tLt, fLt, tLe, fEq, itE, and_true, true_and, and_self, and_false, false_and, ↓reduceIte, nat_add, nat_mul3, nat_mul4, nat_mul6, nat_mul15, nat_mul60, nat_cast, nc1, Int.reduceToNat, upE, upN, fill_ne, fill_in, i0, hlw] <;> omega)))
    | (with_reducible apply it_2; (first | omega | (simp (disch := omega) only [not_false_eq_true, not_true_eq_false, w32_id, tLt, fLt, tLe, fEq, itE, and_true, true_and, and_self, and_false, false_and, ↓reduceIte, nat_add, nat_mul3, nat_mul4, nat_mul6, nat_mul15, nat_mul60, nat_cast, nc1, Int.reduceToNat, upE, upN, fill_ne, fill_in, i0, hlw] <;> omega)))
    | (with_reducible refine cl_go ?_; simp (disch := omega) only [not_false_eq_true, not_true_eq_false, w32_id, tLt, fLt, tLe, fEq, itE, and_true, true_and, and_self, and_false, false_and, ↓reduceIte, nat_add, nat_mul3, nat_mul4, nat_mul6, nat_mul15, nat_mul60, nat_cast, nc1, Int.reduceToNat, upE, upN, fill_ne, fill_in, i0, hlw])
    | rw [c_Outlook_flagAfter (by omega), b_Outlook_flagAfter_0]
    | with_reducible exact e
    | with_reducible exact s_Chart_ruler (by omega) ch19 hch hC0 hG0 thn_ld hLL (by omega)
    | (with_reducible refine rn_go ?_; simp (disch := omega) only [not_false_eq_true, not_true_eq_false, w32_id, tLt, fLt, tLe, fEq, itE, and_true, true_and, and_self, and_false, false_and, ↓reduceIte, nat_add, nat_mul3, nat_mul4, nat_mul6, nat_mul15, nat_mul60, nat_cast, nc1, Int.reduceToNat, upE, upN, fill_ne, fill_in, i0, hlw])
    | (with_reducible refine lf_go ?_; simp (disch := omega) only [not_false_eq_true, not_true_eq_false, w32_id, tLt, fLt, tLe, fEq, itE, and_true, true_and, and_self, and_false, false_and, ↓reduceIte, nat_add, nat_mul3, nat_mul4, nat_mul6, nat_mul15, nat_mul60, nat_cast, nc1, Int.reduceToNat, upE, upN, fill_ne, fill_in, i0, hlw])
    | with_reducible exact rfl
theorem q_leaks (hd : 2 ≤ d) (h : RelM M A) {days : Int} {ld : Nat → Int} (hl : ∀ g, g < 8 → M 280 g = ld g) (hL : Ld ld) (h0 : 0 ≤ days) (h1 : days ≤ 99) : callD d m_Mo_leaks [vR 12 0 271, vI days] (SH L) M = some (none, SH L, fillP M 280 (fun g => max 0 (ld g - days * A (34 + 3 * g))) (A 1).toNat) := by
  have hC := h.cn
  unfold Cn at hC
  have hA := h.1
  have st : ∀ k : Nat, k < (A 1).toNat → Run (callD (d - 1)) tb_Mo_leaks 2 [vR 12 0 271, vI days, vI (k : Int)] [] (SH L) (fillP M 280 (fun g => max 0 (ld g - days * A (34 + 3 * g))) k) = Run (callD (d - 1)) tb_Mo_leaks 2 [vR 12 0 271, vI days, vI ((k + 1 : Nat) : Int)] [] (SH L) (fillP M 280 (fun g => max 0 (ld g - days * A (34 + 3 * g))) (k + 1)) := by
    intro k hk
    have e1 := hL k (by omega)
    have e2 := h.2.dy1 h0 h1 (g := k) (by omega)
    rw [b_Mo_leaks_2, ← fill_s M 280 (fun g => max 0 (ld g - days * A (34 + 3 * g))) k rfl]
    repeat' first
      | (with_reducible apply bR_go; (simp (disch := omega) only [rM L, rK L, rN L, rNf, rNv, rNp, rNd, rRow, rLeg, rMark, nat_cast, Int.reduceToNat, hA, hl, i33]; with_reducible exact rfl))
      | with_reducible apply bI_go
      | with_reducible apply bV_go
      | with_reducible apply bL_go
      | (with_reducible apply it_1; (first | omega | (simp (disch := omega) only [not_false_eq_true, not_true_eq_false, w32_id, tLt, fLt, tLe, fEq, itE, and_true, true_and, and_self, and_false, false_and, ↓reduceIte, nat_add, nat_mul3, nat_mul4, nat_mul6, nat_mul15, nat_mul60, nat_cast, nc1, Int.reduceToNat, upE, upN, fill_ne, fill_in, i0, hA, hl, i33] <;> omega)))
      | (with_reducible apply it_2; (first | omega | (simp (disch := omega) only [not_false_eq_true, not_true_eq_false, w32_id, tLt, fLt, tLe, fEq, itE, and_true, true_and, and_self, and_false, false_and, ↓reduceIte, nat_add, nat_mul3, nat_mul4, nat_mul6, nat_mul15, nat_mul60, nat_cast, nc1, Int.reduceToNat, upE, upN, fill_ne, fill_in, i0, hA, hl, i33] <;> omega)))
      | (with_reducible refine cl_go ?_; simp (disch := omega) only [not_false_eq_true, not_true_eq_false, w32_id, tLt, fLt, tLe, fEq, itE, and_true, true_and, and_self, and_false, false_and, ↓reduceIte, nat_add, nat_mul3, nat_mul4, nat_mul6, nat_mul15, nat_mul60, nat_cast, nc1, Int.reduceToNat, upE, upN, fill_ne, fill_in, i0, hA, hl, i33])
      | rw [c_Mo_goodRow (by omega), b_Mo_goodRow_0]
      | (with_reducible refine rn_go ?_; simp (disch := omega) only [not_false_eq_true, not_true_eq_false, w32_id, tLt, fLt, tLe, fEq, itE, and_true, true_and, and_self, and_false, false_and, ↓reduceIte, nat_add, nat_mul3, nat_mul4, nat_mul6, nat_mul15, nat_mul60, nat_cast, nc1, Int.reduceToNat, upE, upN, fill_ne, fill_in, i0, hA, hl, i33])
      | (with_reducible refine lf_go ?_; simp (disch := omega) only [not_false_eq_true, not_true_eq_false, w32_id, tLt, fLt, tLe, fEq, itE, and_true, true_and, and_self, and_false, false_and, ↓reduceIte, nat_add, nat_mul3, nat_mul4, nat_mul6, nat_mul15, nat_mul60, nat_cast, nc1, Int.reduceToNat, upE, upN, fill_ne, fill_in, i0, hA, hl, i33])
      | with_reducible exact rfl
  rw [c_Mo_leaks (by omega), b_Mo_leaks_0]
  have e := loop_up (fun k => Run (callD (d - 1)) tb_Mo_leaks 2 [vR 12 0 271, vI days, vI (k : Int)] [] (SH L) (fillP M 280 (fun g => max 0 (ld g - days * A (34 + 3 * g))) k)) (A 1).toNat st 0 (by omega)
  rw [fill_0] at e
  refine e.trans ?_
  rw [b_Mo_leaks_2]
  repeat' first
    | (with_reducible apply bR_go; (simp (disch := omega) only [rM L, rK L, rN L, rNf, rNv, rNp, rNd, rRow, rLeg, rMark, nat_cast, Int.reduceToNat, hA]; with_reducible exact rfl))
    | with_reducible apply bI_go
    | with_reducible apply bV_go
    | with_reducible apply bL_go
    | (with_reducible apply it_1; (first | omega | (simp (disch := omega) only [not_false_eq_true, not_true_eq_false, w32_id, tLt, fLt, tLe, fEq, itE, and_true, true_and, and_self, and_false, false_and, ↓reduceIte, nat_add, nat_mul3, nat_mul4, nat_mul6, nat_mul15, nat_mul60, nat_cast, nc1, Int.reduceToNat, upE, upN, fill_ne, fill_in, i0, hA] <;> omega)))
    | (with_reducible apply it_2; (first | omega | (simp (disch := omega) only [not_false_eq_true, not_true_eq_false, w32_id, tLt, fLt, tLe, fEq, itE, and_true, true_and, and_self, and_false, false_and, ↓reduceIte, nat_add, nat_mul3, nat_mul4, nat_mul6, nat_mul15, nat_mul60, nat_cast, nc1, Int.reduceToNat, upE, upN, fill_ne, fill_in, i0, hA] <;> omega)))
    | (with_reducible refine cl_go ?_; simp (disch := omega) only [not_false_eq_true, not_true_eq_false, w32_id, tLt, fLt, tLe, fEq, itE, and_true, true_and, and_self, and_false, false_and, ↓reduceIte, nat_add, nat_mul3, nat_mul4, nat_mul6, nat_mul15, nat_mul60, nat_cast, nc1, Int.reduceToNat, upE, upN, fill_ne, fill_in, i0, hA])
    | (with_reducible refine rn_go ?_; simp (disch := omega) only [not_false_eq_true, not_true_eq_false, w32_id, tLt, fLt, tLe, fEq, itE, and_true, true_and, and_self, and_false, false_and, ↓reduceIte, nat_add, nat_mul3, nat_mul4, nat_mul6, nat_mul15, nat_mul60, nat_cast, nc1, Int.reduceToNat, upE, upN, fill_ne, fill_in, i0, hA])
    | (with_reducible refine lf_go ?_; simp (disch := omega) only [not_false_eq_true, not_true_eq_false, w32_id, tLt, fLt, tLe, fEq, itE, and_true, true_and, and_self, and_false, false_and, ↓reduceIte, nat_add, nat_mul3, nat_mul4, nat_mul6, nat_mul15, nat_mul60, nat_cast, nc1, Int.reduceToNat, upE, upN, fill_ne, fill_in, i0, hA])
    | with_reducible exact rfl
theorem q_loadsIn (hd : 4 ≤ d) (h : RelM M A) {s days : Int} (hs : 0 ≤ s) (hs' : s < A 3) (h0 : 0 ≤ days) (h1 : days ≤ 99) : callD d m_Mo_loadsIn [vR 12 0 271, vI s, vI days] (SH L) M = some (none, SH L, fillP M 280 (lkF A (ldF A s.toNat) days) 8) := by
  have hC := h.cn
  unfold Cn at hC
  rw [← fill_fill (M := M) (a := 280) (f := ldF A s.toNat) (f' := fun g => max 0 (ldF A s.toNat g - days * A (34 + 3 * g))) (h := lkF A (ldF A s.toNat) days) (n := (A 1).toNat) (m := 8) (by omega) (fun g hg => by unfold lkF; rw [if_pos (by omega)]) (fun g hg _ => by unfold lkF; rw [if_neg (by omega)])]
  repeat' first
    | (with_reducible apply bR_go; (simp (disch := omega) only [rM L, rK L, rN L, rNf, rNv, rNp, rNd, rRow, rLeg, rMark, nat_cast, Int.reduceToNat]; with_reducible exact rfl))
    | with_reducible apply bI_go
    | with_reducible apply bV_go
    | with_reducible apply bL_go
    | (with_reducible apply it_1; (first | omega | (simp (disch := omega) only [not_false_eq_true, not_true_eq_false, w32_id, tLt, fLt, tLe, fEq, itE, and_true, true_and, and_self, and_false, false_and, ↓reduceIte, nat_add, nat_mul3, nat_mul4, nat_mul6, nat_mul15, nat_mul60, nat_cast, nc1, Int.reduceToNat, upE, upN, fill_ne, fill_in, i0] <;> omega)))
    | (with_reducible apply it_2; (first | omega | (simp (disch := omega) only [not_false_eq_true, not_true_eq_false, w32_id, tLt, fLt, tLe, fEq, itE, and_true, true_and, and_self, and_false, false_and, ↓reduceIte, nat_add, nat_mul3, nat_mul4, nat_mul6, nat_mul15, nat_mul60, nat_cast, nc1, Int.reduceToNat, upE, upN, fill_ne, fill_in, i0] <;> omega)))
    | (with_reducible refine cl_go ?_; simp (disch := omega) only [not_false_eq_true, not_true_eq_false, w32_id, tLt, fLt, tLe, fEq, itE, and_true, true_and, and_self, and_false, false_and, ↓reduceIte, nat_add, nat_mul3, nat_mul4, nat_mul6, nat_mul15, nat_mul60, nat_cast, nc1, Int.reduceToNat, upE, upN, fill_ne, fill_in, i0])
    | rw [c_Mo_loadsIn (by omega), b_Mo_loadsIn_0]
    | with_reducible exact q_loads (by omega) h (by omega) (by omega)
    | with_reducible exact q_leaks (by omega) (h.fill (by omega)) (ld := ldF A s.toNat) (by intro g hg; simp (disch := omega) only [upN, fill_in, fill_ne]) (h.ld (by omega)) (by omega) (by omega)
    | (with_reducible refine rn_go ?_; simp (disch := omega) only [not_false_eq_true, not_true_eq_false, w32_id, tLt, fLt, tLe, fEq, itE, and_true, true_and, and_self, and_false, false_and, ↓reduceIte, nat_add, nat_mul3, nat_mul4, nat_mul6, nat_mul15, nat_mul60, nat_cast, nc1, Int.reduceToNat, upE, upN, fill_ne, fill_in, i0])
    | (with_reducible refine lf_go ?_; simp (disch := omega) only [not_false_eq_true, not_true_eq_false, w32_id, tLt, fLt, tLe, fEq, itE, and_true, true_and, and_self, and_false, false_and, ↓reduceIte, nat_add, nat_mul3, nat_mul4, nat_mul6, nat_mul15, nat_mul60, nat_cast, nc1, Int.reduceToNat, upE, upN, fill_ne, fill_in, i0])
    | with_reducible exact rfl
theorem q_flagBy (hd : 6 ≤ d) (h : RelM M A) {s days : Int} (hs : 0 ≤ s) (hs' : s < A 3) (h0 : 0 ≤ days) (h1 : days ≤ 99) : callD d m_Mo_flagBy [vR 12 0 271, vI s, vI days] (SH L) M = some (some (vI (flIn A s.toNat days)), SH L, fillP M 280 (lkF A (ldF A s.toNat) days) 8) := by
  unfold flIn
  have hL := h.2.lkl (i := s.toNat) (by omega) h0 h1
  repeat' first
    | (with_reducible apply bR_go; (simp (disch := omega) only [rM L, rK L, rN L, rNf, rNv, rNp, rNd, rRow, rLeg, rMark, nat_cast, Int.reduceToNat]; with_reducible exact rfl))
    | with_reducible apply bI_go
    | with_reducible apply bV_go
    | with_reducible apply bL_go
    | (with_reducible apply it_1; (first | omega | (simp (disch := omega) only [not_false_eq_true, not_true_eq_false, w32_id, tLt, fLt, tLe, fEq, itE, and_true, true_and, and_self, and_false, false_and, ↓reduceIte, nat_add, nat_mul3, nat_mul4, nat_mul6, nat_mul15, nat_mul60, nat_cast, nc1, Int.reduceToNat, upE, upN, fill_ne, fill_in, i0] <;> omega)))
    | (with_reducible apply it_2; (first | omega | (simp (disch := omega) only [not_false_eq_true, not_true_eq_false, w32_id, tLt, fLt, tLe, fEq, itE, and_true, true_and, and_self, and_false, false_and, ↓reduceIte, nat_add, nat_mul3, nat_mul4, nat_mul6, nat_mul15, nat_mul60, nat_cast, nc1, Int.reduceToNat, upE, upN, fill_ne, fill_in, i0] <;> omega)))
    | (with_reducible refine cl_go ?_; simp (disch := omega) only [not_false_eq_true, not_true_eq_false, w32_id, tLt, fLt, tLe, fEq, itE, and_true, true_and, and_self, and_false, false_and, ↓reduceIte, nat_add, nat_mul3, nat_mul4, nat_mul6, nat_mul15, nat_mul60, nat_cast, nc1, Int.reduceToNat, upE, upN, fill_ne, fill_in, i0])
    | rw [c_Mo_flagBy (by omega), b_Mo_flagBy_0]
    | with_reducible exact q_loadsIn (by omega) h (by omega) (by omega) (by omega) (by omega)
    | with_reducible exact q_flag (by omega) (h.fill (by omega)) (ld := lkF A (ldF A s.toNat) days) (by intro g hg; simp (disch := omega) only [upN, fill_in, fill_ne]) hL
    | (with_reducible refine rn_go ?_; simp (disch := omega) only [not_false_eq_true, not_true_eq_false, w32_id, tLt, fLt, tLe, fEq, itE, and_true, true_and, and_self, and_false, false_and, ↓reduceIte, nat_add, nat_mul3, nat_mul4, nat_mul6, nat_mul15, nat_mul60, nat_cast, nc1, Int.reduceToNat, upE, upN, fill_ne, fill_in, i0])
    | (with_reducible refine lf_go ?_; simp (disch := omega) only [not_false_eq_true, not_true_eq_false, w32_id, tLt, fLt, tLe, fEq, itE, and_true, true_and, and_self, and_false, false_and, ↓reduceIte, nat_add, nat_mul3, nat_mul4, nat_mul6, nat_mul15, nat_mul60, nat_cast, nc1, Int.reduceToNat, upE, upN, fill_ne, fill_in, i0])
    | with_reducible exact rfl
end

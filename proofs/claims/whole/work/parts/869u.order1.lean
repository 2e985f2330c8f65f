/-! A STEP OF THE VOYAGES, as it is told: what both write down -/
def vA (M : Mm) : Nat → Int := fun i => if i < 4 then M 272 i else M 272 (2288 + i)
theorem vA_lo {M : Mm} {i : Nat} (h : i < 4) : vA M i = M 272 i := if_pos h
theorem vA_hi {M : Mm} {i j : Nat} (h : 4 ≤ i) (e : j = 2288 + i) : vA M i = M 272 j := by
  subst e
  exact if_neg (by omega)
/-- a step that stands alone -/
def StN (M : Mm) (A : Nat → Int) (k : Nat) : Prop :=
  (M 99 k = 0 ∧ A (206 + 6 * k) = 19 ∧ M 100 k = 0 ∧ M 102 k = A (207 + 6 * k) ∧ 1 ≤ A (207 + 6 * k) ∧ A (207 + 6 * k) ≤ 20) ∨
  (1 ≤ M 99 k ∧ M 99 k ≤ 3 ∧ A (206 + 6 * k) = 19 + M 99 k ∧ M 100 k = A (207 + 6 * k) ∧ 0 ≤ A (207 + 6 * k) ∧ A (207 + 6 * k) < A 3 ∧ M 101 k = A (208 + 6 * k) ∧ 0 ≤ A (208 + 6 * k) ∧ A (208 + 6 * k) < A 1 ∧ M 102 k = A (209 + 6 * k) ∧ 1 ≤ A (209 + 6 * k) ∧ A (209 + 6 * k) ≤ 60) ∨
  (M 99 k = 4 ∧ A (206 + 6 * k) = 23 ∧ M 100 k = A (207 + 6 * k) ∧ 0 ≤ A (207 + 6 * k) ∧ A (207 + 6 * k) < A 3 ∧ M 101 k = A (208 + 6 * k) ∧ 0 ≤ A (208 + 6 * k) ∧ A (208 + 6 * k) < A 2) ∨
  (M 99 k = 5 ∧ A (206 + 6 * k) = 24 ∧ M 100 k = A (207 + 6 * k) ∧ 0 ≤ A (207 + 6 * k) ∧ A (207 + 6 * k) < A 3) ∨
  (M 99 k = 12 ∧ A (206 + 6 * k) = 28)
/-- a step that opens a block: its link comes later -/
def StB (M : Mm) (A : Nat → Int) (k : Nat) : Prop :=
  (M 99 k = 6 ∧ A (206 + 6 * k) = 2529 ∧ M 100 k = A (207 + 6 * k) ∧ 0 ≤ A (207 + 6 * k) ∧ A (207 + 6 * k) < A 3 ∧ M 101 k = A (208 + 6 * k) ∧ 0 ≤ A (208 + 6 * k) ∧ A (208 + 6 * k) < A 0) ∨
  (M 99 k = 7 ∧ A (206 + 6 * k) = 2530 ∧ M 100 k = A (207 + 6 * k) ∧ 0 ≤ A (207 + 6 * k) ∧ A (207 + 6 * k) < A 3 ∧ M 101 k = A (208 + 6 * k) ∧ 0 ≤ A (208 + 6 * k) ∧ A (208 + 6 * k) < A 2) ∨
  ((M 99 k = 8 ∧ A (211 + 6 * k) = 60 ∨ M 99 k = 9 ∧ A (211 + 6 * k) = 62 ∨ M 99 k = 10 ∧ A (211 + 6 * k) = 61) ∧ A (206 + 6 * k) = 2518 ∧ M 100 k = A (207 + 6 * k) ∧ 0 ≤ A (207 + 6 * k) ∧ A (207 + 6 * k) < A 3 ∧ M 102 k = A (208 + 6 * k)) ∨
  (M 99 k = 11 ∧ A (206 + 6 * k) = 26 ∧ M 102 k = A (207 + 6 * k) ∧ 1 ≤ A (207 + 6 * k) ∧ A (207 + 6 * k) ≤ 99)
theorem StN.r {M : Mm} {A : Nat → Int} {k : Nat} (h : StN M A k) : StR M 98 A k := by
  rcases h with h | h | h | h | h
  · exact Or.inl h
  · exact Or.inr (Or.inl h)
  · exact Or.inr (Or.inr (Or.inl h))
  · exact Or.inr (Or.inr (Or.inr (Or.inl h)))
  · exact Or.inr (Or.inr (Or.inr (Or.inr (Or.inr (Or.inr (Or.inr (Or.inr (Or.inl h))))))))
theorem StB.r {M : Mm} {A : Nat → Int} {k : Nat} (h : StB M A k) (e : M 103 k = A (210 + 6 * k)) (e1 : (k : Int) < A (210 + 6 * k)) (e2 : A (210 + 6 * k) < A 6) : StR M 98 A k := by
  rcases h with ⟨h1, h2, h3, h4, h5, h6, h7, h8⟩ | ⟨h1, h2, h3, h4, h5, h6, h7, h8⟩ | ⟨h1, h2, h3, h4, h5, h6⟩ | ⟨h1, h2, h3, h4, h5⟩
  · exact Or.inr (Or.inr (Or.inr (Or.inr (Or.inl ⟨h1, h2, h3, h4, h5, h6, h7, h8, e, e1, e2⟩))))
  · exact Or.inr (Or.inr (Or.inr (Or.inr (Or.inr (Or.inl ⟨h1, h2, h3, h4, h5, h6, h7, h8, e, e1, e2⟩)))))
  · exact Or.inr (Or.inr (Or.inr (Or.inr (Or.inr (Or.inr (Or.inl ⟨h1, h2, h3, h4, h5, h6, e, e1, e2⟩))))))
  · exact Or.inr (Or.inr (Or.inr (Or.inr (Or.inr (Or.inr (Or.inr (Or.inl ⟨h1, h2, h3, h4, h5, e, e1, e2⟩)))))))
def addS (M : Mm) (k : Nat) (c x1 x2 x3 x4 : Int) : Mm := up (up (up (up (up (up (up M 99 k x1) 100 k x2) 101 k x3) 102 k x4) 103 k (k : Int)) 98 5 ((k : Int) + 1)) 98 6 (c + 1)
def FcV (k : Nat) (M M' : Mm) : Prop := ∀ b j, ¬(b = 12 ∧ 4 ≤ j) → ¬(b = 98 ∧ (j = 5 ∨ j = 6)) → ¬(99 ≤ b ∧ b ≤ 103 ∧ j = k) → M' b j = M b j
def FmV (k : Nat) (M M' : Mm) : Prop := ∀ b j, ¬(b = 271 ∧ (12 ≤ j ∧ j ≤ 15 ∨ j = 17 ∨ j = 18)) → ¬(b = 272 ∧ 2494 + 6 * k ≤ j ∧ j < 2500 + 6 * k ∧ j ≠ 2498 + 6 * k) → M' b j = M b j
section
variable {bt : Nat → Int} {n q e : Nat} {M M' Ma M1 M2 : Mm} {L d d1 d2 k : Nat} {c x1 x2 x3 x4 : Int}
theorem addS_fr {b j : Nat} (h1 : ¬(b = 98 ∧ (j = 5 ∨ j = 6))) (h2 : ¬(99 ≤ b ∧ b ≤ 103 ∧ j = k)) : addS M k c x1 x2 x3 x4 b j = M b j := by
  unfold addS
  rw [upN (by omega), upN (by omega), upN (by omega), upN (by omega), upN (by omega), upN (by omega), upN (by omega)]
theorem addS_at : addS M k c x1 x2 x3 x4 99 k = x1 ∧ addS M k c x1 x2 x3 x4 100 k = x2 ∧ addS M k c x1 x2 x3 x4 101 k = x3 ∧ addS M k c x1 x2 x3 x4 102 k = x4 ∧ addS M k c x1 x2 x3 x4 98 5 = (k : Int) + 1 ∧ addS M k c x1 x2 x3 x4 98 6 = c + 1 := by
  unfold addS
  refine ⟨?_, ?_, ?_, ?_, ?_, ?_⟩
  · rw [upN (by omega), upN (by omega), upN (by omega), upN (by omega), upN (by omega), upN (by omega), upE rfl rfl]
  · rw [upN (by omega), upN (by omega), upN (by omega), upN (by omega), upN (by omega), upE rfl rfl]
  · rw [upN (by omega), upN (by omega), upN (by omega), upN (by omega), upE rfl rfl]
  · rw [upN (by omega), upN (by omega), upN (by omega), upE rfl rfl]
  · rw [upN (by omega), upE rfl rfl]
  · rw [upE rfl rfl]
theorem c_addStep (hd : 1 ≤ d) (h5 : M 98 5 = (k : Int)) (hk : k < 60) (h6 : M 98 6 = c) (hc : 0 ≤ c ∧ c ≤ 60) (x1 x2 x3 x4 : Int) : callD d m_Plan_addStep [vR 3 0 98, vI x1, vI x2, vI x3, vI x4] (SH L) M = some (some (vI (k : Int)), SH L, addS M k c x1 x2 x3 x4) := by
  have rs := rS (L := L) (s := 65) (Or.inr (Or.inl rfl))
  unfold addS
  repeat' first
    | (with_reducible apply bR_go; (simp (disch := omega) only [rM L, rK L, rN L, rNf, rNv, rNp, rNd, rRow, rLeg, rMark, nat_cast, Int.reduceToNat, rs, h5, h6]; with_reducible exact rfl))
    | with_reducible apply bI_go
    | with_reducible apply bV_go
    | with_reducible apply bL_go
    | (with_reducible apply it_1; (first | omega | (simp (disch := omega) only [not_false_eq_true, not_true_eq_false, w32_id, tLt, fLt, tLe, fEq, itE, and_true, true_and, and_self, and_false, false_and, ↓reduceIte, nat_add, nat_mul3, nat_mul4, nat_mul6, nat_mul15, nat_mul60, nat_cast, nc1, Int.reduceToNat, upE, upN, fill_ne, fill_in, i0, rs, h5, h6] <;> omega)))
    | (with_reducible apply it_2; (first | omega | (simp (disch := omega) only [not_false_eq_true, not_true_eq_false, w32_id, tLt, fLt, tLe, fEq, itE, and_true, true_and, and_self, and_false, false_and, ↓reduceIte, nat_add, nat_mul3, nat_mul4, nat_mul6, nat_mul15, nat_mul60, nat_cast, nc1, Int.reduceToNat, upE, upN, fill_ne, fill_in, i0, rs, h5, h6] <;> omega)))
    | (with_reducible refine cl_go ?_; simp (disch := omega) only [not_false_eq_true, not_true_eq_false, w32_id, tLt, fLt, tLe, fEq, itE, and_true, true_and, and_self, and_false, false_and, ↓reduceIte, nat_add, nat_mul3, nat_mul4, nat_mul6, nat_mul15, nat_mul60, nat_cast, nc1, Int.reduceToNat, upE, upN, fill_ne, fill_in, i0, rs, h5, h6])
    | rw [c_Plan_addStep (by omega), b_Plan_addStep_0]
    | (with_reducible refine rn_go ?_; simp (disch := omega) only [not_false_eq_true, not_true_eq_false, w32_id, tLt, fLt, tLe, fEq, itE, and_true, true_and, and_self, and_false, false_and, ↓reduceIte, nat_add, nat_mul3, nat_mul4, nat_mul6, nat_mul15, nat_mul60, nat_cast, nc1, Int.reduceToNat, upE, upN, fill_ne, fill_in, i0, rs, h5, h6])
    | (with_reducible refine lf_go ?_; simp (disch := omega) only [not_false_eq_true, not_true_eq_false, w32_id, tLt, fLt, tLe, fEq, itE, and_true, true_and, and_self, and_false, false_and, ↓reduceIte, nat_add, nat_mul3, nat_mul4, nat_mul6, nat_mul15, nat_mul60, nat_cast, nc1, Int.reduceToNat, upE, upN, fill_ne, fill_in, i0, rs, h5, h6])
    | with_reducible exact rfl
theorem FrA.v (h : FrA M M') : FcV k M M' := fun b j y1 _ _ => h b j y1
theorem FrB.v (h : FrB M M') : FmV k M M' := fun b j y1 _ => h b j y1
theorem FrT.v {t : Nat} (h : FrT t M M') (ht : 2494 + 6 * k ≤ t ∧ t < 2500 + 6 * k ∧ t ≠ 2498 + 6 * k) : FmV k M M' := fun b j y1 y2 => h b j y1 (by omega)
theorem FcV.trans (h1 : FcV k M Ma) (h2 : FcV k Ma M') : FcV k M M' := fun b j y1 y2 y3 => (h2 b j y1 y2 y3).trans (h1 b j y1 y2 y3)
theorem FmV.trans (h1 : FmV k M Ma) (h2 : FmV k Ma M') : FmV k M M' := fun b j y1 y2 => (h2 b j y1 y2).trans (h1 b j y1 y2)
theorem FmV.u {t : Nat} {v : Int} (h : FmV k M M') (ht : 2494 + 6 * k ≤ t ∧ t < 2500 + 6 * k ∧ t ≠ 2498 + 6 * k) : FmV k M (up M' 272 t v) := fun b j y1 y2 => by rw [upN (by omega)]; exact h b j y1 y2
theorem FcV.add (h : FcV k M M') : FcV k M (addS M' k c x1 x2 x3 x4) := fun b j y1 y2 y3 => by rw [addS_fr y2 y3]; exact h b j y1 y2 y3
theorem TK.add (h : TK bt n q e M1 M2) : TK bt n q e (addS M1 k c x1 x2 x3 x4) M2 := h.fr (fun b j hb => addS_fr (by omega) (by omega)) fun _ _ _ => rfl
/-- the names of the world as it is -/
def NV (M1 M2 : Mm) (c0 c1 c2 c3 : Nat) : Prop := NmK M1 M2 19 0 0 c0 ∧ NmK M1 M2 19 1 6 c1 ∧ NmK M1 M2 19 2 14 c2 ∧ NmK M1 M2 19 3 20 c3 ∧ M2 272 0 = (c0 : Int) ∧ M2 272 1 = (c1 : Int) ∧ M2 272 2 = (c2 : Int) ∧ M2 272 3 = (c3 : Int)
theorem NmK.fr2 {M1' M2' : Mm} {kd b m : Nat} (h : NmK M1 M2 19 kd b m) (hk : kd < 4) (f1 : ∀ b j, 19 ≤ b → b ≤ 27 → M1' b j = M1 b j) (f2 : ∀ j, M2' 273 j = M2 273 j) : NmK M1' M2' 19 kd b m := ⟨by rw [f1 _ _ (by omega) (by omega)]; exact h.1, h.2.1, h.2.2.1, fun i hi => by rw [f1 _ _ (by omega) (by omega), f2]; exact h.2.2.2 i hi⟩
theorem NV.fr {M1' M2' : Mm} {c0 c1 c2 c3 : Nat} (h : NV M1 M2 c0 c1 c2 c3) (f1 : ∀ b j, 19 ≤ b → b ≤ 27 → M1' b j = M1 b j) (f2 : ∀ j, M2' 273 j = M2 273 j) (f3 : ∀ j, j < 4 → M2' 272 j = M2 272 j) : NV M1' M2' c0 c1 c2 c3 := by
  obtain ⟨h0, h1, h2, h3, e0, e1, e2, e3⟩ := h
  exact ⟨h0.fr2 (by omega) f1 f2, h1.fr2 (by omega) f1 f2, h2.fr2 (by omega) f1 f2, h3.fr2 (by omega) f1 f2, by rw [f3 _ (by omega)]; exact e0, by rw [f3 _ (by omega)]; exact e1, by rw [f3 _ (by omega)]; exact e2, by rw [f3 _ (by omega)]; exact e3⟩
theorem NV.v {M1' M2' : Mm} {c0 c1 c2 c3 : Nat} (h : NV M1 M2 c0 c1 c2 c3) (f1 : FcV k M1 M1') (f2 : FmV k M2 M2') : NV M1' M2' c0 c1 c2 c3 := h.fr (fun b j _ _ => f1 b j (by omega) (by omega) (by omega)) (fun j => f2 _ _ (by omega) (by omega)) fun j _ => f2 _ _ (by omega) (by omega)
/-- how class and model come out of a step -/
def OR (bt : Nat → Int) (n q L k : Nat) (c : Int) (R : Mm → (Nat → Int) → Nat → Prop) (o1 o2 : Option Rs) (M1 M2 : Mm) : Prop :=
  (∃ q' e' M1' M2', o1 = some (some (vI 1), SH L, M1') ∧ o2 = some (some (vI 1), SH L, M2') ∧ TK bt n q' e' M1' M2' ∧ q ≤ q' ∧ (M1' 98 5 = (k : Int) + 1 ∧ M1' 98 6 = c + 1) ∧ R M1' (vA M2') k ∧ FcV k M1 M1' ∧ FmV k M2 M2') ∨
  (∃ M1' M2', o1 = some (some (vI 0), SH L, M1') ∧ o2 = some (some (vI 0), SH L, M2') ∧ FL M1' M2' ∧ FcV k M1 M1' ∧ FmV k M2 M2')
theorem k_ship {c0 c1 c2 c3 : Nat} (h1 : 5 ≤ d1) (h2 : 7 ≤ d2) (h : TK bt n q e M1 M2) (hN : NV M1 M2 c0 c1 c2 c3) (hk : k < 60) : (∃ (q' e' v : Nat) (M1' M2' : Mm), callD d1 m_Tape_takeThing [vR 6 0 12, vR 0 0 19, vI 3, vI (-1)] (SH L) M1 = some (some (vI (v : Int)), SH L, M1') ∧ (∀ x : Int, x = ((2495 + 6 * k : Nat) : Int) → callD d2 m_Mo_shipTo [vR 12 0 271, vI x] (SH L) M2 = some (some (vI 1), SH L, M2')) ∧ v < c3 ∧ TK bt n q' e' M1' M2' ∧ e ≤ q' ∧ FrA M1 M1' ∧ FrT (2495 + 6 * k) M2 M2' ∧ M2' 272 (2495 + 6 * k) = (v : Int)) ∨
    (∃ M1' M2', callD d1 m_Tape_takeThing [vR 6 0 12, vR 0 0 19, vI 3, vI (-1)] (SH L) M1 = some (some (vI (-1)), SH L, M1') ∧ (∀ x : Int, x = ((2495 + 6 * k : Nat) : Int) → callD d2 m_Mo_shipTo [vR 12 0 271, vI x] (SH L) M2 = some (some (vI 0), SH L, M2')) ∧ FL M1' M2' ∧ FrA M1 M1' ∧ FrT (2495 + 6 * k) M2 M2') := by
  obtain ⟨-, -, -, n3, -, -, -, e3⟩ := hN
  rcases k_thing (L := L) (d1 := d1) (d2 := d2 - 1) (by omega) (by omega) h (c := 19) (kd := 3) (to := 2495 + 6 * k) (Or.inl rfl) (by omega) n3 (by omega) with ⟨qb, eb, v, Mc, Md, u1, u2, hv, tb, lb, fa, ft, ev⟩ | ⟨M1', M2', u1, u2, f, fa, ft⟩
  · left
    refine ⟨qb, eb, v, Mc, Md, u1 3 rfl, fun x hx => ?_, hv, tb, lb, fa, ft, ev⟩
    subst hx
    repeat' first
      | (with_reducible apply bR_go; (simp (disch := omega) only [rM L, rK L, rN L, rNf, rNv, rNp, rNd, rRow, rLeg, rMark, nat_cast, Int.reduceToNat, e3, Int.reduceMod]; with_reducible exact rfl))
      | with_reducible apply bI_go
      | with_reducible apply bV_go
      | with_reducible apply bL_go
      | (with_reducible apply it_1; (first | omega | (simp (disch := omega) only [not_false_eq_true, not_true_eq_false, w32_id, tLt, fLt, tLe, fEq, itE, and_true, true_and, and_self, and_false, false_and, ↓reduceIte, nat_add, nat_mul3, nat_mul4, nat_mul6, nat_mul15, nat_mul60, nat_cast, nc1, Int.reduceToNat, upE, upN, fill_ne, fill_in, i0, e3, Int.reduceMod] <;> omega)))
      | (with_reducible apply it_2; (first | omega | (simp (disch := omega) only [not_false_eq_true, not_true_eq_false, w32_id, tLt, fLt, tLe, fEq, itE, and_true, true_and, and_self, and_false, false_and, ↓reduceIte, nat_add, nat_mul3, nat_mul4, nat_mul6, nat_mul15, nat_mul60, nat_cast, nc1, Int.reduceToNat, upE, upN, fill_ne, fill_in, i0, e3, Int.reduceMod] <;> omega)))
      | (with_reducible refine cl_go ?_; simp (disch := omega) only [not_false_eq_true, not_true_eq_false, w32_id, tLt, fLt, tLe, fEq, itE, and_true, true_and, and_self, and_false, false_and, ↓reduceIte, nat_add, nat_mul3, nat_mul4, nat_mul6, nat_mul15, nat_mul60, nat_cast, nc1, Int.reduceToNat, upE, upN, fill_ne, fill_in, i0, e3, Int.reduceMod])
      | rw [c_Mo_shipTo (by omega), b_Mo_shipTo_0]
      | with_reducible exact u2 _ _ _ (by omega) (by omega) (by omega)
      | (with_reducible refine rn_go ?_; simp (disch := omega) only [not_false_eq_true, not_true_eq_false, w32_id, tLt, fLt, tLe, fEq, itE, and_true, true_and, and_self, and_false, false_and, ↓reduceIte, nat_add, nat_mul3, nat_mul4, nat_mul6, nat_mul15, nat_mul60, nat_cast, nc1, Int.reduceToNat, upE, upN, fill_ne, fill_in, i0, e3, Int.reduceMod])
      | (with_reducible refine lf_go ?_; simp (disch := omega) only [not_false_eq_true, not_true_eq_false, w32_id, tLt, fLt, tLe, fEq, itE, and_true, true_and, and_self, and_false, false_and, ↓reduceIte, nat_add, nat_mul3, nat_mul4, nat_mul6, nat_mul15, nat_mul60, nat_cast, nc1, Int.reduceToNat, upE, upN, fill_ne, fill_in, i0, e3, Int.reduceMod])
      | with_reducible exact rfl
  · right
    refine ⟨M1', M2', u1 3 rfl, fun x hx => ?_, f, fa, ft⟩
    subst hx
    repeat' first
      | (with_reducible apply bR_go; (simp (disch := omega) only [rM L, rK L, rN L, rNf, rNv, rNp, rNd, rRow, rLeg, rMark, nat_cast, Int.reduceToNat, e3, Int.reduceMod]; with_reducible exact rfl))
      | with_reducible apply bI_go
      | with_reducible apply bV_go
      | with_reducible apply bL_go
      | (with_reducible apply it_1; (first | omega | (simp (disch := omega) only [not_false_eq_true, not_true_eq_false, w32_id, tLt, fLt, tLe, fEq, itE, and_true, true_and, and_self, and_false, false_and, ↓reduceIte, nat_add, nat_mul3, nat_mul4, nat_mul6, nat_mul15, nat_mul60, nat_cast, nc1, Int.reduceToNat, upE, upN, fill_ne, fill_in, i0, e3, Int.reduceMod] <;> omega)))
      | (with_reducible apply it_2; (first | omega | (simp (disch := omega) only [not_false_eq_true, not_true_eq_false, w32_id, tLt, fLt, tLe, fEq, itE, and_true, true_and, and_self, and_false, false_and, ↓reduceIte, nat_add, nat_mul3, nat_mul4, nat_mul6, nat_mul15, nat_mul60, nat_cast, nc1, Int.reduceToNat, upE, upN, fill_ne, fill_in, i0, e3, Int.reduceMod] <;> omega)))
      | (with_reducible refine cl_go ?_; simp (disch := omega) only [not_false_eq_true, not_true_eq_false, w32_id, tLt, fLt, tLe, fEq, itE, and_true, true_and, and_self, and_false, false_and, ↓reduceIte, nat_add, nat_mul3, nat_mul4, nat_mul6, nat_mul15, nat_mul60, nat_cast, nc1, Int.reduceToNat, upE, upN, fill_ne, fill_in, i0, e3, Int.reduceMod])
      | rw [c_Mo_shipTo (by omega), b_Mo_shipTo_0]
      | with_reducible exact u2 _ _ _ (by omega) (by omega) (by omega)
      | (with_reducible refine rn_go ?_; simp (disch := omega) only [not_false_eq_true, not_true_eq_false, w32_id, tLt, fLt, tLe, fEq, itE, and_true, true_and, and_self, and_false, false_and, ↓reduceIte, nat_add, nat_mul3, nat_mul4, nat_mul6, nat_mul15, nat_mul60, nat_cast, nc1, Int.reduceToNat, upE, upN, fill_ne, fill_in, i0, e3, Int.reduceMod])
      | (with_reducible refine lf_go ?_; simp (disch := omega) only [not_false_eq_true, not_true_eq_false, w32_id, tLt, fLt, tLe, fEq, itE, and_true, true_and, and_self, and_false, false_and, ↓reduceIte, nat_add, nat_mul3, nat_mul4, nat_mul6, nat_mul15, nat_mul60, nat_cast, nc1, Int.reduceToNat, upE, upN, fill_ne, fill_in, i0, e3, Int.reduceMod])
      | with_reducible exact rfl
theorem o_day (h1 : 8 ≤ d1) (h2 : 8 ≤ d2) (h : TK bt n q e M1 M2) (h5 : M1 98 5 = (k : Int)) (hk : k < 60) (h6 : M1 98 6 = c) (hc : 0 ≤ c ∧ c ≤ 60) (hw : M2 272 (2494 + 6 * k) = 19) : OR bt n e L k c StN (callD d1 m_VoyageText_takesCount [vR 6 0 12, vR 3 0 98, vI 0, vI 20] (SH L) M1) (callD d2 m_Mo_voyageOrder [vR 12 0 271, vI 19, vI (2494 + 6 * (k : Int))] (SH L) M2) M1 M2 := by
  rcases k_num (L := L) (d1 := d1 - 1) (d2 := d2 - 1) (by omega) (by omega) h 1 20 (to := 2495 + 6 * k) (by omega) with ⟨q', e', v, Mc, Md, u1, u2, hv, t, le, fa, ft, ev⟩ | ⟨M1', M2', u1, u2, f, fa, fb⟩
  · left
    have a := c_addStep (L := L) (d := d1 - 1) (M := Mc) (k := k) (c := c) (by omega) (by rw [fa _ _ (by omega)]; exact h5) hk (by rw [fa _ _ (by omega)]; exact h6) hc 0 0 0 v
    obtain ⟨a1, a2, a3, a4, a5, a6⟩ := addS_at (M := Mc) (k := k) (c := c) (x1 := 0) (x2 := 0) (x3 := 0) (x4 := v)
    refine ⟨q', e', _, Md, ?_, ?_, t.add, le, ⟨a5, a6⟩, ?_, (fa.v (k := k)).add, ft.v (by omega)⟩
    · repeat' first
        | (with_reducible apply bR_go; (simp (disch := omega) only [rM L, rK L, rN L, rNf, rNv, rNp, rNd, rRow, rLeg, rMark, nat_cast, Int.reduceToNat]; with_reducible exact rfl))
        | with_reducible apply bI_go
        | with_reducible apply bV_go
        | with_reducible apply bL_go
        | (with_reducible apply it_1; (first | omega | (simp (disch := omega) only [not_false_eq_true, not_true_eq_false, w32_id, tLt, fLt, tLe, fEq, itE, and_true, true_and, and_self, and_false, false_and, ↓reduceIte, nat_add, nat_mul3, nat_mul4, nat_mul6, nat_mul15, nat_mul60, nat_cast, nc1, Int.reduceToNat, upE, upN, fill_ne, fill_in, i0] <;> omega)))
        | (with_reducible apply it_2; (first | omega | (simp (disch := omega) only [not_false_eq_true, not_true_eq_false, w32_id, tLt, fLt, tLe, fEq, itE, and_true, true_and, and_self, and_false, false_and, ↓reduceIte, nat_add, nat_mul3, nat_mul4, nat_mul6, nat_mul15, nat_mul60, nat_cast, nc1, Int.reduceToNat, upE, upN, fill_ne, fill_in, i0] <;> omega)))
        | (with_reducible refine cl_go ?_; simp (disch := omega) only [not_false_eq_true, not_true_eq_false, w32_id, tLt, fLt, tLe, fEq, itE, and_true, true_and, and_self, and_false, false_and, ↓reduceIte, nat_add, nat_mul3, nat_mul4, nat_mul6, nat_mul15, nat_mul60, nat_cast, nc1, Int.reduceToNat, upE, upN, fill_ne, fill_in, i0])
        | rw [c_VoyageText_takesCount (by omega), b_VoyageText_takesCount_0]
        | with_reducible exact u1
        | with_reducible exact a
        | (with_reducible refine rn_go ?_; simp (disch := omega) only [not_false_eq_true, not_true_eq_false, w32_id, tLt, fLt, tLe, fEq, itE, and_true, true_and, and_self, and_false, false_and, ↓reduceIte, nat_add, nat_mul3, nat_mul4, nat_mul6, nat_mul15, nat_mul60, nat_cast, nc1, Int.reduceToNat, upE, upN, fill_ne, fill_in, i0])
        | (with_reducible refine lf_go ?_; simp (disch := omega) only [not_false_eq_true, not_true_eq_false, w32_id, tLt, fLt, tLe, fEq, itE, and_true, true_and, and_self, and_false, false_and, ↓reduceIte, nat_add, nat_mul3, nat_mul4, nat_mul6, nat_mul15, nat_mul60, nat_cast, nc1, Int.reduceToNat, upE, upN, fill_ne, fill_in, i0])
        | with_reducible exact rfl
    · repeat' first
        | (with_reducible apply bR_go; (simp (disch := omega) only [rM L, rK L, rN L, rNf, rNv, rNp, rNd, rRow, rLeg, rMark, nat_cast, Int.reduceToNat, Int.reduceMod]; with_reducible exact rfl))
        | with_reducible apply bI_go
        | with_reducible apply bV_go
        | with_reducible apply bL_go
        | (with_reducible apply it_1; (first | omega | (simp (disch := omega) only [not_false_eq_true, not_true_eq_false, w32_id, tLt, fLt, tLe, fEq, itE, and_true, true_and, and_self, and_false, false_and, ↓reduceIte, nat_add, nat_mul3, nat_mul4, nat_mul6, nat_mul15, nat_mul60, nat_cast, nc1, Int.reduceToNat, upE, upN, fill_ne, fill_in, i0, Int.reduceMod] <;> omega)))
        | (with_reducible apply it_2; (first | omega | (simp (disch := omega) only [not_false_eq_true, not_true_eq_false, w32_id, tLt, fLt, tLe, fEq, itE, and_true, true_and, and_self, and_false, false_and, ↓reduceIte, nat_add, nat_mul3, nat_mul4, nat_mul6, nat_mul15, nat_mul60, nat_cast, nc1, Int.reduceToNat, upE, upN, fill_ne, fill_in, i0, Int.reduceMod] <;> omega)))
        | (with_reducible refine cl_go ?_; simp (disch := omega) only [not_false_eq_true, not_true_eq_false, w32_id, tLt, fLt, tLe, fEq, itE, and_true, true_and, and_self, and_false, false_and, ↓reduceIte, nat_add, nat_mul3, nat_mul4, nat_mul6, nat_mul15, nat_mul60, nat_cast, nc1, Int.reduceToNat, upE, upN, fill_ne, fill_in, i0, Int.reduceMod])
        | rw [c_Mo_voyageOrder (by omega), b_Mo_voyageOrder_0]
        | with_reducible exact u2 _ (by omega)
        | (with_reducible refine rn_go ?_; simp (disch := omega) only [not_false_eq_true, not_true_eq_false, w32_id, tLt, fLt, tLe, fEq, itE, and_true, true_and, and_self, and_false, false_and, ↓reduceIte, nat_add, nat_mul3, nat_mul4, nat_mul6, nat_mul15, nat_mul60, nat_cast, nc1, Int.reduceToNat, upE, upN, fill_ne, fill_in, i0, Int.reduceMod])
        | (with_reducible refine lf_go ?_; simp (disch := omega) only [not_false_eq_true, not_true_eq_false, w32_id, tLt, fLt, tLe, fEq, itE, and_true, true_and, and_self, and_false, false_and, ↓reduceIte, nat_add, nat_mul3, nat_mul4, nat_mul6, nat_mul15, nat_mul60, nat_cast, nc1, Int.reduceToNat, upE, upN, fill_ne, fill_in, i0, Int.reduceMod])
        | with_reducible exact rfl
    · left
      rw [a1, a2, a4, vA_hi (j := 2494 + 6 * k) (by omega) (by omega), vA_hi (j := 2495 + 6 * k) (by omega) (by omega), ft _ _ (by omega) (by omega), ev]
      exact ⟨rfl, hw, rfl, rfl, hv.1, hv.2.1⟩
  · right
    refine ⟨M1', M2', ?_, ?_, f, fa.v, fb.v⟩
    · repeat' first
        | (with_reducible apply bR_go; (simp (disch := omega) only [rM L, rK L, rN L, rNf, rNv, rNp, rNd, rRow, rLeg, rMark, nat_cast, Int.reduceToNat]; with_reducible exact rfl))
        | with_reducible apply bI_go
        | with_reducible apply bV_go
        | with_reducible apply bL_go
        | (with_reducible apply it_1; (first | omega | (simp (disch := omega) only [not_false_eq_true, not_true_eq_false, w32_id, tLt, fLt, tLe, fEq, itE, and_true, true_and, and_self, and_false, false_and, ↓reduceIte, nat_add, nat_mul3, nat_mul4, nat_mul6, nat_mul15, nat_mul60, nat_cast, nc1, Int.reduceToNat, upE, upN, fill_ne, fill_in, i0] <;> omega)))
        | (with_reducible apply it_2; (first | omega | (simp (disch := omega) only [not_false_eq_true, not_true_eq_false, w32_id, tLt, fLt, tLe, fEq, itE, and_true, true_and, and_self, and_false, false_and, ↓reduceIte, nat_add, nat_mul3, nat_mul4, nat_mul6, nat_mul15, nat_mul60, nat_cast, nc1, Int.reduceToNat, upE, upN, fill_ne, fill_in, i0] <;> omega)))
        | (with_reducible refine cl_go ?_; simp (disch := omega) only [not_false_eq_true, not_true_eq_false, w32_id, tLt, fLt, tLe, fEq, itE, and_true, true_and, and_self, and_false, false_and, ↓reduceIte, nat_add, nat_mul3, nat_mul4, nat_mul6, nat_mul15, nat_mul60, nat_cast, nc1, Int.reduceToNat, upE, upN, fill_ne, fill_in, i0])
        | rw [c_VoyageText_takesCount (by omega), b_VoyageText_takesCount_0]
        | with_reducible exact u1
        | (with_reducible refine rn_go ?_; simp (disch := omega) only [not_false_eq_true, not_true_eq_false, w32_id, tLt, fLt, tLe, fEq, itE, and_true, true_and, and_self, and_false, false_and, ↓reduceIte, nat_add, nat_mul3, nat_mul4, nat_mul6, nat_mul15, nat_mul60, nat_cast, nc1, Int.reduceToNat, upE, upN, fill_ne, fill_in, i0])
        | (with_reducible refine lf_go ?_; simp (disch := omega) only [not_false_eq_true, not_true_eq_false, w32_id, tLt, fLt, tLe, fEq, itE, and_true, true_and, and_self, and_false, false_and, ↓reduceIte, nat_add, nat_mul3, nat_mul4, nat_mul6, nat_mul15, nat_mul60, nat_cast, nc1, Int.reduceToNat, upE, upN, fill_ne, fill_in, i0])
        | with_reducible exact rfl
    · repeat' first
        | (with_reducible apply bR_go; (simp (disch := omega) only [rM L, rK L, rN L, rNf, rNv, rNp, rNd, rRow, rLeg, rMark, nat_cast, Int.reduceToNat, Int.reduceMod]; with_reducible exact rfl))
        | with_reducible apply bI_go
        | with_reducible apply bV_go
        | with_reducible apply bL_go
        | (with_reducible apply it_1; (first | omega | (simp (disch := omega) only [not_false_eq_true, not_true_eq_false, w32_id, tLt, fLt, tLe, fEq, itE, and_true, true_and, and_self, and_false, false_and, ↓reduceIte, nat_add, nat_mul3, nat_mul4, nat_mul6, nat_mul15, nat_mul60, nat_cast, nc1, Int.reduceToNat, upE, upN, fill_ne, fill_in, i0, Int.reduceMod] <;> omega)))
        | (with_reducible apply it_2; (first | omega | (simp (disch := omega) only [not_false_eq_true, not_true_eq_false, w32_id, tLt, fLt, tLe, fEq, itE, and_true, true_and, and_self, and_false, false_and, ↓reduceIte, nat_add, nat_mul3, nat_mul4, nat_mul6, nat_mul15, nat_mul60, nat_cast, nc1, Int.reduceToNat, upE, upN, fill_ne, fill_in, i0, Int.reduceMod] <;> omega)))
        | (with_reducible refine cl_go ?_; simp (disch := omega) only [not_false_eq_true, not_true_eq_false, w32_id, tLt, fLt, tLe, fEq, itE, and_true, true_and, and_self, and_false, false_and, ↓reduceIte, nat_add, nat_mul3, nat_mul4, nat_mul6, nat_mul15, nat_mul60, nat_cast, nc1, Int.reduceToNat, upE, upN, fill_ne, fill_in, i0, Int.reduceMod])
        | rw [c_Mo_voyageOrder (by omega), b_Mo_voyageOrder_0]
        | with_reducible exact u2 _ (by omega)
        | (with_reducible refine rn_go ?_; simp (disch := omega) only [not_false_eq_true, not_true_eq_false, w32_id, tLt, fLt, tLe, fEq, itE, and_true, true_and, and_self, and_false, false_and, ↓reduceIte, nat_add, nat_mul3, nat_mul4, nat_mul6, nat_mul15, nat_mul60, nat_cast, nc1, Int.reduceToNat, upE, upN, fill_ne, fill_in, i0, Int.reduceMod])
        | (with_reducible refine lf_go ?_; simp (disch := omega) only [not_false_eq_true, not_true_eq_false, w32_id, tLt, fLt, tLe, fEq, itE, and_true, true_and, and_self, and_false, false_and, ↓reduceIte, nat_add, nat_mul3, nat_mul4, nat_mul6, nat_mul15, nat_mul60, nat_cast, nc1, Int.reduceToNat, upE, upN, fill_ne, fill_in, i0, Int.reduceMod])
        | with_reducible exact rfl
theorem o_loop (h1 : 8 ≤ d1) (h2 : 8 ≤ d2) (h : TK bt n q e M1 M2) (h5 : M1 98 5 = (k : Int)) (hk : k < 60) (h6 : M1 98 6 = c) (hc : 0 ≤ c ∧ c ≤ 60) (hw : M2 272 (2494 + 6 * k) = 26) : OR bt n e L k c StB (callD d1 m_VoyageText_takesCount [vR 6 0 12, vR 3 0 98, vI 11, vI 99] (SH L) M1) (callD d2 m_Mo_voyageOrder [vR 12 0 271, vI 26, vI (2494 + 6 * (k : Int))] (SH L) M2) M1 M2 := by
  rcases k_num (L := L) (d1 := d1 - 1) (d2 := d2 - 1) (by omega) (by omega) h 1 99 (to := 2495 + 6 * k) (by omega) with ⟨q', e', v, Mc, Md, u1, u2, hv, t, le, fa, ft, ev⟩ | ⟨M1', M2', u1, u2, f, fa, fb⟩
  · left
    have a := c_addStep (L := L) (d := d1 - 1) (M := Mc) (k := k) (c := c) (by omega) (by rw [fa _ _ (by omega)]; exact h5) hk (by rw [fa _ _ (by omega)]; exact h6) hc 11 0 0 v
    obtain ⟨a1, a2, a3, a4, a5, a6⟩ := addS_at (M := Mc) (k := k) (c := c) (x1 := 11) (x2 := 0) (x3 := 0) (x4 := v)
    refine ⟨q', e', _, Md, ?_, ?_, t.add, le, ⟨a5, a6⟩, ?_, (fa.v (k := k)).add, ft.v (by omega)⟩
    · repeat' first
        | (with_reducible apply bR_go; (simp (disch := omega) only [rM L, rK L, rN L, rNf, rNv, rNp, rNd, rRow, rLeg, rMark, nat_cast, Int.reduceToNat]; with_reducible exact rfl))
        | with_reducible apply bI_go
        | with_reducible apply bV_go
        | with_reducible apply bL_go
        | (with_reducible apply it_1; (first | omega | (simp (disch := omega) only [not_false_eq_true, not_true_eq_false, w32_id, tLt, fLt, tLe, fEq, itE, and_true, true_and, and_self, and_false, false_and, ↓reduceIte, nat_add, nat_mul3, nat_mul4, nat_mul6, nat_mul15, nat_mul60, nat_cast, nc1, Int.reduceToNat, upE, upN, fill_ne, fill_in, i0] <;> omega)))
        | (with_reducible apply it_2; (first | omega | (simp (disch := omega) only [not_false_eq_true, not_true_eq_false, w32_id, tLt, fLt, tLe, fEq, itE, and_true, true_and, and_self, and_false, false_and, ↓reduceIte, nat_add, nat_mul3, nat_mul4, nat_mul6, nat_mul15, nat_mul60, nat_cast, nc1, Int.reduceToNat, upE, upN, fill_ne, fill_in, i0] <;> omega)))
        | (with_reducible refine cl_go ?_; simp (disch := omega) only [not_false_eq_true, not_true_eq_false, w32_id, tLt, fLt, tLe, fEq, itE, and_true, true_and, and_self, and_false, false_and, ↓reduceIte, nat_add, nat_mul3, nat_mul4, nat_mul6, nat_mul15, nat_mul60, nat_cast, nc1, Int.reduceToNat, upE, upN, fill_ne, fill_in, i0])
        | rw [c_VoyageText_takesCount (by omega), b_VoyageText_takesCount_0]
        | with_reducible exact u1
        | with_reducible exact a
        | (with_reducible refine rn_go ?_; simp (disch := omega) only [not_false_eq_true, not_true_eq_false, w32_id, tLt, fLt, tLe, fEq, itE, and_true, true_and, and_self, and_false, false_and, ↓reduceIte, nat_add, nat_mul3, nat_mul4, nat_mul6, nat_mul15, nat_mul60, nat_cast, nc1, Int.reduceToNat, upE, upN, fill_ne, fill_in, i0])
        | (with_reducible refine lf_go ?_; simp (disch := omega) only [not_false_eq_true, not_true_eq_false, w32_id, tLt, fLt, tLe, fEq, itE, and_true, true_and, and_self, and_false, false_and, ↓reduceIte, nat_add, nat_mul3, nat_mul4, nat_mul6, nat_mul15, nat_mul60, nat_cast, nc1, Int.reduceToNat, upE, upN, fill_ne, fill_in, i0])
        | with_reducible exact rfl
    · repeat' first
        | (with_reducible apply bR_go; (simp (disch := omega) only [rM L, rK L, rN L, rNf, rNv, rNp, rNd, rRow, rLeg, rMark, nat_cast, Int.reduceToNat, Int.reduceMod]; with_reducible exact rfl))
        | with_reducible apply bI_go
        | with_reducible apply bV_go
        | with_reducible apply bL_go
        | (with_reducible apply it_1; (first | omega | (simp (disch := omega) only [not_false_eq_true, not_true_eq_false, w32_id, tLt, fLt, tLe, fEq, itE, and_true, true_and, and_self, and_false, false_and, ↓reduceIte, nat_add, nat_mul3, nat_mul4, nat_mul6, nat_mul15, nat_mul60, nat_cast, nc1, Int.reduceToNat, upE, upN, fill_ne, fill_in, i0, Int.reduceMod] <;> omega)))
        | (with_reducible apply it_2; (first | omega | (simp (disch := omega) only [not_false_eq_true, not_true_eq_false, w32_id, tLt, fLt, tLe, fEq, itE, and_true, true_and, and_self, and_false, false_and, ↓reduceIte, nat_add, nat_mul3, nat_mul4, nat_mul6, nat_mul15, nat_mul60, nat_cast, nc1, Int.reduceToNat, upE, upN, fill_ne, fill_in, i0, Int.reduceMod] <;> omega)))
        | (with_reducible refine cl_go ?_; simp (disch := omega) only [not_false_eq_true, not_true_eq_false, w32_id, tLt, fLt, tLe, fEq, itE, and_true, true_and, and_self, and_false, false_and, ↓reduceIte, nat_add, nat_mul3, nat_mul4, nat_mul6, nat_mul15, nat_mul60, nat_cast, nc1, Int.reduceToNat, upE, upN, fill_ne, fill_in, i0, Int.reduceMod])
        | rw [c_Mo_voyageOrder (by omega), b_Mo_voyageOrder_0]
        | with_reducible exact u2 _ (by omega)
        | (with_reducible refine rn_go ?_; simp (disch := omega) only [not_false_eq_true, not_true_eq_false, w32_id, tLt, fLt, tLe, fEq, itE, and_true, true_and, and_self, and_false, false_and, ↓reduceIte, nat_add, nat_mul3, nat_mul4, nat_mul6, nat_mul15, nat_mul60, nat_cast, nc1, Int.reduceToNat, upE, upN, fill_ne, fill_in, i0, Int.reduceMod])
        | (with_reducible refine lf_go ?_; simp (disch := omega) only [not_false_eq_true, not_true_eq_false, w32_id, tLt, fLt, tLe, fEq, itE, and_true, true_and, and_self, and_false, false_and, ↓reduceIte, nat_add, nat_mul3, nat_mul4, nat_mul6, nat_mul15, nat_mul60, nat_cast, nc1, Int.reduceToNat, upE, upN, fill_ne, fill_in, i0, Int.reduceMod])
        | with_reducible exact rfl
    · right; right; right
      rw [a1, a4, vA_hi (j := 2494 + 6 * k) (by omega) (by omega), vA_hi (j := 2495 + 6 * k) (by omega) (by omega), ft _ _ (by omega) (by omega), ev]
      exact ⟨rfl, hw, rfl, hv.1, hv.2.1⟩
  · right
    refine ⟨M1', M2', ?_, ?_, f, fa.v, fb.v⟩
    · repeat' first
        | (with_reducible apply bR_go; (simp (disch := omega) only [rM L, rK L, rN L, rNf, rNv, rNp, rNd, rRow, rLeg, rMark, nat_cast, Int.reduceToNat]; with_reducible exact rfl))
        | with_reducible apply bI_go
        | with_reducible apply bV_go
        | with_reducible apply bL_go
        | (with_reducible apply it_1; (first | omega | (simp (disch := omega) only [not_false_eq_true, not_true_eq_false, w32_id, tLt, fLt, tLe, fEq, itE, and_true, true_and, and_self, and_false, false_and, ↓reduceIte, nat_add, nat_mul3, nat_mul4, nat_mul6, nat_mul15, nat_mul60, nat_cast, nc1, Int.reduceToNat, upE, upN, fill_ne, fill_in, i0] <;> omega)))
        | (with_reducible apply it_2; (first | omega | (simp (disch := omega) only [not_false_eq_true, not_true_eq_false, w32_id, tLt, fLt, tLe, fEq, itE, and_true, true_and, and_self, and_false, false_and, ↓reduceIte, nat_add, nat_mul3, nat_mul4, nat_mul6, nat_mul15, nat_mul60, nat_cast, nc1, Int.reduceToNat, upE, upN, fill_ne, fill_in, i0] <;> omega)))
        | (with_reducible refine cl_go ?_; simp (disch := omega) only [not_false_eq_true, not_true_eq_false, w32_id, tLt, fLt, tLe, fEq, itE, and_true, true_and, and_self, and_false, false_and, ↓reduceIte, nat_add, nat_mul3, nat_mul4, nat_mul6, nat_mul15, nat_mul60, nat_cast, nc1, Int.reduceToNat, upE, upN, fill_ne, fill_in, i0])
        | rw [c_VoyageText_takesCount (by omega), b_VoyageText_takesCount_0]
        | with_reducible exact u1
        | (with_reducible refine rn_go ?_; simp (disch := omega) only [not_false_eq_true, not_true_eq_false, w32_id, tLt, fLt, tLe, fEq, itE, and_true, true_and, and_self, and_false, false_and, ↓reduceIte, nat_add, nat_mul3, nat_mul4, nat_mul6, nat_mul15, nat_mul60, nat_cast, nc1, Int.reduceToNat, upE, upN, fill_ne, fill_in, i0])
        | (with_reducible refine lf_go ?_; simp (disch := omega) only [not_false_eq_true, not_true_eq_false, w32_id, tLt, fLt, tLe, fEq, itE, and_true, true_and, and_self, and_false, false_and, ↓reduceIte, nat_add, nat_mul3, nat_mul4, nat_mul6, nat_mul15, nat_mul60, nat_cast, nc1, Int.reduceToNat, upE, upN, fill_ne, fill_in, i0])
        | with_reducible exact rfl
    · repeat' first
        | (with_reducible apply bR_go; (simp (disch := omega) only [rM L, rK L, rN L, rNf, rNv, rNp, rNd, rRow, rLeg, rMark, nat_cast, Int.reduceToNat, Int.reduceMod]; with_reducible exact rfl))
        | with_reducible apply bI_go
        | with_reducible apply bV_go
        | with_reducible apply bL_go
        | (with_reducible apply it_1; (first | omega | (simp (disch := omega) only [not_false_eq_true, not_true_eq_false, w32_id, tLt, fLt, tLe, fEq, itE, and_true, true_and, and_self, and_false, false_and, ↓reduceIte, nat_add, nat_mul3, nat_mul4, nat_mul6, nat_mul15, nat_mul60, nat_cast, nc1, Int.reduceToNat, upE, upN, fill_ne, fill_in, i0, Int.reduceMod] <;> omega)))
        | (with_reducible apply it_2; (first | omega | (simp (disch := omega) only [not_false_eq_true, not_true_eq_false, w32_id, tLt, fLt, tLe, fEq, itE, and_true, true_and, and_self, and_false, false_and, ↓reduceIte, nat_add, nat_mul3, nat_mul4, nat_mul6, nat_mul15, nat_mul60, nat_cast, nc1, Int.reduceToNat, upE, upN, fill_ne, fill_in, i0, Int.reduceMod] <;> omega)))
        | (with_reducible refine cl_go ?_; simp (disch := omega) only [not_false_eq_true, not_true_eq_false, w32_id, tLt, fLt, tLe, fEq, itE, and_true, true_and, and_self, and_false, false_and, ↓reduceIte, nat_add, nat_mul3, nat_mul4, nat_mul6, nat_mul15, nat_mul60, nat_cast, nc1, Int.reduceToNat, upE, upN, fill_ne, fill_in, i0, Int.reduceMod])
        | rw [c_Mo_voyageOrder (by omega), b_Mo_voyageOrder_0]
        | with_reducible exact u2 _ (by omega)
        | (with_reducible refine rn_go ?_; simp (disch := omega) only [not_false_eq_true, not_true_eq_false, w32_id, tLt, fLt, tLe, fEq, itE, and_true, true_and, and_self, and_false, false_and, ↓reduceIte, nat_add, nat_mul3, nat_mul4, nat_mul6, nat_mul15, nat_mul60, nat_cast, nc1, Int.reduceToNat, upE, upN, fill_ne, fill_in, i0, Int.reduceMod])
        | (with_reducible refine lf_go ?_; simp (disch := omega) only [not_false_eq_true, not_true_eq_false, w32_id, tLt, fLt, tLe, fEq, itE, and_true, true_and, and_self, and_false, false_and, ↓reduceIte, nat_add, nat_mul3, nat_mul4, nat_mul6, nat_mul15, nat_mul60, nat_cast, nc1, Int.reduceToNat, upE, upN, fill_ne, fill_in, i0, Int.reduceMod])
        | with_reducible exact rfl
theorem o_stop (h1 : 8 ≤ d1) (h2 : 8 ≤ d2) (h : TK bt n q e M1 M2) (h5 : M1 98 5 = (k : Int)) (hk : k < 60) (h6 : M1 98 6 = c) (hc : 0 ≤ c ∧ c ≤ 60) (hw : M2 272 (2494 + 6 * k) = 28) : OR bt n q L k c StN (callD d1 m_VoyageText_takesNothing [vR 3 0 98] (SH L) M1) (callD d2 m_Mo_voyageOrder [vR 12 0 271, vI 28, vI (2494 + 6 * (k : Int))] (SH L) M2) M1 M2 := by
  left
  have a := c_addStep (L := L) (d := d1 - 1) (M := M1) (k := k) (c := c) (by omega) h5 hk h6 hc 12 0 0 0
  obtain ⟨a1, a2, a3, a4, a5, a6⟩ := addS_at (M := M1) (k := k) (c := c) (x1 := 12) (x2 := 0) (x3 := 0) (x4 := 0)
  refine ⟨q, e, _, M2, ?_, ?_, h.add, Nat.le_refl _, ⟨a5, a6⟩, ?_, ((FrA.refl M1).v (k := k)).add, (FrB.refl M2).v⟩
  · repeat' first
      | (with_reducible apply bR_go; (simp (disch := omega) only [rM L, rK L, rN L, rNf, rNv, rNp, rNd, rRow, rLeg, rMark, nat_cast, Int.reduceToNat]; with_reducible exact rfl))
      | with_reducible apply bI_go
      | with_reducible apply bV_go
      | with_reducible apply bL_go
      | (with_reducible apply it_1; (first | omega | (simp (disch := omega) only [not_false_eq_true, not_true_eq_false, w32_id, tLt, fLt, tLe, fEq, itE, and_true, true_and, and_self, and_false, false_and, ↓reduceIte, nat_add, nat_mul3, nat_mul4, nat_mul6, nat_mul15, nat_mul60, nat_cast, nc1, Int.reduceToNat, upE, upN, fill_ne, fill_in, i0] <;> omega)))
      | (with_reducible apply it_2; (first | omega | (simp (disch := omega) only [not_false_eq_true, not_true_eq_false, w32_id, tLt, fLt, tLe, fEq, itE, and_true, true_and, and_self, and_false, false_and, ↓reduceIte, nat_add, nat_mul3, nat_mul4, nat_mul6, nat_mul15, nat_mul60, nat_cast, nc1, Int.reduceToNat, upE, upN, fill_ne, fill_in, i0] <;> omega)))
      | (with_reducible refine cl_go ?_; simp (disch := omega) only [not_false_eq_true, not_true_eq_false, w32_id, tLt, fLt, tLe, fEq, itE, and_true, true_and, and_self, and_false, false_and, ↓reduceIte, nat_add, nat_mul3, nat_mul4, nat_mul6, nat_mul15, nat_mul60, nat_cast, nc1, Int.reduceToNat, upE, upN, fill_ne, fill_in, i0])
      | rw [c_VoyageText_takesNothing (by omega), b_VoyageText_takesNothing_0]
      | with_reducible exact a
      | (with_reducible refine rn_go ?_; simp (disch := omega) only [not_false_eq_true, not_true_eq_false, w32_id, tLt, fLt, tLe, fEq, itE, and_true, true_and, and_self, and_false, false_and, ↓reduceIte, nat_add, nat_mul3, nat_mul4, nat_mul6, nat_mul15, nat_mul60, nat_cast, nc1, Int.reduceToNat, upE, upN, fill_ne, fill_in, i0])
      | (with_reducible refine lf_go ?_; simp (disch := omega) only [not_false_eq_true, not_true_eq_false, w32_id, tLt, fLt, tLe, fEq, itE, and_true, true_and, and_self, and_false, false_and, ↓reduceIte, nat_add, nat_mul3, nat_mul4, nat_mul6, nat_mul15, nat_mul60, nat_cast, nc1, Int.reduceToNat, upE, upN, fill_ne, fill_in, i0])
      | with_reducible exact rfl
  · repeat' first
      | (with_reducible apply bR_go; (simp (disch := omega) only [rM L, rK L, rN L, rNf, rNv, rNp, rNd, rRow, rLeg, rMark, nat_cast, Int.reduceToNat, Int.reduceMod]; with_reducible exact rfl))
      | with_reducible apply bI_go
      | with_reducible apply bV_go
      | with_reducible apply bL_go
      | (with_reducible apply it_1; (first | omega | (simp (disch := omega) only [not_false_eq_true, not_true_eq_false, w32_id, tLt, fLt, tLe, fEq, itE, and_true, true_and, and_self, and_false, false_and, ↓reduceIte, nat_add, nat_mul3, nat_mul4, nat_mul6, nat_mul15, nat_mul60, nat_cast, nc1, Int.reduceToNat, upE, upN, fill_ne, fill_in, i0, Int.reduceMod] <;> omega)))
      | (with_reducible apply it_2; (first | omega | (simp (disch := omega) only [not_false_eq_true, not_true_eq_false, w32_id, tLt, fLt, tLe, fEq, itE, and_true, true_and, and_self, and_false, false_and, ↓reduceIte, nat_add, nat_mul3, nat_mul4, nat_mul6, nat_mul15, nat_mul60, nat_cast, nc1, Int.reduceToNat, upE, upN, fill_ne, fill_in, i0, Int.reduceMod] <;> omega)))
      | (with_reducible refine cl_go ?_; simp (disch := omega) only [not_false_eq_true, not_true_eq_false, w32_id, tLt, fLt, tLe, fEq, itE, and_true, true_and, and_self, and_false, false_and, ↓reduceIte, nat_add, nat_mul3, nat_mul4, nat_mul6, nat_mul15, nat_mul60, nat_cast, nc1, Int.reduceToNat, upE, upN, fill_ne, fill_in, i0, Int.reduceMod])
      | rw [c_Mo_voyageOrder (by omega), b_Mo_voyageOrder_0]
      | (with_reducible refine rn_go ?_; simp (disch := omega) only [not_false_eq_true, not_true_eq_false, w32_id, tLt, fLt, tLe, fEq, itE, and_true, true_and, and_self, and_false, false_and, ↓reduceIte, nat_add, nat_mul3, nat_mul4, nat_mul6, nat_mul15, nat_mul60, nat_cast, nc1, Int.reduceToNat, upE, upN, fill_ne, fill_in, i0, Int.reduceMod])
      | (with_reducible refine lf_go ?_; simp (disch := omega) only [not_false_eq_true, not_true_eq_false, w32_id, tLt, fLt, tLe, fEq, itE, and_true, true_and, and_self, and_false, false_and, ↓reduceIte, nat_add, nat_mul3, nat_mul4, nat_mul6, nat_mul15, nat_mul60, nat_cast, nc1, Int.reduceToNat, upE, upN, fill_ne, fill_in, i0, Int.reduceMod])
      | with_reducible exact rfl
  · right; right; right; right
    rw [a1, vA_hi (j := 2494 + 6 * k) (by omega) (by omega)]
    exact ⟨rfl, hw⟩
theorem o_any {c0 c1 c2 c3 : Nat} (h1 : 8 ≤ d1) (h2 : 8 ≤ d2) (h : TK bt n q e M1 M2) (hN : NV M1 M2 c0 c1 c2 c3) (h5 : M1 98 5 = (k : Int)) (hk : k < 60) (h6 : M1 98 6 = c) (hc : 0 ≤ c ∧ c ≤ 60) (hw : M2 272 (2494 + 6 * k) = 24) : OR bt n e L k c StN (callD d1 m_VoyageText_takesAny [vR 6 0 12, vR 0 0 19, vR 3 0 98] (SH L) M1) (callD d2 m_Mo_voyageOrder [vR 12 0 271, vI 24, vI (2494 + 6 * (k : Int))] (SH L) M2) M1 M2 := by
  rcases k_ship (L := L) (d1 := d1 - 1) (d2 := d2 - 1) (by omega) (by omega) h hN hk with ⟨q', e', v, Mc, Md, u1, u2, hv, t, le, fa, ft, ev⟩ | ⟨M1', M2', u1, u2, f, fa, ft⟩
  · left
    have a := c_addStep (L := L) (d := d1 - 1) (M := Mc) (k := k) (c := c) (by omega) (by rw [fa _ _ (by omega)]; exact h5) hk (by rw [fa _ _ (by omega)]; exact h6) hc 5 v 0 0
    obtain ⟨a1, a2, a3, a4, a5, a6⟩ := addS_at (M := Mc) (k := k) (c := c) (x1 := 5) (x2 := (v : Int)) (x3 := 0) (x4 := 0)
    refine ⟨q', e', _, Md, ?_, ?_, t.add, le, ⟨a5, a6⟩, ?_, (fa.v (k := k)).add, ft.v (by omega)⟩
    · repeat' first
        | (with_reducible apply bR_go; (simp (disch := omega) only [rM L, rK L, rN L, rNf, rNv, rNp, rNd, rRow, rLeg, rMark, nat_cast, Int.reduceToNat]; with_reducible exact rfl))
        | with_reducible apply bI_go
        | with_reducible apply bV_go
        | with_reducible apply bL_go
        | (with_reducible apply it_1; (first | omega | (simp (disch := omega) only [not_false_eq_true, not_true_eq_false, w32_id, tLt, fLt, tLe, fEq, itE, and_true, true_and, and_self, and_false, false_and, ↓reduceIte, nat_add, nat_mul3, nat_mul4, nat_mul6, nat_mul15, nat_mul60, nat_cast, nc1, Int.reduceToNat, upE, upN, fill_ne, fill_in, i0] <;> omega)))
        | (with_reducible apply it_2; (first | omega | (simp (disch := omega) only [not_false_eq_true, not_true_eq_false, w32_id, tLt, fLt, tLe, fEq, itE, and_true, true_and, and_self, and_false, false_and, ↓reduceIte, nat_add, nat_mul3, nat_mul4, nat_mul6, nat_mul15, nat_mul60, nat_cast, nc1, Int.reduceToNat, upE, upN, fill_ne, fill_in, i0] <;> omega)))
        | (with_reducible refine cl_go ?_; simp (disch := omega) only [not_false_eq_true, not_true_eq_false, w32_id, tLt, fLt, tLe, fEq, itE, and_true, true_and, and_self, and_false, false_and, ↓reduceIte, nat_add, nat_mul3, nat_mul4, nat_mul6, nat_mul15, nat_mul60, nat_cast, nc1, Int.reduceToNat, upE, upN, fill_ne, fill_in, i0])
        | rw [c_VoyageText_takesAny (by omega), b_VoyageText_takesAny_0]
        | with_reducible exact u1
        | with_reducible exact a
        | (with_reducible refine rn_go ?_; simp (disch := omega) only [not_false_eq_true, not_true_eq_false, w32_id, tLt, fLt, tLe, fEq, itE, and_true, true_and, and_self, and_false, false_and, ↓reduceIte, nat_add, nat_mul3, nat_mul4, nat_mul6, nat_mul15, nat_mul60, nat_cast, nc1, Int.reduceToNat, upE, upN, fill_ne, fill_in, i0])
        | (with_reducible refine lf_go ?_; simp (disch := omega) only [not_false_eq_true, not_true_eq_false, w32_id, tLt, fLt, tLe, fEq, itE, and_true, true_and, and_self, and_false, false_and, ↓reduceIte, nat_add, nat_mul3, nat_mul4, nat_mul6, nat_mul15, nat_mul60, nat_cast, nc1, Int.reduceToNat, upE, upN, fill_ne, fill_in, i0])
        | with_reducible exact rfl
    · repeat' first
        | (with_reducible apply bR_go; (simp (disch := omega) only [rM L, rK L, rN L, rNf, rNv, rNp, rNd, rRow, rLeg, rMark, nat_cast, Int.reduceToNat, Int.reduceMod]; with_reducible exact rfl))
        | with_reducible apply bI_go
        | with_reducible apply bV_go
        | with_reducible apply bL_go
        | (with_reducible apply it_1; (first | omega | (simp (disch := omega) only [not_false_eq_true, not_true_eq_false, w32_id, tLt, fLt, tLe, fEq, itE, and_true, true_and, and_self, and_false, false_and, ↓reduceIte, nat_add, nat_mul3, nat_mul4, nat_mul6, nat_mul15, nat_mul60, nat_cast, nc1, Int.reduceToNat, upE, upN, fill_ne, fill_in, i0, Int.reduceMod] <;> omega)))
        | (with_reducible apply it_2; (first | omega | (simp (disch := omega) only [not_false_eq_true, not_true_eq_false, w32_id, tLt, fLt, tLe, fEq, itE, and_true, true_and, and_self, and_false, false_and, ↓reduceIte, nat_add, nat_mul3, nat_mul4, nat_mul6, nat_mul15, nat_mul60, nat_cast, nc1, Int.reduceToNat, upE, upN, fill_ne, fill_in, i0, Int.reduceMod] <;> omega)))
        | (with_reducible refine cl_go ?_; simp (disch := omega) only [not_false_eq_true, not_true_eq_false, w32_id, tLt, fLt, tLe, fEq, itE, and_true, true_and, and_self, and_false, false_and, ↓reduceIte, nat_add, nat_mul3, nat_mul4, nat_mul6, nat_mul15, nat_mul60, nat_cast, nc1, Int.reduceToNat, upE, upN, fill_ne, fill_in, i0, Int.reduceMod])
        | rw [c_Mo_voyageOrder (by omega), b_Mo_voyageOrder_0]
        | with_reducible exact u2 _ (by omega)
        | (with_reducible refine rn_go ?_; simp (disch := omega) only [not_false_eq_true, not_true_eq_false, w32_id, tLt, fLt, tLe, fEq, itE, and_true, true_and, and_self, and_false, false_and, ↓reduceIte, nat_add, nat_mul3, nat_mul4, nat_mul6, nat_mul15, nat_mul60, nat_cast, nc1, Int.reduceToNat, upE, upN, fill_ne, fill_in, i0, Int.reduceMod])
        | (with_reducible refine lf_go ?_; simp (disch := omega) only [not_false_eq_true, not_true_eq_false, w32_id, tLt, fLt, tLe, fEq, itE, and_true, true_and, and_self, and_false, false_and, ↓reduceIte, nat_add, nat_mul3, nat_mul4, nat_mul6, nat_mul15, nat_mul60, nat_cast, nc1, Int.reduceToNat, upE, upN, fill_ne, fill_in, i0, Int.reduceMod])
        | with_reducible exact rfl
    · right; right; right; left
      have e3 : Md 272 3 = (c3 : Int) := by rw [ft _ _ (by omega) (by omega)]; exact hN.2.2.2.2.2.2.2
      rw [a1, a2, vA_hi (j := 2494 + 6 * k) (by omega) (by omega), vA_hi (j := 2495 + 6 * k) (by omega) (by omega), vA_lo (by omega), ft _ (2494 + 6 * k) (by omega) (by omega), ev, e3]
      exact ⟨rfl, hw, rfl, by omega, by omega⟩
  · right
    refine ⟨M1', M2', ?_, ?_, f, fa.v, ft.v (by omega)⟩
    · repeat' first
        | (with_reducible apply bR_go; (simp (disch := omega) only [rM L, rK L, rN L, rNf, rNv, rNp, rNd, rRow, rLeg, rMark, nat_cast, Int.reduceToNat]; with_reducible exact rfl))
        | with_reducible apply bI_go
        | with_reducible apply bV_go
        | with_reducible apply bL_go
        | (with_reducible apply it_1; (first | omega | (simp (disch := omega) only [not_false_eq_true, not_true_eq_false, w32_id, tLt, fLt, tLe, fEq, itE, and_true, true_and, and_self, and_false, false_and, ↓reduceIte, nat_add, nat_mul3, nat_mul4, nat_mul6, nat_mul15, nat_mul60, nat_cast, nc1, Int.reduceToNat, upE, upN, fill_ne, fill_in, i0] <;> omega)))
        | (with_reducible apply it_2; (first | omega | (simp (disch := omega) only [not_false_eq_true, not_true_eq_false, w32_id, tLt, fLt, tLe, fEq, itE, and_true, true_and, and_self, and_false, false_and, ↓reduceIte, nat_add, nat_mul3, nat_mul4, nat_mul6, nat_mul15, nat_mul60, nat_cast, nc1, Int.reduceToNat, upE, upN, fill_ne, fill_in, i0] <;> omega)))
        | (with_reducible refine cl_go ?_; simp (disch := omega) only [not_false_eq_true, not_true_eq_false, w32_id, tLt, fLt, tLe, fEq, itE, and_true, true_and, and_self, and_false, false_and, ↓reduceIte, nat_add, nat_mul3, nat_mul4, nat_mul6, nat_mul15, nat_mul60, nat_cast, nc1, Int.reduceToNat, upE, upN, fill_ne, fill_in, i0])
        | rw [c_VoyageText_takesAny (by omega), b_VoyageText_takesAny_0]
        | with_reducible exact u1
        | (with_reducible refine rn_go ?_; simp (disch := omega) only [not_false_eq_true, not_true_eq_false, w32_id, tLt, fLt, tLe, fEq, itE, and_true, true_and, and_self, and_false, false_and, ↓reduceIte, nat_add, nat_mul3, nat_mul4, nat_mul6, nat_mul15, nat_mul60, nat_cast, nc1, Int.reduceToNat, upE, upN, fill_ne, fill_in, i0])
        | (with_reducible refine lf_go ?_; simp (disch := omega) only [not_false_eq_true, not_true_eq_false, w32_id, tLt, fLt, tLe, fEq, itE, and_true, true_and, and_self, and_false, false_and, ↓reduceIte, nat_add, nat_mul3, nat_mul4, nat_mul6, nat_mul15, nat_mul60, nat_cast, nc1, Int.reduceToNat, upE, upN, fill_ne, fill_in, i0])
        | with_reducible exact rfl
    · repeat' first
        | (with_reducible apply bR_go; (simp (disch := omega) only [rM L, rK L, rN L, rNf, rNv, rNp, rNd, rRow, rLeg, rMark, nat_cast, Int.reduceToNat, Int.reduceMod]; with_reducible exact rfl))
        | with_reducible apply bI_go
        | with_reducible apply bV_go
        | with_reducible apply bL_go
        | (with_reducible apply it_1; (first | omega | (simp (disch := omega) only [not_false_eq_true, not_true_eq_false, w32_id, tLt, fLt, tLe, fEq, itE, and_true, true_and, and_self, and_false, false_and, ↓reduceIte, nat_add, nat_mul3, nat_mul4, nat_mul6, nat_mul15, nat_mul60, nat_cast, nc1, Int.reduceToNat, upE, upN, fill_ne, fill_in, i0, Int.reduceMod] <;> omega)))
        | (with_reducible apply it_2; (first | omega | (simp (disch := omega) only [not_false_eq_true, not_true_eq_false, w32_id, tLt, fLt, tLe, fEq, itE, and_true, true_and, and_self, and_false, false_and, ↓reduceIte, nat_add, nat_mul3, nat_mul4, nat_mul6, nat_mul15, nat_mul60, nat_cast, nc1, Int.reduceToNat, upE, upN, fill_ne, fill_in, i0, Int.reduceMod] <;> omega)))
        | (with_reducible refine cl_go ?_; simp (disch := omega) only [not_false_eq_true, not_true_eq_false, w32_id, tLt, fLt, tLe, fEq, itE, and_true, true_and, and_self, and_false, false_and, ↓reduceIte, nat_add, nat_mul3, nat_mul4, nat_mul6, nat_mul15, nat_mul60, nat_cast, nc1, Int.reduceToNat, upE, upN, fill_ne, fill_in, i0, Int.reduceMod])
        | rw [c_Mo_voyageOrder (by omega), b_Mo_voyageOrder_0]
        | with_reducible exact u2 _ (by omega)
        | (with_reducible refine rn_go ?_; simp (disch := omega) only [not_false_eq_true, not_true_eq_false, w32_id, tLt, fLt, tLe, fEq, itE, and_true, true_and, and_self, and_false, false_and, ↓reduceIte, nat_add, nat_mul3, nat_mul4, nat_mul6, nat_mul15, nat_mul60, nat_cast, nc1, Int.reduceToNat, upE, upN, fill_ne, fill_in, i0, Int.reduceMod])
        | (with_reducible refine lf_go ?_; simp (disch := omega) only [not_false_eq_true, not_true_eq_false, w32_id, tLt, fLt, tLe, fEq, itE, and_true, true_and, and_self, and_false, false_and, ↓reduceIte, nat_add, nat_mul3, nat_mul4, nat_mul6, nat_mul15, nat_mul60, nat_cast, nc1, Int.reduceToNat, upE, upN, fill_ne, fill_in, i0, Int.reduceMod])
        | with_reducible exact rfl
end

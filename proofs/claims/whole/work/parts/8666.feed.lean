/-! feed -/
def byt (x : Int) (i : Nat) : Int := w8 (w8 (shr32 x (24 - 8 * (i : Int))))
theorem w8_bd (x : Int) : -128 ≤ w8 x ∧ w8 x ≤ 127 := by
  unfold w8
  rw [Int.bmod_def]
  split <;> omega
theorem up_self {M : Mm} {a k : Nat} {v : Int} (h : M a k = v) : up M a k v = M := by
  funext b j
  unfold up
  split
  · next e => rw [e.1, e.2, h]
  · rfl
theorem up_3 {F : Mm} {a k b j : Nat} {x y z : Int} (h : a ≠ b) : up (up (up F a k x) b j y) a k z = up (up F b j y) a k z := by
  funext c i
  unfold up
  by_cases e : c = a ∧ i = k
  · simp only [if_pos e]
  · by_cases e2 : c = b ∧ i = j
    · simp only [if_neg e, if_pos e2]
    · simp only [if_neg e, if_neg e2]
section
variable {xs : Nat → Int} {M M' : Mm} {A N : Nat → Int} {B P : Nat → Nat → Int} {L d : Nat}
theorem n_append (hd : 1 ≤ d) {x : Int} {l : Nat} (hl : M 12 2 = l) (hl' : l ≤ 896) : callD d m_Tape_append [vR 6 0 12, vI x] (SH L) M = some (none, SH L, up (fillR M 13 l (byt x) 4) 12 2 ((l : Int) + 4)) := by
  have st : ∀ k : Nat, k < 4 → Run (callD (d - 1)) tb_Tape_append 3 [vR 6 0 12, vI x, vI (24 - 8 * (k : Int))] [] (SH L) (up (fillR M 13 l (byt x) k) 12 2 ((l : Int) + k)) = Run (callD (d - 1)) tb_Tape_append 3 [vR 6 0 12, vI x, vI (24 - 8 * ((k + 1 : Nat) : Int))] [] (SH L) (up (fillR M 13 l (byt x) (k + 1)) 12 2 ((l : Int) + ((k + 1 : Nat) : Int))) := by
    intro k hk
    have e1 : ((l : Int) + (k : Int)).toNat = l + k := by omega
    have e2 : 24 - 8 * (k : Int) + -8 = 24 - 8 * ((k : Int) + 1) := by omega
    have e3 : (l : Int) + (k : Int) + 1 = (l : Int) + ((k : Int) + 1) := by omega
    rw [b_Tape_append_3, ← fillR_s M 13 l (byt x) k rfl, ← up_3 (x := (l : Int) + k) (by omega : (12 : Nat) ≠ 13)]
    unfold byt
    repeat' first
      | (with_reducible apply bR_go; (simp (disch := omega) only [rM L, rK L, rN L, rNf, rNv, rNp, rNd, rRow, rLeg, rMark, nat_cast, Int.reduceToNat, e1, e2, e3]; with_reducible exact rfl))
      | with_reducible apply bI_go
      | with_reducible apply bV_go
      | with_reducible apply bL_go
      | (with_reducible apply it_1; (first | omega | (simp (disch := omega) only [not_false_eq_true, not_true_eq_false, w32_id, tLt, fLt, tLe, fEq, itE, and_true, true_and, and_self, and_false, false_and, ↓reduceIte, nat_add, nat_mul3, nat_mul4, nat_mul6, nat_mul15, nat_mul60, nat_cast, nc1, Int.reduceToNat, upE, upN, fill_ne, fill_in, i0, e1, e2, e3] <;> omega)))
      | (with_reducible apply it_2; (first | omega | (simp (disch := omega) only [not_false_eq_true, not_true_eq_false, w32_id, tLt, fLt, tLe, fEq, itE, and_true, true_and, and_self, and_false, false_and, ↓reduceIte, nat_add, nat_mul3, nat_mul4, nat_mul6, nat_mul15, nat_mul60, nat_cast, nc1, Int.reduceToNat, upE, upN, fill_ne, fill_in, i0, e1, e2, e3] <;> omega)))
      | (with_reducible refine cl_go ?_; simp (disch := omega) only [not_false_eq_true, not_true_eq_false, w32_id, tLt, fLt, tLe, fEq, itE, and_true, true_and, and_self, and_false, false_and, ↓reduceIte, nat_add, nat_mul3, nat_mul4, nat_mul6, nat_mul15, nat_mul60, nat_cast, nc1, Int.reduceToNat, upE, upN, fill_ne, fill_in, i0, e1, e2, e3])
      | (with_reducible refine rn_go ?_; simp (disch := omega) only [not_false_eq_true, not_true_eq_false, w32_id, tLt, fLt, tLe, fEq, itE, and_true, true_and, and_self, and_false, false_and, ↓reduceIte, nat_add, nat_mul3, nat_mul4, nat_mul6, nat_mul15, nat_mul60, nat_cast, nc1, Int.reduceToNat, upE, upN, fill_ne, fill_in, i0, e1, e2, e3])
      | (with_reducible refine lf_go ?_; simp (disch := omega) only [not_false_eq_true, not_true_eq_false, w32_id, tLt, fLt, tLe, fEq, itE, and_true, true_and, and_self, and_false, false_and, ↓reduceIte, nat_add, nat_mul3, nat_mul4, nat_mul6, nat_mul15, nat_mul60, nat_cast, nc1, Int.reduceToNat, upE, upN, fill_ne, fill_in, i0, e1, e2, e3])
      | with_reducible exact rfl
  rw [c_Tape_append hd, b_Tape_append_0]
  have e := loop_up (fun k => Run (callD (d - 1)) tb_Tape_append 3 [vR 6 0 12, vI x, vI (24 - 8 * (k : Int))] [] (SH L) (up (fillR M 13 l (byt x) k) 12 2 ((l : Int) + k))) 4 st 0 (by omega)
  have e0 : up (fillR M 13 l (byt x) 0) 12 2 ((l : Int) + ((0 : Nat) : Int)) = M := by
    rw [fillR_0]
    exact up_self (by rw [hl]; omega)
  rw [e0] at e
  refine e.trans ?_
  rw [b_Tape_append_3, if_pos (by omega)]
  rfl
theorem n_four (hd : 1 ≤ d) {x : Int} {l : Nat} (hl : M 271 10 = l) (hl' : l ≤ 896) : callD d m_Mo_four [vR 12 0 271, vI x] (SH L) M = some (none, SH L, up (fillR M 277 l (byt x) 4) 271 10 ((l : Int) + 4)) := by
  have st : ∀ k : Nat, k < 4 → Run (callD (d - 1)) tb_Mo_four 3 [vR 12 0 271, vI x, vI (24 - 8 * (k : Int))] [] (SH L) (up (fillR M 277 l (byt x) k) 271 10 ((l : Int) + k)) = Run (callD (d - 1)) tb_Mo_four 3 [vR 12 0 271, vI x, vI (24 - 8 * ((k + 1 : Nat) : Int))] [] (SH L) (up (fillR M 277 l (byt x) (k + 1)) 271 10 ((l : Int) + ((k + 1 : Nat) : Int))) := by
    intro k hk
    have e1 : ((l : Int) + (k : Int)).toNat = l + k := by omega
    have e2 : 24 - 8 * (k : Int) + -8 = 24 - 8 * ((k : Int) + 1) := by omega
    have e3 : (l : Int) + (k : Int) + 1 = (l : Int) + ((k : Int) + 1) := by omega
    rw [b_Mo_four_3, ← fillR_s M 277 l (byt x) k rfl, ← up_3 (x := (l : Int) + k) (by omega : (271 : Nat) ≠ 277)]
    unfold byt
    repeat' first
      | (with_reducible apply bR_go; (simp (disch := omega) only [rM L, rK L, rN L, rNf, rNv, rNp, rNd, rRow, rLeg, rMark, nat_cast, Int.reduceToNat, e1, e2, e3]; with_reducible exact rfl))
      | with_reducible apply bI_go
      | with_reducible apply bV_go
      | with_reducible apply bL_go
      | (with_reducible apply it_1; (first | omega | (simp (disch := omega) only [not_false_eq_true, not_true_eq_false, w32_id, tLt, fLt, tLe, fEq, itE, and_true, true_and, and_self, and_false, false_and, ↓reduceIte, nat_add, nat_mul3, nat_mul4, nat_mul6, nat_mul15, nat_mul60, nat_cast, nc1, Int.reduceToNat, upE, upN, fill_ne, fill_in, i0, e1, e2, e3] <;> omega)))
      | (with_reducible apply it_2; (first | omega | (simp (disch := omega) only [not_false_eq_true, not_true_eq_false, w32_id, tLt, fLt, tLe, fEq, itE, and_true, true_and, and_self, and_false, false_and, ↓reduceIte, nat_add, nat_mul3, nat_mul4, nat_mul6, nat_mul15, nat_mul60, nat_cast, nc1, Int.reduceToNat, upE, upN, fill_ne, fill_in, i0, e1, e2, e3] <;> omega)))
      | (with_reducible refine cl_go ?_; simp (disch := omega) only [not_false_eq_true, not_true_eq_false, w32_id, tLt, fLt, tLe, fEq, itE, and_true, true_and, and_self, and_false, false_and, ↓reduceIte, nat_add, nat_mul3, nat_mul4, nat_mul6, nat_mul15, nat_mul60, nat_cast, nc1, Int.reduceToNat, upE, upN, fill_ne, fill_in, i0, e1, e2, e3])
      | (with_reducible refine rn_go ?_; simp (disch := omega) only [not_false_eq_true, not_true_eq_false, w32_id, tLt, fLt, tLe, fEq, itE, and_true, true_and, and_self, and_false, false_and, ↓reduceIte, nat_add, nat_mul3, nat_mul4, nat_mul6, nat_mul15, nat_mul60, nat_cast, nc1, Int.reduceToNat, upE, upN, fill_ne, fill_in, i0, e1, e2, e3])
      | (with_reducible refine lf_go ?_; simp (disch := omega) only [not_false_eq_true, not_true_eq_false, w32_id, tLt, fLt, tLe, fEq, itE, and_true, true_and, and_self, and_false, false_and, ↓reduceIte, nat_add, nat_mul3, nat_mul4, nat_mul6, nat_mul15, nat_mul60, nat_cast, nc1, Int.reduceToNat, upE, upN, fill_ne, fill_in, i0, e1, e2, e3])
      | with_reducible exact rfl
  rw [c_Mo_four hd, b_Mo_four_0]
  have e := loop_up (fun k => Run (callD (d - 1)) tb_Mo_four 3 [vR 12 0 271, vI x, vI (24 - 8 * (k : Int))] [] (SH L) (up (fillR M 277 l (byt x) k) 271 10 ((l : Int) + k))) 4 st 0 (by omega)
  have e0 : up (fillR M 277 l (byt x) 0) 271 10 ((l : Int) + ((0 : Nat) : Int)) = M := by
    rw [fillR_0]
    exact up_self (by rw [hl]; omega)
  rw [e0] at e
  refine e.trans ?_
  rw [b_Mo_four_3, if_pos (by omega)]
  rfl
theorem RelS.tp (h : RelS xs M A N B P) (e : ∀ b j, core b j → ¬kTp b j → M' b j = M b j) (hn : RTp M') : RelS xs M' A N B P := by
  obtain ⟨h0, h1, h2, -, h4, h5, h6⟩ := h
  exact ⟨fun j => by rw [e 0 j (in0 rfl) (by unfold kTp; omega)]; exact h0 j, h1.frame fun b j hb => e b j (in1 hb) (by unfold k1 at hb; unfold kTp; omega), h2.frame fun b j hb => e b j (inTr hb) (by unfold kTr at hb; unfold kTp; omega), hn, ⟨h4.1.frame fun b j hb => e b j (inLv hb) (by unfold kLv at hb; unfold kTp; omega), h4.2.frame fun b j hb => e b j (inLp hb) (by unfold kLp at hb; unfold kTp; omega)⟩, h5.frame fun b j hb => e b j (inMk hb) (by unfold kMk at hb; unfold kTp; omega), h6.frame fun b j hb => e b j (inNw hb) (by unfold kNw at hb; unfold kTp; omega)⟩
end
/-- what five words bring -/
def byt5 (x1 x2 x3 x4 x5 : Int) (i : Nat) : Int := if i < 4 then byt x1 i else if i < 8 then byt x2 (i - 4) else if i < 12 then byt x3 (i - 8) else if i < 16 then byt x4 (i - 12) else byt x5 (i - 16)
theorem byt5_bd (x1 x2 x3 x4 x5 : Int) (i : Nat) : -128 ≤ byt5 x1 x2 x3 x4 x5 i ∧ byt5 x1 x2 x3 x4 x5 i ≤ 127 := by
  unfold byt5 byt
  repeat' split
  all_goals exact w8_bd _
theorem fed {M : Mm} {a c j l : Nat} {x1 x2 x3 x4 x5 : Int} (hac : a ≠ c) (b i : Nat) : up (fillR (up (fillR (up (fillR (up (fillR (up (fillR M a l (byt x1) 4) c j ((l : Int) + 4)) a (l + 4) (byt x2) 4) c j ((l : Int) + 8)) a (l + 8) (byt x3) 4) c j ((l : Int) + 12)) a (l + 12) (byt x4) 4) c j ((l : Int) + 16)) a (l + 16) (byt x5) 4) c j ((l : Int) + 20) b i = if b = c ∧ i = j then (l : Int) + 20 else if b = a ∧ l ≤ i ∧ i < l + 20 then byt5 x1 x2 x3 x4 x5 (i - l) else M b i := by
  by_cases e : b = c ∧ i = j
  · rw [if_pos e, upE e.1 e.2]
  rw [if_neg e, upN (by omega)]
  by_cases e2 : b = a ∧ l ≤ i ∧ i < l + 20
  · rw [if_pos e2]
    obtain ⟨rfl, q1, q2⟩ := e2
    unfold byt5
    by_cases c5 : l + 16 ≤ i
    · rw [fillR_in rfl c5 (by omega), if_neg (by omega), if_neg (by omega), if_neg (by omega), if_neg (by omega)]
      congr 1
    rw [fillR_ne (by omega), upN (by omega)]
    by_cases c4 : l + 12 ≤ i
    · rw [fillR_in rfl c4 (by omega), if_neg (by omega), if_neg (by omega), if_neg (by omega), if_pos (by omega)]
      congr 1
    rw [fillR_ne (by omega), upN (by omega)]
    by_cases c3 : l + 8 ≤ i
    · rw [fillR_in rfl c3 (by omega), if_neg (by omega), if_neg (by omega), if_pos (by omega)]
      congr 1
    rw [fillR_ne (by omega), upN (by omega)]
    by_cases c2 : l + 4 ≤ i
    · rw [fillR_in rfl c2 (by omega), if_neg (by omega), if_pos (by omega)]
      congr 1
    rw [fillR_ne (by omega), upN (by omega), fillR_in rfl (by omega) (by omega), if_pos (by omega)]
  · rw [if_neg e2, fillR_ne (by omega), upN (by omega), fillR_ne (by omega), upN (by omega), fillR_ne (by omega), upN (by omega), fillR_ne (by omega), upN (by omega), fillR_ne (by omega)]
theorem case_feed (x1 x2 x3 x4 x5 : Int) : Case m_Ca_feed m_Mo_feed [vI x1, vI x2, vI x3, vI x4, vI x5] := by
  intro L xs M A N B P ⟨hs0, h⟩
  have hC := h.cn
  unfold Cn at hC
  have hA := h.hA
  have hct := h.cnt
  have hlw := h.law
  obtain ⟨t1, t2, t3, t4, t5⟩ := h.2.2.2.1
  obtain ⟨l, hl⟩ := Int.eq_ofNat_of_zero_le t2
  rw [hl] at t1 t3
  by_cases hv : 900 < (l : Int) + 20
  · repeat' first
      | (with_reducible apply wp_bR; (simp (disch := omega) only [rM L, rK L, rN L, rNf, rNv, rNp, rNd, rRow, rLeg, rMark, nat_cast, Int.reduceToNat, t1, hl]; with_reducible exact rfl))
      | with_reducible apply wp_bI
      | with_reducible apply wp_bV
      | with_reducible apply wp_bL
      | with_reducible apply wp_rI
      | with_reducible apply wp_rV
      | with_reducible apply wp_rL
      | (with_reducible apply wp_1; (first | omega | (simp (disch := omega) only [not_false_eq_true, not_true_eq_false, w32_id, tLt, fLt, tLe, fEq, itE, and_true, true_and, and_self, and_false, false_and, ↓reduceIte, nat_add, nat_mul3, nat_mul4, nat_mul6, nat_mul15, nat_mul60, nat_cast, nc1, Int.reduceToNat, upE, upN, fill_ne, fill_in, i0, t1, hl] <;> omega)))
      | (with_reducible apply wp_2; (first | omega | (simp (disch := omega) only [not_false_eq_true, not_true_eq_false, w32_id, tLt, fLt, tLe, fEq, itE, and_true, true_and, and_self, and_false, false_and, ↓reduceIte, nat_add, nat_mul3, nat_mul4, nat_mul6, nat_mul15, nat_mul60, nat_cast, nc1, Int.reduceToNat, upE, upN, fill_ne, fill_in, i0, t1, hl] <;> omega)))
      | (with_reducible apply wp_s; (first | (simp (disch := omega) only [not_false_eq_true, not_true_eq_false, w32_id, tLt, fLt, tLe, fEq, itE, and_true, true_and, and_self, and_false, false_and, ↓reduceIte, nat_add, nat_mul3, nat_mul4, nat_mul6, nat_mul15, nat_mul60, nat_cast, nc1, Int.reduceToNat, upE, upN, fill_ne, fill_in, i0, t1, hl]; with_reducible exact Iff.rfl) | with_reducible exact Iff.rfl); intro hc__; (try subst hc__); rotate_left; intro hc__; rotate_left)
      | (with_reducible apply wp_eq; (with_reducible apply cl_go; simp (disch := omega) only [not_false_eq_true, not_true_eq_false, w32_id, tLt, fLt, tLe, fEq, itE, and_true, true_and, and_self, and_false, false_and, ↓reduceIte, nat_add, nat_mul3, nat_mul4, nat_mul6, nat_mul15, nat_mul60, nat_cast, nc1, Int.reduceToNat, upE, upN, fill_ne, fill_in, i0, t1, hl]; with_reducible exact rfl))
      | (with_reducible refine wp_eq (c_Ca_feed (by omega) _ _ _ _ _ _ _ _) ?_; with_reducible refine wp_eq (b_Ca_feed_0 _ _ _ _ _ _ _ _ _) ?_)
      | (with_reducible refine wp_eq (c_Mo_feed (by omega) _ _ _ _ _ _ _ _) ?_; with_reducible refine wp_eq (b_Mo_feed_0 _ _ _ _ _ _ _ _ _) ?_)
      | (with_reducible apply wp_eq; (with_reducible apply lf_go; simp (disch := omega) only [not_false_eq_true, not_true_eq_false, w32_id, tLt, fLt, tLe, fEq, itE, and_true, true_and, and_self, and_false, false_and, ↓reduceIte, nat_add, nat_mul3, nat_mul4, nat_mul6, nat_mul15, nat_mul60, nat_cast, nc1, Int.reduceToNat, upE, upN, fill_ne, fill_in, i0, t1, hl]; with_reducible exact rfl))
      | with_reducible apply wp_q1
    exact wp_q2 ⟨hs0, h⟩
  · have e1 := n_append (L := L) (d := 100 - 1) (M := M) (x := x1) (l := l) (by omega) t1 (by omega)
    generalize hA1 : up (fillR M 13 l (byt x1) 4) 12 2 ((l : Int) + 4) = M1 at e1
    have e2 := n_append (L := L) (d := 100 - 1) (M := M1) (x := x2) (l := l + 4) (by omega) (by rw [← hA1]; exact upE rfl rfl) (by omega)
    rw [show (((l + 4 : Nat) : Int) + 4) = (l : Int) + 8 by omega] at e2
    generalize hA2 : up (fillR M1 13 (l + 4) (byt x2) 4) 12 2 ((l : Int) + 8) = M2 at e2
    have e3 := n_append (L := L) (d := 100 - 1) (M := M2) (x := x3) (l := l + 8) (by omega) (by rw [← hA2]; exact upE rfl rfl) (by omega)
    rw [show (((l + 8 : Nat) : Int) + 4) = (l : Int) + 12 by omega] at e3
    generalize hA3 : up (fillR M2 13 (l + 8) (byt x3) 4) 12 2 ((l : Int) + 12) = M3 at e3
    have e4 := n_append (L := L) (d := 100 - 1) (M := M3) (x := x4) (l := l + 12) (by omega) (by rw [← hA3]; exact upE rfl rfl) (by omega)
    rw [show (((l + 12 : Nat) : Int) + 4) = (l : Int) + 16 by omega] at e4
    generalize hA4 : up (fillR M3 13 (l + 12) (byt x4) 4) 12 2 ((l : Int) + 16) = M4 at e4
    have e5 := n_append (L := L) (d := 100 - 1) (M := M4) (x := x5) (l := l + 16) (by omega) (by rw [← hA4]; exact upE rfl rfl) (by omega)
    rw [show (((l + 16 : Nat) : Int) + 4) = (l : Int) + 20 by omega] at e5
    generalize hA5 : up (fillR M4 13 (l + 16) (byt x5) 4) 12 2 ((l : Int) + 20) = M5 at e5
    have c5 : ∀ b i, M5 b i = if b = 12 ∧ i = 2 then (l : Int) + 20 else if b = 13 ∧ l ≤ i ∧ i < l + 20 then byt5 x1 x2 x3 x4 x5 (i - l) else M b i := fun b i => by
      rw [← hA5, ← hA4, ← hA3, ← hA2, ← hA1]
      exact fed (by omega) b i
    have l5 : M5 12 2 = (l : Int) + 20 := by rw [← hA5]; exact upE rfl rfl
    have m0 : M5 271 10 = (l : Int) := by rw [c5, if_neg (by omega), if_neg (by omega)]; exact hl
    have f1 := n_four (L := L) (d := 100 - 1) (M := M5) (x := x1) (l := l) (by omega) m0 (by omega)
    generalize hB1 : up (fillR M5 277 l (byt x1) 4) 271 10 ((l : Int) + 4) = N1 at f1
    have f2 := n_four (L := L) (d := 100 - 1) (M := N1) (x := x2) (l := l + 4) (by omega) (by rw [← hB1]; exact upE rfl rfl) (by omega)
    rw [show (((l + 4 : Nat) : Int) + 4) = (l : Int) + 8 by omega] at f2
    generalize hB2 : up (fillR N1 277 (l + 4) (byt x2) 4) 271 10 ((l : Int) + 8) = N2 at f2
    have f3 := n_four (L := L) (d := 100 - 1) (M := N2) (x := x3) (l := l + 8) (by omega) (by rw [← hB2]; exact upE rfl rfl) (by omega)
    rw [show (((l + 8 : Nat) : Int) + 4) = (l : Int) + 12 by omega] at f3
    generalize hB3 : up (fillR N2 277 (l + 8) (byt x3) 4) 271 10 ((l : Int) + 12) = N3 at f3
    have f4 := n_four (L := L) (d := 100 - 1) (M := N3) (x := x4) (l := l + 12) (by omega) (by rw [← hB3]; exact upE rfl rfl) (by omega)
    rw [show (((l + 12 : Nat) : Int) + 4) = (l : Int) + 16 by omega] at f4
    generalize hB4 : up (fillR N3 277 (l + 12) (byt x4) 4) 271 10 ((l : Int) + 16) = N4 at f4
    have f5 := n_four (L := L) (d := 100 - 1) (M := N4) (x := x5) (l := l + 16) (by omega) (by rw [← hB4]; exact upE rfl rfl) (by omega)
    rw [show (((l + 16 : Nat) : Int) + 4) = (l : Int) + 20 by omega] at f5
    generalize hB5 : up (fillR N4 277 (l + 16) (byt x5) 4) 271 10 ((l : Int) + 20) = N5 at f5
    have c6 : ∀ b i, N5 b i = if b = 271 ∧ i = 10 then (l : Int) + 20 else if b = 277 ∧ l ≤ i ∧ i < l + 20 then byt5 x1 x2 x3 x4 x5 (i - l) else M5 b i := fun b i => by
      rw [← hB5, ← hB4, ← hB3, ← hB2, ← hB1]
      exact fed (by omega) b i
    have l6 : N5 271 10 = (l : Int) + 20 := by rw [← hB5]; exact upE rfl rfl
    clear hA1 hA2 hA3 hA4 hA5 hB1 hB2 hB3 hB4 hB5
    repeat' first
      | (with_reducible apply wp_bR; (simp (disch := omega) only [rM L, rK L, rN L, rNf, rNv, rNp, rNd, rRow, rLeg, rMark, nat_cast, Int.reduceToNat, t1, l5]; with_reducible exact rfl))
      | with_reducible apply wp_bI
      | with_reducible apply wp_bV
      | with_reducible apply wp_bL
      | with_reducible apply wp_rI
      | with_reducible apply wp_rV
      | with_reducible apply wp_rL
      | (with_reducible apply wp_1; (first | omega | (simp (disch := omega) only [not_false_eq_true, not_true_eq_false, w32_id, tLt, fLt, tLe, fEq, itE, and_true, true_and, and_self, and_false, false_and, ↓reduceIte, nat_add, nat_mul3, nat_mul4, nat_mul6, nat_mul15, nat_mul60, nat_cast, nc1, Int.reduceToNat, upE, upN, fill_ne, fill_in, i0, t1, l5] <;> omega)))
      | (with_reducible apply wp_2; (first | omega | (simp (disch := omega) only [not_false_eq_true, not_true_eq_false, w32_id, tLt, fLt, tLe, fEq, itE, and_true, true_and, and_self, and_false, false_and, ↓reduceIte, nat_add, nat_mul3, nat_mul4, nat_mul6, nat_mul15, nat_mul60, nat_cast, nc1, Int.reduceToNat, upE, upN, fill_ne, fill_in, i0, t1, l5] <;> omega)))
      | (with_reducible apply wp_s; (first | (simp (disch := omega) only [not_false_eq_true, not_true_eq_false, w32_id, tLt, fLt, tLe, fEq, itE, and_true, true_and, and_self, and_false, false_and, ↓reduceIte, nat_add, nat_mul3, nat_mul4, nat_mul6, nat_mul15, nat_mul60, nat_cast, nc1, Int.reduceToNat, upE, upN, fill_ne, fill_in, i0, t1, l5]; with_reducible exact Iff.rfl) | with_reducible exact Iff.rfl); intro hc__; (try subst hc__); rotate_left; intro hc__; rotate_left)
      | (with_reducible apply wp_eq; (with_reducible apply cl_go; simp (disch := omega) only [not_false_eq_true, not_true_eq_false, w32_id, tLt, fLt, tLe, fEq, itE, and_true, true_and, and_self, and_false, false_and, ↓reduceIte, nat_add, nat_mul3, nat_mul4, nat_mul6, nat_mul15, nat_mul60, nat_cast, nc1, Int.reduceToNat, upE, upN, fill_ne, fill_in, i0, t1, l5]; with_reducible exact rfl))
      | (with_reducible refine wp_eq (c_Ca_feed (by omega) _ _ _ _ _ _ _ _) ?_; with_reducible refine wp_eq (b_Ca_feed_0 _ _ _ _ _ _ _ _ _) ?_)
      | with_reducible refine wp_eq (e1) ?_
      | with_reducible refine wp_eq (e2) ?_
      | with_reducible refine wp_eq (e3) ?_
      | with_reducible refine wp_eq (e4) ?_
      | with_reducible refine wp_eq (e5) ?_
      | (with_reducible apply wp_eq; (with_reducible apply lf_go; simp (disch := omega) only [not_false_eq_true, not_true_eq_false, w32_id, tLt, fLt, tLe, fEq, itE, and_true, true_and, and_self, and_false, false_and, ↓reduceIte, nat_add, nat_mul3, nat_mul4, nat_mul6, nat_mul15, nat_mul60, nat_cast, nc1, Int.reduceToNat, upE, upN, fill_ne, fill_in, i0, t1, l5]; with_reducible exact rfl))
      | with_reducible apply wp_q1
    repeat' first
      | (with_reducible apply wp_bR; (simp (disch := omega) only [rM L, rK L, rN L, rNf, rNv, rNp, rNd, rRow, rLeg, rMark, nat_cast, Int.reduceToNat, m0, l6]; with_reducible exact rfl))
      | with_reducible apply wp_bI
      | with_reducible apply wp_bV
      | with_reducible apply wp_bL
      | with_reducible apply wp_rI
      | with_reducible apply wp_rV
      | with_reducible apply wp_rL
      | (with_reducible apply wp_1; (first | omega | (simp (disch := omega) only [not_false_eq_true, not_true_eq_false, w32_id, tLt, fLt, tLe, fEq, itE, and_true, true_and, and_self, and_false, false_and, ↓reduceIte, nat_add, nat_mul3, nat_mul4, nat_mul6, nat_mul15, nat_mul60, nat_cast, nc1, Int.reduceToNat, upE, upN, fill_ne, fill_in, i0, m0, l6] <;> omega)))
      | (with_reducible apply wp_2; (first | omega | (simp (disch := omega) only [not_false_eq_true, not_true_eq_false, w32_id, tLt, fLt, tLe, fEq, itE, and_true, true_and, and_self, and_false, false_and, ↓reduceIte, nat_add, nat_mul3, nat_mul4, nat_mul6, nat_mul15, nat_mul60, nat_cast, nc1, Int.reduceToNat, upE, upN, fill_ne, fill_in, i0, m0, l6] <;> omega)))
      | (with_reducible apply wp_s; (first | (simp (disch := omega) only [not_false_eq_true, not_true_eq_false, w32_id, tLt, fLt, tLe, fEq, itE, and_true, true_and, and_self, and_false, false_and, ↓reduceIte, nat_add, nat_mul3, nat_mul4, nat_mul6, nat_mul15, nat_mul60, nat_cast, nc1, Int.reduceToNat, upE, upN, fill_ne, fill_in, i0, m0, l6]; with_reducible exact Iff.rfl) | with_reducible exact Iff.rfl); intro hc__; (try subst hc__); rotate_left; intro hc__; rotate_left)
      | (with_reducible apply wp_eq; (with_reducible apply cl_go; simp (disch := omega) only [not_false_eq_true, not_true_eq_false, w32_id, tLt, fLt, tLe, fEq, itE, and_true, true_and, and_self, and_false, false_and, ↓reduceIte, nat_add, nat_mul3, nat_mul4, nat_mul6, nat_mul15, nat_mul60, nat_cast, nc1, Int.reduceToNat, upE, upN, fill_ne, fill_in, i0, m0, l6]; with_reducible exact rfl))
      | (with_reducible refine wp_eq (c_Mo_feed (by omega) _ _ _ _ _ _ _ _) ?_; with_reducible refine wp_eq (b_Mo_feed_0 _ _ _ _ _ _ _ _ _) ?_)
      | with_reducible refine wp_eq (f1) ?_
      | with_reducible refine wp_eq (f2) ?_
      | with_reducible refine wp_eq (f3) ?_
      | with_reducible refine wp_eq (f4) ?_
      | with_reducible refine wp_eq (f5) ?_
      | (with_reducible apply wp_eq; (with_reducible apply lf_go; simp (disch := omega) only [not_false_eq_true, not_true_eq_false, w32_id, tLt, fLt, tLe, fEq, itE, and_true, true_and, and_self, and_false, false_and, ↓reduceIte, nat_add, nat_mul3, nat_mul4, nat_mul6, nat_mul15, nat_mul60, nat_cast, nc1, Int.reduceToNat, upE, upN, fill_ne, fill_in, i0, m0, l6]; with_reducible exact rfl))
      | with_reducible apply wp_q1
    have off : ∀ b j, ¬kTp b j → N5 b j = M b j := fun b j hk => by
      unfold kTp at hk
      rw [c6, if_neg (by omega), if_neg (by omega), c5, if_neg (by omega), if_neg (by omega)]
    refine wp_q2 (A := A) (N := N) (B := B) (P := P) ⟨?_, h.tp (fun b j _ hk => off b j hk) ?_⟩
    · rw [off 3 15 (by unfold kTp; omega), off 271 2 (by unfold kTp; omega)]
      exact hs0
    · have q12 : N5 12 2 = (l : Int) + 20 := by rw [c6, if_neg (by omega), if_neg (by omega)]; exact l5
      unfold RTp
      rw [q12, l6]
      refine ⟨rfl, by omega, by omega, fun k hk => ?_, fun w hw => ?_⟩
      · have bb := byt5_bd x1 x2 x3 x4 x5 (k - l)
        have g1 : N5 13 k = M5 13 k := by rw [c6, if_neg (by omega), if_neg (by omega)]
        by_cases q : l ≤ k
        · have g2 : M5 13 k = byt5 x1 x2 x3 x4 x5 (k - l) := by rw [c5, if_neg (by omega), if_pos (by omega)]
          have g3 : N5 277 k = byt5 x1 x2 x3 x4 x5 (k - l) := by rw [c6, if_neg (by omega), if_pos (by omega)]
          rw [g1, g2, g3]
          exact ⟨rfl, bb⟩
        · have g2 : M5 13 k = M 13 k := by rw [c5, if_neg (by omega), if_neg (by omega)]
          have g3 : N5 277 k = M 277 k := by rw [c6, if_neg (by omega), if_neg (by omega), c5, if_neg (by omega), if_neg (by omega)]
          rw [g1, g2, g3]
          rw [hl] at t4
          exact t4 k (by omega)
      · rw [c6, if_neg (by omega), if_neg (by omega), c5, if_neg (by omega), if_neg (by omega)]
        exact t5 w hw

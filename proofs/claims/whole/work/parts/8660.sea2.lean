/-! DAYS AT SEA, in the class -/
def sdB (A B : Nat → Int) : Nat → Int := lkB A (payB A B (flB A B))
def sdN (A B : Nat → Int) : Nat → Nat → Int
  | 0 => B
  | n + 1 => sdB A (sdN A B n)
def dutyB (A B : Nat → Int) (f : Int) : Nat → Int := if A (56 + 15 * (B 0).toNat) = -1 then B else if A (56 + 15 * (B 0).toNat) = f then B else wU (wU B 4 (B 4 - min (B 4) (A (9 + 4 * (A (56 + 15 * (B 0).toNat)).toNat) * sm (ld7 B) 8))) 6 (w32 (B 6 + min (B 4) (A (9 + 4 * (A (56 + 15 * (B 0).toNat)).toNat) * sm (ld7 B) 8)))
/-- what is kept at sea -/
def SeaI (B : Nat → Int) : Prop := (0 ≤ B 4 ∧ B 4 ≤ 9999) ∧ Ld (ld7 B)
section
variable {M : Mm} {A B : Nat → Int} {L d v c : Nat}
theorem flB_bd (hC : Cn A) (B : Nat → Int) : flB A B = -1 ∨ 0 ≤ flB A B ∧ flB A B < A 0 := by
  unfold Cn at hC
  have := flg_bd (fun n : Nat => wts A (ld7 B) (A 4) n) (A 0).toNat
  unfold flB
  omega
theorem pay_o {f : Int} {w : Nat} (h4 : w ≠ 4) (h5 : w ≠ 5) : payB A B f w = B w := by
  unfold payB
  split
  · rfl
  · split
    · exact wUN h5
    · exact wUN h4
theorem pay_4 (hC : Cn A) (hN : Nt A) {f : Int} (hf : f = -1 ∨ 0 ≤ f ∧ f < A 0) (h : 0 ≤ B 4 ∧ B 4 ≤ 9999) : 0 ≤ payB A B f 4 ∧ payB A B f 4 ≤ 9999 := by
  unfold payB
  split
  · exact h
  · next e =>
    have := hN f.toNat (by omega)
    split
    · rw [wUN (by omega)]; exact h
    · rw [wUE rfl]; omega
theorem SeaI.sd (hC : Cn A) (hG : Gd A) (hN : Nt A) (h : SeaI B) : SeaI (sdB A B) := by
  have p4 := pay_4 hC hN (flB_bd hC B) h.1
  refine ⟨?_, fun g hg => ?_⟩
  · unfold sdB lkB
    rw [if_neg (by omega)]
    exact p4
  · have lb := h.2 g hg
    unfold ld7 at lb ⊢
    unfold sdB lkB
    rw [pay_o (by omega) (by omega)]
    split
    · next e =>
      have := hG g (by rw [show 7 + g - 7 = g by omega] at e; exact e.2.2)
      rw [show 7 + g - 7 = g by omega]
      omega
    · exact lb
theorem sd_o {w : Nat} (h4 : w ≠ 4) (h5 : w ≠ 5) (h7 : w < 7) : sdB A B w = B w := by
  unfold sdB lkB
  rw [if_neg (by omega), pay_o h4 h5]
theorem sdN_o {w : Nat} (h4 : w ≠ 4) (h5 : w ≠ 5) (h7 : w < 7) : ∀ n, sdN A B n w = B w
  | 0 => rfl
  | n + 1 => by
    show sdB A (sdN A B n) w = B w
    rw [sd_o h4 h5 h7, sdN_o h4 h5 h7 n]
theorem SeaI.sdN (hC : Cn A) (hG : Gd A) (hN : Nt A) (h : SeaI B) : ∀ n, SeaI (sdN A B n)
  | 0 => h
  | n + 1 => (SeaI.sdN hC hG hN h n).sd hC hG hN
theorem v_paysDuty (hd : 2 ≤ d) (hc : isCh c) (hv : isV v) (hvc : apt v c) (hA : ChW M c A) (hC : Cn A) (hN : Nt A) (hP : Pt A) (hV : VsW M v B) (hS : SeaI B) (h0 : 0 ≤ B 0) (h0' : B 0 < A 2) (f : Int) : Wp (callD d m_Vessel_paysDuty [vR 8 0 v, vR 0 0 c, vI f] (SH L) M) (QVs L v c M (dutyB A B f) none) := by
  have hC' := hC
  unfold Cn at hC'
  unfold apt at hvc
  have hw := hV.1
  have hl := hV.2
  have ob := hP (B 0).toNat (by omega)
  have how : M (c + 14) (B 0).toNat = A (56 + 15 * (B 0).toNat) := hA.2.2.2.2.1 _ (by omega)
  unfold dutyB
  by_cases e1 : A (56 + 15 * (B 0).toNat) = -1
  · rw [if_pos e1]
    repeat' first
      | (with_reducible apply wp_bR; (simp (disch := omega) only [rM L, rK L, rN L, rNf, rNv, rNp, rNd, rRow, rLeg, rMark, nat_cast, Int.reduceToNat, rC hc, hw, how]; with_reducible exact rfl))
      | with_reducible apply wp_bI
      | with_reducible apply wp_bV
      | with_reducible apply wp_bL
      | with_reducible apply wp_rI
      | with_reducible apply wp_rV
      | with_reducible apply wp_rL
      | (with_reducible apply wp_1; (first | omega | (simp (disch := omega) only [not_false_eq_true, not_true_eq_false, w32_id, tLt, fLt, tLe, fEq, itE, and_true, true_and, and_self, and_false, false_and, ↓reduceIte, nat_add, nat_mul3, nat_mul4, nat_mul6, nat_mul15, nat_mul60, nat_cast, nc1, Int.reduceToNat, upE, upN, fill_ne, fill_in, i0, rC hc, hw, how] <;> omega)))
      | (with_reducible apply wp_2; (first | omega | (simp (disch := omega) only [not_false_eq_true, not_true_eq_false, w32_id, tLt, fLt, tLe, fEq, itE, and_true, true_and, and_self, and_false, false_and, ↓reduceIte, nat_add, nat_mul3, nat_mul4, nat_mul6, nat_mul15, nat_mul60, nat_cast, nc1, Int.reduceToNat, upE, upN, fill_ne, fill_in, i0, rC hc, hw, how] <;> omega)))
      | (with_reducible apply wp_s; (first | (simp (disch := omega) only [not_false_eq_true, not_true_eq_false, w32_id, tLt, fLt, tLe, fEq, itE, and_true, true_and, and_self, and_false, false_and, ↓reduceIte, nat_add, nat_mul3, nat_mul4, nat_mul6, nat_mul15, nat_mul60, nat_cast, nc1, Int.reduceToNat, upE, upN, fill_ne, fill_in, i0, rC hc, hw, how]; with_reducible exact Iff.rfl) | with_reducible exact Iff.rfl); intro hc__; (try subst hc__); rotate_left; intro hc__; rotate_left)
      | (with_reducible apply wp_eq; (with_reducible apply cl_go; simp (disch := omega) only [not_false_eq_true, not_true_eq_false, w32_id, tLt, fLt, tLe, fEq, itE, and_true, true_and, and_self, and_false, false_and, ↓reduceIte, nat_add, nat_mul3, nat_mul4, nat_mul6, nat_mul15, nat_mul60, nat_cast, nc1, Int.reduceToNat, upE, upN, fill_ne, fill_in, i0, rC hc, hw, how]; with_reducible exact rfl))
      | (with_reducible refine wp_eq (c_Vessel_paysDuty (by omega) _ _ _ _ _) ?_; with_reducible refine wp_eq (b_Vessel_paysDuty_0 _ _ _ _ _ _) ?_)
      | (with_reducible apply wp_eq; (with_reducible apply lf_go; simp (disch := omega) only [not_false_eq_true, not_true_eq_false, w32_id, tLt, fLt, tLe, fEq, itE, and_true, true_and, and_self, and_false, false_and, ↓reduceIte, nat_add, nat_mul3, nat_mul4, nat_mul6, nat_mul15, nat_mul60, nat_cast, nc1, Int.reduceToNat, upE, upN, fill_ne, fill_in, i0, rC hc, hw, how]; with_reducible exact rfl))
      | with_reducible apply wp_q1
    exact wp_vs rfl hV fun _ _ _ _ _ => rfl
  rw [if_neg e1]
  by_cases e2 : A (56 + 15 * (B 0).toNat) = f
  · rw [if_pos e2]
    repeat' first
      | (with_reducible apply wp_bR; (simp (disch := omega) only [rM L, rK L, rN L, rNf, rNv, rNp, rNd, rRow, rLeg, rMark, nat_cast, Int.reduceToNat, rC hc, hw, how]; with_reducible exact rfl))
      | with_reducible apply wp_bI
      | with_reducible apply wp_bV
      | with_reducible apply wp_bL
      | with_reducible apply wp_rI
      | with_reducible apply wp_rV
      | with_reducible apply wp_rL
      | (with_reducible apply wp_1; (first | omega | (simp (disch := omega) only [not_false_eq_true, not_true_eq_false, w32_id, tLt, fLt, tLe, fEq, itE, and_true, true_and, and_self, and_false, false_and, ↓reduceIte, nat_add, nat_mul3, nat_mul4, nat_mul6, nat_mul15, nat_mul60, nat_cast, nc1, Int.reduceToNat, upE, upN, fill_ne, fill_in, i0, rC hc, hw, how] <;> omega)))
      | (with_reducible apply wp_2; (first | omega | (simp (disch := omega) only [not_false_eq_true, not_true_eq_false, w32_id, tLt, fLt, tLe, fEq, itE, and_true, true_and, and_self, and_false, false_and, ↓reduceIte, nat_add, nat_mul3, nat_mul4, nat_mul6, nat_mul15, nat_mul60, nat_cast, nc1, Int.reduceToNat, upE, upN, fill_ne, fill_in, i0, rC hc, hw, how] <;> omega)))
      | (with_reducible apply wp_s; (first | (simp (disch := omega) only [not_false_eq_true, not_true_eq_false, w32_id, tLt, fLt, tLe, fEq, itE, and_true, true_and, and_self, and_false, false_and, ↓reduceIte, nat_add, nat_mul3, nat_mul4, nat_mul6, nat_mul15, nat_mul60, nat_cast, nc1, Int.reduceToNat, upE, upN, fill_ne, fill_in, i0, rC hc, hw, how]; with_reducible exact Iff.rfl) | with_reducible exact Iff.rfl); intro hc__; (try subst hc__); rotate_left; intro hc__; rotate_left)
      | (with_reducible apply wp_eq; (with_reducible apply cl_go; simp (disch := omega) only [not_false_eq_true, not_true_eq_false, w32_id, tLt, fLt, tLe, fEq, itE, and_true, true_and, and_self, and_false, false_and, ↓reduceIte, nat_add, nat_mul3, nat_mul4, nat_mul6, nat_mul15, nat_mul60, nat_cast, nc1, Int.reduceToNat, upE, upN, fill_ne, fill_in, i0, rC hc, hw, how]; with_reducible exact rfl))
      | (with_reducible refine wp_eq (c_Vessel_paysDuty (by omega) _ _ _ _ _) ?_; with_reducible refine wp_eq (b_Vessel_paysDuty_0 _ _ _ _ _ _) ?_)
      | (with_reducible apply wp_eq; (with_reducible apply lf_go; simp (disch := omega) only [not_false_eq_true, not_true_eq_false, w32_id, tLt, fLt, tLe, fEq, itE, and_true, true_and, and_self, and_false, false_and, ↓reduceIte, nat_add, nat_mul3, nat_mul4, nat_mul6, nat_mul15, nat_mul60, nat_cast, nc1, Int.reduceToNat, upE, upN, fill_ne, fill_in, i0, rC hc, hw, how]; with_reducible exact rfl))
      | with_reducible apply wp_q1
    exact wp_vs rfl hV fun _ _ _ _ _ => rfl
  rw [if_neg e2]
  generalize hn : A (56 + 15 * (B 0).toNat) = n at *
  have nb := hN n.toNat (by omega)
  have hdu : M (c + 8) n.toNat = A (9 + 4 * n.toNat) := (hA.2.2.1 n.toNat (by omega)).2.1
  have lb := sm_bd hS.2 8 (by omega)
  have mb := mul_bd nb.2.2.1 nb.2.2.2.1 lb.1 lb.2
  have s4 := hS.1
  have hld := s_Vessel_load (L := L) (d := d - 1) (by omega) hv (ld := ld7 B) hl hS.2
  repeat' first
    | (with_reducible apply wp_bR; (simp (disch := omega) only [rM L, rK L, rN L, rNf, rNv, rNp, rNd, rRow, rLeg, rMark, nat_cast, Int.reduceToNat, rC hc, hw, how, hdu]; with_reducible exact rfl))
    | with_reducible apply wp_bI
    | with_reducible apply wp_bV
    | with_reducible apply wp_bL
    | with_reducible apply wp_rI
    | with_reducible apply wp_rV
    | with_reducible apply wp_rL
    | (with_reducible apply wp_1; (first | omega | (simp (disch := omega) only [not_false_eq_true, not_true_eq_false, w32_id, tLt, fLt, tLe, fEq, itE, and_true, true_and, and_self, and_false, false_and, ↓reduceIte, nat_add, nat_mul3, nat_mul4, nat_mul6, nat_mul15, nat_mul60, nat_cast, nc1, Int.reduceToNat, upE, upN, fill_ne, fill_in, i0, rC hc, hw, how, hdu] <;> omega)))
    | (with_reducible apply wp_2; (first | omega | (simp (disch := omega) only [not_false_eq_true, not_true_eq_false, w32_id, tLt, fLt, tLe, fEq, itE, and_true, true_and, and_self, and_false, false_and, ↓reduceIte, nat_add, nat_mul3, nat_mul4, nat_mul6, nat_mul15, nat_mul60, nat_cast, nc1, Int.reduceToNat, upE, upN, fill_ne, fill_in, i0, rC hc, hw, how, hdu] <;> omega)))
    | (with_reducible apply wp_s; (first | (simp (disch := omega) only [not_false_eq_true, not_true_eq_false, w32_id, tLt, fLt, tLe, fEq, itE, and_true, true_and, and_self, and_false, false_and, ↓reduceIte, nat_add, nat_mul3, nat_mul4, nat_mul6, nat_mul15, nat_mul60, nat_cast, nc1, Int.reduceToNat, upE, upN, fill_ne, fill_in, i0, rC hc, hw, how, hdu]; with_reducible exact Iff.rfl) | with_reducible exact Iff.rfl); intro hc__; (try subst hc__); rotate_left; intro hc__; rotate_left)
    | (with_reducible apply wp_eq; (with_reducible apply cl_go; simp (disch := omega) only [not_false_eq_true, not_true_eq_false, w32_id, tLt, fLt, tLe, fEq, itE, and_true, true_and, and_self, and_false, false_and, ↓reduceIte, nat_add, nat_mul3, nat_mul4, nat_mul6, nat_mul15, nat_mul60, nat_cast, nc1, Int.reduceToNat, upE, upN, fill_ne, fill_in, i0, rC hc, hw, how, hdu]; with_reducible exact rfl))
    | (with_reducible refine wp_eq (c_Vessel_paysDuty (by omega) _ _ _ _ _) ?_; with_reducible refine wp_eq (b_Vessel_paysDuty_0 _ _ _ _ _ _) ?_)
    | with_reducible refine wp_eq (hld) ?_
    | (with_reducible apply wp_eq; (with_reducible apply lf_go; simp (disch := omega) only [not_false_eq_true, not_true_eq_false, w32_id, tLt, fLt, tLe, fEq, itE, and_true, true_and, and_self, and_false, false_and, ↓reduceIte, nat_add, nat_mul3, nat_mul4, nat_mul6, nat_mul15, nat_mul60, nat_cast, nc1, Int.reduceToNat, upE, upN, fill_ne, fill_in, i0, rC hc, hw, how, hdu]; with_reducible exact rfl))
    | with_reducible apply wp_q1
  refine wp_vs rfl ⟨fun w hw' => ?_, fun g hg => ?_⟩ fun b j h1 h2 h3 => ?_
  · by_cases q : w = 6
    · subst q; rw [upE rfl rfl, wUE rfl]
    · rw [upN (by omega), wUN q]
      by_cases q4 : w = 4
      · subst q4; rw [upE rfl rfl, wUE rfl]
      · rw [upN (by omega), wUN q4]; exact hw w hw'
  · rw [upN (by omega), upN (by omega), wUN (by omega), wUN (by omega)]; exact hl g hg
  · rw [upN (by omega), upN (by omega)]
/-- behind so many days: still at sea, or in the port -/
def sonB (A B : Nat → Int) (k : Nat) : Nat → Int := if 0 < B 2 - k then wU (sdN A B k) 2 (B 2 - k) else dutyB A (wU (wU (wU (sdN A B k) 2 (B 2 - k)) 0 (B 1)) 1 (-1)) (flB A (sdN A B k))
theorem v_sailsOn (hd : 4 ≤ d) (hc : isCh c) (hv : isV v) (hvc : apt v c) (hA : ChW M c A) (hI : Inv A) (hV : VsW M v B) (hS : SeaI B) (h1 : 0 ≤ B 1 ∧ B 1 < A 2) (h2 : 0 ≤ B 2 ∧ B 2 ≤ 20) {x : Int} (hx : 0 ≤ x ∧ x ≤ 20) : Wp (callD d m_Vessel_sailsOn [vR 8 0 v, vR 0 0 c, vI x] (SH L) M) (QVs L v c M (sonB A B (min x (B 2)).toNat) (some (vI (if 0 < B 2 - (min x (B 2)).toNat then 0 else 1)))) := by
  obtain ⟨hC, hG, hN, hPt, -⟩ := hI
  have hC' := hC
  unfold Cn at hC'
  have hvc' := hvc
  unfold apt at hvc'
  have hw := hV.1
  have hlw := hA.2.1
  have e1 := v_ruler (L := L) (d := d - 1) (by omega) hc hvc hA hC hG hV hS.2
  generalize hk : (min x (B 2)).toNat = k
  have hk' : ((k : Nat) : Int) = min x (B 2) := by omega
  repeat' first
    | (with_reducible apply wp_bR; (simp (disch := omega) only [rM L, rK L, rN L, rNf, rNv, rNp, rNd, rRow, rLeg, rMark, nat_cast, Int.reduceToNat, rV hv, hlw, hw]; with_reducible exact rfl))
    | with_reducible apply wp_bI
    | with_reducible apply wp_bV
    | with_reducible apply wp_bL
    | with_reducible apply wp_rI
    | with_reducible apply wp_rV
    | with_reducible apply wp_rL
    | (with_reducible apply wp_1; (first | omega | (simp (disch := omega) only [not_false_eq_true, not_true_eq_false, w32_id, tLt, fLt, tLe, fEq, itE, and_true, true_and, and_self, and_false, false_and, ↓reduceIte, nat_add, nat_mul3, nat_mul4, nat_mul6, nat_mul15, nat_mul60, nat_cast, nc1, Int.reduceToNat, upE, upN, fill_ne, fill_in, i0, rV hv, hlw, hw] <;> omega)))
    | (with_reducible apply wp_2; (first | omega | (simp (disch := omega) only [not_false_eq_true, not_true_eq_false, w32_id, tLt, fLt, tLe, fEq, itE, and_true, true_and, and_self, and_false, false_and, ↓reduceIte, nat_add, nat_mul3, nat_mul4, nat_mul6, nat_mul15, nat_mul60, nat_cast, nc1, Int.reduceToNat, upE, upN, fill_ne, fill_in, i0, rV hv, hlw, hw] <;> omega)))
    | (with_reducible apply wp_s; (first | (simp (disch := omega) only [not_false_eq_true, not_true_eq_false, w32_id, tLt, fLt, tLe, fEq, itE, and_true, true_and, and_self, and_false, false_and, ↓reduceIte, nat_add, nat_mul3, nat_mul4, nat_mul6, nat_mul15, nat_mul60, nat_cast, nc1, Int.reduceToNat, upE, upN, fill_ne, fill_in, i0, rV hv, hlw, hw]; with_reducible exact Iff.rfl) | with_reducible exact Iff.rfl); intro hc__; (try subst hc__); rotate_left; intro hc__; rotate_left)
    | (with_reducible apply wp_eq; (with_reducible apply cl_go; simp (disch := omega) only [not_false_eq_true, not_true_eq_false, w32_id, tLt, fLt, tLe, fEq, itE, and_true, true_and, and_self, and_false, false_and, ↓reduceIte, nat_add, nat_mul3, nat_mul4, nat_mul6, nat_mul15, nat_mul60, nat_cast, nc1, Int.reduceToNat, upE, upN, fill_ne, fill_in, i0, rV hv, hlw, hw]; with_reducible exact rfl))
    | (with_reducible refine wp_eq (c_Vessel_sailsOn (by omega) _ _ _ _ _) ?_; with_reducible refine wp_eq (b_Vessel_sailsOn_0 _ _ _ _ _ _) ?_)
    | with_reducible refine wp_eq (e1) ?_
    | (with_reducible apply wp_eq; (with_reducible apply lf_go; simp (disch := omega) only [not_false_eq_true, not_true_eq_false, w32_id, tLt, fLt, tLe, fEq, itE, and_true, true_and, and_self, and_false, false_and, ↓reduceIte, nat_add, nat_mul3, nat_mul4, nat_mul6, nat_mul15, nat_mul60, nat_cast, nc1, Int.reduceToNat, upE, upN, fill_ne, fill_in, i0, rV hv, hlw, hw]; with_reducible exact rfl))
    | with_reducible apply wp_q1
  rw [fill_ne (by omega), hw 2 (by omega), ← hk']
  refine wp_loop (α := Mm) (G := fun j a => Run (callD (d - 1)) tb_Vessel_sailsOn 26 [vR 8 0 v, vR 0 0 c, vI x, vI (flB A (sdN A B j)), vI (k : Int), vI (j : Int)] [] (SH L) a) (I := fun j a => VsW a v (sdN A B j) ∧ ∀ b i, b ≠ v → b ≠ v + 1 → b ≠ c + 29 → a b i = M b i) k ?_ ?_ 0 _ (by omega) ?_
  · intro j M1 hj ⟨hV1, hf⟩ ih
    have hS1 := SeaI.sdN hC hG hN hS j
    have hA1 : ChW M1 c A := hA.frame hC fun b i q1 q2 => hf b i (by omega) (by omega) (by omega)
    refine wp_eq (b_Vessel_sailsOn_26 _ _ _ _ _ _ _ _ _) ?_
    repeat' first
      | (with_reducible apply wp_bR; (simp (disch := omega) only [rM L, rK L, rN L, rNf, rNv, rNp, rNd, rRow, rLeg, rMark, nat_cast, Int.reduceToNat]; with_reducible exact rfl))
      | with_reducible apply wp_bI
      | with_reducible apply wp_bV
      | with_reducible apply wp_bL
      | with_reducible apply wp_rI
      | with_reducible apply wp_rV
      | with_reducible apply wp_rL
      | (with_reducible apply wp_1; (first | omega | (simp (disch := omega) only [not_false_eq_true, not_true_eq_false, w32_id, tLt, fLt, tLe, fEq, itE, and_true, true_and, and_self, and_false, false_and, ↓reduceIte, nat_add, nat_mul3, nat_mul4, nat_mul6, nat_mul15, nat_mul60, nat_cast, nc1, Int.reduceToNat, upE, upN, fill_ne, fill_in, i0] <;> omega)))
      | (with_reducible apply wp_2; (first | omega | (simp (disch := omega) only [not_false_eq_true, not_true_eq_false, w32_id, tLt, fLt, tLe, fEq, itE, and_true, true_and, and_self, and_false, false_and, ↓reduceIte, nat_add, nat_mul3, nat_mul4, nat_mul6, nat_mul15, nat_mul60, nat_cast, nc1, Int.reduceToNat, upE, upN, fill_ne, fill_in, i0] <;> omega)))
      | (with_reducible apply wp_s; (first | (simp (disch := omega) only [not_false_eq_true, not_true_eq_false, w32_id, tLt, fLt, tLe, fEq, itE, and_true, true_and, and_self, and_false, false_and, ↓reduceIte, nat_add, nat_mul3, nat_mul4, nat_mul6, nat_mul15, nat_mul60, nat_cast, nc1, Int.reduceToNat, upE, upN, fill_ne, fill_in, i0]; with_reducible exact Iff.rfl) | with_reducible exact Iff.rfl); intro hc__; (try subst hc__); rotate_left; intro hc__; rotate_left)
      | (with_reducible apply wp_eq; (with_reducible apply cl_go; simp (disch := omega) only [not_false_eq_true, not_true_eq_false, w32_id, tLt, fLt, tLe, fEq, itE, and_true, true_and, and_self, and_false, false_and, ↓reduceIte, nat_add, nat_mul3, nat_mul4, nat_mul6, nat_mul15, nat_mul60, nat_cast, nc1, Int.reduceToNat, upE, upN, fill_ne, fill_in, i0]; with_reducible exact rfl))
      | (with_reducible apply wp_eq; (with_reducible apply lf_go; simp (disch := omega) only [not_false_eq_true, not_true_eq_false, w32_id, tLt, fLt, tLe, fEq, itE, and_true, true_and, and_self, and_false, false_and, ↓reduceIte, nat_add, nat_mul3, nat_mul4, nat_mul6, nat_mul15, nat_mul60, nat_cast, nc1, Int.reduceToNat, upE, upN, fill_ne, fill_in, i0]; with_reducible exact rfl))
      | with_reducible apply wp_q1
    refine wp_qv (v_paysWage (by omega) hc hvc hA1 hC hN hV1 (flB_bd hC _) hS1.1) fun M2 hV2 hf2 => ?_
    have hA2 : ChW M2 c A := hA1.frame hC fun b i q1 q2 => hf2 b i (by omega) (by omega) (by omega)
    have hL2 : Ld (ld7 (payB A (sdN A B j) (flB A (sdN A B j)))) := fun g hg => by
      have := hS1.2 g hg
      unfold ld7 at this ⊢
      rw [pay_o (by omega) (by omega)]
      exact this
    have e2 := v_leaks (L := L) (d := d - 1) (by omega) hc hv hvc hA2 hC hG hV2 hL2
    have hV3 := v_leaksV hC hV2
    have l01 := lost_01 A (payB A (sdN A B j) (flB A (sdN A B j))) (A 1).toNat
    by_cases z : lost A (payB A (sdN A B j) (flB A (sdN A B j))) (A 1).toNat = 0
    · have ef : flB A (sdN A B (j + 1)) = flB A (sdN A B j) := by
        show flB A (lkB A (payB A (sdN A B j) (flB A (sdN A B j)))) = _
        rw [flB_congr hC (lk_same hL2 hG z)]
        exact flB_congr hC fun g hg => by unfold ld7; rw [pay_o (by omega) (by omega)]
      repeat' first
        | (with_reducible apply wp_bR; (simp (disch := omega) only [rM L, rK L, rN L, rNf, rNv, rNp, rNd, rRow, rLeg, rMark, nat_cast, Int.reduceToNat]; with_reducible exact rfl))
        | with_reducible apply wp_bI
        | with_reducible apply wp_bV
        | with_reducible apply wp_bL
        | with_reducible apply wp_rI
        | with_reducible apply wp_rV
        | with_reducible apply wp_rL
        | (with_reducible apply wp_1; (first | omega | (simp (disch := omega) only [not_false_eq_true, not_true_eq_false, w32_id, tLt, fLt, tLe, fEq, itE, and_true, true_and, and_self, and_false, false_and, ↓reduceIte, nat_add, nat_mul3, nat_mul4, nat_mul6, nat_mul15, nat_mul60, nat_cast, nc1, Int.reduceToNat, upE, upN, fill_ne, fill_in, i0] <;> omega)))
        | (with_reducible apply wp_2; (first | omega | (simp (disch := omega) only [not_false_eq_true, not_true_eq_false, w32_id, tLt, fLt, tLe, fEq, itE, and_true, true_and, and_self, and_false, false_and, ↓reduceIte, nat_add, nat_mul3, nat_mul4, nat_mul6, nat_mul15, nat_mul60, nat_cast, nc1, Int.reduceToNat, upE, upN, fill_ne, fill_in, i0] <;> omega)))
        | (with_reducible apply wp_s; (first | (simp (disch := omega) only [not_false_eq_true, not_true_eq_false, w32_id, tLt, fLt, tLe, fEq, itE, and_true, true_and, and_self, and_false, false_and, ↓reduceIte, nat_add, nat_mul3, nat_mul4, nat_mul6, nat_mul15, nat_mul60, nat_cast, nc1, Int.reduceToNat, upE, upN, fill_ne, fill_in, i0]; with_reducible exact Iff.rfl) | with_reducible exact Iff.rfl); intro hc__; (try subst hc__); rotate_left; intro hc__; rotate_left)
        | (with_reducible apply wp_eq; (with_reducible apply cl_go; simp (disch := omega) only [not_false_eq_true, not_true_eq_false, w32_id, tLt, fLt, tLe, fEq, itE, and_true, true_and, and_self, and_false, false_and, ↓reduceIte, nat_add, nat_mul3, nat_mul4, nat_mul6, nat_mul15, nat_mul60, nat_cast, nc1, Int.reduceToNat, upE, upN, fill_ne, fill_in, i0]; with_reducible exact rfl))
        | with_reducible refine wp_eq (e2) ?_
        | (with_reducible apply wp_eq; (with_reducible apply lf_go; simp (disch := omega) only [not_false_eq_true, not_true_eq_false, w32_id, tLt, fLt, tLe, fEq, itE, and_true, true_and, and_self, and_false, false_and, ↓reduceIte, nat_add, nat_mul3, nat_mul4, nat_mul6, nat_mul15, nat_mul60, nat_cast, nc1, Int.reduceToNat, upE, upN, fill_ne, fill_in, i0]; with_reducible exact rfl))
        | with_reducible apply wp_q1
      all_goals (apply wp_nx ih; (first | with_reducible rfl | (simp (disch := omega) only [not_false_eq_true, not_true_eq_false, w32_id, tLt, fLt, tLe, fEq, itE, and_true, true_and, and_self, and_false, false_and, ↓reduceIte, nat_add, nat_mul3, nat_mul4, nat_mul6, nat_mul15, nat_mul60, nat_cast, nc1, Int.reduceToNat, upE, upN, fill_ne, fill_in, i0, ef]; (try with_reducible rfl))); exact ⟨hV3, fun b i q1 q2 q3 => by rw [fill_ne (by omega), hf2 b i q1 q2 q3]; exact hf b i q1 q2 q3⟩)
    · generalize hM3 : fillP M2 (v + 1) (fun g => max 0 (payB A (sdN A B j) (flB A (sdN A B j)) (7 + g) - A (34 + 3 * g))) (A 1).toNat = M3 at *
      have hf3 : ∀ b i, b ≠ v → b ≠ v + 1 → b ≠ c + 29 → M3 b i = M b i := fun b i q1 q2 q3 => by rw [← hM3, fill_ne (by omega), hf2 b i q1 q2 q3]; exact hf b i q1 q2 q3
      have hA3 : ChW M3 c A := hA.frame hC fun b i q1 q2 => hf3 b i (by omega) (by omega) (by omega)
      have hlw3 := hA3.2.1
      have hS3 := SeaI.sdN hC hG hN hS (j + 1)
      have e3 := v_ruler (L := L) (d := d - 1) (B := sdN A B (j + 1)) (by omega) hc hvc hA3 hC hG hV3 hS3.2
      repeat' first
        | (with_reducible apply wp_bR; (simp (disch := omega) only [rM L, rK L, rN L, rNf, rNv, rNp, rNd, rRow, rLeg, rMark, nat_cast, Int.reduceToNat, rV hv, hlw3]; with_reducible exact rfl))
        | with_reducible apply wp_bI
        | with_reducible apply wp_bV
        | with_reducible apply wp_bL
        | with_reducible apply wp_rI
        | with_reducible apply wp_rV
        | with_reducible apply wp_rL
        | (with_reducible apply wp_1; (first | omega | (simp (disch := omega) only [not_false_eq_true, not_true_eq_false, w32_id, tLt, fLt, tLe, fEq, itE, and_true, true_and, and_self, and_false, false_and, ↓reduceIte, nat_add, nat_mul3, nat_mul4, nat_mul6, nat_mul15, nat_mul60, nat_cast, nc1, Int.reduceToNat, upE, upN, fill_ne, fill_in, i0, rV hv, hlw3] <;> omega)))
        | (with_reducible apply wp_2; (first | omega | (simp (disch := omega) only [not_false_eq_true, not_true_eq_false, w32_id, tLt, fLt, tLe, fEq, itE, and_true, true_and, and_self, and_false, false_and, ↓reduceIte, nat_add, nat_mul3, nat_mul4, nat_mul6, nat_mul15, nat_mul60, nat_cast, nc1, Int.reduceToNat, upE, upN, fill_ne, fill_in, i0, rV hv, hlw3] <;> omega)))
        | (with_reducible apply wp_s; (first | (simp (disch := omega) only [not_false_eq_true, not_true_eq_false, w32_id, tLt, fLt, tLe, fEq, itE, and_true, true_and, and_self, and_false, false_and, ↓reduceIte, nat_add, nat_mul3, nat_mul4, nat_mul6, nat_mul15, nat_mul60, nat_cast, nc1, Int.reduceToNat, upE, upN, fill_ne, fill_in, i0, rV hv, hlw3]; with_reducible exact Iff.rfl) | with_reducible exact Iff.rfl); intro hc__; (try subst hc__); rotate_left; intro hc__; rotate_left)
        | (with_reducible apply wp_eq; (with_reducible apply cl_go; simp (disch := omega) only [not_false_eq_true, not_true_eq_false, w32_id, tLt, fLt, tLe, fEq, itE, and_true, true_and, and_self, and_false, false_and, ↓reduceIte, nat_add, nat_mul3, nat_mul4, nat_mul6, nat_mul15, nat_mul60, nat_cast, nc1, Int.reduceToNat, upE, upN, fill_ne, fill_in, i0, rV hv, hlw3]; with_reducible exact rfl))
        | with_reducible refine wp_eq (e2) ?_
        | with_reducible refine wp_eq (e3) ?_
        | (with_reducible apply wp_eq; (with_reducible apply lf_go; simp (disch := omega) only [not_false_eq_true, not_true_eq_false, w32_id, tLt, fLt, tLe, fEq, itE, and_true, true_and, and_self, and_false, false_and, ↓reduceIte, nat_add, nat_mul3, nat_mul4, nat_mul6, nat_mul15, nat_mul60, nat_cast, nc1, Int.reduceToNat, upE, upN, fill_ne, fill_in, i0, rV hv, hlw3]; with_reducible exact rfl))
        | with_reducible apply wp_q1
      all_goals (apply wp_nx ih; (first | with_reducible rfl | (simp (disch := omega) only [not_false_eq_true, not_true_eq_false, w32_id, tLt, fLt, tLe, fEq, itE, and_true, true_and, and_self, and_false, false_and, ↓reduceIte, nat_add, nat_mul3, nat_mul4, nat_mul6, nat_mul15, nat_mul60, nat_cast, nc1, Int.reduceToNat, upE, upN, fill_ne, fill_in, i0]; (try with_reducible rfl))); exact ⟨hV3.frame (fun i hi => fill_ne (by omega)) (fun i hi => fill_ne (by omega)), fun b i q1 q2 q3 => by rw [fill_ne (by omega)]; exact hf3 b i q1 q2 q3⟩)
  · intro M1 ⟨hV1, hf⟩
    have hS1 := SeaI.sdN hC hG hN hS k
    have hA1 : ChW M1 c A := hA.frame hC fun b i q1 q2 => hf b i (by omega) (by omega) (by omega)
    have hw1 := hV1.1
    have b2 : sdN A B k 2 = B 2 := sdN_o (by omega) (by omega) (by omega) k
    have b1 : sdN A B k 1 = B 1 := sdN_o (by omega) (by omega) (by omega) k
    unfold sonB
    refine wp_eq (b_Vessel_sailsOn_26 _ _ _ _ _ _ _ _ _) ?_
    by_cases q : 0 < B 2 - k
    · rw [if_pos q, if_pos q]
      repeat' first
        | (with_reducible apply wp_bR; (simp (disch := omega) only [rM L, rK L, rN L, rNf, rNv, rNp, rNd, rRow, rLeg, rMark, nat_cast, Int.reduceToNat, hw1, b2]; with_reducible exact rfl))
        | with_reducible apply wp_bI
        | with_reducible apply wp_bV
        | with_reducible apply wp_bL
        | with_reducible apply wp_rI
        | with_reducible apply wp_rV
        | with_reducible apply wp_rL
        | (with_reducible apply wp_1; (first | omega | (simp (disch := omega) only [not_false_eq_true, not_true_eq_false, w32_id, tLt, fLt, tLe, fEq, itE, and_true, true_and, and_self, and_false, false_and, ↓reduceIte, nat_add, nat_mul3, nat_mul4, nat_mul6, nat_mul15, nat_mul60, nat_cast, nc1, Int.reduceToNat, upE, upN, fill_ne, fill_in, i0, hw1, b2] <;> omega)))
        | (with_reducible apply wp_2; (first | omega | (simp (disch := omega) only [not_false_eq_true, not_true_eq_false, w32_id, tLt, fLt, tLe, fEq, itE, and_true, true_and, and_self, and_false, false_and, ↓reduceIte, nat_add, nat_mul3, nat_mul4, nat_mul6, nat_mul15, nat_mul60, nat_cast, nc1, Int.reduceToNat, upE, upN, fill_ne, fill_in, i0, hw1, b2] <;> omega)))
        | (with_reducible apply wp_s; (first | (simp (disch := omega) only [not_false_eq_true, not_true_eq_false, w32_id, tLt, fLt, tLe, fEq, itE, and_true, true_and, and_self, and_false, false_and, ↓reduceIte, nat_add, nat_mul3, nat_mul4, nat_mul6, nat_mul15, nat_mul60, nat_cast, nc1, Int.reduceToNat, upE, upN, fill_ne, fill_in, i0, hw1, b2]; with_reducible exact Iff.rfl) | with_reducible exact Iff.rfl); intro hc__; (try subst hc__); rotate_left; intro hc__; rotate_left)
        | (with_reducible apply wp_eq; (with_reducible apply cl_go; simp (disch := omega) only [not_false_eq_true, not_true_eq_false, w32_id, tLt, fLt, tLe, fEq, itE, and_true, true_and, and_self, and_false, false_and, ↓reduceIte, nat_add, nat_mul3, nat_mul4, nat_mul6, nat_mul15, nat_mul60, nat_cast, nc1, Int.reduceToNat, upE, upN, fill_ne, fill_in, i0, hw1, b2]; with_reducible exact rfl))
        | (with_reducible apply wp_eq; (with_reducible apply lf_go; simp (disch := omega) only [not_false_eq_true, not_true_eq_false, w32_id, tLt, fLt, tLe, fEq, itE, and_true, true_and, and_self, and_false, false_and, ↓reduceIte, nat_add, nat_mul3, nat_mul4, nat_mul6, nat_mul15, nat_mul60, nat_cast, nc1, Int.reduceToNat, upE, upN, fill_ne, fill_in, i0, hw1, b2]; with_reducible exact rfl))
        | with_reducible apply wp_q1
      refine wp_vs rfl ⟨fun w hw' => ?_, fun g hg => ?_⟩ fun b j q1 q2 q3 => ?_
      · by_cases e : w = 2
        · subst e; rw [upE rfl rfl, wUE rfl]
        · rw [upN (by omega), wUN e]; exact hw1 w hw'
      · rw [upN (by omega), wUN (by omega)]; exact hV1.2 g hg
      · rw [upN (by omega)]; exact hf b j q1 q2 q3
    · rw [if_neg q, if_neg q]
      repeat' first
        | (with_reducible apply wp_bR; (simp (disch := omega) only [rM L, rK L, rN L, rNf, rNv, rNp, rNd, rRow, rLeg, rMark, nat_cast, Int.reduceToNat, hw1, b2, b1]; with_reducible exact rfl))
        | with_reducible apply wp_bI
        | with_reducible apply wp_bV
        | with_reducible apply wp_bL
        | with_reducible apply wp_rI
        | with_reducible apply wp_rV
        | with_reducible apply wp_rL
        | (with_reducible apply wp_1; (first | omega | (simp (disch := omega) only [not_false_eq_true, not_true_eq_false, w32_id, tLt, fLt, tLe, fEq, itE, and_true, true_and, and_self, and_false, false_and, ↓reduceIte, nat_add, nat_mul3, nat_mul4, nat_mul6, nat_mul15, nat_mul60, nat_cast, nc1, Int.reduceToNat, upE, upN, fill_ne, fill_in, i0, hw1, b2, b1] <;> omega)))
        | (with_reducible apply wp_2; (first | omega | (simp (disch := omega) only [not_false_eq_true, not_true_eq_false, w32_id, tLt, fLt, tLe, fEq, itE, and_true, true_and, and_self, and_false, false_and, ↓reduceIte, nat_add, nat_mul3, nat_mul4, nat_mul6, nat_mul15, nat_mul60, nat_cast, nc1, Int.reduceToNat, upE, upN, fill_ne, fill_in, i0, hw1, b2, b1] <;> omega)))
        | (with_reducible apply wp_s; (first | (simp (disch := omega) only [not_false_eq_true, not_true_eq_false, w32_id, tLt, fLt, tLe, fEq, itE, and_true, true_and, and_self, and_false, false_and, ↓reduceIte, nat_add, nat_mul3, nat_mul4, nat_mul6, nat_mul15, nat_mul60, nat_cast, nc1, Int.reduceToNat, upE, upN, fill_ne, fill_in, i0, hw1, b2, b1]; with_reducible exact Iff.rfl) | with_reducible exact Iff.rfl); intro hc__; (try subst hc__); rotate_left; intro hc__; rotate_left)
        | (with_reducible apply wp_eq; (with_reducible apply cl_go; simp (disch := omega) only [not_false_eq_true, not_true_eq_false, w32_id, tLt, fLt, tLe, fEq, itE, and_true, true_and, and_self, and_false, false_and, ↓reduceIte, nat_add, nat_mul3, nat_mul4, nat_mul6, nat_mul15, nat_mul60, nat_cast, nc1, Int.reduceToNat, upE, upN, fill_ne, fill_in, i0, hw1, b2, b1]; with_reducible exact rfl))
        | (with_reducible apply wp_eq; (with_reducible apply lf_go; simp (disch := omega) only [not_false_eq_true, not_true_eq_false, w32_id, tLt, fLt, tLe, fEq, itE, and_true, true_and, and_self, and_false, false_and, ↓reduceIte, nat_add, nat_mul3, nat_mul4, nat_mul6, nat_mul15, nat_mul60, nat_cast, nc1, Int.reduceToNat, upE, upN, fill_ne, fill_in, i0, hw1, b2, b1]; with_reducible exact rfl))
        | with_reducible apply wp_q1
      have hV2 : VsW (up (up (up M1 v 2 (B 2 - k)) v 0 (B 1)) v 1 (-1)) v (wU (wU (wU (sdN A B k) 2 (B 2 - k)) 0 (B 1)) 1 (-1)) := by
        refine ⟨fun w hw' => ?_, fun g hg => ?_⟩
        · by_cases e : w = 1
          · subst e; rw [upE rfl rfl, wUE rfl]
          · rw [upN (by omega), wUN e]
            by_cases e : w = 0
            · subst e; rw [upE rfl rfl, wUE rfl]
            · rw [upN (by omega), wUN e]
              by_cases e : w = 2
              · subst e; rw [upE rfl rfl, wUE rfl]
              · rw [upN (by omega), wUN e]; exact hw1 w hw'
        · rw [upN (by omega), upN (by omega), upN (by omega), wUN (by omega), wUN (by omega), wUN (by omega)]; exact hV1.2 g hg
      have hA2 : ChW (up (up (up M1 v 2 (B 2 - k)) v 0 (B 1)) v 1 (-1)) c A := hA1.frame hC fun b i q1 q2 => by rw [upN (by omega), upN (by omega), upN (by omega)]
      have hS2 : SeaI (wU (wU (wU (sdN A B k) 2 (B 2 - k)) 0 (B 1)) 1 (-1)) := by
        refine ⟨?_, fun g hg => ?_⟩
        · rw [wUN (by omega), wUN (by omega), wUN (by omega)]; exact hS1.1
        · unfold ld7
          rw [wUN (by omega), wUN (by omega), wUN (by omega)]; exact hS1.2 g hg
      refine wp_qv (v_paysDuty (by omega) hc hv hvc hA2 hC hN hPt hV2 hS2 (by rw [wUN (by omega), wUE rfl]; exact h1.1) (by rw [wUN (by omega), wUE rfl]; exact h1.2) _) fun M2 hV2 hf2 => ?_
      repeat' first
        | (with_reducible apply wp_bR; (simp (disch := omega) only [rM L, rK L, rN L, rNf, rNv, rNp, rNd, rRow, rLeg, rMark, nat_cast, Int.reduceToNat]; with_reducible exact rfl))
        | with_reducible apply wp_bI
        | with_reducible apply wp_bV
        | with_reducible apply wp_bL
        | with_reducible apply wp_rI
        | with_reducible apply wp_rV
        | with_reducible apply wp_rL
        | (with_reducible apply wp_1; (first | omega | (simp (disch := omega) only [not_false_eq_true, not_true_eq_false, w32_id, tLt, fLt, tLe, fEq, itE, and_true, true_and, and_self, and_false, false_and, ↓reduceIte, nat_add, nat_mul3, nat_mul4, nat_mul6, nat_mul15, nat_mul60, nat_cast, nc1, Int.reduceToNat, upE, upN, fill_ne, fill_in, i0] <;> omega)))
        | (with_reducible apply wp_2; (first | omega | (simp (disch := omega) only [not_false_eq_true, not_true_eq_false, w32_id, tLt, fLt, tLe, fEq, itE, and_true, true_and, and_self, and_false, false_and, ↓reduceIte, nat_add, nat_mul3, nat_mul4, nat_mul6, nat_mul15, nat_mul60, nat_cast, nc1, Int.reduceToNat, upE, upN, fill_ne, fill_in, i0] <;> omega)))
        | (with_reducible apply wp_s; (first | (simp (disch := omega) only [not_false_eq_true, not_true_eq_false, w32_id, tLt, fLt, tLe, fEq, itE, and_true, true_and, and_self, and_false, false_and, ↓reduceIte, nat_add, nat_mul3, nat_mul4, nat_mul6, nat_mul15, nat_mul60, nat_cast, nc1, Int.reduceToNat, upE, upN, fill_ne, fill_in, i0]; with_reducible exact Iff.rfl) | with_reducible exact Iff.rfl); intro hc__; (try subst hc__); rotate_left; intro hc__; rotate_left)
        | (with_reducible apply wp_eq; (with_reducible apply cl_go; simp (disch := omega) only [not_false_eq_true, not_true_eq_false, w32_id, tLt, fLt, tLe, fEq, itE, and_true, true_and, and_self, and_false, false_and, ↓reduceIte, nat_add, nat_mul3, nat_mul4, nat_mul6, nat_mul15, nat_mul60, nat_cast, nc1, Int.reduceToNat, upE, upN, fill_ne, fill_in, i0]; with_reducible exact rfl))
        | (with_reducible apply wp_eq; (with_reducible apply lf_go; simp (disch := omega) only [not_false_eq_true, not_true_eq_false, w32_id, tLt, fLt, tLe, fEq, itE, and_true, true_and, and_self, and_false, false_and, ↓reduceIte, nat_add, nat_mul3, nat_mul4, nat_mul6, nat_mul15, nat_mul60, nat_cast, nc1, Int.reduceToNat, upE, upN, fill_ne, fill_in, i0]; with_reducible exact rfl))
        | with_reducible apply wp_q1
      exact wp_vs rfl hV2 fun b j q1 q2 q3 => by rw [hf2 b j q1 q2 q3, upN (by omega), upN (by omega), upN (by omega)]; exact hf b j q1 q2 q3
  · exact ⟨hV.frame (fun i hi => fill_ne (by omega)) (fun i hi => fill_ne (by omega)), fun b i q1 q2 q3 => fill_ne (by omega)⟩
end

/-! A DAY OF A SHIP, in the class -/
def lkB (A B : Nat → Int) (w : Nat) : Int := if 7 ≤ w ∧ w < 15 ∧ ((w - 7 : Nat) : Int) < A 1 then max 0 (B w - A (34 + 3 * (w - 7))) else B w
def flB (A B : Nat → Int) : Int := flg (fun n => wts A (ld7 B) (A 4) n) (A 0).toNat
def payB (A B : Nat → Int) (f : Int) : Nat → Int := if f = -1 then B else if B 4 < A (8 + 4 * f.toNat) then wU B 5 (w32 (B 5 + 1)) else wU B 4 (B 4 - A (8 + 4 * f.toNat))
def cinB (A B : Nat → Int) : Nat → Int := if A (56 + 15 * (B 1).toNat) = -1 then wU (wU B 0 (B 1)) 1 (-1) else if flB A B = A (56 + 15 * (B 1).toNat) then wU (wU B 0 (B 1)) 1 (-1) else wU (wU (wU (wU B 0 (B 1)) 1 (-1)) 4 (B 4 - min (B 4) (A (9 + 4 * (A (56 + 15 * (B 1).toNat)).toNat) * sm (ld7 B) 8))) 6 (w32 (B 6 + min (B 4) (A (9 + 4 * (A (56 + 15 * (B 1).toNat)).toNat) * sm (ld7 B) 8)))
def QVs (L v c : Nat) (M : Mm) (B' : Nat → Int) (r : Option AV) : Option AV → Sp → Mm → Prop := fun r' S M' => r' = r ∧ S = SH L ∧ VsW M' v B' ∧ ∀ b j, b ≠ v → b ≠ v + 1 → b ≠ c + 29 → M' b j = M b j
theorem wp_vs {L v c : Nat} {M M' : Mm} {B' : Nat → Int} {r r' : Option AV} (hr : r' = r) (hV : VsW M' v B') (hf : ∀ b j, b ≠ v → b ≠ v + 1 → b ≠ c + 29 → M' b j = M b j) : Wp (some (r', SH L, M')) (QVs L v c M B' r) := ⟨_, _, _, rfl, hr, rfl, hV, hf⟩
theorem wp_qv {L v c : Nat} {M : Mm} {B' : Nat → Int} {r : Option AV} {o : Option Rs} {Q : Option AV → Sp → Mm → Prop} (h : Wp o (QVs L v c M B' r)) (h' : ∀ M', VsW M' v B' → (∀ b j, b ≠ v → b ≠ v + 1 → b ≠ c + 29 → M' b j = M b j) → Wp (some (r, SH L, M')) Q) : Wp o Q := by
  obtain ⟨_, _, M', e, rfl, rfl, h1, h2⟩ := h
  rw [e]
  exact h' M' h1 h2
theorem ChW.frame {M M' : Mm} {c : Nat} {A : Nat → Int} (h : ChW M c A) (hC : Cn A) (e : ∀ b j, c ≤ b → b ≤ c + 28 → M' b j = M b j) : ChW M' c A := by
  unfold Cn at hC
  obtain ⟨h1, h2, h3, h4, h5, h6, h7⟩ := h
  refine ⟨fun k hk => ?_, ?_, fun n hn => ?_, fun g hg => ?_, fun p hp => ?_, fun p g hp hg => ?_, fun p q hp hq => ?_⟩
  · rw [e _ _ (by omega) (by omega)]; exact h1 k hk
  · rw [e _ _ (by omega) (by omega)]; exact h2
  · rw [e _ _ (by omega) (by omega), e _ _ (by omega) (by omega), e _ _ (by omega) (by omega), e _ _ (by omega) (by omega)]; exact h3 n hn
  · rw [e _ _ (by omega) (by omega), e _ _ (by omega) (by omega), e _ _ (by omega) (by omega)]; exact h4 g hg
  · rw [e _ _ (by omega) (by omega)]; exact h5 p hp
  · rw [e _ _ (by omega) (by omega)]; exact h6 p g hp hg
  · rw [e _ _ (by omega) (by omega)]; exact h7 p q hp hq
/-- a vessel and a chart lie apart -/
def apt (v c : Nat) : Prop := v + 1 < c ∨ c + 30 < v
section
variable {M : Mm} {A B : Nat → Int} {L d v c : Nat}
theorem VsW.frame {M' : Mm} (h : VsW M v B) (e : ∀ j, j < 7 → M' v j = M v j) (e' : ∀ j, j < 8 → M' (v + 1) j = M (v + 1) j) : VsW M' v B := ⟨fun w hw => by rw [e w hw]; exact h.1 w hw, fun g hg => by rw [e' g hg]; exact h.2 g hg⟩
theorem v_ruler (hd : 2 ≤ d) (hc : isCh c) (hv : apt v c) (hA : ChW M c A) (hC : Cn A) (hG : Gd A) (hV : VsW M v B) (hL : Ld (ld7 B)) : callD d m_Chart_ruler [vR 0 0 c, vR 20 8 (v + 1), vI (A 4)] (SH L) M = some (some (vI (flB A B)), SH L, fillP M (c + 29) (fun n => wts A (ld7 B) (A 4) n) (A 0).toNat) := by
  unfold Cn at hC
  exact s_Chart_ruler hd hc hA hC hG (fun g hg => hV.2 g (by omega)) hL (by unfold apt at hv; omega)
theorem v_paysWage (hd : 1 ≤ d) (hc : isCh c) (hv : apt v c) (hA : ChW M c A) (hC : Cn A) (hN : Nt A) (hV : VsW M v B) {f : Int} (hf : f = -1 ∨ 0 ≤ f ∧ f < A 0) (h4 : 0 ≤ B 4 ∧ B 4 ≤ 9999) : Wp (callD d m_Vessel_paysWage [vR 8 0 v, vR 0 0 c, vI f] (SH L) M) (QVs L v c M (payB A B f) none) := by
  have hC' := hC
  unfold Cn at hC'
  unfold apt at hv
  have hw := hV.1
  have hl := hV.2
  unfold payB
  by_cases e : f = -1
  · rw [if_pos e]
    repeat' first
      | (with_reducible apply wp_bR; (simp (disch := omega) only [rM L, rK L, rN L, rNf, rNv, rNp, rNd, rRow, rLeg, rMark, nat_cast, Int.reduceToNat]; with_reducible exact rfl))
      | with_reducible apply wp_bI
      | with_reducible apply wp_bV
      | with_reducible apply wp_bL
      | with_reducible apply wp_rI
      | with_reducible apply wp_rV
      | with_reducible apply wp_rL
      | (with_reducible apply wp_1; (first | omega | (simp (disch := omega) only [not_false_eq_true, not_true_eq_false, w32_id, tLt, fLt, tLe, fEq, itE, and_true, true_and, and_self, and_false, false_and, ↓reduceIte, nat_add, nat_mul3, nat_mul4, nat_mul6, nat_mul15, nat_mul60, nat_cast, nc1, Int.reduceToNat, upE, upN, fill_ne, fill_in, i0] <;> omega)))
      | (with_reducible apply wp_2; (first | omega | (simp (disch := omega) only [not_false_eq_true, not_true_eq_false, w32_id, tLt, fLt, tLe, fEq, itE, and_true, true_and, and_self, and_false, false_and, ↓reduceIte, nat_add, nat_mul3, nat_mul4, nat_mul6, nat_mul15, nat_mul60, nat_cast, nc1, Int.reduceToNat, upE, upN, fill_ne, fill_in, i0] <;> omega)))
      | (with_reducible apply wp_s; (first | (simp (disch := omega) only [not_false_eq_true, not_true_eq_false, w32_id, tLt, fLt, tLe, fEq, itE, and_true, true_and, and_self, and_false, false_and, ↓reduceIte, nat_add, nat_mul3, nat_mul4, nat_mul6, nat_mul15, nat_mul60, nat_cast, nc1, Int.reduceToNat, upE, upN, fill_ne, fill_in, i0]; with_reducible exact Iff.rfl) | with_reducible exact Iff.rfl); intro hc__; (try subst hc__); rotate_left; intro hc__; rotate_left)
      | (with_reducible apply wp_eq; (with_reducible apply cl_go; simp (disch := omega) only [not_false_eq_true, not_true_eq_false, w32_id, tLt, fLt, tLe, fEq, itE, and_true, true_and, and_self, and_false, false_and, ↓reduceIte, nat_add, nat_mul3, nat_mul4, nat_mul6, nat_mul15, nat_mul60, nat_cast, nc1, Int.reduceToNat, upE, upN, fill_ne, fill_in, i0]; with_reducible exact rfl))
      | (with_reducible refine wp_eq (c_Vessel_paysWage (by omega) _ _ _ _ _) ?_; with_reducible refine wp_eq (b_Vessel_paysWage_0 _ _ _ _ _ _) ?_)
      | (with_reducible apply wp_eq; (with_reducible apply lf_go; simp (disch := omega) only [not_false_eq_true, not_true_eq_false, w32_id, tLt, fLt, tLe, fEq, itE, and_true, true_and, and_self, and_false, false_and, ↓reduceIte, nat_add, nat_mul3, nat_mul4, nat_mul6, nat_mul15, nat_mul60, nat_cast, nc1, Int.reduceToNat, upE, upN, fill_ne, fill_in, i0]; with_reducible exact rfl))
      | with_reducible apply wp_q1
    exact wp_vs rfl hV fun _ _ _ _ _ => rfl
  · rw [if_neg e]
    have nb := hN f.toNat (by omega)
    have hwg : M (c + 7) f.toNat = A (8 + 4 * f.toNat) := (hA.2.2.1 f.toNat (by omega)).1
    by_cases e2 : B 4 < A (8 + 4 * f.toNat)
    · rw [if_pos e2]
      repeat' first
        | (with_reducible apply wp_bR; (simp (disch := omega) only [rM L, rK L, rN L, rNf, rNv, rNp, rNd, rRow, rLeg, rMark, nat_cast, Int.reduceToNat, rC hc, hw, hwg]; with_reducible exact rfl))
        | with_reducible apply wp_bI
        | with_reducible apply wp_bV
        | with_reducible apply wp_bL
        | with_reducible apply wp_rI
        | with_reducible apply wp_rV
        | with_reducible apply wp_rL
        | (with_reducible apply wp_1; (first | omega | (simp (disch := omega) only [not_false_eq_true, not_true_eq_false, w32_id, tLt, fLt, tLe, fEq, itE, and_true, true_and, and_self, and_false, false_and, ↓reduceIte, nat_add, nat_mul3, nat_mul4, nat_mul6, nat_mul15, nat_mul60, nat_cast, nc1, Int.reduceToNat, upE, upN, fill_ne, fill_in, i0, rC hc, hw, hwg] <;> omega)))
        | (with_reducible apply wp_2; (first | omega | (simp (disch := omega) only [not_false_eq_true, not_true_eq_false, w32_id, tLt, fLt, tLe, fEq, itE, and_true, true_and, and_self, and_false, false_and, ↓reduceIte, nat_add, nat_mul3, nat_mul4, nat_mul6, nat_mul15, nat_mul60, nat_cast, nc1, Int.reduceToNat, upE, upN, fill_ne, fill_in, i0, rC hc, hw, hwg] <;> omega)))
        | (with_reducible apply wp_s; (first | (simp (disch := omega) only [not_false_eq_true, not_true_eq_false, w32_id, tLt, fLt, tLe, fEq, itE, and_true, true_and, and_self, and_false, false_and, ↓reduceIte, nat_add, nat_mul3, nat_mul4, nat_mul6, nat_mul15, nat_mul60, nat_cast, nc1, Int.reduceToNat, upE, upN, fill_ne, fill_in, i0, rC hc, hw, hwg]; with_reducible exact Iff.rfl) | with_reducible exact Iff.rfl); intro hc__; (try subst hc__); rotate_left; intro hc__; rotate_left)
        | (with_reducible apply wp_eq; (with_reducible apply cl_go; simp (disch := omega) only [not_false_eq_true, not_true_eq_false, w32_id, tLt, fLt, tLe, fEq, itE, and_true, true_and, and_self, and_false, false_and, ↓reduceIte, nat_add, nat_mul3, nat_mul4, nat_mul6, nat_mul15, nat_mul60, nat_cast, nc1, Int.reduceToNat, upE, upN, fill_ne, fill_in, i0, rC hc, hw, hwg]; with_reducible exact rfl))
        | (with_reducible refine wp_eq (c_Vessel_paysWage (by omega) _ _ _ _ _) ?_; with_reducible refine wp_eq (b_Vessel_paysWage_0 _ _ _ _ _ _) ?_)
        | (with_reducible apply wp_eq; (with_reducible apply lf_go; simp (disch := omega) only [not_false_eq_true, not_true_eq_false, w32_id, tLt, fLt, tLe, fEq, itE, and_true, true_and, and_self, and_false, false_and, ↓reduceIte, nat_add, nat_mul3, nat_mul4, nat_mul6, nat_mul15, nat_mul60, nat_cast, nc1, Int.reduceToNat, upE, upN, fill_ne, fill_in, i0, rC hc, hw, hwg]; with_reducible exact rfl))
        | with_reducible apply wp_q1
      refine wp_vs rfl ⟨fun w hw' => ?_, fun g hg => ?_⟩ fun b j h1 h2 h3 => ?_
      · by_cases q : w = 5
        · subst q; rw [upE rfl rfl, wUE rfl]
        · rw [upN (by omega), wUN q]; exact hw w hw'
      · rw [upN (by omega), wUN (by omega)]; exact hl g hg
      · rw [upN (by omega)]
    · rw [if_neg e2]
      repeat' first
        | (with_reducible apply wp_bR; (simp (disch := omega) only [rM L, rK L, rN L, rNf, rNv, rNp, rNd, rRow, rLeg, rMark, nat_cast, Int.reduceToNat, rC hc, hw, hwg]; with_reducible exact rfl))
        | with_reducible apply wp_bI
        | with_reducible apply wp_bV
        | with_reducible apply wp_bL
        | with_reducible apply wp_rI
        | with_reducible apply wp_rV
        | with_reducible apply wp_rL
        | (with_reducible apply wp_1; (first | omega | (simp (disch := omega) only [not_false_eq_true, not_true_eq_false, w32_id, tLt, fLt, tLe, fEq, itE, and_true, true_and, and_self, and_false, false_and, ↓reduceIte, nat_add, nat_mul3, nat_mul4, nat_mul6, nat_mul15, nat_mul60, nat_cast, nc1, Int.reduceToNat, upE, upN, fill_ne, fill_in, i0, rC hc, hw, hwg] <;> omega)))
        | (with_reducible apply wp_2; (first | omega | (simp (disch := omega) only [not_false_eq_true, not_true_eq_false, w32_id, tLt, fLt, tLe, fEq, itE, and_true, true_and, and_self, and_false, false_and, ↓reduceIte, nat_add, nat_mul3, nat_mul4, nat_mul6, nat_mul15, nat_mul60, nat_cast, nc1, Int.reduceToNat, upE, upN, fill_ne, fill_in, i0, rC hc, hw, hwg] <;> omega)))
        | (with_reducible apply wp_s; (first | (simp (disch := omega) only [not_false_eq_true, not_true_eq_false, w32_id, tLt, fLt, tLe, fEq, itE, and_true, true_and, and_self, and_false, false_and, ↓reduceIte, nat_add, nat_mul3, nat_mul4, nat_mul6, nat_mul15, nat_mul60, nat_cast, nc1, Int.reduceToNat, upE, upN, fill_ne, fill_in, i0, rC hc, hw, hwg]; with_reducible exact Iff.rfl) | with_reducible exact Iff.rfl); intro hc__; (try subst hc__); rotate_left; intro hc__; rotate_left)
        | (with_reducible apply wp_eq; (with_reducible apply cl_go; simp (disch := omega) only [not_false_eq_true, not_true_eq_false, w32_id, tLt, fLt, tLe, fEq, itE, and_true, true_and, and_self, and_false, false_and, ↓reduceIte, nat_add, nat_mul3, nat_mul4, nat_mul6, nat_mul15, nat_mul60, nat_cast, nc1, Int.reduceToNat, upE, upN, fill_ne, fill_in, i0, rC hc, hw, hwg]; with_reducible exact rfl))
        | (with_reducible refine wp_eq (c_Vessel_paysWage (by omega) _ _ _ _ _) ?_; with_reducible refine wp_eq (b_Vessel_paysWage_0 _ _ _ _ _ _) ?_)
        | (with_reducible apply wp_eq; (with_reducible apply lf_go; simp (disch := omega) only [not_false_eq_true, not_true_eq_false, w32_id, tLt, fLt, tLe, fEq, itE, and_true, true_and, and_self, and_false, false_and, ↓reduceIte, nat_add, nat_mul3, nat_mul4, nat_mul6, nat_mul15, nat_mul60, nat_cast, nc1, Int.reduceToNat, upE, upN, fill_ne, fill_in, i0, rC hc, hw, hwg]; with_reducible exact rfl))
        | with_reducible apply wp_q1
      refine wp_vs rfl ⟨fun w hw' => ?_, fun g hg => ?_⟩ fun b j h1 h2 h3 => ?_
      · by_cases q : w = 4
        · subst q; rw [upE rfl rfl, wUE rfl]
        · rw [upN (by omega), wUN q]; exact hw w hw'
      · rw [upN (by omega), wUN (by omega)]; exact hl g hg
      · rw [upN (by omega)]
/-- how many of the first k goods leak -/
def lost (A B : Nat → Int) : Nat → Int
  | 0 => 0
  | k + 1 => if 0 < B (7 + k) ∧ 0 < A (34 + 3 * k) then 1 else lost A B k
theorem lost_s (A B : Nat → Int) (k : Nat) : lost A B (k + 1) = if 0 < B (7 + k) ∧ 0 < A (34 + 3 * k) then 1 else lost A B k := rfl
theorem lost_01 (A B : Nat → Int) : ∀ k, lost A B k = 0 ∨ lost A B k = 1
  | 0 => Or.inl rfl
  | k + 1 => by
    rw [lost_s]
    split
    · exact Or.inr rfl
    · exact lost_01 A B k
theorem lost_0 (A B : Nat → Int) : ∀ k, lost A B k = 0 → ∀ g, g < k → ¬(0 < B (7 + g) ∧ 0 < A (34 + 3 * g))
  | k + 1, h, g, hg => by
    rw [lost_s] at h
    by_cases e : 0 < B (7 + k) ∧ 0 < A (34 + 3 * k)
    · rw [if_pos e] at h; cases h
    · rw [if_neg e] at h
      by_cases q : g = k
      · subst q; exact e
      · exact lost_0 A B k h g (by omega)
theorem v_leaks (hd : 1 ≤ d) (hc : isCh c) (hv : isV v) (hvc : apt v c) (hA : ChW M c A) (hC : Cn A) (hG : Gd A) (hV : VsW M v B) (hL : Ld (ld7 B)) : callD d m_Vessel_leaks [vR 8 0 v, vR 0 0 c] (SH L) M = some (some (vI (lost A B (A 1).toNat)), SH L, fillP M (v + 1) (fun g => max 0 (B (7 + g) - A (34 + 3 * g))) (A 1).toNat) := by
  have hC' := hC
  unfold Cn at hC'
  unfold apt at hvc
  have hl := hV.2
  have hct := hA.1
  have hg := hA.2.2.2.1
  have st : ∀ k : Nat, k < (A 1).toNat → Run (callD (d - 1)) tb_Vessel_leaks 4 [vR 8 0 v, vR 0 0 c, vI (lost A B k), vI (k : Int)] [] (SH L) (fillP M (v + 1) (fun g => max 0 (B (7 + g) - A (34 + 3 * g))) k) = Run (callD (d - 1)) tb_Vessel_leaks 4 [vR 8 0 v, vR 0 0 c, vI (lost A B (k + 1)), vI ((k + 1 : Nat) : Int)] [] (SH L) (fillP M (v + 1) (fun g => max 0 (B (7 + g) - A (34 + 3 * g))) (k + 1)) := by
    intro k hk
    have gb := hG k (by omega)
    have lb : 0 ≤ B (7 + k) ∧ B (7 + k) ≤ 1000 := hL k (by omega)
    by_cases e : 0 < B (7 + k) ∧ 0 < A (34 + 3 * k)
    · have eL : lost A B (k + 1) = 1 := by rw [lost_s, if_pos e]
      rw [b_Vessel_leaks_4, eL, ← fill_s M (v + 1) (fun g => max 0 (B (7 + g) - A (34 + 3 * g))) k rfl]
      repeat' first
        | (with_reducible apply bR_go; (simp (disch := omega) only [rM L, rK L, rN L, rNf, rNv, rNp, rNd, rRow, rLeg, rMark, nat_cast, Int.reduceToNat, rC hc, rV hv, hct, hg, hl]; with_reducible exact rfl))
        | with_reducible apply bI_go
        | with_reducible apply bV_go
        | with_reducible apply bL_go
        | (with_reducible apply it_1; (first | omega | (simp (disch := omega) only [not_false_eq_true, not_true_eq_false, w32_id, tLt, fLt, tLe, fEq, itE, and_true, true_and, and_self, and_false, false_and, ↓reduceIte, nat_add, nat_mul3, nat_mul4, nat_mul6, nat_mul15, nat_mul60, nat_cast, nc1, Int.reduceToNat, upE, upN, fill_ne, fill_in, i0, rC hc, rV hv, hct, hg, hl] <;> omega)))
        | (with_reducible apply it_2; (first | omega | (simp (disch := omega) only [not_false_eq_true, not_true_eq_false, w32_id, tLt, fLt, tLe, fEq, itE, and_true, true_and, and_self, and_false, false_and, ↓reduceIte, nat_add, nat_mul3, nat_mul4, nat_mul6, nat_mul15, nat_mul60, nat_cast, nc1, Int.reduceToNat, upE, upN, fill_ne, fill_in, i0, rC hc, rV hv, hct, hg, hl] <;> omega)))
        | (with_reducible refine cl_go ?_; simp (disch := omega) only [not_false_eq_true, not_true_eq_false, w32_id, tLt, fLt, tLe, fEq, itE, and_true, true_and, and_self, and_false, false_and, ↓reduceIte, nat_add, nat_mul3, nat_mul4, nat_mul6, nat_mul15, nat_mul60, nat_cast, nc1, Int.reduceToNat, upE, upN, fill_ne, fill_in, i0, rC hc, rV hv, hct, hg, hl])
        | (with_reducible refine rn_go ?_; simp (disch := omega) only [not_false_eq_true, not_true_eq_false, w32_id, tLt, fLt, tLe, fEq, itE, and_true, true_and, and_self, and_false, false_and, ↓reduceIte, nat_add, nat_mul3, nat_mul4, nat_mul6, nat_mul15, nat_mul60, nat_cast, nc1, Int.reduceToNat, upE, upN, fill_ne, fill_in, i0, rC hc, rV hv, hct, hg, hl])
        | (with_reducible refine lf_go ?_; simp (disch := omega) only [not_false_eq_true, not_true_eq_false, w32_id, tLt, fLt, tLe, fEq, itE, and_true, true_and, and_self, and_false, false_and, ↓reduceIte, nat_add, nat_mul3, nat_mul4, nat_mul6, nat_mul15, nat_mul60, nat_cast, nc1, Int.reduceToNat, upE, upN, fill_ne, fill_in, i0, rC hc, rV hv, hct, hg, hl])
        | with_reducible exact rfl
    · have eL : lost A B (k + 1) = lost A B k := by rw [lost_s, if_neg e]
      have eq : fillP M (v + 1) (fun g => max 0 (B (7 + g) - A (34 + 3 * g))) (k + 1) = fillP M (v + 1) (fun g => max 0 (B (7 + g) - A (34 + 3 * g))) k := by
        rw [← fill_s M (v + 1) (fun g => max 0 (B (7 + g) - A (34 + 3 * g))) k rfl]
        funext b j
        unfold up
        split
        · next q =>
          rw [q.1, q.2, fill_ne (by omega), hl k (by omega)]
          show max 0 (B (7 + k) - A (34 + 3 * k)) = B (7 + k)
          omega
        · rfl
      rw [b_Vessel_leaks_4, eL, eq]
      by_cases e1 : 0 < B (7 + k)
      · repeat' first
          | (with_reducible apply bR_go; (simp (disch := omega) only [rM L, rK L, rN L, rNf, rNv, rNp, rNd, rRow, rLeg, rMark, nat_cast, Int.reduceToNat, rC hc, rV hv, hct, hg, hl]; with_reducible exact rfl))
          | with_reducible apply bI_go
          | with_reducible apply bV_go
          | with_reducible apply bL_go
          | (with_reducible apply it_1; (first | omega | (simp (disch := omega) only [not_false_eq_true, not_true_eq_false, w32_id, tLt, fLt, tLe, fEq, itE, and_true, true_and, and_self, and_false, false_and, ↓reduceIte, nat_add, nat_mul3, nat_mul4, nat_mul6, nat_mul15, nat_mul60, nat_cast, nc1, Int.reduceToNat, upE, upN, fill_ne, fill_in, i0, rC hc, rV hv, hct, hg, hl] <;> omega)))
          | (with_reducible apply it_2; (first | omega | (simp (disch := omega) only [not_false_eq_true, not_true_eq_false, w32_id, tLt, fLt, tLe, fEq, itE, and_true, true_and, and_self, and_false, false_and, ↓reduceIte, nat_add, nat_mul3, nat_mul4, nat_mul6, nat_mul15, nat_mul60, nat_cast, nc1, Int.reduceToNat, upE, upN, fill_ne, fill_in, i0, rC hc, rV hv, hct, hg, hl] <;> omega)))
          | (with_reducible refine cl_go ?_; simp (disch := omega) only [not_false_eq_true, not_true_eq_false, w32_id, tLt, fLt, tLe, fEq, itE, and_true, true_and, and_self, and_false, false_and, ↓reduceIte, nat_add, nat_mul3, nat_mul4, nat_mul6, nat_mul15, nat_mul60, nat_cast, nc1, Int.reduceToNat, upE, upN, fill_ne, fill_in, i0, rC hc, rV hv, hct, hg, hl])
          | (with_reducible refine rn_go ?_; simp (disch := omega) only [not_false_eq_true, not_true_eq_false, w32_id, tLt, fLt, tLe, fEq, itE, and_true, true_and, and_self, and_false, false_and, ↓reduceIte, nat_add, nat_mul3, nat_mul4, nat_mul6, nat_mul15, nat_mul60, nat_cast, nc1, Int.reduceToNat, upE, upN, fill_ne, fill_in, i0, rC hc, rV hv, hct, hg, hl])
          | (with_reducible refine lf_go ?_; simp (disch := omega) only [not_false_eq_true, not_true_eq_false, w32_id, tLt, fLt, tLe, fEq, itE, and_true, true_and, and_self, and_false, false_and, ↓reduceIte, nat_add, nat_mul3, nat_mul4, nat_mul6, nat_mul15, nat_mul60, nat_cast, nc1, Int.reduceToNat, upE, upN, fill_ne, fill_in, i0, rC hc, rV hv, hct, hg, hl])
          | with_reducible exact rfl
      · repeat' first
          | (with_reducible apply bR_go; (simp (disch := omega) only [rM L, rK L, rN L, rNf, rNv, rNp, rNd, rRow, rLeg, rMark, nat_cast, Int.reduceToNat, rC hc, rV hv, hct, hg, hl]; with_reducible exact rfl))
          | with_reducible apply bI_go
          | with_reducible apply bV_go
          | with_reducible apply bL_go
          | (with_reducible apply it_1; (first | omega | (simp (disch := omega) only [not_false_eq_true, not_true_eq_false, w32_id, tLt, fLt, tLe, fEq, itE, and_true, true_and, and_self, and_false, false_and, ↓reduceIte, nat_add, nat_mul3, nat_mul4, nat_mul6, nat_mul15, nat_mul60, nat_cast, nc1, Int.reduceToNat, upE, upN, fill_ne, fill_in, i0, rC hc, rV hv, hct, hg, hl] <;> omega)))
          | (with_reducible apply it_2; (first | omega | (simp (disch := omega) only [not_false_eq_true, not_true_eq_false, w32_id, tLt, fLt, tLe, fEq, itE, and_true, true_and, and_self, and_false, false_and, ↓reduceIte, nat_add, nat_mul3, nat_mul4, nat_mul6, nat_mul15, nat_mul60, nat_cast, nc1, Int.reduceToNat, upE, upN, fill_ne, fill_in, i0, rC hc, rV hv, hct, hg, hl] <;> omega)))
          | (with_reducible refine cl_go ?_; simp (disch := omega) only [not_false_eq_true, not_true_eq_false, w32_id, tLt, fLt, tLe, fEq, itE, and_true, true_and, and_self, and_false, false_and, ↓reduceIte, nat_add, nat_mul3, nat_mul4, nat_mul6, nat_mul15, nat_mul60, nat_cast, nc1, Int.reduceToNat, upE, upN, fill_ne, fill_in, i0, rC hc, rV hv, hct, hg, hl])
          | (with_reducible refine rn_go ?_; simp (disch := omega) only [not_false_eq_true, not_true_eq_false, w32_id, tLt, fLt, tLe, fEq, itE, and_true, true_and, and_self, and_false, false_and, ↓reduceIte, nat_add, nat_mul3, nat_mul4, nat_mul6, nat_mul15, nat_mul60, nat_cast, nc1, Int.reduceToNat, upE, upN, fill_ne, fill_in, i0, rC hc, rV hv, hct, hg, hl])
          | (with_reducible refine lf_go ?_; simp (disch := omega) only [not_false_eq_true, not_true_eq_false, w32_id, tLt, fLt, tLe, fEq, itE, and_true, true_and, and_self, and_false, false_and, ↓reduceIte, nat_add, nat_mul3, nat_mul4, nat_mul6, nat_mul15, nat_mul60, nat_cast, nc1, Int.reduceToNat, upE, upN, fill_ne, fill_in, i0, rC hc, rV hv, hct, hg, hl])
          | with_reducible exact rfl
  rw [c_Vessel_leaks (by omega), b_Vessel_leaks_0]
  have e := loop_up (fun k => Run (callD (d - 1)) tb_Vessel_leaks 4 [vR 8 0 v, vR 0 0 c, vI (lost A B k), vI (k : Int)] [] (SH L) (fillP M (v + 1) (fun g => max 0 (B (7 + g) - A (34 + 3 * g))) k)) (A 1).toNat st 0 (by omega)
  rw [fill_0] at e
  refine e.trans ?_
  rw [b_Vessel_leaks_4]
  have l01 := lost_01 A B (A 1).toNat
  have lm : lost A B (A 1).toNat % 2 = lost A B (A 1).toNat := by omega
  repeat' first
    | (with_reducible apply bR_go; (simp (disch := omega) only [rM L, rK L, rN L, rNf, rNv, rNp, rNd, rRow, rLeg, rMark, nat_cast, Int.reduceToNat, rC hc, hct, lm]; with_reducible exact rfl))
    | with_reducible apply bI_go
    | with_reducible apply bV_go
    | with_reducible apply bL_go
    | (with_reducible apply it_1; (first | omega | (simp (disch := omega) only [not_false_eq_true, not_true_eq_false, w32_id, tLt, fLt, tLe, fEq, itE, and_true, true_and, and_self, and_false, false_and, ↓reduceIte, nat_add, nat_mul3, nat_mul4, nat_mul6, nat_mul15, nat_mul60, nat_cast, nc1, Int.reduceToNat, upE, upN, fill_ne, fill_in, i0, rC hc, hct, lm] <;> omega)))
    | (with_reducible apply it_2; (first | omega | (simp (disch := omega) only [not_false_eq_true, not_true_eq_false, w32_id, tLt, fLt, tLe, fEq, itE, and_true, true_and, and_self, and_false, false_and, ↓reduceIte, nat_add, nat_mul3, nat_mul4, nat_mul6, nat_mul15, nat_mul60, nat_cast, nc1, Int.reduceToNat, upE, upN, fill_ne, fill_in, i0, rC hc, hct, lm] <;> omega)))
    | (with_reducible refine cl_go ?_; simp (disch := omega) only [not_false_eq_true, not_true_eq_false, w32_id, tLt, fLt, tLe, fEq, itE, and_true, true_and, and_self, and_false, false_and, ↓reduceIte, nat_add, nat_mul3, nat_mul4, nat_mul6, nat_mul15, nat_mul60, nat_cast, nc1, Int.reduceToNat, upE, upN, fill_ne, fill_in, i0, rC hc, hct, lm])
    | (with_reducible refine rn_go ?_; simp (disch := omega) only [not_false_eq_true, not_true_eq_false, w32_id, tLt, fLt, tLe, fEq, itE, and_true, true_and, and_self, and_false, false_and, ↓reduceIte, nat_add, nat_mul3, nat_mul4, nat_mul6, nat_mul15, nat_mul60, nat_cast, nc1, Int.reduceToNat, upE, upN, fill_ne, fill_in, i0, rC hc, hct, lm])
    | (with_reducible refine lf_go ?_; simp (disch := omega) only [not_false_eq_true, not_true_eq_false, w32_id, tLt, fLt, tLe, fEq, itE, and_true, true_and, and_self, and_false, false_and, ↓reduceIte, nat_add, nat_mul3, nat_mul4, nat_mul6, nat_mul15, nat_mul60, nat_cast, nc1, Int.reduceToNat, upE, upN, fill_ne, fill_in, i0, rC hc, hct, lm])
    | with_reducible exact rfl
theorem v_leaksV (hC : Cn A) (hV : VsW M v B) : VsW (fillP M (v + 1) (fun g => max 0 (B (7 + g) - A (34 + 3 * g))) (A 1).toNat) v (lkB A B) := by
  unfold Cn at hC
  refine ⟨fun w hw => ?_, fun g hg => ?_⟩
  · rw [fill_ne (by omega)]
    unfold lkB
    rw [if_neg (by omega)]
    exact hV.1 w hw
  · unfold lkB
    by_cases e : (g : Int) < A 1
    · rw [fill_in rfl (by omega), if_pos (by omega), show 7 + g - 7 = g by omega]
    · rw [fill_ne (by omega), if_neg (by omega)]
      exact hV.2 g hg
theorem lk_same (hL : Ld (ld7 B)) (hG : Gd A) (h : lost A B (A 1).toNat = 0) : ∀ g, g < 8 → ld7 (lkB A B) g = ld7 B g := fun g hg => by
  have lb := hL g hg
  unfold ld7 at *
  unfold lkB
  by_cases e : (g : Int) < A 1
  · rw [if_pos (by omega), show 7 + g - 7 = g by omega]
    have := lost_0 A B _ h g (by omega)
    have := hG g e
    omega
  · rw [if_neg (by omega)]
theorem flB_congr {B' : Nat → Int} (hC : Cn A) (h : ∀ g, g < 8 → ld7 B' g = ld7 B g) : flB A B' = flB A B := by
  unfold Cn at hC
  have : ∀ n : Int, ∀ k, k ≤ 8 → wt A (ld7 B') (A 4) n k = wt A (ld7 B) (A 4) n k := fun n k => by
    induction k with
    | zero => intro _; rfl
    | succ k ih => intro hk; rw [wt_s, wt_s, ih (by omega), h k (by omega)]
  unfold flB wts
  congr 1
  funext n
  exact this n _ (by omega)
end

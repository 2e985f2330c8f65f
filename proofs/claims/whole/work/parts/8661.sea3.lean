/-! A DAY OF A SHIP, in the model -/
def RwM (M : Mm) (A : Nat → Int) (s : Nat) (B : Nat → Int) : Prop := (∀ w, w < 15 → M 272 (146 + 15 * s + w) = B w) ∧ ∀ k, k < 206 → k < 146 + 15 * s ∨ 161 + 15 * s ≤ k → M 272 k = A k
def QRow (L s : Nat) (M : Mm) (B' : Nat → Int) (r : Option AV) : Option AV → Sp → Mm → Prop := fun r' S M' => r' = r ∧ S = SH L ∧ (∀ w, w < 15 → M' 272 (146 + 15 * s + w) = B' w) ∧ ∀ b j, b ≠ 280 → ¬(b = 272 ∧ 146 + 15 * s ≤ j ∧ j < 161 + 15 * s) → M' b j = M b j
theorem wp_row {L s : Nat} {M M' : Mm} {B' : Nat → Int} {r r' : Option AV} (hr : r' = r) (hV : ∀ w, w < 15 → M' 272 (146 + 15 * s + w) = B' w) (hf : ∀ b j, b ≠ 280 → ¬(b = 272 ∧ 146 + 15 * s ≤ j ∧ j < 161 + 15 * s) → M' b j = M b j) : Wp (some (r', SH L, M')) (QRow L s M B' r) := ⟨_, _, _, rfl, hr, rfl, hV, hf⟩
theorem wp_qrow {L s : Nat} {M : Mm} {B' : Nat → Int} {r : Option AV} {o : Option Rs} {Q : Option AV → Sp → Mm → Prop} (h : Wp o (QRow L s M B' r)) (h' : ∀ M', (∀ w, w < 15 → M' 272 (146 + 15 * s + w) = B' w) → (∀ b j, b ≠ 280 → ¬(b = 272 ∧ 146 + 15 * s ≤ j ∧ j < 161 + 15 * s) → M' b j = M b j) → Wp (some (r, SH L, M')) Q) : Wp o Q := by
  obtain ⟨_, _, M', e, rfl, rfl, h1, h2⟩ := h
  rw [e]
  exact h' M' h1 h2
theorem wts_congr {A A' ld : Nat → Int} {r n : Int} (h : ∀ k, k < 146 → A' k = A k) (hC : Cn A) : wts A' ld r n = wts A ld r n := by
  unfold Cn at hC
  unfold wts
  rw [h 1 (by omega)]
  have : ∀ k, k ≤ 8 → wt A' ld r n k = wt A ld r n k := fun k => by
    induction k with
    | zero => intro _; rfl
    | succ k ih => intro hk; rw [wt_s, wt_s, ih (by omega), h _ (by omega), h _ (by omega)]
  exact this _ (by omega)
section
variable {M : Mm} {A B : Nat → Int} {L d s : Nat}
theorem RwM.of (h : RelM M A) (hs : (s : Int) < A 3) : RwM M A s (shp A s) := by
  have hC := h.cn
  unfold Cn at hC
  exact ⟨fun w hw => h.1 _ (by omega), fun k hk _ => h.1 k hk⟩
theorem RwM.lo (h : RwM M A s B) : ∀ k, k < 146 → M 272 k = A k := fun k hk => h.2 k (by omega) (by omega)
theorem RwM.cng {M' : Mm} {B' : Nat → Int} (h : RwM M A s B) (h1 : ∀ w, w < 15 → M' 272 (146 + 15 * s + w) = B' w) (h2 : ∀ j, j < 146 + 15 * s ∨ 161 + 15 * s ≤ j → M' 272 j = M 272 j) : RwM M' A s B' := ⟨h1, fun k hk hk' => by rw [h2 k hk']; exact h.2 k hk hk'⟩
theorem q2_loads (hd : 3 ≤ d) (h : RwM M A s B) (hs : s < 4) : callD d m_Mo_loads [vR 12 0 271, vI (s : Int)] (SH L) M = some (none, SH L, fillP M 280 (ld7 B) 8) := by
  rw [s_Mo_loads hd (by omega) (by omega), fill_congr (f := ldF (M 272) ((s : Int)).toNat) (f' := ld7 B) fun g hg => ?_]
  show M 272 (153 + 15 * s + g) = B (7 + g)
  rw [← h.1 (7 + g) (by omega)]
  congr 1
  omega
theorem q2_leaks (hd : 2 ≤ d) (h : RwM M A s B) (hC : Cn A) (hG : Gd A) {ld : Nat → Int} (hl : ∀ g, g < 8 → M 280 g = ld g) (hL : Ld ld) : callD d m_Mo_leaks [vR 12 0 271, vI 1] (SH L) M = some (none, SH L, fillP M 280 (fun g => max 0 (ld g - A (34 + 3 * g))) (A 1).toNat) := by
  have hC' := hC
  unfold Cn at hC'
  have hA := h.lo
  have st : ∀ k : Nat, k < (A 1).toNat → Run (callD (d - 1)) tb_Mo_leaks 2 [vR 12 0 271, vI 1, vI (k : Int)] [] (SH L) (fillP M 280 (fun g => max 0 (ld g - A (34 + 3 * g))) k) = Run (callD (d - 1)) tb_Mo_leaks 2 [vR 12 0 271, vI 1, vI ((k + 1 : Nat) : Int)] [] (SH L) (fillP M 280 (fun g => max 0 (ld g - A (34 + 3 * g))) (k + 1)) := by
    intro k hk
    have e1 := hL k (by omega)
    have e2 := hG k (by omega)
    rw [b_Mo_leaks_2, ← fill_s M 280 (fun g => max 0 (ld g - A (34 + 3 * g))) k rfl]
    repeat' first
      | (with_reducible apply bR_go; (simp (disch := omega) only [rM L, rK L, rN L, rNf, rNv, rNp, rNd, rRow, rLeg, rMark, nat_cast, Int.reduceToNat, hA, hl, i33, Int.one_mul]; with_reducible exact rfl))
      | with_reducible apply bI_go
      | with_reducible apply bV_go
      | with_reducible apply bL_go
      | (with_reducible apply it_1; (first | omega | (simp (disch := omega) only [not_false_eq_true, not_true_eq_false, w32_id, tLt, fLt, tLe, fEq, itE, and_true, true_and, and_self, and_false, false_and, ↓reduceIte, nat_add, nat_mul3, nat_mul4, nat_mul6, nat_mul15, nat_mul60, nat_cast, nc1, Int.reduceToNat, upE, upN, fill_ne, fill_in, i0, hA, hl, i33, Int.one_mul] <;> omega)))
      | (with_reducible apply it_2; (first | omega | (simp (disch := omega) only [not_false_eq_true, not_true_eq_false, w32_id, tLt, fLt, tLe, fEq, itE, and_true, true_and, and_self, and_false, false_and, ↓reduceIte, nat_add, nat_mul3, nat_mul4, nat_mul6, nat_mul15, nat_mul60, nat_cast, nc1, Int.reduceToNat, upE, upN, fill_ne, fill_in, i0, hA, hl, i33, Int.one_mul] <;> omega)))
      | (with_reducible refine cl_go ?_; simp (disch := omega) only [not_false_eq_true, not_true_eq_false, w32_id, tLt, fLt, tLe, fEq, itE, and_true, true_and, and_self, and_false, false_and, ↓reduceIte, nat_add, nat_mul3, nat_mul4, nat_mul6, nat_mul15, nat_mul60, nat_cast, nc1, Int.reduceToNat, upE, upN, fill_ne, fill_in, i0, hA, hl, i33, Int.one_mul])
      | rw [c_Mo_goodRow (by omega), b_Mo_goodRow_0]
      | (with_reducible refine rn_go ?_; simp (disch := omega) only [not_false_eq_true, not_true_eq_false, w32_id, tLt, fLt, tLe, fEq, itE, and_true, true_and, and_self, and_false, false_and, ↓reduceIte, nat_add, nat_mul3, nat_mul4, nat_mul6, nat_mul15, nat_mul60, nat_cast, nc1, Int.reduceToNat, upE, upN, fill_ne, fill_in, i0, hA, hl, i33, Int.one_mul])
      | (with_reducible refine lf_go ?_; simp (disch := omega) only [not_false_eq_true, not_true_eq_false, w32_id, tLt, fLt, tLe, fEq, itE, and_true, true_and, and_self, and_false, false_and, ↓reduceIte, nat_add, nat_mul3, nat_mul4, nat_mul6, nat_mul15, nat_mul60, nat_cast, nc1, Int.reduceToNat, upE, upN, fill_ne, fill_in, i0, hA, hl, i33, Int.one_mul])
      | with_reducible exact rfl
  rw [c_Mo_leaks (by omega), b_Mo_leaks_0]
  have e := loop_up (fun k => Run (callD (d - 1)) tb_Mo_leaks 2 [vR 12 0 271, vI 1, vI (k : Int)] [] (SH L) (fillP M 280 (fun g => max 0 (ld g - A (34 + 3 * g))) k)) (A 1).toNat st 0 (by omega)
  rw [fill_0] at e
  refine e.trans ?_
  rw [b_Mo_leaks_2]
  repeat' first
    | (with_reducible apply bR_go; (simp (disch := omega) only [rM L, rK L, rN L, rNf, rNv, rNp, rNd, rRow, rLeg, rMark, nat_cast, Int.reduceToNat, hA]; with_reducible exact rfl))
    | with_reducible apply bI_go
    | with_reducible apply bV_go
    | with_reducible apply bL_go
    | (with_reducible apply it_1; (first | omega | (simp (disch := omega) only [not_false_eq_true, not_true_eq_false, w32_id, tLt, fLt, tLe, fEq, itE, and_true, true_and, and_self, and_false, false_and, ↓reduceIte, nat_add, nat_mul3, nat_mul4, nat_mul6, nat_mul15, nat_mul60, nat_cast, nc1, Int.reduceToNat, upE, upN, fill_ne, fill_in, i0, hA] <;> omega)))
    | (with_reducible apply it_2; (first | omega | (simp (disch := omega) only [not_false_eq_true, not_true_eq_false, w32_id, tLt, fLt, tLe, fEq, itE, and_true, true_and, and_self, and_false, false_and, ↓reduceIte, nat_add, nat_mul3, nat_mul4, nat_mul6, nat_mul15, nat_mul60, nat_cast, nc1, Int.reduceToNat, upE, upN, fill_ne, fill_in, i0, hA] <;> omega)))
    | (with_reducible refine cl_go ?_; simp (disch := omega) only [not_false_eq_true, not_true_eq_false, w32_id, tLt, fLt, tLe, fEq, itE, and_true, true_and, and_self, and_false, false_and, ↓reduceIte, nat_add, nat_mul3, nat_mul4, nat_mul6, nat_mul15, nat_mul60, nat_cast, nc1, Int.reduceToNat, upE, upN, fill_ne, fill_in, i0, hA])
    | (with_reducible refine rn_go ?_; simp (disch := omega) only [not_false_eq_true, not_true_eq_false, w32_id, tLt, fLt, tLe, fEq, itE, and_true, true_and, and_self, and_false, false_and, ↓reduceIte, nat_add, nat_mul3, nat_mul4, nat_mul6, nat_mul15, nat_mul60, nat_cast, nc1, Int.reduceToNat, upE, upN, fill_ne, fill_in, i0, hA])
    | (with_reducible refine lf_go ?_; simp (disch := omega) only [not_false_eq_true, not_true_eq_false, w32_id, tLt, fLt, tLe, fEq, itE, and_true, true_and, and_self, and_false, false_and, ↓reduceIte, nat_add, nat_mul3, nat_mul4, nat_mul6, nat_mul15, nat_mul60, nat_cast, nc1, Int.reduceToNat, upE, upN, fill_ne, fill_in, i0, hA])
    | with_reducible exact rfl
theorem q2_loadsIn (hd : 4 ≤ d) (h : RwM M A s B) (hs : s < 4) (hC : Cn A) (hG : Gd A) (hL : Ld (ld7 B)) : callD d m_Mo_loadsIn [vR 12 0 271, vI (s : Int), vI 1] (SH L) M = some (none, SH L, fillP M 280 (ld7 (lkB A B)) 8) := by
  have hC' := hC
  unfold Cn at hC'
  rw [← fill_fill (M := M) (a := 280) (f := ld7 B) (f' := fun g => max 0 (ld7 B g - A (34 + 3 * g))) (h := ld7 (lkB A B)) (n := (A 1).toNat) (m := 8) (by omega) (fun g hg => by unfold ld7 lkB; rw [if_pos (by omega), show 7 + g - 7 = g by omega]) (fun g hg _ => by unfold ld7 lkB; rw [if_neg (by omega)])]
  have h' : RwM (fillP M 280 (ld7 B) 8) A s B := h.cng (fun w hw => by rw [fill_ne (by omega)]; exact h.1 w hw) fun j _ => fill_ne (by omega)
  repeat' first
    | (with_reducible apply bR_go; (simp (disch := omega) only [rM L, rK L, rN L, rNf, rNv, rNp, rNd, rRow, rLeg, rMark, nat_cast, Int.reduceToNat]; with_reducible exact rfl))
    | with_reducible apply bI_go
    | with_reducible apply bV_go
    | with_reducible apply bL_go
    | (with_reducible apply it_1; (first | omega | (simp (disch := omega) only [not_false_eq_true, not_true_eq_false, w32_id, tLt, fLt, tLe, fEq, itE, and_true, true_and, and_self, and_false, false_and, ↓reduceIte, nat_add, nat_mul3, nat_mul4, nat_mul6, nat_mul15, nat_mul60, nat_cast, nc1, Int.reduceToNat, upE, upN, fill_ne, fill_in, i0] <;> omega)))
    | (with_reducible apply it_2; (first | omega | (simp (disch := omega) only [not_false_eq_true, not_true_eq_false, w32_id, tLt, fLt, tLe, fEq, itE, and_true, true_and, and_self, and_false, false_and, ↓reduceIte, nat_add, nat_mul3, nat_mul4, nat_mul6, nat_mul15, nat_mul60, nat_cast, nc1, Int.reduceToNat, upE, upN, fill_ne, fill_in, i0] <;> omega)))
    | (with_reducible refine cl_go ?_; simp (disch := omega) only [not_false_eq_true, not_true_eq_false, w32_id, tLt, fLt, tLe, fEq, itE, and_true, true_and, and_self, and_false, false_and, ↓reduceIte, nat_add, nat_mul3, nat_mul4, nat_mul6, nat_mul15, nat_mul60, nat_cast, nc1, Int.reduceToNat, upE, upN, fill_ne, fill_in, i0])
    | rw [c_Mo_loadsIn (by omega), b_Mo_loadsIn_0]
    | with_reducible exact q2_loads (by omega) h hs
    | with_reducible exact q2_leaks (by omega) h' hC hG (fun g hg => fill_in rfl hg) hL
    | (with_reducible refine rn_go ?_; simp (disch := omega) only [not_false_eq_true, not_true_eq_false, w32_id, tLt, fLt, tLe, fEq, itE, and_true, true_and, and_self, and_false, false_and, ↓reduceIte, nat_add, nat_mul3, nat_mul4, nat_mul6, nat_mul15, nat_mul60, nat_cast, nc1, Int.reduceToNat, upE, upN, fill_ne, fill_in, i0])
    | (with_reducible refine lf_go ?_; simp (disch := omega) only [not_false_eq_true, not_true_eq_false, w32_id, tLt, fLt, tLe, fEq, itE, and_true, true_and, and_self, and_false, false_and, ↓reduceIte, nat_add, nat_mul3, nat_mul4, nat_mul6, nat_mul15, nat_mul60, nat_cast, nc1, Int.reduceToNat, upE, upN, fill_ne, fill_in, i0])
    | with_reducible exact rfl
theorem q2_flag (hd : 5 ≤ d) (h : RwM M A s B) (hs : s < 4) (hC : Cn A) (hG : Gd A) {ld : Nat → Int} (hl : ∀ g, g < 8 → M 280 g = ld g) (hL : Ld ld) : callD d m_Mo_flag [vR 12 0 271] (SH L) M = some (some (vI (flg (fun n => wts A ld (A 4) n) (A 0).toNat)), SH L, M) := by
  have hC' := hC
  unfold Cn at hC'
  have lo : ∀ k, k < 146 → putS A s B k = A k := fun k hk => putS_ne (by omega)
  have e := s_Mo_flag (L := L) (d := d) (M := M) (A := putS A s B) (ld := ld) hd (fun k hk => ?_) (fun g hg => hl g (by rw [lo 1 (by omega)] at hg; omega)) ?_ ?_ hL
  · rw [lo 4 (by omega), lo 0 (by omega)] at e
    have ew : (fun n : Nat => wts (putS A s B) ld (A 4) n) = fun n : Nat => wts A ld (A 4) n := funext fun n => wts_congr lo hC
    rw [e, ew]
  · by_cases q : 146 + 15 * s ≤ k ∧ k < 161 + 15 * s
    · obtain ⟨w, rfl⟩ : ∃ w, k = 146 + 15 * s + w := ⟨k - (146 + 15 * s), by omega⟩
      rw [putS_in (by omega)]
      exact h.1 w (by omega)
    · rw [putS_ne (by omega)]
      exact h.2 k hk (by omega)
  · unfold Cn
    rw [lo 0 (by omega), lo 1 (by omega), lo 2 (by omega), lo 3 (by omega), lo 4 (by omega)]
    exact hC
  · intro g hg
    rw [lo 1 (by omega)] at hg
    rw [lo _ (by omega), lo _ (by omega), lo _ (by omega), lo _ (by omega)]
    exact hG g hg
theorem q2_flagOf (hd : 6 ≤ d) (h : RwM M A s B) (hs : s < 4) (hC : Cn A) (hG : Gd A) (hL : Ld (ld7 B)) : callD d m_Mo_flagOf [vR 12 0 271, vI (s : Int)] (SH L) M = some (some (vI (flB A B)), SH L, fillP M 280 (ld7 B) 8) := by
  have h' : RwM (fillP M 280 (ld7 B) 8) A s B := h.cng (fun w hw => by rw [fill_ne (by omega)]; exact h.1 w hw) fun j _ => fill_ne (by omega)
  unfold flB
  repeat' first
    | (with_reducible apply bR_go; (simp (disch := omega) only [rM L, rK L, rN L, rNf, rNv, rNp, rNd, rRow, rLeg, rMark, nat_cast, Int.reduceToNat]; with_reducible exact rfl))
    | with_reducible apply bI_go
    | with_reducible apply bV_go
    | with_reducible apply bL_go
    | (with_reducible apply it_1; (first | omega | (simp (disch := omega) only [not_false_eq_true, not_true_eq_false, w32_id, tLt, fLt, tLe, fEq, itE, and_true, true_and, and_self, and_false, false_and, ↓reduceIte, nat_add, nat_mul3, nat_mul4, nat_mul6, nat_mul15, nat_mul60, nat_cast, nc1, Int.reduceToNat, upE, upN, fill_ne, fill_in, i0] <;> omega)))
    | (with_reducible apply it_2; (first | omega | (simp (disch := omega) only [not_false_eq_true, not_true_eq_false, w32_id, tLt, fLt, tLe, fEq, itE, and_true, true_and, and_self, and_false, false_and, ↓reduceIte, nat_add, nat_mul3, nat_mul4, nat_mul6, nat_mul15, nat_mul60, nat_cast, nc1, Int.reduceToNat, upE, upN, fill_ne, fill_in, i0] <;> omega)))
    | (with_reducible refine cl_go ?_; simp (disch := omega) only [not_false_eq_true, not_true_eq_false, w32_id, tLt, fLt, tLe, fEq, itE, and_true, true_and, and_self, and_false, false_and, ↓reduceIte, nat_add, nat_mul3, nat_mul4, nat_mul6, nat_mul15, nat_mul60, nat_cast, nc1, Int.reduceToNat, upE, upN, fill_ne, fill_in, i0])
    | rw [c_Mo_flagOf (by omega), b_Mo_flagOf_0]
    | with_reducible exact q2_loads (by omega) h hs
    | with_reducible exact q2_flag (by omega) h' hs hC hG (fun g hg => fill_in rfl hg) hL
    | (with_reducible refine rn_go ?_; simp (disch := omega) only [not_false_eq_true, not_true_eq_false, w32_id, tLt, fLt, tLe, fEq, itE, and_true, true_and, and_self, and_false, false_and, ↓reduceIte, nat_add, nat_mul3, nat_mul4, nat_mul6, nat_mul15, nat_mul60, nat_cast, nc1, Int.reduceToNat, upE, upN, fill_ne, fill_in, i0])
    | (with_reducible refine lf_go ?_; simp (disch := omega) only [not_false_eq_true, not_true_eq_false, w32_id, tLt, fLt, tLe, fEq, itE, and_true, true_and, and_self, and_false, false_and, ↓reduceIte, nat_add, nat_mul3, nat_mul4, nat_mul6, nat_mul15, nat_mul60, nat_cast, nc1, Int.reduceToNat, upE, upN, fill_ne, fill_in, i0])
    | with_reducible exact rfl
theorem j1 (n : Nat) : 146 + 15 * n + 1 = 147 + 15 * n ∧ 146 + 15 * n + 2 = 148 + 15 * n ∧ 146 + 15 * n + 4 = 150 + 15 * n ∧ 146 + 15 * n + 5 = 151 + 15 * n ∧ 146 + 15 * n + 6 = 152 + 15 * n := by omega
theorem m_comesIn (hd : 8 ≤ d) (h : RwM M A s B) (hs : s < 4) (hC : Cn A) (hG : Gd A) (hN : Nt A) (hP : Pt A) (hS : SeaI B) (h1 : 0 ≤ B 1) (h1' : B 1 < A 2) : Wp (callD d m_Mo_comesIn [vR 12 0 271, vI (s : Int)] (SH L) M) (QRow L s M (dutyB A (wU (wU B 0 (B 1)) 1 (-1)) (flB A B)) none) := by
  have hC' := hC
  unfold Cn at hC'
  have r0 : M 272 (146 + 15 * s) = B 0 := h.1 0 (by omega)
  have r1 : M 272 (147 + 15 * s) = B 1 := by rw [← (j1 s).1]; exact h.1 1 (by omega)
  have r4 : M 272 (150 + 15 * s) = B 4 := by rw [← (j1 s).2.2.1]; exact h.1 4 (by omega)
  have r6 : M 272 (152 + 15 * s) = B 6 := by rw [← (j1 s).2.2.2.2]; exact h.1 6 (by omega)
  have ob := hP (B 1).toNat (by omega)
  have how : M 272 (56 + 15 * (B 1).toNat) = A (56 + 15 * (B 1).toNat) := h.lo _ (by omega)
  have h2 : RwM (up (up M 272 (146 + 15 * s) (B 1)) 272 (147 + 15 * s) (-1)) A s (wU (wU B 0 (B 1)) 1 (-1)) := by
    refine h.cng (fun w hw => ?_) fun j hj => by rw [upN (by omega), upN (by omega)]
    by_cases e : w = 1
    · subst e; rw [upE rfl (by omega), wUE rfl]
    · rw [upN (by omega), wUN e]
      by_cases e : w = 0
      · subst e; rw [upE rfl (by omega), wUE rfl]
      · rw [upN (by omega), wUN e]; exact h.1 w hw
  have hL2 : Ld (ld7 (wU (wU B 0 (B 1)) 1 (-1))) := fun g hg => by
    have := hS.2 g hg
    unfold ld7 at this ⊢
    rw [wUN (by omega), wUN (by omega)]
    exact this
  have e2 := q2_flagOf (L := L) (d := d - 1) (by omega) h2 hs hC hG hL2
  have ef : flB A (wU (wU B 0 (B 1)) 1 (-1)) = flB A B := flB_congr hC fun g hg => by unfold ld7; rw [wUN (by omega), wUN (by omega)]
  rw [ef] at e2
  have el : ld7 (wU (wU B 0 (B 1)) 1 (-1)) = ld7 B := by funext g; unfold ld7; rw [wUN (by omega), wUN (by omega)]
  rw [el] at e2
  have d0 : wU (wU B 0 (B 1)) 1 (-1) 0 = B 1 := by rw [wUN (by omega), wUE rfl]
  have d4 : wU (wU B 0 (B 1)) 1 (-1) 4 = B 4 := by rw [wUN (by omega), wUN (by omega)]
  have d6 : wU (wU B 0 (B 1)) 1 (-1) 6 = B 6 := by rw [wUN (by omega), wUN (by omega)]
  unfold dutyB
  rw [d0, el, d4, d6]
  have fin2 : ∀ M' : Mm, (∀ b j, b ≠ 280 → M' b j = up (up M 272 (146 + 15 * s) (B 1)) 272 (147 + 15 * s) (-1) b j) → Wp (some (none, SH L, M')) (QRow L s M (wU (wU B 0 (B 1)) 1 (-1)) none) := fun M' q => by
    refine wp_row rfl (fun w hw => by rw [q _ _ (by omega)]; exact h2.1 w hw) fun b j q1 q2 => by rw [q b j q1, upN (by omega), upN (by omega)]
  by_cases e1 : A (56 + 15 * (B 1).toNat) = -1
  · rw [if_pos e1]
    repeat' first
      | (with_reducible apply wp_bR; (simp (disch := omega) only [rM L, rK L, rN L, rNf, rNv, rNp, rNd, rRow, rLeg, rMark, nat_cast, Int.reduceToNat, j1, r1, how]; with_reducible exact rfl))
      | with_reducible apply wp_bI
      | with_reducible apply wp_bV
      | with_reducible apply wp_bL
      | with_reducible apply wp_rI
      | with_reducible apply wp_rV
      | with_reducible apply wp_rL
      | (with_reducible apply wp_1; (first | omega | (simp (disch := omega) only [not_false_eq_true, not_true_eq_false, w32_id, tLt, fLt, tLe, fEq, itE, and_true, true_and, and_self, and_false, false_and, ↓reduceIte, nat_add, nat_mul3, nat_mul4, nat_mul6, nat_mul15, nat_mul60, nat_cast, nc1, Int.reduceToNat, upE, upN, fill_ne, fill_in, i0, j1, r1, how] <;> omega)))
      | (with_reducible apply wp_2; (first | omega | (simp (disch := omega) only [not_false_eq_true, not_true_eq_false, w32_id, tLt, fLt, tLe, fEq, itE, and_true, true_and, and_self, and_false, false_and, ↓reduceIte, nat_add, nat_mul3, nat_mul4, nat_mul6, nat_mul15, nat_mul60, nat_cast, nc1, Int.reduceToNat, upE, upN, fill_ne, fill_in, i0, j1, r1, how] <;> omega)))
      | (with_reducible apply wp_s; (first | (simp (disch := omega) only [not_false_eq_true, not_true_eq_false, w32_id, tLt, fLt, tLe, fEq, itE, and_true, true_and, and_self, and_false, false_and, ↓reduceIte, nat_add, nat_mul3, nat_mul4, nat_mul6, nat_mul15, nat_mul60, nat_cast, nc1, Int.reduceToNat, upE, upN, fill_ne, fill_in, i0, j1, r1, how]; with_reducible exact Iff.rfl) | with_reducible exact Iff.rfl); intro hc__; (try subst hc__); rotate_left; intro hc__; rotate_left)
      | (with_reducible apply wp_eq; (with_reducible apply cl_go; simp (disch := omega) only [not_false_eq_true, not_true_eq_false, w32_id, tLt, fLt, tLe, fEq, itE, and_true, true_and, and_self, and_false, false_and, ↓reduceIte, nat_add, nat_mul3, nat_mul4, nat_mul6, nat_mul15, nat_mul60, nat_cast, nc1, Int.reduceToNat, upE, upN, fill_ne, fill_in, i0, j1, r1, how]; with_reducible exact rfl))
      | (with_reducible refine wp_eq (c_Mo_comesIn (by omega) _ _ _ _) ?_; with_reducible refine wp_eq (b_Mo_comesIn_0 _ _ _ _ _) ?_)
      | (with_reducible refine wp_eq (c_Mo_shipRow (by omega) _ _ _) ?_; with_reducible refine wp_eq (b_Mo_shipRow_0 _ _ _ _) ?_)
      | (with_reducible refine wp_eq (c_Mo_portRow (by omega) _ _ _) ?_; with_reducible refine wp_eq (b_Mo_portRow_0 _ _ _ _) ?_)
      | (with_reducible apply wp_eq; (with_reducible apply lf_go; simp (disch := omega) only [not_false_eq_true, not_true_eq_false, w32_id, tLt, fLt, tLe, fEq, itE, and_true, true_and, and_self, and_false, false_and, ↓reduceIte, nat_add, nat_mul3, nat_mul4, nat_mul6, nat_mul15, nat_mul60, nat_cast, nc1, Int.reduceToNat, upE, upN, fill_ne, fill_in, i0, j1, r1, how]; with_reducible exact rfl))
      | with_reducible apply wp_q1
    exact fin2 _ fun _ _ _ => rfl
  rw [if_neg e1]
  by_cases e3 : A (56 + 15 * (B 1).toNat) = flB A B
  · rw [if_pos e3]
    repeat' first
      | (with_reducible apply wp_bR; (simp (disch := omega) only [rM L, rK L, rN L, rNf, rNv, rNp, rNd, rRow, rLeg, rMark, nat_cast, Int.reduceToNat, j1, r1, how]; with_reducible exact rfl))
      | with_reducible apply wp_bI
      | with_reducible apply wp_bV
      | with_reducible apply wp_bL
      | with_reducible apply wp_rI
      | with_reducible apply wp_rV
      | with_reducible apply wp_rL
      | (with_reducible apply wp_1; (first | omega | (simp (disch := omega) only [not_false_eq_true, not_true_eq_false, w32_id, tLt, fLt, tLe, fEq, itE, and_true, true_and, and_self, and_false, false_and, ↓reduceIte, nat_add, nat_mul3, nat_mul4, nat_mul6, nat_mul15, nat_mul60, nat_cast, nc1, Int.reduceToNat, upE, upN, fill_ne, fill_in, i0, j1, r1, how] <;> omega)))
      | (with_reducible apply wp_2; (first | omega | (simp (disch := omega) only [not_false_eq_true, not_true_eq_false, w32_id, tLt, fLt, tLe, fEq, itE, and_true, true_and, and_self, and_false, false_and, ↓reduceIte, nat_add, nat_mul3, nat_mul4, nat_mul6, nat_mul15, nat_mul60, nat_cast, nc1, Int.reduceToNat, upE, upN, fill_ne, fill_in, i0, j1, r1, how] <;> omega)))
      | (with_reducible apply wp_s; (first | (simp (disch := omega) only [not_false_eq_true, not_true_eq_false, w32_id, tLt, fLt, tLe, fEq, itE, and_true, true_and, and_self, and_false, false_and, ↓reduceIte, nat_add, nat_mul3, nat_mul4, nat_mul6, nat_mul15, nat_mul60, nat_cast, nc1, Int.reduceToNat, upE, upN, fill_ne, fill_in, i0, j1, r1, how]; with_reducible exact Iff.rfl) | with_reducible exact Iff.rfl); intro hc__; (try subst hc__); rotate_left; intro hc__; rotate_left)
      | (with_reducible apply wp_eq; (with_reducible apply cl_go; simp (disch := omega) only [not_false_eq_true, not_true_eq_false, w32_id, tLt, fLt, tLe, fEq, itE, and_true, true_and, and_self, and_false, false_and, ↓reduceIte, nat_add, nat_mul3, nat_mul4, nat_mul6, nat_mul15, nat_mul60, nat_cast, nc1, Int.reduceToNat, upE, upN, fill_ne, fill_in, i0, j1, r1, how]; with_reducible exact rfl))
      | (with_reducible refine wp_eq (c_Mo_comesIn (by omega) _ _ _ _) ?_; with_reducible refine wp_eq (b_Mo_comesIn_0 _ _ _ _ _) ?_)
      | (with_reducible refine wp_eq (c_Mo_shipRow (by omega) _ _ _) ?_; with_reducible refine wp_eq (b_Mo_shipRow_0 _ _ _ _) ?_)
      | (with_reducible refine wp_eq (c_Mo_portRow (by omega) _ _ _) ?_; with_reducible refine wp_eq (b_Mo_portRow_0 _ _ _ _) ?_)
      | with_reducible refine wp_eq (e2) ?_
      | (with_reducible apply wp_eq; (with_reducible apply lf_go; simp (disch := omega) only [not_false_eq_true, not_true_eq_false, w32_id, tLt, fLt, tLe, fEq, itE, and_true, true_and, and_self, and_false, false_and, ↓reduceIte, nat_add, nat_mul3, nat_mul4, nat_mul6, nat_mul15, nat_mul60, nat_cast, nc1, Int.reduceToNat, upE, upN, fill_ne, fill_in, i0, j1, r1, how]; with_reducible exact rfl))
      | with_reducible apply wp_q1
    exact fin2 _ fun b j q => fill_ne (by omega)
  rw [if_neg e3]
  generalize hn : A (56 + 15 * (B 1).toNat) = n at *
  have nb := hN n.toNat (by omega)
  have lb := sm_bd hS.2 8 (by omega)
  have mb := mul_bd nb.2.2.1 nb.2.2.2.1 lb.1 lb.2
  have s4 := hS.1
  have hdu : M 272 (9 + 4 * n.toNat) = A (9 + 4 * n.toNat) := h.lo _ (by omega)
  have et := n_tons (L := L) (d := d - 1) (M := fillP (up (up M 272 (146 + 15 * s) (B 1)) 272 (147 + 15 * s) (-1)) 280 (ld7 B) 8) (by omega) (ld := ld7 B) (fun g hg => fill_in rfl hg) hS.2
  repeat' first
    | (with_reducible apply wp_bR; (simp (disch := omega) only [rM L, rK L, rN L, rNf, rNv, rNp, rNd, rRow, rLeg, rMark, nat_cast, Int.reduceToNat, j1, i9, r1, r4, r6, how, hdu]; with_reducible exact rfl))
    | with_reducible apply wp_bI
    | with_reducible apply wp_bV
    | with_reducible apply wp_bL
    | with_reducible apply wp_rI
    | with_reducible apply wp_rV
    | with_reducible apply wp_rL
    | (with_reducible apply wp_1; (first | omega | (simp (disch := omega) only [not_false_eq_true, not_true_eq_false, w32_id, tLt, fLt, tLe, fEq, itE, and_true, true_and, and_self, and_false, false_and, ↓reduceIte, nat_add, nat_mul3, nat_mul4, nat_mul6, nat_mul15, nat_mul60, nat_cast, nc1, Int.reduceToNat, upE, upN, fill_ne, fill_in, i0, j1, i9, r1, r4, r6, how, hdu] <;> omega)))
    | (with_reducible apply wp_2; (first | omega | (simp (disch := omega) only [not_false_eq_true, not_true_eq_false, w32_id, tLt, fLt, tLe, fEq, itE, and_true, true_and, and_self, and_false, false_and, ↓reduceIte, nat_add, nat_mul3, nat_mul4, nat_mul6, nat_mul15, nat_mul60, nat_cast, nc1, Int.reduceToNat, upE, upN, fill_ne, fill_in, i0, j1, i9, r1, r4, r6, how, hdu] <;> omega)))
    | (with_reducible apply wp_s; (first | (simp (disch := omega) only [not_false_eq_true, not_true_eq_false, w32_id, tLt, fLt, tLe, fEq, itE, and_true, true_and, and_self, and_false, false_and, ↓reduceIte, nat_add, nat_mul3, nat_mul4, nat_mul6, nat_mul15, nat_mul60, nat_cast, nc1, Int.reduceToNat, upE, upN, fill_ne, fill_in, i0, j1, i9, r1, r4, r6, how, hdu]; with_reducible exact Iff.rfl) | with_reducible exact Iff.rfl); intro hc__; (try subst hc__); rotate_left; intro hc__; rotate_left)
    | (with_reducible apply wp_eq; (with_reducible apply cl_go; simp (disch := omega) only [not_false_eq_true, not_true_eq_false, w32_id, tLt, fLt, tLe, fEq, itE, and_true, true_and, and_self, and_false, false_and, ↓reduceIte, nat_add, nat_mul3, nat_mul4, nat_mul6, nat_mul15, nat_mul60, nat_cast, nc1, Int.reduceToNat, upE, upN, fill_ne, fill_in, i0, j1, i9, r1, r4, r6, how, hdu]; with_reducible exact rfl))
    | (with_reducible refine wp_eq (c_Mo_comesIn (by omega) _ _ _ _) ?_; with_reducible refine wp_eq (b_Mo_comesIn_0 _ _ _ _ _) ?_)
    | (with_reducible refine wp_eq (c_Mo_shipRow (by omega) _ _ _) ?_; with_reducible refine wp_eq (b_Mo_shipRow_0 _ _ _ _) ?_)
    | (with_reducible refine wp_eq (c_Mo_portRow (by omega) _ _ _) ?_; with_reducible refine wp_eq (b_Mo_portRow_0 _ _ _ _) ?_)
    | (with_reducible refine wp_eq (c_Mo_nationRow (by omega) _ _ _) ?_; with_reducible refine wp_eq (b_Mo_nationRow_0 _ _ _ _) ?_)
    | with_reducible refine wp_eq (e2) ?_
    | with_reducible refine wp_eq (et) ?_
    | (with_reducible apply wp_eq; (with_reducible apply lf_go; simp (disch := omega) only [not_false_eq_true, not_true_eq_false, w32_id, tLt, fLt, tLe, fEq, itE, and_true, true_and, and_self, and_false, false_and, ↓reduceIte, nat_add, nat_mul3, nat_mul4, nat_mul6, nat_mul15, nat_mul60, nat_cast, nc1, Int.reduceToNat, upE, upN, fill_ne, fill_in, i0, j1, i9, r1, r4, r6, how, hdu]; with_reducible exact rfl))
    | with_reducible apply wp_q1
  refine wp_row rfl (fun w hw => ?_) fun b j q1 q2 => ?_
  · by_cases q : w = 6
    · subst q; rw [upE rfl (by omega), wUE rfl]
    · rw [upN (by omega), wUN q]
      by_cases q4 : w = 4
      · subst q4; rw [upE rfl (by omega), wUE rfl]
      · rw [upN (by omega), wUN q4, fill_ne (by omega)]; exact h2.1 w hw
  · rw [upN (by omega), upN (by omega), fill_ne (by omega), upN (by omega), upN (by omega)]
end

/-! WHAT A SHIP DOES, in the model -/
def RelM (M : Mm) (A : Nat → Int) : Prop := (∀ k, k < 206 → M 272 k = A k) ∧ Inv A
section
variable {M : Mm} {A : Nat → Int} {L d : Nat}
theorem RelM.cn (h : RelM M A) : Cn A := h.2.1
theorem RelM.gd (h : RelM M A) : Gd A := h.2.2.1
theorem RelM.sh (h : RelM M A) {i : Nat} (hi : (i : Int) < A 3) : Sh1 A (shp A i) := h.2.2.2.2.2.2.2.1 i hi
theorem ld_shp (A : Nat → Int) (i : Nat) : ld7 (shp A i) = ldF A i := by
  funext g
  unfold ld7 shp ldF
  rw [show 146 + 15 * i + (7 + g) = 153 + 15 * i + g by omega]
theorem RelM.ld (h : RelM M A) {i : Nat} (hi : (i : Int) < A 3) : Ld (ldF A i) := by
  rw [← ld_shp]
  exact (h.sh hi).ldl
theorem RelM.up (h : RelM M A) {a k : Nat} {x : Int} (ha : a ≠ 272) : RelM (up M a k x) A := ⟨fun j hj => by rw [upN (by omega)]; exact h.1 j hj, h.2⟩
theorem RelM.fill (h : RelM M A) {a n : Nat} {f : Nat → Int} (ha : a ≠ 272) : RelM (fillP M a f n) A := ⟨fun j hj => by rw [fill_ne (by omega)]; exact h.1 j hj, h.2⟩
theorem q_shipOf (hd : 2 ≤ d) (h : RelM M A) {s w : Int} (h0 : 0 ≤ s) (h1 : s < A 3) (h2 : 0 ≤ w) (h3 : w < 15) : callD d m_Mo_shipOf [vR 12 0 271, vI s, vI w] (SH L) M = some (some (vI (A (146 + 15 * s.toNat + w.toNat))), SH L, M) := by
  have hC := h.cn
  unfold Cn at hC
  rw [s_Mo_shipOf hd h0 (by omega) h2 h3, h.1 _ (by omega)]
theorem q_loads (hd : 3 ≤ d) (h : RelM M A) {s : Int} (h0 : 0 ≤ s) (h1 : s < A 3) : callD d m_Mo_loads [vR 12 0 271, vI s] (SH L) M = some (none, SH L, fillP M 280 (ldF A s.toNat) 8) := by
  have hC := h.cn
  unfold Cn at hC
  rw [s_Mo_loads hd h0 (by omega), fill_congr (f := ldF (M 272) s.toNat) (f' := ldF A s.toNat) fun g hg => h.1 _ (by omega)]
theorem q_roomOf (hd : 5 ≤ d) (h : RelM M A) {s : Int} (h0 : 0 ≤ s) (h1 : s < A 3) : callD d m_Mo_roomOf [vR 12 0 271, vI s] (SH L) M = some (some (vI (A (149 + 15 * s.toNat) - sm (ldF A s.toNat) 8)), SH L, fillP M 280 (ldF A s.toNat) 8) := by
  have hC := h.cn
  unfold Cn at hC
  have a := (h.sh (i := s.toNat) (by omega)).1
  unfold shp at a
  rw [show 146 + 15 * s.toNat + 3 = 149 + 15 * s.toNat by omega] at a
  have b := sm_bd (h.ld (i := s.toNat) (by omega)) 8 (by omega)
  have e : 146 + 15 * s.toNat + 3 = 149 + 15 * s.toNat := by omega
  repeat' first
    | (with_reducible apply bR_go; (simp (disch := omega) only [rM L, rK L, rN L, rNf, rNv, rNp, rNd, rRow, rLeg, rMark, nat_cast, Int.reduceToNat, e]; with_reducible exact rfl))
    | with_reducible apply bI_go
    | with_reducible apply bV_go
    | with_reducible apply bL_go
    | (with_reducible apply it_1; (first | omega | (simp (disch := omega) only [not_false_eq_true, not_true_eq_false, w32_id, tLt, fLt, tLe, fEq, itE, and_true, true_and, and_self, and_false, false_and, ↓reduceIte, nat_add, nat_mul3, nat_mul4, nat_mul6, nat_mul15, nat_mul60, nat_cast, nc1, Int.reduceToNat, upE, upN, fill_ne, fill_in, i0, e] <;> omega)))
    | (with_reducible apply it_2; (first | omega | (simp (disch := omega) only [not_false_eq_true, not_true_eq_false, w32_id, tLt, fLt, tLe, fEq, itE, and_true, true_and, and_self, and_false, false_and, ↓reduceIte, nat_add, nat_mul3, nat_mul4, nat_mul6, nat_mul15, nat_mul60, nat_cast, nc1, Int.reduceToNat, upE, upN, fill_ne, fill_in, i0, e] <;> omega)))
    | (with_reducible refine cl_go ?_; simp (disch := omega) only [not_false_eq_true, not_true_eq_false, w32_id, tLt, fLt, tLe, fEq, itE, and_true, true_and, and_self, and_false, false_and, ↓reduceIte, nat_add, nat_mul3, nat_mul4, nat_mul6, nat_mul15, nat_mul60, nat_cast, nc1, Int.reduceToNat, upE, upN, fill_ne, fill_in, i0, e])
    | rw [c_Mo_roomOf (by omega), b_Mo_roomOf_0]
    | rw [c_Mo_tonsOf (by omega), b_Mo_tonsOf_0]
    | with_reducible exact q_shipOf (by omega) h (by omega) (by omega) (by omega) (by omega)
    | with_reducible exact q_loads (by omega) h (by omega) (by omega)
    | with_reducible exact n_tons (by omega) (ld := ldF A s.toNat) (by intro g hg; simp (disch := omega) only [upN, fill_in, fill_ne]) (h.ld (by omega))
    | (with_reducible refine rn_go ?_; simp (disch := omega) only [not_false_eq_true, not_true_eq_false, w32_id, tLt, fLt, tLe, fEq, itE, and_true, true_and, and_self, and_false, false_and, ↓reduceIte, nat_add, nat_mul3, nat_mul4, nat_mul6, nat_mul15, nat_mul60, nat_cast, nc1, Int.reduceToNat, upE, upN, fill_ne, fill_in, i0, e])
    | (with_reducible refine lf_go ?_; simp (disch := omega) only [not_false_eq_true, not_true_eq_false, w32_id, tLt, fLt, tLe, fEq, itE, and_true, true_and, and_self, and_false, false_and, ↓reduceIte, nat_add, nat_mul3, nat_mul4, nat_mul6, nat_mul15, nat_mul60, nat_cast, nc1, Int.reduceToNat, upE, upN, fill_ne, fill_in, i0, e])
    | with_reducible exact rfl
theorem q_flag (hd : 5 ≤ d) (h : RelM M A) {ld : Nat → Int} (hl : ∀ g, g < 8 → M 280 g = ld g) (hL : Ld ld) : callD d m_Mo_flag [vR 12 0 271] (SH L) M = some (some (vI (flg (fun n => wts A ld (A 4) n) (A 0).toNat)), SH L, M) := by
  have hC := h.cn
  unfold Cn at hC
  exact s_Mo_flag hd h.1 (fun g hg => hl g (by omega)) h.cn h.gd hL
theorem q_flagOf (hd : 6 ≤ d) (h : RelM M A) {s : Int} (h0 : 0 ≤ s) (h1 : s < A 3) : callD d m_Mo_flagOf [vR 12 0 271, vI s] (SH L) M = some (some (vI (fl A s.toNat)), SH L, fillP M 280 (ldF A s.toNat) 8) := by
  have hC := h.cn
  unfold Cn at hC
  unfold fl
  repeat' first
    | (with_reducible apply bR_go; (simp (disch := omega) only [rM L, rK L, rN L, rNf, rNv, rNp, rNd, rRow, rLeg, rMark, nat_cast, Int.reduceToNat]; with_reducible exact rfl))
    | with_reducible apply bI_go
    | with_reducible apply bV_go
    | with_reducible apply bL_go
    | (with_reducible apply it_1; (first | omega | (simp (disch := omega) only [not_false_eq_true, not_true_eq_false, w32_id, tLt, fLt, tLe, fEq, itE, and_true, true_and, and_self, and_false, false_and, ↓reduceIte, nat_add, nat_mul3, nat_mul4, nat_mul6, nat_mul15, nat_mul60, nat_cast, nc1, Int.reduceToNat, upE, upN, fill_ne, fill_in, i0] <;> omega)))
    | (with_reducible apply it_2; (first | omega | (simp (disch := omega) only [not_false_eq_true, not_true_eq_false, w32_id, tLt, fLt, tLe, fEq, itE, and_true, true_and, and_self, and_false, false_and, ↓reduceIte, nat_add, nat_mul3, nat_mul4, nat_mul6, nat_mul15, nat_mul60, nat_cast, nc1, Int.reduceToNat, upE, upN, fill_ne, fill_in, i0] <;> omega)))
    | (with_reducible refine cl_go ?_; simp (disch := omega) only [not_false_eq_true, not_true_eq_false, w32_id, tLt, fLt, tLe, fEq, itE, and_true, true_and, and_self, and_false, false_and, ↓reduceIte, nat_add, nat_mul3, nat_mul4, nat_mul6, nat_mul15, nat_mul60, nat_cast, nc1, Int.reduceToNat, upE, upN, fill_ne, fill_in, i0])
    | rw [c_Mo_flagOf (by omega), b_Mo_flagOf_0]
    | with_reducible exact q_loads (by omega) h (by omega) (by omega)
    | with_reducible exact q_flag (by omega) (h.fill (by omega)) (ld := ldF A s.toNat) (by intro g hg; simp (disch := omega) only [upN, fill_in, fill_ne]) (h.ld (by omega))
    | (with_reducible refine rn_go ?_; simp (disch := omega) only [not_false_eq_true, not_true_eq_false, w32_id, tLt, fLt, tLe, fEq, itE, and_true, true_and, and_self, and_false, false_and, ↓reduceIte, nat_add, nat_mul3, nat_mul4, nat_mul6, nat_mul15, nat_mul60, nat_cast, nc1, Int.reduceToNat, upE, upN, fill_ne, fill_in, i0])
    | (with_reducible refine lf_go ?_; simp (disch := omega) only [not_false_eq_true, not_true_eq_false, w32_id, tLt, fLt, tLe, fEq, itE, and_true, true_and, and_self, and_false, false_and, ↓reduceIte, nat_add, nat_mul3, nat_mul4, nat_mul6, nat_mul15, nat_mul60, nat_cast, nc1, Int.reduceToNat, upE, upN, fill_ne, fill_in, i0])
    | with_reducible exact rfl
theorem i150 (i : Nat) : 146 + 15 * i + 4 = 150 + 15 * i := by omega
theorem i147 (i : Nat) : 146 + 15 * i + 1 = 147 + 15 * i ∧ 146 + 15 * i + 2 = 148 + 15 * i ∧ 146 + 15 * i + 3 = 149 + 15 * i := by omega
/-- what is needed of a ship's row, spelled by the model's places -/
theorem RelM.row (h : RelM M A) {i : Nat} (hi : (i : Int) < A 3) : (-1 ≤ A (146 + 15 * i) ∧ A (146 + 15 * i) < A 2 ∧ -1 ≤ A (147 + 15 * i) ∧ A (147 + 15 * i) < A 2 ∧ 0 ≤ A (148 + 15 * i) ∧ A (148 + 15 * i) ≤ 20 ∧ 1 ≤ A (149 + 15 * i) ∧ A (149 + 15 * i) ≤ 60 ∧ 0 ≤ A (150 + 15 * i) ∧ A (150 + 15 * i) ≤ 9999) ∧ ∀ g, g < 8 → 0 ≤ A (153 + 15 * i + g) ∧ A (153 + 15 * i + g) ≤ 60 := by
  have a := (h.sh hi).1
  unfold shp at a
  rw [i0, i150, (i147 i).1, (i147 i).2.1, (i147 i).2.2] at a
  refine ⟨by omega, fun g hg => ?_⟩
  have := (h.sh hi).ld g hg
  unfold shp at this
  rwa [show 146 + 15 * i + (7 + g) = 153 + 15 * i + g by omega] at this
theorem m_buys1 (hd : 6 ≤ d) (h : RelM M A) {s g : Nat} {n : Int} (hs : (s : Int) < A 3) (hg : g < 8) (hn : 1 ≤ n) (hn' : n ≤ 60) (ok : okBuy A (shp A s) g n) : callD d m_Mo_buys [vR 12 0 271, vI (s : Int), vI (g : Int), vI n] (SH L) M = some (some (vI 1), SH L, up (up (fillP M 280 (ldF A s) 8) 272 (153 + 15 * s + g) (A (153 + 15 * s + g) + n)) 272 (150 + 15 * s) (A (150 + 15 * s) - prc A (shp A s) g * n)) := by
  have hC := h.cn
  unfold Cn at hC
  have hA := h.1
  obtain ⟨o1, o2, o3, o4⟩ := ok
  have pb := prc_bd h.2.2.2.2.2.1 h.cn (h.sh hs) o1 hg
  have mb := mul_bd pb.1 pb.2 (show 0 ≤ n by omega) hn'
  obtain ⟨rw0, rw1⟩ := h.row hs
  have lb := rw1 g hg
  rw [ld_shp] at o3
  unfold shp at o1 o3 o4
  rw [i0] at o1
  rw [(i147 s).2.2] at o3
  rw [i150] at o4
  have hpr : A (57 + 15 * (A (146 + 15 * s)).toNat + g) = prc A (shp A s) g := rfl
  have hpr' : prc A (fun w => A (146 + 15 * s + w)) g = prc A (shp A s) g := rfl
  rw [hpr'] at o4
  have hcm : n * prc A (shp A s) g = prc A (shp A s) g * n := Int.mul_comm _ _
  repeat' first
    | (with_reducible apply bR_go; (simp (disch := omega) only [rM L, rK L, rN L, rNf, rNv, rNp, rNd, rRow, rLeg, rMark, nat_cast, Int.reduceToNat, hA, i57, i153, i150, hpr, hcm]; with_reducible exact rfl))
    | with_reducible apply bI_go
    | with_reducible apply bV_go
    | with_reducible apply bL_go
    | (with_reducible apply it_1; (first | omega | (simp (disch := omega) only [not_false_eq_true, not_true_eq_false, w32_id, tLt, fLt, tLe, fEq, itE, and_true, true_and, and_self, and_false, false_and, ↓reduceIte, nat_add, nat_mul3, nat_mul4, nat_mul6, nat_mul15, nat_mul60, nat_cast, nc1, Int.reduceToNat, upE, upN, fill_ne, fill_in, i0, hA, i57, i153, i150, hpr, hcm] <;> omega)))
    | (with_reducible apply it_2; (first | omega | (simp (disch := omega) only [not_false_eq_true, not_true_eq_false, w32_id, tLt, fLt, tLe, fEq, itE, and_true, true_and, and_self, and_false, false_and, ↓reduceIte, nat_add, nat_mul3, nat_mul4, nat_mul6, nat_mul15, nat_mul60, nat_cast, nc1, Int.reduceToNat, upE, upN, fill_ne, fill_in, i0, hA, i57, i153, i150, hpr, hcm] <;> omega)))
    | (with_reducible refine cl_go ?_; simp (disch := omega) only [not_false_eq_true, not_true_eq_false, w32_id, tLt, fLt, tLe, fEq, itE, and_true, true_and, and_self, and_false, false_and, ↓reduceIte, nat_add, nat_mul3, nat_mul4, nat_mul6, nat_mul15, nat_mul60, nat_cast, nc1, Int.reduceToNat, upE, upN, fill_ne, fill_in, i0, hA, i57, i153, i150, hpr, hcm])
    | rw [c_Mo_buys (by omega), b_Mo_buys_0]
    | rw [c_Mo_priceOf (by omega), b_Mo_priceOf_0]
    | rw [c_Mo_portRow (by omega), b_Mo_portRow_0]
    | rw [c_Mo_loadRow (by omega), b_Mo_loadRow_0]
    | rw [c_Mo_shipRow (by omega), b_Mo_shipRow_0]
    | with_reducible exact q_shipOf (by omega) h (by omega) (by omega) (by omega) (by omega)
    | with_reducible exact q_roomOf (by omega) h (by omega) (by omega)
    | with_reducible exact q_shipOf (by omega) (h.fill (by omega)) (by omega) (by omega) (by omega) (by omega)
    | (with_reducible refine rn_go ?_; simp (disch := omega) only [not_false_eq_true, not_true_eq_false, w32_id, tLt, fLt, tLe, fEq, itE, and_true, true_and, and_self, and_false, false_and, ↓reduceIte, nat_add, nat_mul3, nat_mul4, nat_mul6, nat_mul15, nat_mul60, nat_cast, nc1, Int.reduceToNat, upE, upN, fill_ne, fill_in, i0, hA, i57, i153, i150, hpr, hcm])
    | (with_reducible refine lf_go ?_; simp (disch := omega) only [not_false_eq_true, not_true_eq_false, w32_id, tLt, fLt, tLe, fEq, itE, and_true, true_and, and_self, and_false, false_and, ↓reduceIte, nat_add, nat_mul3, nat_mul4, nat_mul6, nat_mul15, nat_mul60, nat_cast, nc1, Int.reduceToNat, upE, upN, fill_ne, fill_in, i0, hA, i57, i153, i150, hpr, hcm])
    | with_reducible exact rfl
theorem m_buys0 (hd : 6 ≤ d) (h : RelM M A) {s g : Nat} {n : Int} (hs : (s : Int) < A 3) (hg : g < 8) (hn : 1 ≤ n) (hn' : n ≤ 60) (no : ¬okBuy A (shp A s) g n) : callD d m_Mo_buys [vR 12 0 271, vI (s : Int), vI (g : Int), vI n] (SH L) M = some (some (vI 0), SH L, M) ∨ callD d m_Mo_buys [vR 12 0 271, vI (s : Int), vI (g : Int), vI n] (SH L) M = some (some (vI 0), SH L, fillP M 280 (ldF A s) 8) := by
  have hC := h.cn
  unfold Cn at hC
  have hA := h.1
  obtain ⟨rw0, rw1⟩ := h.row hs
  have hpr : A (57 + 15 * (A (146 + 15 * s)).toNat + g) = prc A (shp A s) g := rfl
  have hcm : n * prc A (shp A s) g = prc A (shp A s) g * n := Int.mul_comm _ _
  by_cases o1 : A (146 + 15 * s) = -1
  · left
    repeat' first
      | (with_reducible apply bR_go; (simp (disch := omega) only [rM L, rK L, rN L, rNf, rNv, rNp, rNd, rRow, rLeg, rMark, nat_cast, Int.reduceToNat, o1]; with_reducible exact rfl))
      | with_reducible apply bI_go
      | with_reducible apply bV_go
      | with_reducible apply bL_go
      | (with_reducible apply it_1; (first | omega | (simp (disch := omega) only [not_false_eq_true, not_true_eq_false, w32_id, tLt, fLt, tLe, fEq, itE, and_true, true_and, and_self, and_false, false_and, ↓reduceIte, nat_add, nat_mul3, nat_mul4, nat_mul6, nat_mul15, nat_mul60, nat_cast, nc1, Int.reduceToNat, upE, upN, fill_ne, fill_in, i0, o1] <;> omega)))
      | (with_reducible apply it_2; (first | omega | (simp (disch := omega) only [not_false_eq_true, not_true_eq_false, w32_id, tLt, fLt, tLe, fEq, itE, and_true, true_and, and_self, and_false, false_and, ↓reduceIte, nat_add, nat_mul3, nat_mul4, nat_mul6, nat_mul15, nat_mul60, nat_cast, nc1, Int.reduceToNat, upE, upN, fill_ne, fill_in, i0, o1] <;> omega)))
      | (with_reducible refine cl_go ?_; simp (disch := omega) only [not_false_eq_true, not_true_eq_false, w32_id, tLt, fLt, tLe, fEq, itE, and_true, true_and, and_self, and_false, false_and, ↓reduceIte, nat_add, nat_mul3, nat_mul4, nat_mul6, nat_mul15, nat_mul60, nat_cast, nc1, Int.reduceToNat, upE, upN, fill_ne, fill_in, i0, o1])
      | rw [c_Mo_buys (by omega), b_Mo_buys_0]
      | with_reducible exact q_shipOf (by omega) h (by omega) (by omega) (by omega) (by omega)
      | (with_reducible refine rn_go ?_; simp (disch := omega) only [not_false_eq_true, not_true_eq_false, w32_id, tLt, fLt, tLe, fEq, itE, and_true, true_and, and_self, and_false, false_and, ↓reduceIte, nat_add, nat_mul3, nat_mul4, nat_mul6, nat_mul15, nat_mul60, nat_cast, nc1, Int.reduceToNat, upE, upN, fill_ne, fill_in, i0, o1])
      | (with_reducible refine lf_go ?_; simp (disch := omega) only [not_false_eq_true, not_true_eq_false, w32_id, tLt, fLt, tLe, fEq, itE, and_true, true_and, and_self, and_false, false_and, ↓reduceIte, nat_add, nat_mul3, nat_mul4, nat_mul6, nat_mul15, nat_mul60, nat_cast, nc1, Int.reduceToNat, upE, upN, fill_ne, fill_in, i0, o1])
      | with_reducible exact rfl
  have pb := prc_bd h.2.2.2.2.2.1 h.cn (h.sh hs) o1 hg
  have mb := mul_bd pb.1 pb.2 (show 0 ≤ n by omega) hn'
  by_cases o2 : prc A (shp A s) g = 0
  · left
    repeat' first
      | (with_reducible apply bR_go; (simp (disch := omega) only [rM L, rK L, rN L, rNf, rNv, rNp, rNd, rRow, rLeg, rMark, nat_cast, Int.reduceToNat, hA, i57, hpr]; with_reducible exact rfl))
      | with_reducible apply bI_go
      | with_reducible apply bV_go
      | with_reducible apply bL_go
      | (with_reducible apply it_1; (first | omega | (simp (disch := omega) only [not_false_eq_true, not_true_eq_false, w32_id, tLt, fLt, tLe, fEq, itE, and_true, true_and, and_self, and_false, false_and, ↓reduceIte, nat_add, nat_mul3, nat_mul4, nat_mul6, nat_mul15, nat_mul60, nat_cast, nc1, Int.reduceToNat, upE, upN, fill_ne, fill_in, i0, hA, i57, hpr] <;> omega)))
      | (with_reducible apply it_2; (first | omega | (simp (disch := omega) only [not_false_eq_true, not_true_eq_false, w32_id, tLt, fLt, tLe, fEq, itE, and_true, true_and, and_self, and_false, false_and, ↓reduceIte, nat_add, nat_mul3, nat_mul4, nat_mul6, nat_mul15, nat_mul60, nat_cast, nc1, Int.reduceToNat, upE, upN, fill_ne, fill_in, i0, hA, i57, hpr] <;> omega)))
      | (with_reducible refine cl_go ?_; simp (disch := omega) only [not_false_eq_true, not_true_eq_false, w32_id, tLt, fLt, tLe, fEq, itE, and_true, true_and, and_self, and_false, false_and, ↓reduceIte, nat_add, nat_mul3, nat_mul4, nat_mul6, nat_mul15, nat_mul60, nat_cast, nc1, Int.reduceToNat, upE, upN, fill_ne, fill_in, i0, hA, i57, hpr])
      | rw [c_Mo_buys (by omega), b_Mo_buys_0]
      | rw [c_Mo_priceOf (by omega), b_Mo_priceOf_0]
      | rw [c_Mo_portRow (by omega), b_Mo_portRow_0]
      | with_reducible exact q_shipOf (by omega) h (by omega) (by omega) (by omega) (by omega)
      | (with_reducible refine rn_go ?_; simp (disch := omega) only [not_false_eq_true, not_true_eq_false, w32_id, tLt, fLt, tLe, fEq, itE, and_true, true_and, and_self, and_false, false_and, ↓reduceIte, nat_add, nat_mul3, nat_mul4, nat_mul6, nat_mul15, nat_mul60, nat_cast, nc1, Int.reduceToNat, upE, upN, fill_ne, fill_in, i0, hA, i57, hpr])
      | (with_reducible refine lf_go ?_; simp (disch := omega) only [not_false_eq_true, not_true_eq_false, w32_id, tLt, fLt, tLe, fEq, itE, and_true, true_and, and_self, and_false, false_and, ↓reduceIte, nat_add, nat_mul3, nat_mul4, nat_mul6, nat_mul15, nat_mul60, nat_cast, nc1, Int.reduceToNat, upE, upN, fill_ne, fill_in, i0, hA, i57, hpr])
      | with_reducible exact rfl
  right
  by_cases o3 : n ≤ A (149 + 15 * s) - sm (ldF A s) 8
  · have o4 : A (150 + 15 * s) < prc A (shp A s) g * n := by
      by_cases q : prc A (shp A s) g * n ≤ A (150 + 15 * s)
      · refine absurd ⟨o1, o2, ?_, ?_⟩ no
        · rw [ld_shp]
          unfold shp
          rw [(i147 s).2.2]
          exact o3
        · unfold shp
          rw [i150]
          exact q
      · omega
    repeat' first
      | (with_reducible apply bR_go; (simp (disch := omega) only [rM L, rK L, rN L, rNf, rNv, rNp, rNd, rRow, rLeg, rMark, nat_cast, Int.reduceToNat, hA, i57, i150, hpr, hcm]; with_reducible exact rfl))
      | with_reducible apply bI_go
      | with_reducible apply bV_go
      | with_reducible apply bL_go
      | (with_reducible apply it_1; (first | omega | (simp (disch := omega) only [not_false_eq_true, not_true_eq_false, w32_id, tLt, fLt, tLe, fEq, itE, and_true, true_and, and_self, and_false, false_and, ↓reduceIte, nat_add, nat_mul3, nat_mul4, nat_mul6, nat_mul15, nat_mul60, nat_cast, nc1, Int.reduceToNat, upE, upN, fill_ne, fill_in, i0, hA, i57, i150, hpr, hcm] <;> omega)))
      | (with_reducible apply it_2; (first | omega | (simp (disch := omega) only [not_false_eq_true, not_true_eq_false, w32_id, tLt, fLt, tLe, fEq, itE, and_true, true_and, and_self, and_false, false_and, ↓reduceIte, nat_add, nat_mul3, nat_mul4, nat_mul6, nat_mul15, nat_mul60, nat_cast, nc1, Int.reduceToNat, upE, upN, fill_ne, fill_in, i0, hA, i57, i150, hpr, hcm] <;> omega)))
      | (with_reducible refine cl_go ?_; simp (disch := omega) only [not_false_eq_true, not_true_eq_false, w32_id, tLt, fLt, tLe, fEq, itE, and_true, true_and, and_self, and_false, false_and, ↓reduceIte, nat_add, nat_mul3, nat_mul4, nat_mul6, nat_mul15, nat_mul60, nat_cast, nc1, Int.reduceToNat, upE, upN, fill_ne, fill_in, i0, hA, i57, i150, hpr, hcm])
      | rw [c_Mo_buys (by omega), b_Mo_buys_0]
      | rw [c_Mo_priceOf (by omega), b_Mo_priceOf_0]
      | rw [c_Mo_portRow (by omega), b_Mo_portRow_0]
      | with_reducible exact q_shipOf (by omega) h (by omega) (by omega) (by omega) (by omega)
      | with_reducible exact q_roomOf (by omega) h (by omega) (by omega)
      | with_reducible exact q_shipOf (by omega) (h.fill (by omega)) (by omega) (by omega) (by omega) (by omega)
      | (with_reducible refine rn_go ?_; simp (disch := omega) only [not_false_eq_true, not_true_eq_false, w32_id, tLt, fLt, tLe, fEq, itE, and_true, true_and, and_self, and_false, false_and, ↓reduceIte, nat_add, nat_mul3, nat_mul4, nat_mul6, nat_mul15, nat_mul60, nat_cast, nc1, Int.reduceToNat, upE, upN, fill_ne, fill_in, i0, hA, i57, i150, hpr, hcm])
      | (with_reducible refine lf_go ?_; simp (disch := omega) only [not_false_eq_true, not_true_eq_false, w32_id, tLt, fLt, tLe, fEq, itE, and_true, true_and, and_self, and_false, false_and, ↓reduceIte, nat_add, nat_mul3, nat_mul4, nat_mul6, nat_mul15, nat_mul60, nat_cast, nc1, Int.reduceToNat, upE, upN, fill_ne, fill_in, i0, hA, i57, i150, hpr, hcm])
      | with_reducible exact rfl
  · repeat' first
      | (with_reducible apply bR_go; (simp (disch := omega) only [rM L, rK L, rN L, rNf, rNv, rNp, rNd, rRow, rLeg, rMark, nat_cast, Int.reduceToNat, hA, i57, hpr]; with_reducible exact rfl))
      | with_reducible apply bI_go
      | with_reducible apply bV_go
      | with_reducible apply bL_go
      | (with_reducible apply it_1; (first | omega | (simp (disch := omega) only [not_false_eq_true, not_true_eq_false, w32_id, tLt, fLt, tLe, fEq, itE, and_true, true_and, and_self, and_false, false_and, ↓reduceIte, nat_add, nat_mul3, nat_mul4, nat_mul6, nat_mul15, nat_mul60, nat_cast, nc1, Int.reduceToNat, upE, upN, fill_ne, fill_in, i0, hA, i57, hpr] <;> omega)))
      | (with_reducible apply it_2; (first | omega | (simp (disch := omega) only [not_false_eq_true, not_true_eq_false, w32_id, tLt, fLt, tLe, fEq, itE, and_true, true_and, and_self, and_false, false_and, ↓reduceIte, nat_add, nat_mul3, nat_mul4, nat_mul6, nat_mul15, nat_mul60, nat_cast, nc1, Int.reduceToNat, upE, upN, fill_ne, fill_in, i0, hA, i57, hpr] <;> omega)))
      | (with_reducible refine cl_go ?_; simp (disch := omega) only [not_false_eq_true, not_true_eq_false, w32_id, tLt, fLt, tLe, fEq, itE, and_true, true_and, and_self, and_false, false_and, ↓reduceIte, nat_add, nat_mul3, nat_mul4, nat_mul6, nat_mul15, nat_mul60, nat_cast, nc1, Int.reduceToNat, upE, upN, fill_ne, fill_in, i0, hA, i57, hpr])
      | rw [c_Mo_buys (by omega), b_Mo_buys_0]
      | rw [c_Mo_priceOf (by omega), b_Mo_priceOf_0]
      | rw [c_Mo_portRow (by omega), b_Mo_portRow_0]
      | with_reducible exact q_shipOf (by omega) h (by omega) (by omega) (by omega) (by omega)
      | with_reducible exact q_roomOf (by omega) h (by omega) (by omega)
      | (with_reducible refine rn_go ?_; simp (disch := omega) only [not_false_eq_true, not_true_eq_false, w32_id, tLt, fLt, tLe, fEq, itE, and_true, true_and, and_self, and_false, false_and, ↓reduceIte, nat_add, nat_mul3, nat_mul4, nat_mul6, nat_mul15, nat_mul60, nat_cast, nc1, Int.reduceToNat, upE, upN, fill_ne, fill_in, i0, hA, i57, hpr])
      | (with_reducible refine lf_go ?_; simp (disch := omega) only [not_false_eq_true, not_true_eq_false, w32_id, tLt, fLt, tLe, fEq, itE, and_true, true_and, and_self, and_false, false_and, ↓reduceIte, nat_add, nat_mul3, nat_mul4, nat_mul6, nat_mul15, nat_mul60, nat_cast, nc1, Int.reduceToNat, upE, upN, fill_ne, fill_in, i0, hA, i57, hpr])
      | with_reducible exact rfl
theorem m_sells1 (hd : 6 ≤ d) (h : RelM M A) {s g : Nat} {n : Int} (hs : (s : Int) < A 3) (hg : g < 8) (hn : 1 ≤ n) (hn' : n ≤ 60) (ok : okSell A (shp A s) g n) : callD d m_Mo_sells [vR 12 0 271, vI (s : Int), vI (g : Int), vI n] (SH L) M = some (some (vI 1), SH L, up (up M 272 (153 + 15 * s + g) (A (153 + 15 * s + g) - n)) 272 (150 + 15 * s) (min 9999 (A (150 + 15 * s) + prc A (shp A s) g * n))) := by
  have hC := h.cn
  unfold Cn at hC
  have hA := h.1
  obtain ⟨o1, o2, o3⟩ := ok
  have pb := prc_bd h.2.2.2.2.2.1 h.cn (h.sh hs) o1 hg
  have mb := mul_bd pb.1 pb.2 (show 0 ≤ n by omega) hn'
  obtain ⟨rw0, rw1⟩ := h.row hs
  have lb := rw1 g hg
  unfold shp at o1 o3
  rw [i0] at o1
  rw [i153'] at o3
  have hpr : A (57 + 15 * (A (146 + 15 * s)).toNat + g) = prc A (shp A s) g := rfl
  have hcm : n * prc A (shp A s) g = prc A (shp A s) g * n := Int.mul_comm _ _
  repeat' first
    | (with_reducible apply bR_go; (simp (disch := omega) only [rM L, rK L, rN L, rNf, rNv, rNp, rNd, rRow, rLeg, rMark, nat_cast, Int.reduceToNat, hA, i57, i153, i150, hpr, hcm]; with_reducible exact rfl))
    | with_reducible apply bI_go
    | with_reducible apply bV_go
    | with_reducible apply bL_go
    | (with_reducible apply it_1; (first | omega | (simp (disch := omega) only [not_false_eq_true, not_true_eq_false, w32_id, tLt, fLt, tLe, fEq, itE, and_true, true_and, and_self, and_false, false_and, ↓reduceIte, nat_add, nat_mul3, nat_mul4, nat_mul6, nat_mul15, nat_mul60, nat_cast, nc1, Int.reduceToNat, upE, upN, fill_ne, fill_in, i0, hA, i57, i153, i150, hpr, hcm] <;> omega)))
    | (with_reducible apply it_2; (first | omega | (simp (disch := omega) only [not_false_eq_true, not_true_eq_false, w32_id, tLt, fLt, tLe, fEq, itE, and_true, true_and, and_self, and_false, false_and, ↓reduceIte, nat_add, nat_mul3, nat_mul4, nat_mul6, nat_mul15, nat_mul60, nat_cast, nc1, Int.reduceToNat, upE, upN, fill_ne, fill_in, i0, hA, i57, i153, i150, hpr, hcm] <;> omega)))
    | (with_reducible refine cl_go ?_; simp (disch := omega) only [not_false_eq_true, not_true_eq_false, w32_id, tLt, fLt, tLe, fEq, itE, and_true, true_and, and_self, and_false, false_and, ↓reduceIte, nat_add, nat_mul3, nat_mul4, nat_mul6, nat_mul15, nat_mul60, nat_cast, nc1, Int.reduceToNat, upE, upN, fill_ne, fill_in, i0, hA, i57, i153, i150, hpr, hcm])
    | rw [c_Mo_sells (by omega), b_Mo_sells_0]
    | rw [c_Mo_priceOf (by omega), b_Mo_priceOf_0]
    | rw [c_Mo_portRow (by omega), b_Mo_portRow_0]
    | rw [c_Mo_loadRow (by omega), b_Mo_loadRow_0]
    | rw [c_Mo_shipRow (by omega), b_Mo_shipRow_0]
    | rw [c_Mo_shipOf (by omega), b_Mo_shipOf_0]
    | (with_reducible refine rn_go ?_; simp (disch := omega) only [not_false_eq_true, not_true_eq_false, w32_id, tLt, fLt, tLe, fEq, itE, and_true, true_and, and_self, and_false, false_and, ↓reduceIte, nat_add, nat_mul3, nat_mul4, nat_mul6, nat_mul15, nat_mul60, nat_cast, nc1, Int.reduceToNat, upE, upN, fill_ne, fill_in, i0, hA, i57, i153, i150, hpr, hcm])
    | (with_reducible refine lf_go ?_; simp (disch := omega) only [not_false_eq_true, not_true_eq_false, w32_id, tLt, fLt, tLe, fEq, itE, and_true, true_and, and_self, and_false, false_and, ↓reduceIte, nat_add, nat_mul3, nat_mul4, nat_mul6, nat_mul15, nat_mul60, nat_cast, nc1, Int.reduceToNat, upE, upN, fill_ne, fill_in, i0, hA, i57, i153, i150, hpr, hcm])
    | with_reducible exact rfl
theorem m_sells0 (hd : 6 ≤ d) (h : RelM M A) {s g : Nat} {n : Int} (hs : (s : Int) < A 3) (hg : g < 8) (no : ¬okSell A (shp A s) g n) : callD d m_Mo_sells [vR 12 0 271, vI (s : Int), vI (g : Int), vI n] (SH L) M = some (some (vI 0), SH L, M) := by
  have hC := h.cn
  unfold Cn at hC
  have hA := h.1
  obtain ⟨rw0, rw1⟩ := h.row hs
  have hpr : A (57 + 15 * (A (146 + 15 * s)).toNat + g) = prc A (shp A s) g := rfl
  by_cases o1 : A (146 + 15 * s) = -1
  · repeat' first
      | (with_reducible apply bR_go; (simp (disch := omega) only [rM L, rK L, rN L, rNf, rNv, rNp, rNd, rRow, rLeg, rMark, nat_cast, Int.reduceToNat, hA, o1]; with_reducible exact rfl))
      | with_reducible apply bI_go
      | with_reducible apply bV_go
      | with_reducible apply bL_go
      | (with_reducible apply it_1; (first | omega | (simp (disch := omega) only [not_false_eq_true, not_true_eq_false, w32_id, tLt, fLt, tLe, fEq, itE, and_true, true_and, and_self, and_false, false_and, ↓reduceIte, nat_add, nat_mul3, nat_mul4, nat_mul6, nat_mul15, nat_mul60, nat_cast, nc1, Int.reduceToNat, upE, upN, fill_ne, fill_in, i0, hA, o1] <;> omega)))
      | (with_reducible apply it_2; (first | omega | (simp (disch := omega) only [not_false_eq_true, not_true_eq_false, w32_id, tLt, fLt, tLe, fEq, itE, and_true, true_and, and_self, and_false, false_and, ↓reduceIte, nat_add, nat_mul3, nat_mul4, nat_mul6, nat_mul15, nat_mul60, nat_cast, nc1, Int.reduceToNat, upE, upN, fill_ne, fill_in, i0, hA, o1] <;> omega)))
      | (with_reducible refine cl_go ?_; simp (disch := omega) only [not_false_eq_true, not_true_eq_false, w32_id, tLt, fLt, tLe, fEq, itE, and_true, true_and, and_self, and_false, false_and, ↓reduceIte, nat_add, nat_mul3, nat_mul4, nat_mul6, nat_mul15, nat_mul60, nat_cast, nc1, Int.reduceToNat, upE, upN, fill_ne, fill_in, i0, hA, o1])
      | rw [c_Mo_sells (by omega), b_Mo_sells_0]
      | rw [c_Mo_shipOf (by omega), b_Mo_shipOf_0]
      | rw [c_Mo_shipRow (by omega), b_Mo_shipRow_0]
      | (with_reducible refine rn_go ?_; simp (disch := omega) only [not_false_eq_true, not_true_eq_false, w32_id, tLt, fLt, tLe, fEq, itE, and_true, true_and, and_self, and_false, false_and, ↓reduceIte, nat_add, nat_mul3, nat_mul4, nat_mul6, nat_mul15, nat_mul60, nat_cast, nc1, Int.reduceToNat, upE, upN, fill_ne, fill_in, i0, hA, o1])
      | (with_reducible refine lf_go ?_; simp (disch := omega) only [not_false_eq_true, not_true_eq_false, w32_id, tLt, fLt, tLe, fEq, itE, and_true, true_and, and_self, and_false, false_and, ↓reduceIte, nat_add, nat_mul3, nat_mul4, nat_mul6, nat_mul15, nat_mul60, nat_cast, nc1, Int.reduceToNat, upE, upN, fill_ne, fill_in, i0, hA, o1])
      | with_reducible exact rfl
  by_cases o2 : prc A (shp A s) g = 0
  · repeat' first
      | (with_reducible apply bR_go; (simp (disch := omega) only [rM L, rK L, rN L, rNf, rNv, rNp, rNd, rRow, rLeg, rMark, nat_cast, Int.reduceToNat, hA, i57, hpr]; with_reducible exact rfl))
      | with_reducible apply bI_go
      | with_reducible apply bV_go
      | with_reducible apply bL_go
      | (with_reducible apply it_1; (first | omega | (simp (disch := omega) only [not_false_eq_true, not_true_eq_false, w32_id, tLt, fLt, tLe, fEq, itE, and_true, true_and, and_self, and_false, false_and, ↓reduceIte, nat_add, nat_mul3, nat_mul4, nat_mul6, nat_mul15, nat_mul60, nat_cast, nc1, Int.reduceToNat, upE, upN, fill_ne, fill_in, i0, hA, i57, hpr] <;> omega)))
      | (with_reducible apply it_2; (first | omega | (simp (disch := omega) only [not_false_eq_true, not_true_eq_false, w32_id, tLt, fLt, tLe, fEq, itE, and_true, true_and, and_self, and_false, false_and, ↓reduceIte, nat_add, nat_mul3, nat_mul4, nat_mul6, nat_mul15, nat_mul60, nat_cast, nc1, Int.reduceToNat, upE, upN, fill_ne, fill_in, i0, hA, i57, hpr] <;> omega)))
      | (with_reducible refine cl_go ?_; simp (disch := omega) only [not_false_eq_true, not_true_eq_false, w32_id, tLt, fLt, tLe, fEq, itE, and_true, true_and, and_self, and_false, false_and, ↓reduceIte, nat_add, nat_mul3, nat_mul4, nat_mul6, nat_mul15, nat_mul60, nat_cast, nc1, Int.reduceToNat, upE, upN, fill_ne, fill_in, i0, hA, i57, hpr])
      | rw [c_Mo_sells (by omega), b_Mo_sells_0]
      | rw [c_Mo_shipOf (by omega), b_Mo_shipOf_0]
      | rw [c_Mo_shipRow (by omega), b_Mo_shipRow_0]
      | rw [c_Mo_priceOf (by omega), b_Mo_priceOf_0]
      | rw [c_Mo_portRow (by omega), b_Mo_portRow_0]
      | (with_reducible refine rn_go ?_; simp (disch := omega) only [not_false_eq_true, not_true_eq_false, w32_id, tLt, fLt, tLe, fEq, itE, and_true, true_and, and_self, and_false, false_and, ↓reduceIte, nat_add, nat_mul3, nat_mul4, nat_mul6, nat_mul15, nat_mul60, nat_cast, nc1, Int.reduceToNat, upE, upN, fill_ne, fill_in, i0, hA, i57, hpr])
      | (with_reducible refine lf_go ?_; simp (disch := omega) only [not_false_eq_true, not_true_eq_false, w32_id, tLt, fLt, tLe, fEq, itE, and_true, true_and, and_self, and_false, false_and, ↓reduceIte, nat_add, nat_mul3, nat_mul4, nat_mul6, nat_mul15, nat_mul60, nat_cast, nc1, Int.reduceToNat, upE, upN, fill_ne, fill_in, i0, hA, i57, hpr])
      | with_reducible exact rfl
  have o3 : A (153 + 15 * s + g) < n := by
    by_cases q : n ≤ A (153 + 15 * s + g)
    · refine absurd ⟨o1, o2, ?_⟩ no
      unfold shp
      rw [i153']
      exact q
    · omega
  repeat' first
    | (with_reducible apply bR_go; (simp (disch := omega) only [rM L, rK L, rN L, rNf, rNv, rNp, rNd, rRow, rLeg, rMark, nat_cast, Int.reduceToNat, hA, i57, i153, hpr]; with_reducible exact rfl))
    | with_reducible apply bI_go
    | with_reducible apply bV_go
    | with_reducible apply bL_go
    | (with_reducible apply it_1; (first | omega | (simp (disch := omega) only [not_false_eq_true, not_true_eq_false, w32_id, tLt, fLt, tLe, fEq, itE, and_true, true_and, and_self, and_false, false_and, ↓reduceIte, nat_add, nat_mul3, nat_mul4, nat_mul6, nat_mul15, nat_mul60, nat_cast, nc1, Int.reduceToNat, upE, upN, fill_ne, fill_in, i0, hA, i57, i153, hpr] <;> omega)))
    | (with_reducible apply it_2; (first | omega | (simp (disch := omega) only [not_false_eq_true, not_true_eq_false, w32_id, tLt, fLt, tLe, fEq, itE, and_true, true_and, and_self, and_false, false_and, ↓reduceIte, nat_add, nat_mul3, nat_mul4, nat_mul6, nat_mul15, nat_mul60, nat_cast, nc1, Int.reduceToNat, upE, upN, fill_ne, fill_in, i0, hA, i57, i153, hpr] <;> omega)))
    | (with_reducible refine cl_go ?_; simp (disch := omega) only [not_false_eq_true, not_true_eq_false, w32_id, tLt, fLt, tLe, fEq, itE, and_true, true_and, and_self, and_false, false_and, ↓reduceIte, nat_add, nat_mul3, nat_mul4, nat_mul6, nat_mul15, nat_mul60, nat_cast, nc1, Int.reduceToNat, upE, upN, fill_ne, fill_in, i0, hA, i57, i153, hpr])
    | rw [c_Mo_sells (by omega), b_Mo_sells_0]
    | rw [c_Mo_shipOf (by omega), b_Mo_shipOf_0]
    | rw [c_Mo_shipRow (by omega), b_Mo_shipRow_0]
    | rw [c_Mo_priceOf (by omega), b_Mo_priceOf_0]
    | rw [c_Mo_portRow (by omega), b_Mo_portRow_0]
    | rw [c_Mo_loadRow (by omega), b_Mo_loadRow_0]
    | (with_reducible refine rn_go ?_; simp (disch := omega) only [not_false_eq_true, not_true_eq_false, w32_id, tLt, fLt, tLe, fEq, itE, and_true, true_and, and_self, and_false, false_and, ↓reduceIte, nat_add, nat_mul3, nat_mul4, nat_mul6, nat_mul15, nat_mul60, nat_cast, nc1, Int.reduceToNat, upE, upN, fill_ne, fill_in, i0, hA, i57, i153, hpr])
    | (with_reducible refine lf_go ?_; simp (disch := omega) only [not_false_eq_true, not_true_eq_false, w32_id, tLt, fLt, tLe, fEq, itE, and_true, true_and, and_self, and_false, false_and, ↓reduceIte, nat_add, nat_mul3, nat_mul4, nat_mul6, nat_mul15, nat_mul60, nat_cast, nc1, Int.reduceToNat, upE, upN, fill_ne, fill_in, i0, hA, i57, i153, hpr])
    | with_reducible exact rfl
theorem m_dumps (hd : 6 ≤ d) (h : RelM M A) {s g : Nat} {n : Int} (hs : (s : Int) < A 3) (hg : g < 8) (hn : 1 ≤ n) (hn' : n ≤ 60) : callD d m_Mo_dumps [vR 12 0 271, vI (s : Int), vI (g : Int), vI n] (SH L) M = if n ≤ A (153 + 15 * s + g) then some (some (vI 1), SH L, up M 272 (153 + 15 * s + g) (A (153 + 15 * s + g) - n)) else some (some (vI 0), SH L, M) := by
  have hC := h.cn
  unfold Cn at hC
  have hA := h.1
  have lb := (h.row hs).2 g hg
  by_cases o : n ≤ A (153 + 15 * s + g)
  · rw [if_pos o]
    repeat' first
      | (with_reducible apply bR_go; (simp (disch := omega) only [rM L, rK L, rN L, rNf, rNv, rNp, rNd, rRow, rLeg, rMark, nat_cast, Int.reduceToNat, hA, i153]; with_reducible exact rfl))
      | with_reducible apply bI_go
      | with_reducible apply bV_go
      | with_reducible apply bL_go
      | (with_reducible apply it_1; (first | omega | (simp (disch := omega) only [not_false_eq_true, not_true_eq_false, w32_id, tLt, fLt, tLe, fEq, itE, and_true, true_and, and_self, and_false, false_and, ↓reduceIte, nat_add, nat_mul3, nat_mul4, nat_mul6, nat_mul15, nat_mul60, nat_cast, nc1, Int.reduceToNat, upE, upN, fill_ne, fill_in, i0, hA, i153] <;> omega)))
      | (with_reducible apply it_2; (first | omega | (simp (disch := omega) only [not_false_eq_true, not_true_eq_false, w32_id, tLt, fLt, tLe, fEq, itE, and_true, true_and, and_self, and_false, false_and, ↓reduceIte, nat_add, nat_mul3, nat_mul4, nat_mul6, nat_mul15, nat_mul60, nat_cast, nc1, Int.reduceToNat, upE, upN, fill_ne, fill_in, i0, hA, i153] <;> omega)))
      | (with_reducible refine cl_go ?_; simp (disch := omega) only [not_false_eq_true, not_true_eq_false, w32_id, tLt, fLt, tLe, fEq, itE, and_true, true_and, and_self, and_false, false_and, ↓reduceIte, nat_add, nat_mul3, nat_mul4, nat_mul6, nat_mul15, nat_mul60, nat_cast, nc1, Int.reduceToNat, upE, upN, fill_ne, fill_in, i0, hA, i153])
      | rw [c_Mo_dumps (by omega), b_Mo_dumps_0]
      | rw [c_Mo_loadRow (by omega), b_Mo_loadRow_0]
      | rw [c_Mo_shipRow (by omega), b_Mo_shipRow_0]
      | (with_reducible refine rn_go ?_; simp (disch := omega) only [not_false_eq_true, not_true_eq_false, w32_id, tLt, fLt, tLe, fEq, itE, and_true, true_and, and_self, and_false, false_and, ↓reduceIte, nat_add, nat_mul3, nat_mul4, nat_mul6, nat_mul15, nat_mul60, nat_cast, nc1, Int.reduceToNat, upE, upN, fill_ne, fill_in, i0, hA, i153])
      | (with_reducible refine lf_go ?_; simp (disch := omega) only [not_false_eq_true, not_true_eq_false, w32_id, tLt, fLt, tLe, fEq, itE, and_true, true_and, and_self, and_false, false_and, ↓reduceIte, nat_add, nat_mul3, nat_mul4, nat_mul6, nat_mul15, nat_mul60, nat_cast, nc1, Int.reduceToNat, upE, upN, fill_ne, fill_in, i0, hA, i153])
      | with_reducible exact rfl
  · rw [if_neg o]
    repeat' first
      | (with_reducible apply bR_go; (simp (disch := omega) only [rM L, rK L, rN L, rNf, rNv, rNp, rNd, rRow, rLeg, rMark, nat_cast, Int.reduceToNat, hA, i153]; with_reducible exact rfl))
      | with_reducible apply bI_go
      | with_reducible apply bV_go
      | with_reducible apply bL_go
      | (with_reducible apply it_1; (first | omega | (simp (disch := omega) only [not_false_eq_true, not_true_eq_false, w32_id, tLt, fLt, tLe, fEq, itE, and_true, true_and, and_self, and_false, false_and, ↓reduceIte, nat_add, nat_mul3, nat_mul4, nat_mul6, nat_mul15, nat_mul60, nat_cast, nc1, Int.reduceToNat, upE, upN, fill_ne, fill_in, i0, hA, i153] <;> omega)))
      | (with_reducible apply it_2; (first | omega | (simp (disch := omega) only [not_false_eq_true, not_true_eq_false, w32_id, tLt, fLt, tLe, fEq, itE, and_true, true_and, and_self, and_false, false_and, ↓reduceIte, nat_add, nat_mul3, nat_mul4, nat_mul6, nat_mul15, nat_mul60, nat_cast, nc1, Int.reduceToNat, upE, upN, fill_ne, fill_in, i0, hA, i153] <;> omega)))
      | (with_reducible refine cl_go ?_; simp (disch := omega) only [not_false_eq_true, not_true_eq_false, w32_id, tLt, fLt, tLe, fEq, itE, and_true, true_and, and_self, and_false, false_and, ↓reduceIte, nat_add, nat_mul3, nat_mul4, nat_mul6, nat_mul15, nat_mul60, nat_cast, nc1, Int.reduceToNat, upE, upN, fill_ne, fill_in, i0, hA, i153])
      | rw [c_Mo_dumps (by omega), b_Mo_dumps_0]
      | rw [c_Mo_loadRow (by omega), b_Mo_loadRow_0]
      | rw [c_Mo_shipRow (by omega), b_Mo_shipRow_0]
      | (with_reducible refine rn_go ?_; simp (disch := omega) only [not_false_eq_true, not_true_eq_false, w32_id, tLt, fLt, tLe, fEq, itE, and_true, true_and, and_self, and_false, false_and, ↓reduceIte, nat_add, nat_mul3, nat_mul4, nat_mul6, nat_mul15, nat_mul60, nat_cast, nc1, Int.reduceToNat, upE, upN, fill_ne, fill_in, i0, hA, i153])
      | (with_reducible refine lf_go ?_; simp (disch := omega) only [not_false_eq_true, not_true_eq_false, w32_id, tLt, fLt, tLe, fEq, itE, and_true, true_and, and_self, and_false, false_and, ↓reduceIte, nat_add, nat_mul3, nat_mul4, nat_mul6, nat_mul15, nat_mul60, nat_cast, nc1, Int.reduceToNat, upE, upN, fill_ne, fill_in, i0, hA, i153])
      | with_reducible exact rfl
theorem m_sails1 (hd : 6 ≤ d) (h : RelM M A) {s p : Nat} (hs : (s : Int) < A 3) (hp : p < 6) (ok : okSail A (shp A s) p) : callD d m_Mo_sails [vR 12 0 271, vI (s : Int), vI (p : Int)] (SH L) M = some (some (vI 1), SH L, up (up (up M 272 (146 + 15 * s) (-1)) 272 (147 + 15 * s) p) 272 (148 + 15 * s) (way A (shp A s) p)) := by
  have hC := h.cn
  unfold Cn at hC
  have hA := h.1
  obtain ⟨o1, o2⟩ := ok
  obtain ⟨rw0, rw1⟩ := h.row hs
  have o2 : way A (shp A s) p ≠ 0 := o2
  unfold shp at o1
  rw [i0] at o1
  have hw : A (65 + 15 * (A (146 + 15 * s)).toNat + p) = way A (shp A s) p := rfl
  have hne : ¬ A (146 + 15 * s) = (p : Int) := fun e => by
    have := (h.2.2.2.2.2.2.1 p p hp hp).2.2.2
    rw [← hw, e] at o2
    exact o2 this
  repeat' first
    | (with_reducible apply bR_go; (simp (disch := omega) only [rM L, rK L, rN L, rNf, rNv, rNp, rNd, rRow, rLeg, rMark, nat_cast, Int.reduceToNat, hA, i65, i147, hw]; with_reducible exact rfl))
    | with_reducible apply bI_go
    | with_reducible apply bV_go
    | with_reducible apply bL_go
    | (with_reducible apply it_1; (first | omega | (simp (disch := omega) only [not_false_eq_true, not_true_eq_false, w32_id, tLt, fLt, tLe, fEq, itE, and_true, true_and, and_self, and_false, false_and, ↓reduceIte, nat_add, nat_mul3, nat_mul4, nat_mul6, nat_mul15, nat_mul60, nat_cast, nc1, Int.reduceToNat, upE, upN, fill_ne, fill_in, i0, hA, i65, i147, hw] <;> omega)))
    | (with_reducible apply it_2; (first | omega | (simp (disch := omega) only [not_false_eq_true, not_true_eq_false, w32_id, tLt, fLt, tLe, fEq, itE, and_true, true_and, and_self, and_false, false_and, ↓reduceIte, nat_add, nat_mul3, nat_mul4, nat_mul6, nat_mul15, nat_mul60, nat_cast, nc1, Int.reduceToNat, upE, upN, fill_ne, fill_in, i0, hA, i65, i147, hw] <;> omega)))
    | (with_reducible refine cl_go ?_; simp (disch := omega) only [not_false_eq_true, not_true_eq_false, w32_id, tLt, fLt, tLe, fEq, itE, and_true, true_and, and_self, and_false, false_and, ↓reduceIte, nat_add, nat_mul3, nat_mul4, nat_mul6, nat_mul15, nat_mul60, nat_cast, nc1, Int.reduceToNat, upE, upN, fill_ne, fill_in, i0, hA, i65, i147, hw])
    | rw [c_Mo_sails (by omega), b_Mo_sails_0]
    | rw [c_Mo_shipOf (by omega), b_Mo_shipOf_0]
    | rw [c_Mo_shipRow (by omega), b_Mo_shipRow_0]
    | rw [c_Mo_wayOf (by omega), b_Mo_wayOf_0]
    | rw [c_Mo_portRow (by omega), b_Mo_portRow_0]
    | (with_reducible refine rn_go ?_; simp (disch := omega) only [not_false_eq_true, not_true_eq_false, w32_id, tLt, fLt, tLe, fEq, itE, and_true, true_and, and_self, and_false, false_and, ↓reduceIte, nat_add, nat_mul3, nat_mul4, nat_mul6, nat_mul15, nat_mul60, nat_cast, nc1, Int.reduceToNat, upE, upN, fill_ne, fill_in, i0, hA, i65, i147, hw])
    | (with_reducible refine lf_go ?_; simp (disch := omega) only [not_false_eq_true, not_true_eq_false, w32_id, tLt, fLt, tLe, fEq, itE, and_true, true_and, and_self, and_false, false_and, ↓reduceIte, nat_add, nat_mul3, nat_mul4, nat_mul6, nat_mul15, nat_mul60, nat_cast, nc1, Int.reduceToNat, upE, upN, fill_ne, fill_in, i0, hA, i65, i147, hw])
    | with_reducible exact rfl
theorem m_sails0 (hd : 6 ≤ d) (h : RelM M A) {s p : Nat} (hs : (s : Int) < A 3) (hp : p < 6) (no : ¬okSail A (shp A s) p) : callD d m_Mo_sails [vR 12 0 271, vI (s : Int), vI (p : Int)] (SH L) M = some (some (vI 0), SH L, M) := by
  have hC := h.cn
  unfold Cn at hC
  have hA := h.1
  obtain ⟨rw0, rw1⟩ := h.row hs
  have hw : A (65 + 15 * (A (146 + 15 * s)).toNat + p) = way A (shp A s) p := rfl
  by_cases o1 : A (146 + 15 * s) = -1
  · repeat' first
      | (with_reducible apply bR_go; (simp (disch := omega) only [rM L, rK L, rN L, rNf, rNv, rNp, rNd, rRow, rLeg, rMark, nat_cast, Int.reduceToNat, hA, o1]; with_reducible exact rfl))
      | with_reducible apply bI_go
      | with_reducible apply bV_go
      | with_reducible apply bL_go
      | (with_reducible apply it_1; (first | omega | (simp (disch := omega) only [not_false_eq_true, not_true_eq_false, w32_id, tLt, fLt, tLe, fEq, itE, and_true, true_and, and_self, and_false, false_and, ↓reduceIte, nat_add, nat_mul3, nat_mul4, nat_mul6, nat_mul15, nat_mul60, nat_cast, nc1, Int.reduceToNat, upE, upN, fill_ne, fill_in, i0, hA, o1] <;> omega)))
      | (with_reducible apply it_2; (first | omega | (simp (disch := omega) only [not_false_eq_true, not_true_eq_false, w32_id, tLt, fLt, tLe, fEq, itE, and_true, true_and, and_self, and_false, false_and, ↓reduceIte, nat_add, nat_mul3, nat_mul4, nat_mul6, nat_mul15, nat_mul60, nat_cast, nc1, Int.reduceToNat, upE, upN, fill_ne, fill_in, i0, hA, o1] <;> omega)))
      | (with_reducible refine cl_go ?_; simp (disch := omega) only [not_false_eq_true, not_true_eq_false, w32_id, tLt, fLt, tLe, fEq, itE, and_true, true_and, and_self, and_false, false_and, ↓reduceIte, nat_add, nat_mul3, nat_mul4, nat_mul6, nat_mul15, nat_mul60, nat_cast, nc1, Int.reduceToNat, upE, upN, fill_ne, fill_in, i0, hA, o1])
      | rw [c_Mo_sails (by omega), b_Mo_sails_0]
      | rw [c_Mo_shipOf (by omega), b_Mo_shipOf_0]
      | rw [c_Mo_shipRow (by omega), b_Mo_shipRow_0]
      | (with_reducible refine rn_go ?_; simp (disch := omega) only [not_false_eq_true, not_true_eq_false, w32_id, tLt, fLt, tLe, fEq, itE, and_true, true_and, and_self, and_false, false_and, ↓reduceIte, nat_add, nat_mul3, nat_mul4, nat_mul6, nat_mul15, nat_mul60, nat_cast, nc1, Int.reduceToNat, upE, upN, fill_ne, fill_in, i0, hA, o1])
      | (with_reducible refine lf_go ?_; simp (disch := omega) only [not_false_eq_true, not_true_eq_false, w32_id, tLt, fLt, tLe, fEq, itE, and_true, true_and, and_self, and_false, false_and, ↓reduceIte, nat_add, nat_mul3, nat_mul4, nat_mul6, nat_mul15, nat_mul60, nat_cast, nc1, Int.reduceToNat, upE, upN, fill_ne, fill_in, i0, hA, o1])
      | with_reducible exact rfl
  by_cases e : A (146 + 15 * s) = (p : Int)
  · repeat' first
      | (with_reducible apply bR_go; (simp (disch := omega) only [rM L, rK L, rN L, rNf, rNv, rNp, rNd, rRow, rLeg, rMark, nat_cast, Int.reduceToNat, hA, e]; with_reducible exact rfl))
      | with_reducible apply bI_go
      | with_reducible apply bV_go
      | with_reducible apply bL_go
      | (with_reducible apply it_1; (first | omega | (simp (disch := omega) only [not_false_eq_true, not_true_eq_false, w32_id, tLt, fLt, tLe, fEq, itE, and_true, true_and, and_self, and_false, false_and, ↓reduceIte, nat_add, nat_mul3, nat_mul4, nat_mul6, nat_mul15, nat_mul60, nat_cast, nc1, Int.reduceToNat, upE, upN, fill_ne, fill_in, i0, hA, e] <;> omega)))
      | (with_reducible apply it_2; (first | omega | (simp (disch := omega) only [not_false_eq_true, not_true_eq_false, w32_id, tLt, fLt, tLe, fEq, itE, and_true, true_and, and_self, and_false, false_and, ↓reduceIte, nat_add, nat_mul3, nat_mul4, nat_mul6, nat_mul15, nat_mul60, nat_cast, nc1, Int.reduceToNat, upE, upN, fill_ne, fill_in, i0, hA, e] <;> omega)))
      | (with_reducible refine cl_go ?_; simp (disch := omega) only [not_false_eq_true, not_true_eq_false, w32_id, tLt, fLt, tLe, fEq, itE, and_true, true_and, and_self, and_false, false_and, ↓reduceIte, nat_add, nat_mul3, nat_mul4, nat_mul6, nat_mul15, nat_mul60, nat_cast, nc1, Int.reduceToNat, upE, upN, fill_ne, fill_in, i0, hA, e])
      | rw [c_Mo_sails (by omega), b_Mo_sails_0]
      | rw [c_Mo_shipOf (by omega), b_Mo_shipOf_0]
      | rw [c_Mo_shipRow (by omega), b_Mo_shipRow_0]
      | (with_reducible refine rn_go ?_; simp (disch := omega) only [not_false_eq_true, not_true_eq_false, w32_id, tLt, fLt, tLe, fEq, itE, and_true, true_and, and_self, and_false, false_and, ↓reduceIte, nat_add, nat_mul3, nat_mul4, nat_mul6, nat_mul15, nat_mul60, nat_cast, nc1, Int.reduceToNat, upE, upN, fill_ne, fill_in, i0, hA, e])
      | (with_reducible refine lf_go ?_; simp (disch := omega) only [not_false_eq_true, not_true_eq_false, w32_id, tLt, fLt, tLe, fEq, itE, and_true, true_and, and_self, and_false, false_and, ↓reduceIte, nat_add, nat_mul3, nat_mul4, nat_mul6, nat_mul15, nat_mul60, nat_cast, nc1, Int.reduceToNat, upE, upN, fill_ne, fill_in, i0, hA, e])
      | with_reducible exact rfl
  have o2 : way A (shp A s) p = 0 := by
    by_cases q : way A (shp A s) p = 0
    · exact q
    · exact absurd ⟨o1, q⟩ no
  repeat' first
    | (with_reducible apply bR_go; (simp (disch := omega) only [rM L, rK L, rN L, rNf, rNv, rNp, rNd, rRow, rLeg, rMark, nat_cast, Int.reduceToNat, hA, i65, hw]; with_reducible exact rfl))
    | with_reducible apply bI_go
    | with_reducible apply bV_go
    | with_reducible apply bL_go
    | (with_reducible apply it_1; (first | omega | (simp (disch := omega) only [not_false_eq_true, not_true_eq_false, w32_id, tLt, fLt, tLe, fEq, itE, and_true, true_and, and_self, and_false, false_and, ↓reduceIte, nat_add, nat_mul3, nat_mul4, nat_mul6, nat_mul15, nat_mul60, nat_cast, nc1, Int.reduceToNat, upE, upN, fill_ne, fill_in, i0, hA, i65, hw] <;> omega)))
    | (with_reducible apply it_2; (first | omega | (simp (disch := omega) only [not_false_eq_true, not_true_eq_false, w32_id, tLt, fLt, tLe, fEq, itE, and_true, true_and, and_self, and_false, false_and, ↓reduceIte, nat_add, nat_mul3, nat_mul4, nat_mul6, nat_mul15, nat_mul60, nat_cast, nc1, Int.reduceToNat, upE, upN, fill_ne, fill_in, i0, hA, i65, hw] <;> omega)))
    | (with_reducible refine cl_go ?_; simp (disch := omega) only [not_false_eq_true, not_true_eq_false, w32_id, tLt, fLt, tLe, fEq, itE, and_true, true_and, and_self, and_false, false_and, ↓reduceIte, nat_add, nat_mul3, nat_mul4, nat_mul6, nat_mul15, nat_mul60, nat_cast, nc1, Int.reduceToNat, upE, upN, fill_ne, fill_in, i0, hA, i65, hw])
    | rw [c_Mo_sails (by omega), b_Mo_sails_0]
    | rw [c_Mo_shipOf (by omega), b_Mo_shipOf_0]
    | rw [c_Mo_shipRow (by omega), b_Mo_shipRow_0]
    | rw [c_Mo_wayOf (by omega), b_Mo_wayOf_0]
    | rw [c_Mo_portRow (by omega), b_Mo_portRow_0]
    | (with_reducible refine rn_go ?_; simp (disch := omega) only [not_false_eq_true, not_true_eq_false, w32_id, tLt, fLt, tLe, fEq, itE, and_true, true_and, and_self, and_false, false_and, ↓reduceIte, nat_add, nat_mul3, nat_mul4, nat_mul6, nat_mul15, nat_mul60, nat_cast, nc1, Int.reduceToNat, upE, upN, fill_ne, fill_in, i0, hA, i65, hw])
    | (with_reducible refine lf_go ?_; simp (disch := omega) only [not_false_eq_true, not_true_eq_false, w32_id, tLt, fLt, tLe, fEq, itE, and_true, true_and, and_self, and_false, false_and, ↓reduceIte, nat_add, nat_mul3, nat_mul4, nat_mul6, nat_mul15, nat_mul60, nat_cast, nc1, Int.reduceToNat, upE, upN, fill_ne, fill_in, i0, hA, i65, hw])
    | with_reducible exact rfl
end

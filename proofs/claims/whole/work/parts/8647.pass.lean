/-! WHAT WOULD BE: to pass for a nation -/
def psF (A : Nat → Int) (i : Nat) (c : Int) (t g : Nat) : Int := if flC A i g t = c then 1 else 0
section
variable {xs : Nat → Int} {L : Nat} {M : Mm} {A N : Nat → Int} {B P : Nat → Nat → Int} {d : Nat}
theorem n_room (hd : 2 ≤ d) (h : RelS xs M A N B P) {i : Nat} (hi : (i : Int) < A 3) : callD d m_Vessel_room [vR 8 0 (57 + 2 * i)] (SH L) M = some (some (vI (A (149 + 15 * i) - sm (ldF A i) 8)), SH L, M) := by
  have hC := h.cn
  unfold Cn at hC
  have e : M (57 + 2 * i) 3 = A (149 + 15 * i) := by rw [h.shp i 3 hi (by omega), show 146 + 15 * i + 3 = 149 + 15 * i by omega]
  have a := (h.inv.2.2.2.2.2.2.1 i hi).1
  unfold shp at a
  rw [show 146 + 15 * i + 3 = 149 + 15 * i by omega] at a
  rw [s_Vessel_room hd (isV_now (by omega)) (fun g hg => by rw [show 57 + 2 * i + 1 = 58 + 2 * i by omega]; exact h.ldf hi g hg) (h.ld hi) (by omega) (by omega), e]
theorem n_roomOf (hd : 5 ≤ d) (h : RelS xs M A N B P) {s : Int} (h0 : 0 ≤ s) (h1 : s < A 3) : callD d m_Mo_roomOf [vR 12 0 271, vI s] (SH L) M = some (some (vI (A (149 + 15 * s.toNat) - sm (ldF A s.toNat) 8)), SH L, fillP M 280 (ldF A s.toNat) 8) := by
  have hC := h.cn
  unfold Cn at hC
  have a := (h.inv.2.2.2.2.2.2.1 s.toNat (by omega)).1
  unfold shp at a
  rw [show 146 + 15 * s.toNat + 3 = 149 + 15 * s.toNat by omega] at a
  have b := sm_bd (h.ld (i := s.toNat) (by omega)) 8 (by omega)
  have e : 146 + 15 * s.toNat + 3 = 149 + 15 * s.toNat := by omega
  repeat' first
    | (with_reducible apply bR_go; (simp (disch := omega) only [rM L, rK L, rN L, rNf, rNv, rNp, rNd, rRow, rLeg, rMark, nat_cast, Int.reduceToNat, e]; with_reducible exact rfl))
    | with_reducible apply bI_go
    | with_reducible apply bV_go
    | with_reducible apply bL_go
    | (with_reducible apply it_1; (first | omega | (simp (disch := omega) only [not_false_eq_true, not_true_eq_false, w32_id, tLt, fLt, tLe, fEq, itE, and_true, true_and, and_self, and_false, false_and, ↓reduceIte, nat_add, nat_mul3, nat_mul4, nat_mul6, nat_mul15, nat_mul60, nat_cast, nc1, Int.reduceToNat, upE, upN, fill_ne, fill_in, i0, e] <;> omega)))
    | (with_reducible apply it_2; (first | omega | (simp (disch := omega) only [not_false_eq_true, not_true_eq_false, w32_id, tLt, fLt, tLe, fEq, itE, and_true, true_and, and_self, and_false, false_and, ↓reduceIte, nat_add, nat_mul3, nat_mul4, nat_mul6, nat_mul15, nat_mul60, nat_cast, nc1, Int.reduceToNat, upE, upN, fill_ne, fill_in, i0, e] <;> omega)))
    | (with_reducible refine cl_go ?_; simp (disch := omega) only [not_false_eq_true, not_true_eq_false, w32_id, tLt, fLt, tLe, fEq, itE, and_true, true_and, and_self, and_false, false_and, ↓reduceIte, nat_add, nat_mul3, nat_mul4, nat_mul6, nat_mul15, nat_mul60, nat_cast, nc1, Int.reduceToNat, upE, upN, fill_ne, fill_in, i0, e])
    | rw [c_Mo_roomOf (by omega), b_Mo_roomOf_0]
    | rw [c_Mo_tonsOf (by omega), b_Mo_tonsOf_0]
    | with_reducible exact n_shipOf (by omega) h (by omega) (by omega) (by omega) (by omega)
    | with_reducible exact n_loads (by omega) h (by omega) (by omega)
    | with_reducible exact n_tons (by omega) (ld := ldF A s.toNat) (by intro g hg; simp (disch := omega) only [upN, fill_in, fill_ne]) (h.ld (by omega))
    | (with_reducible refine rn_go ?_; simp (disch := omega) only [not_false_eq_true, not_true_eq_false, w32_id, tLt, fLt, tLe, fEq, itE, and_true, true_and, and_self, and_false, false_and, ↓reduceIte, nat_add, nat_mul3, nat_mul4, nat_mul6, nat_mul15, nat_mul60, nat_cast, nc1, Int.reduceToNat, upE, upN, fill_ne, fill_in, i0, e])
    | (with_reducible refine lf_go ?_; simp (disch := omega) only [not_false_eq_true, not_true_eq_false, w32_id, tLt, fLt, tLe, fEq, itE, and_true, true_and, and_self, and_false, false_and, ↓reduceIte, nat_add, nat_mul3, nat_mul4, nat_mul6, nat_mul15, nat_mul60, nat_cast, nc1, Int.reduceToNat, upE, upN, fill_ne, fill_in, i0, e])
    | with_reducible exact rfl
theorem room_bd (h : RelS xs M A N B P) {i : Nat} (hi : (i : Int) < A 3) : 0 ≤ A (149 + 15 * i) - sm (ldF A i) 8 ∧ A (149 + 15 * i) - sm (ldF A i) 8 ≤ 60 := by
  have a := h.inv.2.2.2.2.2.2.1 i hi
  have a1 := a.1
  have a2 := a.2.2.1
  unfold shp at a1 a2
  rw [show 146 + 15 * i + 3 = 149 + 15 * i by omega] at a1 a2
  have e : sm (fun g => A (146 + 15 * i + (7 + g))) 8 = sm (ldF A i) 8 := sm_congr fun k _ => by unfold ldF; rw [show 146 + 15 * i + (7 + k) = 153 + 15 * i + k by omega]
  rw [e] at a2
  have b := sm_bd (h.ld hi) 8 (by omega)
  omega
theorem n_rulC (hd : 2 ≤ d) (h : RelS xs M A N B P) {i g : Nat} {by' : Int} (hi : (i : Int) < A 3) (hg : g < 8) (h0 : -60 ≤ by') (h1 : by' ≤ 60) : callD d m_Chart_ruler [vR 0 0 19, vR 20 8 114, vI (A 4)] (SH L) (ths M A i g by') = some (some (vI (flC A i g by')), SH L, fillP (ths M A i g by') 48 (fun n => wts A (chF (ldF A i) g by') (A 4) n) (A 0).toNat) := by
  have hC := h.cn
  unfold Cn at hC
  exact s_Chart_ruler hd ch19 (ths_rel h i g by').ch h.cn h.gd (ths_ld (by omega)) (ch_ld h hi hg h0 h1) (by omega)
theorem n_findPass (hd : 5 ≤ d) (h : RelS xs M A N B P) {i : Nat} {c T R : Int} (hi : (i : Int) < A 3) (hR : A (149 + 15 * i) - sm (ldF A i) 8 = R) (hT : (if fl A i = c then 0 else srT (psF A i c) (A 1).toNat R.toNat 1) = T) : Wp (callD d m_Outlook_findPass [vR 2 0 113, vR 0 0 19, vR 8 0 (57 + 2 * i), vI c] (SH L) M) (QX xs L M A N B P (if T = -1 then 0 else 1) fun M' => T ≠ -1 → M' 113 2 = T ∧ M' 113 1 = if T = 0 then -1 else fndN (psF A i c T.toNat) 0 (A 1).toNat 0) := by
  have hC := h.cn
  unfold Cn at hC
  have hA := h.hA
  have hct := h.cnt
  have hlw := h.law
  have rb := room_bd h hi
  rw [hR] at rb
  by_cases e0 : fl A i = c
  · rw [if_pos e0] at hT
    repeat' first
      | (with_reducible apply wp_bR; (simp (disch := omega) only [rM L, rK L, rN L, rNf, rNv, rNp, rNd, rRow, rLeg, rMark, nat_cast, Int.reduceToNat, hlw]; with_reducible exact rfl))
      | with_reducible apply wp_bI
      | with_reducible apply wp_bV
      | with_reducible apply wp_bL
      | with_reducible apply wp_rI
      | with_reducible apply wp_rV
      | with_reducible apply wp_rL
      | (with_reducible apply wp_1; (first | omega | (simp (disch := omega) only [not_false_eq_true, not_true_eq_false, w32_id, tLt, fLt, tLe, fEq, itE, and_true, true_and, and_self, and_false, false_and, ↓reduceIte, nat_add, nat_mul3, nat_mul4, nat_mul6, nat_mul15, nat_mul60, nat_cast, nc1, Int.reduceToNat, upE, upN, fill_ne, fill_in, i0, hlw] <;> omega)))
      | (with_reducible apply wp_2; (first | omega | (simp (disch := omega) only [not_false_eq_true, not_true_eq_false, w32_id, tLt, fLt, tLe, fEq, itE, and_true, true_and, and_self, and_false, false_and, ↓reduceIte, nat_add, nat_mul3, nat_mul4, nat_mul6, nat_mul15, nat_mul60, nat_cast, nc1, Int.reduceToNat, upE, upN, fill_ne, fill_in, i0, hlw] <;> omega)))
      | (with_reducible apply wp_s; (first | (simp (disch := omega) only [not_false_eq_true, not_true_eq_false, w32_id, tLt, fLt, tLe, fEq, itE, and_true, true_and, and_self, and_false, false_and, ↓reduceIte, nat_add, nat_mul3, nat_mul4, nat_mul6, nat_mul15, nat_mul60, nat_cast, nc1, Int.reduceToNat, upE, upN, fill_ne, fill_in, i0, hlw]; with_reducible exact Iff.rfl) | with_reducible exact Iff.rfl); intro hc__; (try subst hc__); rotate_left; intro hc__; rotate_left)
      | (with_reducible apply wp_eq; (with_reducible apply cl_go; simp (disch := omega) only [not_false_eq_true, not_true_eq_false, w32_id, tLt, fLt, tLe, fEq, itE, and_true, true_and, and_self, and_false, false_and, ↓reduceIte, nat_add, nat_mul3, nat_mul4, nat_mul6, nat_mul15, nat_mul60, nat_cast, nc1, Int.reduceToNat, upE, upN, fill_ne, fill_in, i0, hlw]; with_reducible exact rfl))
      | (with_reducible refine wp_eq (c_Outlook_findPass (by omega) _ _ _ _ _ _) ?_; with_reducible refine wp_eq (b_Outlook_findPass_0 _ _ _ _ _ _ _) ?_)
      | (with_reducible refine wp_eq (c_Outlook_found (by omega) _ _ _ _ _) ?_; with_reducible refine wp_eq (b_Outlook_found_0 _ _ _ _ _ _) ?_)
      | with_reducible refine wp_eq (n_fl (by omega) h hi) ?_
      | (with_reducible apply wp_eq; (with_reducible apply lf_go; simp (disch := omega) only [not_false_eq_true, not_true_eq_false, w32_id, tLt, fLt, tLe, fEq, itE, and_true, true_and, and_self, and_false, false_and, ↓reduceIte, nat_add, nat_mul3, nat_mul4, nat_mul6, nat_mul15, nat_mul60, nat_cast, nc1, Int.reduceToNat, upE, upN, fill_ne, fill_in, i0, hlw]; with_reducible exact rfl))
      | with_reducible apply wp_q1
    all_goals exact wp_x (by rw [if_neg (by omega)]; rfl) (by repeat' first | assumption | apply RelS.up | apply RelS.fill | (intros; unfold core k1 kTr kTp kLv kLp kMk kNw; omega)) (by simp (disch := omega) only [not_false_eq_true, not_true_eq_false, w32_id, tLt, fLt, tLe, fEq, itE, and_true, true_and, and_self, and_false, false_and, ↓reduceIte, nat_add, nat_mul3, nat_mul4, nat_mul6, nat_mul15, nat_mul60, nat_cast, nc1, Int.reduceToNat, upE, upN, fill_ne, fill_in, i0]) (by simp (disch := omega) only [not_false_eq_true, not_true_eq_false, w32_id, tLt, fLt, tLe, fEq, itE, and_true, true_and, and_self, and_false, false_and, ↓reduceIte, nat_add, nat_mul3, nat_mul4, nat_mul6, nat_mul15, nat_mul60, nat_cast, nc1, Int.reduceToNat, upE, upN, fill_ne, fill_in, i0]) (fun _ => ⟨by simp (disch := omega) only [not_false_eq_true, not_true_eq_false, w32_id, tLt, fLt, tLe, fEq, itE, and_true, true_and, and_self, and_false, false_and, ↓reduceIte, nat_add, nat_mul3, nat_mul4, nat_mul6, nat_mul15, nat_mul60, nat_cast, nc1, Int.reduceToNat, upE, upN, fill_ne, fill_in, i0, hT], by rw [if_pos hT.symm]; simp (disch := omega) only [not_false_eq_true, not_true_eq_false, w32_id, tLt, fLt, tLe, fEq, itE, and_true, true_and, and_self, and_false, false_and, ↓reduceIte, nat_add, nat_mul3, nat_mul4, nat_mul6, nat_mul15, nat_mul60, nat_cast, nc1, Int.reduceToNat, upE, upN, fill_ne, fill_in, i0]⟩)
  · rw [if_neg e0] at hT
    repeat' first
      | (with_reducible apply wp_bR; (simp (disch := omega) only [rM L, rK L, rN L, rNf, rNv, rNp, rNd, rRow, rLeg, rMark, nat_cast, Int.reduceToNat, hlw, hR]; with_reducible exact rfl))
      | with_reducible apply wp_bI
      | with_reducible apply wp_bV
      | with_reducible apply wp_bL
      | with_reducible apply wp_rI
      | with_reducible apply wp_rV
      | with_reducible apply wp_rL
      | (with_reducible apply wp_1; (first | omega | (simp (disch := omega) only [not_false_eq_true, not_true_eq_false, w32_id, tLt, fLt, tLe, fEq, itE, and_true, true_and, and_self, and_false, false_and, ↓reduceIte, nat_add, nat_mul3, nat_mul4, nat_mul6, nat_mul15, nat_mul60, nat_cast, nc1, Int.reduceToNat, upE, upN, fill_ne, fill_in, i0, hlw, hR] <;> omega)))
      | (with_reducible apply wp_2; (first | omega | (simp (disch := omega) only [not_false_eq_true, not_true_eq_false, w32_id, tLt, fLt, tLe, fEq, itE, and_true, true_and, and_self, and_false, false_and, ↓reduceIte, nat_add, nat_mul3, nat_mul4, nat_mul6, nat_mul15, nat_mul60, nat_cast, nc1, Int.reduceToNat, upE, upN, fill_ne, fill_in, i0, hlw, hR] <;> omega)))
      | (with_reducible apply wp_s; (first | (simp (disch := omega) only [not_false_eq_true, not_true_eq_false, w32_id, tLt, fLt, tLe, fEq, itE, and_true, true_and, and_self, and_false, false_and, ↓reduceIte, nat_add, nat_mul3, nat_mul4, nat_mul6, nat_mul15, nat_mul60, nat_cast, nc1, Int.reduceToNat, upE, upN, fill_ne, fill_in, i0, hlw, hR]; with_reducible exact Iff.rfl) | with_reducible exact Iff.rfl); intro hc__; (try subst hc__); rotate_left; intro hc__; rotate_left)
      | (with_reducible apply wp_eq; (with_reducible apply cl_go; simp (disch := omega) only [not_false_eq_true, not_true_eq_false, w32_id, tLt, fLt, tLe, fEq, itE, and_true, true_and, and_self, and_false, false_and, ↓reduceIte, nat_add, nat_mul3, nat_mul4, nat_mul6, nat_mul15, nat_mul60, nat_cast, nc1, Int.reduceToNat, upE, upN, fill_ne, fill_in, i0, hlw, hR]; with_reducible exact rfl))
      | (with_reducible refine wp_eq (c_Outlook_findPass (by omega) _ _ _ _ _ _) ?_; with_reducible refine wp_eq (b_Outlook_findPass_0 _ _ _ _ _ _ _) ?_)
      | with_reducible refine wp_eq (n_fl (by omega) h hi) ?_
      | with_reducible refine wp_eq (n_room (by omega) (by repeat' first | assumption | apply RelS.up | apply RelS.fill | (intros; unfold core k1 kTr kTp kLv kLp kMk kNw; omega)) hi) ?_
      | (with_reducible apply wp_eq; (with_reducible apply lf_go; simp (disch := omega) only [not_false_eq_true, not_true_eq_false, w32_id, tLt, fLt, tLe, fEq, itE, and_true, true_and, and_self, and_false, false_and, ↓reduceIte, nat_add, nat_mul3, nat_mul4, nat_mul6, nat_mul15, nat_mul60, nat_cast, nc1, Int.reduceToNat, upE, upN, fill_ne, fill_in, i0, hlw, hR]; with_reducible exact rfl))
      | with_reducible apply wp_q1
    rw [hR]
    refine wp_loop (α := Mm × AV) (G := fun k a => Run (callD (d - 1)) tb_Outlook_findPass 32 [vR 2 0 113, vR 0 0 19, vR 8 0 (57 + 2 * i), vI c, vI R, vI ((k : Int) + 1), a.2] [] (SH L) a.1) (I := fun k a => RelS xs a.1 A N B P ∧ a.1 3 15 = M 3 15 ∧ a.1 271 2 = M 271 2 ∧ srT (psF A i c) (A 1).toNat (R.toNat - k) (k + 1) = T) R.toNat ?_ ?_ 0 (fillP M 48 (fun n => wts A (ldF A i) (A 4) n) (A 0).toNat, vU) (by omega) ?_
    · intro k ⟨M1, z⟩ hk ⟨h1, s1, s2, hT⟩ ih
      have h1 : RelS xs M1 A N B P := h1
      have s1 : M1 3 15 = M 3 15 := s1
      have s2 : M1 271 2 = M 271 2 := s2
      rw [srT_s hk] at hT
      generalize hW0 : fndN (psF A i c (k + 1)) 0 (A 1).toNat 0 = W at hT
      refine wp_eq (b_Outlook_findPass_32 _ _ _ _ _ _ _ _ _ _) ?_
      repeat' first
        | (with_reducible apply wp_bR; (simp (disch := omega) only [rM L, rK L, rN L, rNf, rNv, rNp, rNd, rRow, rLeg, rMark, nat_cast, Int.reduceToNat]; with_reducible exact rfl))
        | with_reducible apply wp_bI
        | with_reducible apply wp_bV
        | with_reducible apply wp_bL
        | with_reducible apply wp_rI
        | with_reducible apply wp_rV
        | with_reducible apply wp_rL
        | (with_reducible apply wp_1; (first | omega | (simp (disch := omega) only [not_false_eq_true, not_true_eq_false, w32_id, tLt, fLt, tLe, fEq, itE, and_true, true_and, and_self, and_false, false_and, ↓reduceIte, nat_add, nat_mul3, nat_mul4, nat_mul6, nat_mul15, nat_mul60, nat_cast, nc1, Int.reduceToNat, upE, upN, fill_ne, fill_in, i0] <;> omega)))
        | (with_reducible apply wp_2; (first | omega | (simp (disch := omega) only [not_false_eq_true, not_true_eq_false, w32_id, tLt, fLt, tLe, fEq, itE, and_true, true_and, and_self, and_false, false_and, ↓reduceIte, nat_add, nat_mul3, nat_mul4, nat_mul6, nat_mul15, nat_mul60, nat_cast, nc1, Int.reduceToNat, upE, upN, fill_ne, fill_in, i0] <;> omega)))
        | (with_reducible apply wp_s; (first | (simp (disch := omega) only [not_false_eq_true, not_true_eq_false, w32_id, tLt, fLt, tLe, fEq, itE, and_true, true_and, and_self, and_false, false_and, ↓reduceIte, nat_add, nat_mul3, nat_mul4, nat_mul6, nat_mul15, nat_mul60, nat_cast, nc1, Int.reduceToNat, upE, upN, fill_ne, fill_in, i0]; with_reducible exact Iff.rfl) | with_reducible exact Iff.rfl); intro hc__; (try subst hc__); rotate_left; intro hc__; rotate_left)
        | (with_reducible apply wp_eq; (with_reducible apply cl_go; simp (disch := omega) only [not_false_eq_true, not_true_eq_false, w32_id, tLt, fLt, tLe, fEq, itE, and_true, true_and, and_self, and_false, false_and, ↓reduceIte, nat_add, nat_mul3, nat_mul4, nat_mul6, nat_mul15, nat_mul60, nat_cast, nc1, Int.reduceToNat, upE, upN, fill_ne, fill_in, i0]; with_reducible exact rfl))
        | (with_reducible apply wp_eq; (with_reducible apply lf_go; simp (disch := omega) only [not_false_eq_true, not_true_eq_false, w32_id, tLt, fLt, tLe, fEq, itE, and_true, true_and, and_self, and_false, false_and, ↓reduceIte, nat_add, nat_mul3, nat_mul4, nat_mul6, nat_mul15, nat_mul60, nat_cast, nc1, Int.reduceToNat, upE, upN, fill_ne, fill_in, i0]; with_reducible exact rfl))
        | with_reducible apply wp_q1
      refine wp_loop (α := Mm) (G := fun j a => Run (callD (d - 1)) tb_Outlook_findPass 42 [vR 2 0 113, vR 0 0 19, vR 8 0 (57 + 2 * i), vI c, vI R, vI ((k : Int) + 1), vI (j : Int)] [] (SH L) a) (I := fun j a => RelS xs a A N B P ∧ a 3 15 = M 3 15 ∧ a 271 2 = M 271 2 ∧ fndN (psF A i c (k + 1)) 0 ((A 1).toNat - j) j = W) (A 1).toNat ?_ ?_ 0 M1 (by omega) ⟨h1, s1, s2, hW0⟩
      · intro j M2 hj ⟨h2, t1, t2, hW⟩ ih2
        have hct := h2.cnt
        have hl2 := (ths_rel h2 i j ((k : Int) + 1)).law
        rw [fndN_s hj] at hW
        unfold psF at hW
        rw [nc1] at hW
        by_cases e : flC A i j ((k : Int) + 1) = c
        · rw [if_pos e, if_neg (by decide)] at hW
          rw [if_neg (by omega), nc1] at hT
          refine wp_eq (b_Outlook_findPass_42 _ _ _ _ _ _ _ _ _ _) ?_
          repeat' first
            | (with_reducible apply wp_bR; (simp (disch := omega) only [rM L, rK L, rN L, rNf, rNv, rNp, rNd, rRow, rLeg, rMark, nat_cast, Int.reduceToNat, hct, hl2]; with_reducible exact rfl))
            | with_reducible apply wp_bI
            | with_reducible apply wp_bV
            | with_reducible apply wp_bL
            | with_reducible apply wp_rI
            | with_reducible apply wp_rV
            | with_reducible apply wp_rL
            | (with_reducible apply wp_1; (first | omega | (simp (disch := omega) only [not_false_eq_true, not_true_eq_false, w32_id, tLt, fLt, tLe, fEq, itE, and_true, true_and, and_self, and_false, false_and, ↓reduceIte, nat_add, nat_mul3, nat_mul4, nat_mul6, nat_mul15, nat_mul60, nat_cast, nc1, Int.reduceToNat, upE, upN, fill_ne, fill_in, i0, hct, hl2] <;> omega)))
            | (with_reducible apply wp_2; (first | omega | (simp (disch := omega) only [not_false_eq_true, not_true_eq_false, w32_id, tLt, fLt, tLe, fEq, itE, and_true, true_and, and_self, and_false, false_and, ↓reduceIte, nat_add, nat_mul3, nat_mul4, nat_mul6, nat_mul15, nat_mul60, nat_cast, nc1, Int.reduceToNat, upE, upN, fill_ne, fill_in, i0, hct, hl2] <;> omega)))
            | (with_reducible apply wp_s; (first | (simp (disch := omega) only [not_false_eq_true, not_true_eq_false, w32_id, tLt, fLt, tLe, fEq, itE, and_true, true_and, and_self, and_false, false_and, ↓reduceIte, nat_add, nat_mul3, nat_mul4, nat_mul6, nat_mul15, nat_mul60, nat_cast, nc1, Int.reduceToNat, upE, upN, fill_ne, fill_in, i0, hct, hl2]; with_reducible exact Iff.rfl) | with_reducible exact Iff.rfl); intro hc__; (try subst hc__); rotate_left; intro hc__; rotate_left)
            | (with_reducible apply wp_eq; (with_reducible apply cl_go; simp (disch := omega) only [not_false_eq_true, not_true_eq_false, w32_id, tLt, fLt, tLe, fEq, itE, and_true, true_and, and_self, and_false, false_and, ↓reduceIte, nat_add, nat_mul3, nat_mul4, nat_mul6, nat_mul15, nat_mul60, nat_cast, nc1, Int.reduceToNat, upE, upN, fill_ne, fill_in, i0, hct, hl2]; with_reducible exact rfl))
            | (with_reducible refine wp_eq (c_Outlook_found (by omega) _ _ _ _ _) ?_; with_reducible refine wp_eq (b_Outlook_found_0 _ _ _ _ _ _) ?_)
            | with_reducible refine wp_eq (n_change (by omega) h2 (by omega) (by omega) (by omega) (by omega)) ?_
            | with_reducible refine wp_eq (n_rulC (by omega) h2 (by omega) (by omega) (by omega) (by omega)) ?_
            | (with_reducible apply wp_eq; (with_reducible apply lf_go; simp (disch := omega) only [not_false_eq_true, not_true_eq_false, w32_id, tLt, fLt, tLe, fEq, itE, and_true, true_and, and_self, and_false, false_and, ↓reduceIte, nat_add, nat_mul3, nat_mul4, nat_mul6, nat_mul15, nat_mul60, nat_cast, nc1, Int.reduceToNat, upE, upN, fill_ne, fill_in, i0, hct, hl2]; with_reducible exact rfl))
            | with_reducible apply wp_q1
          all_goals exact wp_x (by rw [if_neg (by omega)]; rfl) (by repeat' first | assumption | apply RelS.up | apply RelS.fill | apply ths_rel | (intros; unfold core k1 kTr kTp kLv kLp kMk kNw; omega)) (by simp (disch := omega) only [not_false_eq_true, not_true_eq_false, w32_id, tLt, fLt, tLe, fEq, itE, and_true, true_and, and_self, and_false, false_and, ↓reduceIte, nat_add, nat_mul3, nat_mul4, nat_mul6, nat_mul15, nat_mul60, nat_cast, nc1, Int.reduceToNat, upE, upN, fill_ne, fill_in, i0, ths_rd, t1]) (by simp (disch := omega) only [not_false_eq_true, not_true_eq_false, w32_id, tLt, fLt, tLe, fEq, itE, and_true, true_and, and_self, and_false, false_and, ↓reduceIte, nat_add, nat_mul3, nat_mul4, nat_mul6, nat_mul15, nat_mul60, nat_cast, nc1, Int.reduceToNat, upE, upN, fill_ne, fill_in, i0, ths_rd, t2]) (fun _ => ⟨by simp (disch := omega) only [not_false_eq_true, not_true_eq_false, w32_id, tLt, fLt, tLe, fEq, itE, and_true, true_and, and_self, and_false, false_and, ↓reduceIte, nat_add, nat_mul3, nat_mul4, nat_mul6, nat_mul15, nat_mul60, nat_cast, nc1, Int.reduceToNat, upE, upN, fill_ne, fill_in, i0, hT], by rw [if_neg (by omega), show T.toNat = k + 1 by omega, hW0, ← hW]; simp (disch := omega) only [not_false_eq_true, not_true_eq_false, w32_id, tLt, fLt, tLe, fEq, itE, and_true, true_and, and_self, and_false, false_and, ↓reduceIte, nat_add, nat_mul3, nat_mul4, nat_mul6, nat_mul15, nat_mul60, nat_cast, nc1, Int.reduceToNat, upE, upN, fill_ne, fill_in, i0]⟩)
        · rw [if_neg e, if_pos rfl] at hW
          refine wp_eq (b_Outlook_findPass_42 _ _ _ _ _ _ _ _ _ _) ?_
          repeat' first
            | (with_reducible apply wp_bR; (simp (disch := omega) only [rM L, rK L, rN L, rNf, rNv, rNp, rNd, rRow, rLeg, rMark, nat_cast, Int.reduceToNat, hct, hl2]; with_reducible exact rfl))
            | with_reducible apply wp_bI
            | with_reducible apply wp_bV
            | with_reducible apply wp_bL
            | with_reducible apply wp_rI
            | with_reducible apply wp_rV
            | with_reducible apply wp_rL
            | (with_reducible apply wp_1; (first | omega | (simp (disch := omega) only [not_false_eq_true, not_true_eq_false, w32_id, tLt, fLt, tLe, fEq, itE, and_true, true_and, and_self, and_false, false_and, ↓reduceIte, nat_add, nat_mul3, nat_mul4, nat_mul6, nat_mul15, nat_mul60, nat_cast, nc1, Int.reduceToNat, upE, upN, fill_ne, fill_in, i0, hct, hl2] <;> omega)))
            | (with_reducible apply wp_2; (first | omega | (simp (disch := omega) only [not_false_eq_true, not_true_eq_false, w32_id, tLt, fLt, tLe, fEq, itE, and_true, true_and, and_self, and_false, false_and, ↓reduceIte, nat_add, nat_mul3, nat_mul4, nat_mul6, nat_mul15, nat_mul60, nat_cast, nc1, Int.reduceToNat, upE, upN, fill_ne, fill_in, i0, hct, hl2] <;> omega)))
            | (with_reducible apply wp_s; (first | (simp (disch := omega) only [not_false_eq_true, not_true_eq_false, w32_id, tLt, fLt, tLe, fEq, itE, and_true, true_and, and_self, and_false, false_and, ↓reduceIte, nat_add, nat_mul3, nat_mul4, nat_mul6, nat_mul15, nat_mul60, nat_cast, nc1, Int.reduceToNat, upE, upN, fill_ne, fill_in, i0, hct, hl2]; with_reducible exact Iff.rfl) | with_reducible exact Iff.rfl); intro hc__; (try subst hc__); rotate_left; intro hc__; rotate_left)
            | (with_reducible apply wp_eq; (with_reducible apply cl_go; simp (disch := omega) only [not_false_eq_true, not_true_eq_false, w32_id, tLt, fLt, tLe, fEq, itE, and_true, true_and, and_self, and_false, false_and, ↓reduceIte, nat_add, nat_mul3, nat_mul4, nat_mul6, nat_mul15, nat_mul60, nat_cast, nc1, Int.reduceToNat, upE, upN, fill_ne, fill_in, i0, hct, hl2]; with_reducible exact rfl))
            | with_reducible refine wp_eq (n_change (by omega) h2 (by omega) (by omega) (by omega) (by omega)) ?_
            | with_reducible refine wp_eq (n_rulC (by omega) h2 (by omega) (by omega) (by omega) (by omega)) ?_
            | (with_reducible apply wp_eq; (with_reducible apply lf_go; simp (disch := omega) only [not_false_eq_true, not_true_eq_false, w32_id, tLt, fLt, tLe, fEq, itE, and_true, true_and, and_self, and_false, false_and, ↓reduceIte, nat_add, nat_mul3, nat_mul4, nat_mul6, nat_mul15, nat_mul60, nat_cast, nc1, Int.reduceToNat, upE, upN, fill_ne, fill_in, i0, hct, hl2]; with_reducible exact rfl))
            | with_reducible apply wp_q1
          all_goals (apply wp_nx ih2; (first | with_reducible rfl | (simp (disch := omega) only [not_false_eq_true, not_true_eq_false, w32_id, tLt, fLt, tLe, fEq, itE, and_true, true_and, and_self, and_false, false_and, ↓reduceIte, nat_add, nat_mul3, nat_mul4, nat_mul6, nat_mul15, nat_mul60, nat_cast, nc1, Int.reduceToNat, upE, upN, fill_ne, fill_in, i0]; (try with_reducible rfl))); exact ⟨(by repeat' first | assumption | apply RelS.up | apply RelS.fill | apply ths_rel | (intros; unfold core k1 kTr kTp kLv kLp kMk kNw; omega)), by simp (disch := omega) only [not_false_eq_true, not_true_eq_false, w32_id, tLt, fLt, tLe, fEq, itE, and_true, true_and, and_self, and_false, false_and, ↓reduceIte, nat_add, nat_mul3, nat_mul4, nat_mul6, nat_mul15, nat_mul60, nat_cast, nc1, Int.reduceToNat, upE, upN, fill_ne, fill_in, i0, ths_rd, t1], by simp (disch := omega) only [not_false_eq_true, not_true_eq_false, w32_id, tLt, fLt, tLe, fEq, itE, and_true, true_and, and_self, and_false, false_and, ↓reduceIte, nat_add, nat_mul3, nat_mul4, nat_mul6, nat_mul15, nat_mul60, nat_cast, nc1, Int.reduceToNat, upE, upN, fill_ne, fill_in, i0, ths_rd, t2], by unfold psF; rw [nc1]; exact hW⟩)
      · intro M2 ⟨h2, t1, t2, hW⟩
        have hct := h2.cnt
        rw [fndN_0] at hW
        rw [if_pos hW.symm] at hT
        refine wp_eq (b_Outlook_findPass_42 _ _ _ _ _ _ _ _ _ _) ?_
        repeat' first
          | (with_reducible apply wp_bR; (simp (disch := omega) only [rM L, rK L, rN L, rNf, rNv, rNp, rNd, rRow, rLeg, rMark, nat_cast, Int.reduceToNat, hct]; with_reducible exact rfl))
          | with_reducible apply wp_bI
          | with_reducible apply wp_bV
          | with_reducible apply wp_bL
          | with_reducible apply wp_rI
          | with_reducible apply wp_rV
          | with_reducible apply wp_rL
          | (with_reducible apply wp_1; (first | omega | (simp (disch := omega) only [not_false_eq_true, not_true_eq_false, w32_id, tLt, fLt, tLe, fEq, itE, and_true, true_and, and_self, and_false, false_and, ↓reduceIte, nat_add, nat_mul3, nat_mul4, nat_mul6, nat_mul15, nat_mul60, nat_cast, nc1, Int.reduceToNat, upE, upN, fill_ne, fill_in, i0, hct] <;> omega)))
          | (with_reducible apply wp_2; (first | omega | (simp (disch := omega) only [not_false_eq_true, not_true_eq_false, w32_id, tLt, fLt, tLe, fEq, itE, and_true, true_and, and_self, and_false, false_and, ↓reduceIte, nat_add, nat_mul3, nat_mul4, nat_mul6, nat_mul15, nat_mul60, nat_cast, nc1, Int.reduceToNat, upE, upN, fill_ne, fill_in, i0, hct] <;> omega)))
          | (with_reducible apply wp_s; (first | (simp (disch := omega) only [not_false_eq_true, not_true_eq_false, w32_id, tLt, fLt, tLe, fEq, itE, and_true, true_and, and_self, and_false, false_and, ↓reduceIte, nat_add, nat_mul3, nat_mul4, nat_mul6, nat_mul15, nat_mul60, nat_cast, nc1, Int.reduceToNat, upE, upN, fill_ne, fill_in, i0, hct]; with_reducible exact Iff.rfl) | with_reducible exact Iff.rfl); intro hc__; (try subst hc__); rotate_left; intro hc__; rotate_left)
          | (with_reducible apply wp_eq; (with_reducible apply cl_go; simp (disch := omega) only [not_false_eq_true, not_true_eq_false, w32_id, tLt, fLt, tLe, fEq, itE, and_true, true_and, and_self, and_false, false_and, ↓reduceIte, nat_add, nat_mul3, nat_mul4, nat_mul6, nat_mul15, nat_mul60, nat_cast, nc1, Int.reduceToNat, upE, upN, fill_ne, fill_in, i0, hct]; with_reducible exact rfl))
          | (with_reducible apply wp_eq; (with_reducible apply lf_go; simp (disch := omega) only [not_false_eq_true, not_true_eq_false, w32_id, tLt, fLt, tLe, fEq, itE, and_true, true_and, and_self, and_false, false_and, ↓reduceIte, nat_add, nat_mul3, nat_mul4, nat_mul6, nat_mul15, nat_mul60, nat_cast, nc1, Int.reduceToNat, upE, upN, fill_ne, fill_in, i0, hct]; with_reducible exact rfl))
          | with_reducible apply wp_q1
        all_goals (apply wp_nx2 ih; (simp (disch := omega) only [not_false_eq_true, not_true_eq_false, w32_id, tLt, fLt, tLe, fEq, itE, and_true, true_and, and_self, and_false, false_and, ↓reduceIte, nat_add, nat_mul3, nat_mul4, nat_mul6, nat_mul15, nat_mul60, nat_cast, nc1, Int.reduceToNat, upE, upN, fill_ne, fill_in, i0]; (try with_reducible rfl)); exact ⟨h2, t1, t2, hT⟩)
    · intro ⟨M1, z⟩ ⟨h1, s1, s2, hT⟩
      have h1 : RelS xs M1 A N B P := h1
      rw [srT_0] at hT
      refine wp_eq (b_Outlook_findPass_32 _ _ _ _ _ _ _ _ _ _) ?_
      repeat' first
        | (with_reducible apply wp_bR; (simp (disch := omega) only [rM L, rK L, rN L, rNf, rNv, rNp, rNd, rRow, rLeg, rMark, nat_cast, Int.reduceToNat]; with_reducible exact rfl))
        | with_reducible apply wp_bI
        | with_reducible apply wp_bV
        | with_reducible apply wp_bL
        | with_reducible apply wp_rI
        | with_reducible apply wp_rV
        | with_reducible apply wp_rL
        | (with_reducible apply wp_1; (first | omega | (simp (disch := omega) only [not_false_eq_true, not_true_eq_false, w32_id, tLt, fLt, tLe, fEq, itE, and_true, true_and, and_self, and_false, false_and, ↓reduceIte, nat_add, nat_mul3, nat_mul4, nat_mul6, nat_mul15, nat_mul60, nat_cast, nc1, Int.reduceToNat, upE, upN, fill_ne, fill_in, i0] <;> omega)))
        | (with_reducible apply wp_2; (first | omega | (simp (disch := omega) only [not_false_eq_true, not_true_eq_false, w32_id, tLt, fLt, tLe, fEq, itE, and_true, true_and, and_self, and_false, false_and, ↓reduceIte, nat_add, nat_mul3, nat_mul4, nat_mul6, nat_mul15, nat_mul60, nat_cast, nc1, Int.reduceToNat, upE, upN, fill_ne, fill_in, i0] <;> omega)))
        | (with_reducible apply wp_s; (first | (simp (disch := omega) only [not_false_eq_true, not_true_eq_false, w32_id, tLt, fLt, tLe, fEq, itE, and_true, true_and, and_self, and_false, false_and, ↓reduceIte, nat_add, nat_mul3, nat_mul4, nat_mul6, nat_mul15, nat_mul60, nat_cast, nc1, Int.reduceToNat, upE, upN, fill_ne, fill_in, i0]; with_reducible exact Iff.rfl) | with_reducible exact Iff.rfl); intro hc__; (try subst hc__); rotate_left; intro hc__; rotate_left)
        | (with_reducible apply wp_eq; (with_reducible apply cl_go; simp (disch := omega) only [not_false_eq_true, not_true_eq_false, w32_id, tLt, fLt, tLe, fEq, itE, and_true, true_and, and_self, and_false, false_and, ↓reduceIte, nat_add, nat_mul3, nat_mul4, nat_mul6, nat_mul15, nat_mul60, nat_cast, nc1, Int.reduceToNat, upE, upN, fill_ne, fill_in, i0]; with_reducible exact rfl))
        | (with_reducible apply wp_eq; (with_reducible apply lf_go; simp (disch := omega) only [not_false_eq_true, not_true_eq_false, w32_id, tLt, fLt, tLe, fEq, itE, and_true, true_and, and_self, and_false, false_and, ↓reduceIte, nat_add, nat_mul3, nat_mul4, nat_mul6, nat_mul15, nat_mul60, nat_cast, nc1, Int.reduceToNat, upE, upN, fill_ne, fill_in, i0]; with_reducible exact rfl))
        | with_reducible apply wp_q1
      exact wp_x (by rw [if_pos hT.symm]) h1 s1 s2 (fun e => absurd hT.symm e)
    · exact ⟨(by repeat' first | assumption | apply RelS.up | apply RelS.fill | (intros; unfold core k1 kTr kTp kLv kLp kMk kNw; omega)), by dsimp only; exact fill_ne (by omega), by dsimp only; exact fill_ne (by omega), by simpa using hT⟩
theorem n_passes0 (hd : 8 ≤ d) (h : RelS xs M A N B P) {s c T R : Int} (h0 : 0 ≤ s) (hs' : s < A 3) (hR : A (149 + 15 * s.toNat) - sm (ldF A s.toNat) 8 = R) (hT : (if fl A s.toNat = c then 0 else srT (psF A s.toNat c) (A 1).toNat R.toNat 1) = T) : Wp (callD d m_Mo_passes0 [vR 12 0 271, vI s, vI c] (SH L) M) (QX xs L M A N B P T fun M' => T ≠ -1 → M' 271 26 = if T = 0 then -1 else fndN (psF A s.toNat c T.toNat) 0 (A 1).toNat 0) := by
  have hC := h.cn
  unfold Cn at hC
  have hA := h.hA
  have hct := h.cnt
  have hlw := h.law
  have rb := room_bd h (i := s.toNat) (by omega)
  rw [hR] at rb
  by_cases e0 : fl A s.toNat = c
  · rw [if_pos e0] at hT
    repeat' first
      | (with_reducible apply wp_bR; (simp (disch := omega) only [rM L, rK L, rN L, rNf, rNv, rNp, rNd, rRow, rLeg, rMark, nat_cast, Int.reduceToNat]; with_reducible exact rfl))
      | with_reducible apply wp_bI
      | with_reducible apply wp_bV
      | with_reducible apply wp_bL
      | with_reducible apply wp_rI
      | with_reducible apply wp_rV
      | with_reducible apply wp_rL
      | (with_reducible apply wp_1; (first | omega | (simp (disch := omega) only [not_false_eq_true, not_true_eq_false, w32_id, tLt, fLt, tLe, fEq, itE, and_true, true_and, and_self, and_false, false_and, ↓reduceIte, nat_add, nat_mul3, nat_mul4, nat_mul6, nat_mul15, nat_mul60, nat_cast, nc1, Int.reduceToNat, upE, upN, fill_ne, fill_in, i0] <;> omega)))
      | (with_reducible apply wp_2; (first | omega | (simp (disch := omega) only [not_false_eq_true, not_true_eq_false, w32_id, tLt, fLt, tLe, fEq, itE, and_true, true_and, and_self, and_false, false_and, ↓reduceIte, nat_add, nat_mul3, nat_mul4, nat_mul6, nat_mul15, nat_mul60, nat_cast, nc1, Int.reduceToNat, upE, upN, fill_ne, fill_in, i0] <;> omega)))
      | (with_reducible apply wp_s; (first | (simp (disch := omega) only [not_false_eq_true, not_true_eq_false, w32_id, tLt, fLt, tLe, fEq, itE, and_true, true_and, and_self, and_false, false_and, ↓reduceIte, nat_add, nat_mul3, nat_mul4, nat_mul6, nat_mul15, nat_mul60, nat_cast, nc1, Int.reduceToNat, upE, upN, fill_ne, fill_in, i0]; with_reducible exact Iff.rfl) | with_reducible exact Iff.rfl); intro hc__; (try subst hc__); rotate_left; intro hc__; rotate_left)
      | (with_reducible apply wp_eq; (with_reducible apply cl_go; simp (disch := omega) only [not_false_eq_true, not_true_eq_false, w32_id, tLt, fLt, tLe, fEq, itE, and_true, true_and, and_self, and_false, false_and, ↓reduceIte, nat_add, nat_mul3, nat_mul4, nat_mul6, nat_mul15, nat_mul60, nat_cast, nc1, Int.reduceToNat, upE, upN, fill_ne, fill_in, i0]; with_reducible exact rfl))
      | (with_reducible refine wp_eq (c_Mo_passes0 (by omega) _ _ _ _ _) ?_; with_reducible refine wp_eq (b_Mo_passes0_0 _ _ _ _ _ _) ?_)
      | with_reducible refine wp_eq (n_roomOf (by omega) h (by omega) (by omega)) ?_
      | with_reducible refine wp_eq (n_flagOf (by omega) (by repeat' first | assumption | apply RelS.up | apply RelS.fill | (intros; unfold core k1 kTr kTp kLv kLp kMk kNw; omega)) (by omega) (by omega)) ?_
      | (with_reducible apply wp_eq; (with_reducible apply lf_go; simp (disch := omega) only [not_false_eq_true, not_true_eq_false, w32_id, tLt, fLt, tLe, fEq, itE, and_true, true_and, and_self, and_false, false_and, ↓reduceIte, nat_add, nat_mul3, nat_mul4, nat_mul6, nat_mul15, nat_mul60, nat_cast, nc1, Int.reduceToNat, upE, upN, fill_ne, fill_in, i0]; with_reducible exact rfl))
      | with_reducible apply wp_q1
    all_goals exact wp_x hT (by repeat' first | assumption | apply RelS.up | apply RelS.fill | (intros; unfold core k1 kTr kTp kLv kLp kMk kNw; omega)) (by simp (disch := omega) only [not_false_eq_true, not_true_eq_false, w32_id, tLt, fLt, tLe, fEq, itE, and_true, true_and, and_self, and_false, false_and, ↓reduceIte, nat_add, nat_mul3, nat_mul4, nat_mul6, nat_mul15, nat_mul60, nat_cast, nc1, Int.reduceToNat, upE, upN, fill_ne, fill_in, i0]) (by simp (disch := omega) only [not_false_eq_true, not_true_eq_false, w32_id, tLt, fLt, tLe, fEq, itE, and_true, true_and, and_self, and_false, false_and, ↓reduceIte, nat_add, nat_mul3, nat_mul4, nat_mul6, nat_mul15, nat_mul60, nat_cast, nc1, Int.reduceToNat, upE, upN, fill_ne, fill_in, i0]) (fun _ => by rw [if_pos hT.symm]; simp (disch := omega) only [not_false_eq_true, not_true_eq_false, w32_id, tLt, fLt, tLe, fEq, itE, and_true, true_and, and_self, and_false, false_and, ↓reduceIte, nat_add, nat_mul3, nat_mul4, nat_mul6, nat_mul15, nat_mul60, nat_cast, nc1, Int.reduceToNat, upE, upN, fill_ne, fill_in, i0])
  · rw [if_neg e0] at hT
    repeat' first
      | (with_reducible apply wp_bR; (simp (disch := omega) only [rM L, rK L, rN L, rNf, rNv, rNp, rNd, rRow, rLeg, rMark, nat_cast, Int.reduceToNat]; with_reducible exact rfl))
      | with_reducible apply wp_bI
      | with_reducible apply wp_bV
      | with_reducible apply wp_bL
      | with_reducible apply wp_rI
      | with_reducible apply wp_rV
      | with_reducible apply wp_rL
      | (with_reducible apply wp_1; (first | omega | (simp (disch := omega) only [not_false_eq_true, not_true_eq_false, w32_id, tLt, fLt, tLe, fEq, itE, and_true, true_and, and_self, and_false, false_and, ↓reduceIte, nat_add, nat_mul3, nat_mul4, nat_mul6, nat_mul15, nat_mul60, nat_cast, nc1, Int.reduceToNat, upE, upN, fill_ne, fill_in, i0] <;> omega)))
      | (with_reducible apply wp_2; (first | omega | (simp (disch := omega) only [not_false_eq_true, not_true_eq_false, w32_id, tLt, fLt, tLe, fEq, itE, and_true, true_and, and_self, and_false, false_and, ↓reduceIte, nat_add, nat_mul3, nat_mul4, nat_mul6, nat_mul15, nat_mul60, nat_cast, nc1, Int.reduceToNat, upE, upN, fill_ne, fill_in, i0] <;> omega)))
      | (with_reducible apply wp_s; (first | (simp (disch := omega) only [not_false_eq_true, not_true_eq_false, w32_id, tLt, fLt, tLe, fEq, itE, and_true, true_and, and_self, and_false, false_and, ↓reduceIte, nat_add, nat_mul3, nat_mul4, nat_mul6, nat_mul15, nat_mul60, nat_cast, nc1, Int.reduceToNat, upE, upN, fill_ne, fill_in, i0]; with_reducible exact Iff.rfl) | with_reducible exact Iff.rfl); intro hc__; (try subst hc__); rotate_left; intro hc__; rotate_left)
      | (with_reducible apply wp_eq; (with_reducible apply cl_go; simp (disch := omega) only [not_false_eq_true, not_true_eq_false, w32_id, tLt, fLt, tLe, fEq, itE, and_true, true_and, and_self, and_false, false_and, ↓reduceIte, nat_add, nat_mul3, nat_mul4, nat_mul6, nat_mul15, nat_mul60, nat_cast, nc1, Int.reduceToNat, upE, upN, fill_ne, fill_in, i0]; with_reducible exact rfl))
      | (with_reducible refine wp_eq (c_Mo_passes0 (by omega) _ _ _ _ _) ?_; with_reducible refine wp_eq (b_Mo_passes0_0 _ _ _ _ _ _) ?_)
      | with_reducible refine wp_eq (n_roomOf (by omega) h (by omega) (by omega)) ?_
      | with_reducible refine wp_eq (n_flagOf (by omega) (by repeat' first | assumption | apply RelS.up | apply RelS.fill | (intros; unfold core k1 kTr kTp kLv kLp kMk kNw; omega)) (by omega) (by omega)) ?_
      | (with_reducible apply wp_eq; (with_reducible apply lf_go; simp (disch := omega) only [not_false_eq_true, not_true_eq_false, w32_id, tLt, fLt, tLe, fEq, itE, and_true, true_and, and_self, and_false, false_and, ↓reduceIte, nat_add, nat_mul3, nat_mul4, nat_mul6, nat_mul15, nat_mul60, nat_cast, nc1, Int.reduceToNat, upE, upN, fill_ne, fill_in, i0]; with_reducible exact rfl))
      | with_reducible apply wp_q1
    rw [hR]
    refine wp_loop (α := Mm) (G := fun k a => Run (callD (d - 1)) tb_Mo_passes0 25 [vR 12 0 271, vI s, vI c, vI R, vI ((k : Int) + 1)] [] (SH L) a) (I := fun k a => RelS xs a A N B P ∧ a 3 15 = M 3 15 ∧ a 271 2 = M 271 2 ∧ srT (psF A s.toNat c) (A 1).toNat (R.toNat - k) (k + 1) = T) R.toNat ?_ ?_ 0 _ (by omega) ?_
    · intro k M1 hk ⟨h1, s1, s2, hT⟩ ih
      rw [srT_s hk] at hT
      generalize hW0 : fndN (psF A s.toNat c (k + 1)) 0 (A 1).toNat 0 = W at hT
      refine wp_eq (b_Mo_passes0_25 _ _ _ _ _ _ _ _) ?_
      repeat' first
        | (with_reducible apply wp_bR; (simp (disch := omega) only [rM L, rK L, rN L, rNf, rNv, rNp, rNd, rRow, rLeg, rMark, nat_cast, Int.reduceToNat]; with_reducible exact rfl))
        | with_reducible apply wp_bI
        | with_reducible apply wp_bV
        | with_reducible apply wp_bL
        | with_reducible apply wp_rI
        | with_reducible apply wp_rV
        | with_reducible apply wp_rL
        | (with_reducible apply wp_1; (first | omega | (simp (disch := omega) only [not_false_eq_true, not_true_eq_false, w32_id, tLt, fLt, tLe, fEq, itE, and_true, true_and, and_self, and_false, false_and, ↓reduceIte, nat_add, nat_mul3, nat_mul4, nat_mul6, nat_mul15, nat_mul60, nat_cast, nc1, Int.reduceToNat, upE, upN, fill_ne, fill_in, i0] <;> omega)))
        | (with_reducible apply wp_2; (first | omega | (simp (disch := omega) only [not_false_eq_true, not_true_eq_false, w32_id, tLt, fLt, tLe, fEq, itE, and_true, true_and, and_self, and_false, false_and, ↓reduceIte, nat_add, nat_mul3, nat_mul4, nat_mul6, nat_mul15, nat_mul60, nat_cast, nc1, Int.reduceToNat, upE, upN, fill_ne, fill_in, i0] <;> omega)))
        | (with_reducible apply wp_s; (first | (simp (disch := omega) only [not_false_eq_true, not_true_eq_false, w32_id, tLt, fLt, tLe, fEq, itE, and_true, true_and, and_self, and_false, false_and, ↓reduceIte, nat_add, nat_mul3, nat_mul4, nat_mul6, nat_mul15, nat_mul60, nat_cast, nc1, Int.reduceToNat, upE, upN, fill_ne, fill_in, i0]; with_reducible exact Iff.rfl) | with_reducible exact Iff.rfl); intro hc__; (try subst hc__); rotate_left; intro hc__; rotate_left)
        | (with_reducible apply wp_eq; (with_reducible apply cl_go; simp (disch := omega) only [not_false_eq_true, not_true_eq_false, w32_id, tLt, fLt, tLe, fEq, itE, and_true, true_and, and_self, and_false, false_and, ↓reduceIte, nat_add, nat_mul3, nat_mul4, nat_mul6, nat_mul15, nat_mul60, nat_cast, nc1, Int.reduceToNat, upE, upN, fill_ne, fill_in, i0]; with_reducible exact rfl))
        | (with_reducible apply wp_eq; (with_reducible apply lf_go; simp (disch := omega) only [not_false_eq_true, not_true_eq_false, w32_id, tLt, fLt, tLe, fEq, itE, and_true, true_and, and_self, and_false, false_and, ↓reduceIte, nat_add, nat_mul3, nat_mul4, nat_mul6, nat_mul15, nat_mul60, nat_cast, nc1, Int.reduceToNat, upE, upN, fill_ne, fill_in, i0]; with_reducible exact rfl))
        | with_reducible apply wp_q1
      refine wp_loop (α := Mm) (G := fun j a => Run (callD (d - 1)) tb_Mo_passes0 36 [vR 12 0 271, vI s, vI c, vI R, vI ((k : Int) + 1)] [] (SH L) a) (I := fun j a => RelS xs a A N B P ∧ a 3 15 = M 3 15 ∧ a 271 2 = M 271 2 ∧ a 271 26 = j ∧ fndN (psF A s.toNat c (k + 1)) 0 ((A 1).toNat - j) j = W) (A 1).toNat ?_ ?_ 0 _ (by omega) ?_
      · intro j M2 hj ⟨h2, t1, t2, t3, hW⟩ ih2
        have hA := h2.hA
        have lb := ld_nw h (i := s.toNat) (by omega) j (by omega)
        rw [fndN_s hj] at hW
        unfold psF at hW
        rw [nc1] at hW
        by_cases e : flC A s.toNat j ((k : Int) + 1) = c
        · rw [if_pos e, if_neg (by decide)] at hW
          rw [if_neg (by omega), nc1] at hT
          refine wp_eq (b_Mo_passes0_36 _ _ _ _ _ _ _ _) ?_
          repeat' first
            | (with_reducible apply wp_bR; (simp (disch := omega) only [rM L, rK L, rN L, rNf, rNv, rNp, rNd, rRow, rLeg, rMark, nat_cast, Int.reduceToNat, hA, t3]; with_reducible exact rfl))
            | with_reducible apply wp_bI
            | with_reducible apply wp_bV
            | with_reducible apply wp_bL
            | with_reducible apply wp_rI
            | with_reducible apply wp_rV
            | with_reducible apply wp_rL
            | (with_reducible apply wp_1; (first | omega | (simp (disch := omega) only [not_false_eq_true, not_true_eq_false, w32_id, tLt, fLt, tLe, fEq, itE, and_true, true_and, and_self, and_false, false_and, ↓reduceIte, nat_add, nat_mul3, nat_mul4, nat_mul6, nat_mul15, nat_mul60, nat_cast, nc1, Int.reduceToNat, upE, upN, fill_ne, fill_in, i0, hA, t3] <;> omega)))
            | (with_reducible apply wp_2; (first | omega | (simp (disch := omega) only [not_false_eq_true, not_true_eq_false, w32_id, tLt, fLt, tLe, fEq, itE, and_true, true_and, and_self, and_false, false_and, ↓reduceIte, nat_add, nat_mul3, nat_mul4, nat_mul6, nat_mul15, nat_mul60, nat_cast, nc1, Int.reduceToNat, upE, upN, fill_ne, fill_in, i0, hA, t3] <;> omega)))
            | (with_reducible apply wp_s; (first | (simp (disch := omega) only [not_false_eq_true, not_true_eq_false, w32_id, tLt, fLt, tLe, fEq, itE, and_true, true_and, and_self, and_false, false_and, ↓reduceIte, nat_add, nat_mul3, nat_mul4, nat_mul6, nat_mul15, nat_mul60, nat_cast, nc1, Int.reduceToNat, upE, upN, fill_ne, fill_in, i0, hA, t3]; with_reducible exact Iff.rfl) | with_reducible exact Iff.rfl); intro hc__; (try subst hc__); rotate_left; intro hc__; rotate_left)
            | (with_reducible apply wp_eq; (with_reducible apply cl_go; simp (disch := omega) only [not_false_eq_true, not_true_eq_false, w32_id, tLt, fLt, tLe, fEq, itE, and_true, true_and, and_self, and_false, false_and, ↓reduceIte, nat_add, nat_mul3, nat_mul4, nat_mul6, nat_mul15, nat_mul60, nat_cast, nc1, Int.reduceToNat, upE, upN, fill_ne, fill_in, i0, hA, t3]; with_reducible exact rfl))
            | with_reducible refine wp_eq (n_loads (by omega) (by repeat' first | assumption | apply RelS.up | apply RelS.fill | (intros; unfold core k1 kTr kTp kLv kLp kMk kNw; omega)) (by omega) (by omega)) ?_
            | with_reducible refine wp_eq (n_flC (i := s.toNat) (g := j) (by' := (k : Int) + 1) (by omega) (by repeat' first | assumption | apply RelS.up | apply RelS.fill | (intros; unfold core k1 kTr kTp kLv kLp kMk kNw; omega)) (by omega) (by omega) (by omega) (by omega) (by omega)) ?_
            | (with_reducible apply wp_eq; (with_reducible apply lf_go; simp (disch := omega) only [not_false_eq_true, not_true_eq_false, w32_id, tLt, fLt, tLe, fEq, itE, and_true, true_and, and_self, and_false, false_and, ↓reduceIte, nat_add, nat_mul3, nat_mul4, nat_mul6, nat_mul15, nat_mul60, nat_cast, nc1, Int.reduceToNat, upE, upN, fill_ne, fill_in, i0, hA, t3]; with_reducible exact rfl))
            | with_reducible apply wp_q1
          all_goals exact wp_x hT (by repeat' first | assumption | apply RelS.up | apply RelS.fill | (intros; unfold core k1 kTr kTp kLv kLp kMk kNw; omega)) (by simp (disch := omega) only [not_false_eq_true, not_true_eq_false, w32_id, tLt, fLt, tLe, fEq, itE, and_true, true_and, and_self, and_false, false_and, ↓reduceIte, nat_add, nat_mul3, nat_mul4, nat_mul6, nat_mul15, nat_mul60, nat_cast, nc1, Int.reduceToNat, upE, upN, fill_ne, fill_in, i0, t1]) (by simp (disch := omega) only [not_false_eq_true, not_true_eq_false, w32_id, tLt, fLt, tLe, fEq, itE, and_true, true_and, and_self, and_false, false_and, ↓reduceIte, nat_add, nat_mul3, nat_mul4, nat_mul6, nat_mul15, nat_mul60, nat_cast, nc1, Int.reduceToNat, upE, upN, fill_ne, fill_in, i0, t2]) (fun _ => by rw [if_neg (by omega), show T.toNat = k + 1 by omega, hW0, ← hW]; simp (disch := omega) only [not_false_eq_true, not_true_eq_false, w32_id, tLt, fLt, tLe, fEq, itE, and_true, true_and, and_self, and_false, false_and, ↓reduceIte, nat_add, nat_mul3, nat_mul4, nat_mul6, nat_mul15, nat_mul60, nat_cast, nc1, Int.reduceToNat, upE, upN, fill_ne, fill_in, i0, t3])
        · rw [if_neg e, if_pos rfl] at hW
          refine wp_eq (b_Mo_passes0_36 _ _ _ _ _ _ _ _) ?_
          repeat' first
            | (with_reducible apply wp_bR; (simp (disch := omega) only [rM L, rK L, rN L, rNf, rNv, rNp, rNd, rRow, rLeg, rMark, nat_cast, Int.reduceToNat, hA, t3]; with_reducible exact rfl))
            | with_reducible apply wp_bI
            | with_reducible apply wp_bV
            | with_reducible apply wp_bL
            | with_reducible apply wp_rI
            | with_reducible apply wp_rV
            | with_reducible apply wp_rL
            | (with_reducible apply wp_1; (first | omega | (simp (disch := omega) only [not_false_eq_true, not_true_eq_false, w32_id, tLt, fLt, tLe, fEq, itE, and_true, true_and, and_self, and_false, false_and, ↓reduceIte, nat_add, nat_mul3, nat_mul4, nat_mul6, nat_mul15, nat_mul60, nat_cast, nc1, Int.reduceToNat, upE, upN, fill_ne, fill_in, i0, hA, t3] <;> omega)))
            | (with_reducible apply wp_2; (first | omega | (simp (disch := omega) only [not_false_eq_true, not_true_eq_false, w32_id, tLt, fLt, tLe, fEq, itE, and_true, true_and, and_self, and_false, false_and, ↓reduceIte, nat_add, nat_mul3, nat_mul4, nat_mul6, nat_mul15, nat_mul60, nat_cast, nc1, Int.reduceToNat, upE, upN, fill_ne, fill_in, i0, hA, t3] <;> omega)))
            | (with_reducible apply wp_s; (first | (simp (disch := omega) only [not_false_eq_true, not_true_eq_false, w32_id, tLt, fLt, tLe, fEq, itE, and_true, true_and, and_self, and_false, false_and, ↓reduceIte, nat_add, nat_mul3, nat_mul4, nat_mul6, nat_mul15, nat_mul60, nat_cast, nc1, Int.reduceToNat, upE, upN, fill_ne, fill_in, i0, hA, t3]; with_reducible exact Iff.rfl) | with_reducible exact Iff.rfl); intro hc__; (try subst hc__); rotate_left; intro hc__; rotate_left)
            | (with_reducible apply wp_eq; (with_reducible apply cl_go; simp (disch := omega) only [not_false_eq_true, not_true_eq_false, w32_id, tLt, fLt, tLe, fEq, itE, and_true, true_and, and_self, and_false, false_and, ↓reduceIte, nat_add, nat_mul3, nat_mul4, nat_mul6, nat_mul15, nat_mul60, nat_cast, nc1, Int.reduceToNat, upE, upN, fill_ne, fill_in, i0, hA, t3]; with_reducible exact rfl))
            | with_reducible refine wp_eq (n_loads (by omega) (by repeat' first | assumption | apply RelS.up | apply RelS.fill | (intros; unfold core k1 kTr kTp kLv kLp kMk kNw; omega)) (by omega) (by omega)) ?_
            | with_reducible refine wp_eq (n_flC (i := s.toNat) (g := j) (by' := (k : Int) + 1) (by omega) (by repeat' first | assumption | apply RelS.up | apply RelS.fill | (intros; unfold core k1 kTr kTp kLv kLp kMk kNw; omega)) (by omega) (by omega) (by omega) (by omega) (by omega)) ?_
            | (with_reducible apply wp_eq; (with_reducible apply lf_go; simp (disch := omega) only [not_false_eq_true, not_true_eq_false, w32_id, tLt, fLt, tLe, fEq, itE, and_true, true_and, and_self, and_false, false_and, ↓reduceIte, nat_add, nat_mul3, nat_mul4, nat_mul6, nat_mul15, nat_mul60, nat_cast, nc1, Int.reduceToNat, upE, upN, fill_ne, fill_in, i0, hA, t3]; with_reducible exact rfl))
            | with_reducible apply wp_q1
          all_goals (apply wp_nx ih2; (first | with_reducible rfl | (simp (disch := omega) only [not_false_eq_true, not_true_eq_false, w32_id, tLt, fLt, tLe, fEq, itE, and_true, true_and, and_self, and_false, false_and, ↓reduceIte, nat_add, nat_mul3, nat_mul4, nat_mul6, nat_mul15, nat_mul60, nat_cast, nc1, Int.reduceToNat, upE, upN, fill_ne, fill_in, i0]; (try with_reducible rfl))); exact ⟨(by repeat' first | assumption | apply RelS.up | apply RelS.fill | (intros; unfold core k1 kTr kTp kLv kLp kMk kNw; omega)), by simp (disch := omega) only [not_false_eq_true, not_true_eq_false, w32_id, tLt, fLt, tLe, fEq, itE, and_true, true_and, and_self, and_false, false_and, ↓reduceIte, nat_add, nat_mul3, nat_mul4, nat_mul6, nat_mul15, nat_mul60, nat_cast, nc1, Int.reduceToNat, upE, upN, fill_ne, fill_in, i0, t1], by simp (disch := omega) only [not_false_eq_true, not_true_eq_false, w32_id, tLt, fLt, tLe, fEq, itE, and_true, true_and, and_self, and_false, false_and, ↓reduceIte, nat_add, nat_mul3, nat_mul4, nat_mul6, nat_mul15, nat_mul60, nat_cast, nc1, Int.reduceToNat, upE, upN, fill_ne, fill_in, i0, t2], by simp (disch := omega) only [not_false_eq_true, not_true_eq_false, w32_id, tLt, fLt, tLe, fEq, itE, and_true, true_and, and_self, and_false, false_and, ↓reduceIte, nat_add, nat_mul3, nat_mul4, nat_mul6, nat_mul15, nat_mul60, nat_cast, nc1, Int.reduceToNat, upE, upN, fill_ne, fill_in, i0, t3], by unfold psF; rw [nc1]; exact hW⟩)
      · intro M2 ⟨h2, t1, t2, t3, hW⟩
        have hA := h2.hA
        rw [fndN_0] at hW
        rw [if_pos hW.symm] at hT
        refine wp_eq (b_Mo_passes0_36 _ _ _ _ _ _ _ _) ?_
        repeat' first
          | (with_reducible apply wp_bR; (simp (disch := omega) only [rM L, rK L, rN L, rNf, rNv, rNp, rNd, rRow, rLeg, rMark, nat_cast, Int.reduceToNat, hA, t3]; with_reducible exact rfl))
          | with_reducible apply wp_bI
          | with_reducible apply wp_bV
          | with_reducible apply wp_bL
          | with_reducible apply wp_rI
          | with_reducible apply wp_rV
          | with_reducible apply wp_rL
          | (with_reducible apply wp_1; (first | omega | (simp (disch := omega) only [not_false_eq_true, not_true_eq_false, w32_id, tLt, fLt, tLe, fEq, itE, and_true, true_and, and_self, and_false, false_and, ↓reduceIte, nat_add, nat_mul3, nat_mul4, nat_mul6, nat_mul15, nat_mul60, nat_cast, nc1, Int.reduceToNat, upE, upN, fill_ne, fill_in, i0, hA, t3] <;> omega)))
          | (with_reducible apply wp_2; (first | omega | (simp (disch := omega) only [not_false_eq_true, not_true_eq_false, w32_id, tLt, fLt, tLe, fEq, itE, and_true, true_and, and_self, and_false, false_and, ↓reduceIte, nat_add, nat_mul3, nat_mul4, nat_mul6, nat_mul15, nat_mul60, nat_cast, nc1, Int.reduceToNat, upE, upN, fill_ne, fill_in, i0, hA, t3] <;> omega)))
          | (with_reducible apply wp_s; (first | (simp (disch := omega) only [not_false_eq_true, not_true_eq_false, w32_id, tLt, fLt, tLe, fEq, itE, and_true, true_and, and_self, and_false, false_and, ↓reduceIte, nat_add, nat_mul3, nat_mul4, nat_mul6, nat_mul15, nat_mul60, nat_cast, nc1, Int.reduceToNat, upE, upN, fill_ne, fill_in, i0, hA, t3]; with_reducible exact Iff.rfl) | with_reducible exact Iff.rfl); intro hc__; (try subst hc__); rotate_left; intro hc__; rotate_left)
          | (with_reducible apply wp_eq; (with_reducible apply cl_go; simp (disch := omega) only [not_false_eq_true, not_true_eq_false, w32_id, tLt, fLt, tLe, fEq, itE, and_true, true_and, and_self, and_false, false_and, ↓reduceIte, nat_add, nat_mul3, nat_mul4, nat_mul6, nat_mul15, nat_mul60, nat_cast, nc1, Int.reduceToNat, upE, upN, fill_ne, fill_in, i0, hA, t3]; with_reducible exact rfl))
          | (with_reducible apply wp_eq; (with_reducible apply lf_go; simp (disch := omega) only [not_false_eq_true, not_true_eq_false, w32_id, tLt, fLt, tLe, fEq, itE, and_true, true_and, and_self, and_false, false_and, ↓reduceIte, nat_add, nat_mul3, nat_mul4, nat_mul6, nat_mul15, nat_mul60, nat_cast, nc1, Int.reduceToNat, upE, upN, fill_ne, fill_in, i0, hA, t3]; with_reducible exact rfl))
          | with_reducible apply wp_q1
        all_goals (apply wp_nx ih; (first | with_reducible rfl | (simp (disch := omega) only [not_false_eq_true, not_true_eq_false, w32_id, tLt, fLt, tLe, fEq, itE, and_true, true_and, and_self, and_false, false_and, ↓reduceIte, nat_add, nat_mul3, nat_mul4, nat_mul6, nat_mul15, nat_mul60, nat_cast, nc1, Int.reduceToNat, upE, upN, fill_ne, fill_in, i0]; (try with_reducible rfl))); exact ⟨h2, t1, t2, hT⟩)
      · exact ⟨(by repeat' first | assumption | apply RelS.up | apply RelS.fill | (intros; unfold core k1 kTr kTp kLv kLp kMk kNw; omega)), by simp (disch := omega) only [not_false_eq_true, not_true_eq_false, w32_id, tLt, fLt, tLe, fEq, itE, and_true, true_and, and_self, and_false, false_and, ↓reduceIte, nat_add, nat_mul3, nat_mul4, nat_mul6, nat_mul15, nat_mul60, nat_cast, nc1, Int.reduceToNat, upE, upN, fill_ne, fill_in, i0, s1], by simp (disch := omega) only [not_false_eq_true, not_true_eq_false, w32_id, tLt, fLt, tLe, fEq, itE, and_true, true_and, and_self, and_false, false_and, ↓reduceIte, nat_add, nat_mul3, nat_mul4, nat_mul6, nat_mul15, nat_mul60, nat_cast, nc1, Int.reduceToNat, upE, upN, fill_ne, fill_in, i0, s2], by simp (disch := omega) only [not_false_eq_true, not_true_eq_false, w32_id, tLt, fLt, tLe, fEq, itE, and_true, true_and, and_self, and_false, false_and, ↓reduceIte, nat_add, nat_mul3, nat_mul4, nat_mul6, nat_mul15, nat_mul60, nat_cast, nc1, Int.reduceToNat, upE, upN, fill_ne, fill_in, i0]; rfl, hW0⟩
    · intro M1 ⟨h1, s1, s2, hT⟩
      rw [srT_0] at hT
      refine wp_eq (b_Mo_passes0_25 _ _ _ _ _ _ _ _) ?_
      repeat' first
        | (with_reducible apply wp_bR; (simp (disch := omega) only [rM L, rK L, rN L, rNf, rNv, rNp, rNd, rRow, rLeg, rMark, nat_cast, Int.reduceToNat]; with_reducible exact rfl))
        | with_reducible apply wp_bI
        | with_reducible apply wp_bV
        | with_reducible apply wp_bL
        | with_reducible apply wp_rI
        | with_reducible apply wp_rV
        | with_reducible apply wp_rL
        | (with_reducible apply wp_1; (first | omega | (simp (disch := omega) only [not_false_eq_true, not_true_eq_false, w32_id, tLt, fLt, tLe, fEq, itE, and_true, true_and, and_self, and_false, false_and, ↓reduceIte, nat_add, nat_mul3, nat_mul4, nat_mul6, nat_mul15, nat_mul60, nat_cast, nc1, Int.reduceToNat, upE, upN, fill_ne, fill_in, i0] <;> omega)))
        | (with_reducible apply wp_2; (first | omega | (simp (disch := omega) only [not_false_eq_true, not_true_eq_false, w32_id, tLt, fLt, tLe, fEq, itE, and_true, true_and, and_self, and_false, false_and, ↓reduceIte, nat_add, nat_mul3, nat_mul4, nat_mul6, nat_mul15, nat_mul60, nat_cast, nc1, Int.reduceToNat, upE, upN, fill_ne, fill_in, i0] <;> omega)))
        | (with_reducible apply wp_s; (first | (simp (disch := omega) only [not_false_eq_true, not_true_eq_false, w32_id, tLt, fLt, tLe, fEq, itE, and_true, true_and, and_self, and_false, false_and, ↓reduceIte, nat_add, nat_mul3, nat_mul4, nat_mul6, nat_mul15, nat_mul60, nat_cast, nc1, Int.reduceToNat, upE, upN, fill_ne, fill_in, i0]; with_reducible exact Iff.rfl) | with_reducible exact Iff.rfl); intro hc__; (try subst hc__); rotate_left; intro hc__; rotate_left)
        | (with_reducible apply wp_eq; (with_reducible apply cl_go; simp (disch := omega) only [not_false_eq_true, not_true_eq_false, w32_id, tLt, fLt, tLe, fEq, itE, and_true, true_and, and_self, and_false, false_and, ↓reduceIte, nat_add, nat_mul3, nat_mul4, nat_mul6, nat_mul15, nat_mul60, nat_cast, nc1, Int.reduceToNat, upE, upN, fill_ne, fill_in, i0]; with_reducible exact rfl))
        | (with_reducible apply wp_eq; (with_reducible apply lf_go; simp (disch := omega) only [not_false_eq_true, not_true_eq_false, w32_id, tLt, fLt, tLe, fEq, itE, and_true, true_and, and_self, and_false, false_and, ↓reduceIte, nat_add, nat_mul3, nat_mul4, nat_mul6, nat_mul15, nat_mul60, nat_cast, nc1, Int.reduceToNat, upE, upN, fill_ne, fill_in, i0]; with_reducible exact rfl))
        | with_reducible apply wp_q1
      exact wp_x hT h1 s1 s2 (fun e => absurd hT.symm e)
    · exact ⟨(by repeat' first | assumption | apply RelS.up | apply RelS.fill | (intros; unfold core k1 kTr kTp kLv kLp kMk kNw; omega)), by simp (disch := omega) only [not_false_eq_true, not_true_eq_false, w32_id, tLt, fLt, tLe, fEq, itE, and_true, true_and, and_self, and_false, false_and, ↓reduceIte, nat_add, nat_mul3, nat_mul4, nat_mul6, nat_mul15, nat_mul60, nat_cast, nc1, Int.reduceToNat, upE, upN, fill_ne, fill_in, i0], by simp (disch := omega) only [not_false_eq_true, not_true_eq_false, w32_id, tLt, fLt, tLe, fEq, itE, and_true, true_and, and_self, and_false, false_and, ↓reduceIte, nat_add, nat_mul3, nat_mul4, nat_mul6, nat_mul15, nat_mul60, nat_cast, nc1, Int.reduceToNat, upE, upN, fill_ne, fill_in, i0], by simpa using hT⟩
end
theorem case_passFor (x1 x2 : Int) : Case m_Ca_passFor m_Mo_passFor [vI x1, vI x2] := by
  refine Case.mk fun L xs M A N B P ⟨hs0, h⟩ => ?_
  have hC := h.cn
  unfold Cn at hC
  have hA := h.hA
  have hct := h.cnt
  have hlw := h.law
  by_cases hv : (0 ≤ x1 ∧ x1 < A 3) ∧ 0 ≤ x2 ∧ x2 < A 0
  · generalize hR : A (149 + 15 * x1.toNat) - sm (ldF A x1.toNat) 8 = R
    generalize hT : (if fl A x1.toNat = x2 then 0 else srT (psF A x1.toNat x2) (A 1).toNat R.toNat 1) = T
    refine ⟨vI T, if T = -1 then 6 else 0, ?_, ?_⟩
    · repeat' first
        | (with_reducible apply wp_bR; (simp (disch := omega) only [rM L, rK L, rN L, rNf, rNv, rNp, rNd, rRow, rLeg, rMark, nat_cast, Int.reduceToNat, hct]; with_reducible exact rfl))
        | with_reducible apply wp_bI
        | with_reducible apply wp_bV
        | with_reducible apply wp_bL
        | with_reducible apply wp_rI
        | with_reducible apply wp_rV
        | with_reducible apply wp_rL
        | (with_reducible apply wp_1; (first | omega | (simp (disch := omega) only [not_false_eq_true, not_true_eq_false, w32_id, tLt, fLt, tLe, fEq, itE, and_true, true_and, and_self, and_false, false_and, ↓reduceIte, nat_add, nat_mul3, nat_mul4, nat_mul6, nat_mul15, nat_mul60, nat_cast, nc1, Int.reduceToNat, upE, upN, fill_ne, fill_in, i0, hct] <;> omega)))
        | (with_reducible apply wp_2; (first | omega | (simp (disch := omega) only [not_false_eq_true, not_true_eq_false, w32_id, tLt, fLt, tLe, fEq, itE, and_true, true_and, and_self, and_false, false_and, ↓reduceIte, nat_add, nat_mul3, nat_mul4, nat_mul6, nat_mul15, nat_mul60, nat_cast, nc1, Int.reduceToNat, upE, upN, fill_ne, fill_in, i0, hct] <;> omega)))
        | (with_reducible apply wp_s; (first | (simp (disch := omega) only [not_false_eq_true, not_true_eq_false, w32_id, tLt, fLt, tLe, fEq, itE, and_true, true_and, and_self, and_false, false_and, ↓reduceIte, nat_add, nat_mul3, nat_mul4, nat_mul6, nat_mul15, nat_mul60, nat_cast, nc1, Int.reduceToNat, upE, upN, fill_ne, fill_in, i0, hct]; with_reducible exact Iff.rfl) | with_reducible exact Iff.rfl); intro hc__; (try subst hc__); rotate_left; intro hc__; rotate_left)
        | (with_reducible apply wp_eq; (with_reducible apply cl_go; simp (disch := omega) only [not_false_eq_true, not_true_eq_false, w32_id, tLt, fLt, tLe, fEq, itE, and_true, true_and, and_self, and_false, false_and, ↓reduceIte, nat_add, nat_mul3, nat_mul4, nat_mul6, nat_mul15, nat_mul60, nat_cast, nc1, Int.reduceToNat, upE, upN, fill_ne, fill_in, i0, hct]; with_reducible exact rfl))
        | (with_reducible refine wp_eq (c_Ca_passFor (by omega) _ _ _ _ _) ?_; with_reducible refine wp_eq (b_Ca_passFor_0 _ _ _ _ _ _) ?_)
        | (with_reducible refine wp_eq (c_Ca_passAt (by omega) _ _ _ _ _ _) ?_; with_reducible refine wp_eq (b_Ca_passAt_0 _ _ _ _ _ _ _) ?_)
        | (with_reducible refine wp_eq (c_Ca_within (by omega) _ _ _ _ _) ?_; with_reducible refine wp_eq (b_Ca_within_0 _ _ _ _ _ _) ?_)
        | (with_reducible refine wp_eq (c_Ca_isShip (by omega) _ _ _ _) ?_; with_reducible refine wp_eq (b_Ca_isShip_0 _ _ _ _ _) ?_)
        | (with_reducible refine wp_eq (c_Ca_isNation (by omega) _ _ _ _) ?_; with_reducible refine wp_eq (b_Ca_isNation_0 _ _ _ _ _) ?_)
        | (with_reducible refine wp_eq (c_Ca_isGood (by omega) _ _ _ _) ?_; with_reducible refine wp_eq (b_Ca_isGood_0 _ _ _ _ _) ?_)
        | (with_reducible refine wp_eq (c_Ca_isPort (by omega) _ _ _ _) ?_; with_reducible refine wp_eq (b_Ca_isPort_0 _ _ _ _ _) ?_)
        | (with_reducible refine wp_eq (c_Ca_areTwo (by omega) _ _ _ _ _ _) ?_; with_reducible refine wp_eq (b_Ca_areTwo_0 _ _ _ _ _ _ _) ?_)
        | (with_reducible refine wp_eq (c_Ca_answer (by omega) _ _ _ _) ?_; with_reducible refine wp_eq (b_Ca_answer_0 _ _ _ _ _) ?_)
        | (with_reducible refine wp_eq (c_Ca_refuse (by omega) _ _ _ _) ?_; with_reducible refine wp_eq (b_Ca_refuse_0 _ _ _ _ _) ?_)
        | (with_reducible refine wp_eq (c_Ca_answerOr (by omega) _ _ _ _ _) ?_; with_reducible refine wp_eq (b_Ca_answerOr_0 _ _ _ _ _ _) ?_)
        | (with_reducible refine wp_eq (c_Ca_agree (by omega) _ _ _) ?_; with_reducible refine wp_eq (b_Ca_agree_0 _ _ _ _) ?_)
        | (with_reducible refine wp_eq (c_Ca_deny (by omega) _ _ _ _) ?_; with_reducible refine wp_eq (b_Ca_deny_0 _ _ _ _ _) ?_)
        | (with_reducible apply wp_eq; (with_reducible apply lf_go; simp (disch := omega) only [not_false_eq_true, not_true_eq_false, w32_id, tLt, fLt, tLe, fEq, itE, and_true, true_and, and_self, and_false, false_and, ↓reduceIte, nat_add, nat_mul3, nat_mul4, nat_mul6, nat_mul15, nat_mul60, nat_cast, nc1, Int.reduceToNat, upE, upN, fill_ne, fill_in, i0, hct]; with_reducible exact rfl))
        | with_reducible apply wp_q1
      refine wp_qx (n_findPass (by omega) h (by omega) hR hT) fun M1 h1 s1 s2 hr => ?_
      by_cases e : T = -1
      · rw [if_pos e]
        repeat' first
          | (with_reducible apply wp_bR; (simp (disch := omega) only [rM L, rK L, rN L, rNf, rNv, rNp, rNd, rRow, rLeg, rMark, nat_cast, Int.reduceToNat]; with_reducible exact rfl))
          | with_reducible apply wp_bI
          | with_reducible apply wp_bV
          | with_reducible apply wp_bL
          | with_reducible apply wp_rI
          | with_reducible apply wp_rV
          | with_reducible apply wp_rL
          | (with_reducible apply wp_1; (first | omega | (simp (disch := omega) only [not_false_eq_true, not_true_eq_false, w32_id, tLt, fLt, tLe, fEq, itE, and_true, true_and, and_self, and_false, false_and, ↓reduceIte, nat_add, nat_mul3, nat_mul4, nat_mul6, nat_mul15, nat_mul60, nat_cast, nc1, Int.reduceToNat, upE, upN, fill_ne, fill_in, i0] <;> omega)))
          | (with_reducible apply wp_2; (first | omega | (simp (disch := omega) only [not_false_eq_true, not_true_eq_false, w32_id, tLt, fLt, tLe, fEq, itE, and_true, true_and, and_self, and_false, false_and, ↓reduceIte, nat_add, nat_mul3, nat_mul4, nat_mul6, nat_mul15, nat_mul60, nat_cast, nc1, Int.reduceToNat, upE, upN, fill_ne, fill_in, i0] <;> omega)))
          | (with_reducible apply wp_s; (first | (simp (disch := omega) only [not_false_eq_true, not_true_eq_false, w32_id, tLt, fLt, tLe, fEq, itE, and_true, true_and, and_self, and_false, false_and, ↓reduceIte, nat_add, nat_mul3, nat_mul4, nat_mul6, nat_mul15, nat_mul60, nat_cast, nc1, Int.reduceToNat, upE, upN, fill_ne, fill_in, i0]; with_reducible exact Iff.rfl) | with_reducible exact Iff.rfl); intro hc__; (try subst hc__); rotate_left; intro hc__; rotate_left)
          | (with_reducible apply wp_eq; (with_reducible apply cl_go; simp (disch := omega) only [not_false_eq_true, not_true_eq_false, w32_id, tLt, fLt, tLe, fEq, itE, and_true, true_and, and_self, and_false, false_and, ↓reduceIte, nat_add, nat_mul3, nat_mul4, nat_mul6, nat_mul15, nat_mul60, nat_cast, nc1, Int.reduceToNat, upE, upN, fill_ne, fill_in, i0]; with_reducible exact rfl))
          | (with_reducible refine wp_eq (c_Ca_within (by omega) _ _ _ _ _) ?_; with_reducible refine wp_eq (b_Ca_within_0 _ _ _ _ _ _) ?_)
          | (with_reducible refine wp_eq (c_Ca_isShip (by omega) _ _ _ _) ?_; with_reducible refine wp_eq (b_Ca_isShip_0 _ _ _ _ _) ?_)
          | (with_reducible refine wp_eq (c_Ca_isNation (by omega) _ _ _ _) ?_; with_reducible refine wp_eq (b_Ca_isNation_0 _ _ _ _ _) ?_)
          | (with_reducible refine wp_eq (c_Ca_isGood (by omega) _ _ _ _) ?_; with_reducible refine wp_eq (b_Ca_isGood_0 _ _ _ _ _) ?_)
          | (with_reducible refine wp_eq (c_Ca_isPort (by omega) _ _ _ _) ?_; with_reducible refine wp_eq (b_Ca_isPort_0 _ _ _ _ _) ?_)
          | (with_reducible refine wp_eq (c_Ca_areTwo (by omega) _ _ _ _ _ _) ?_; with_reducible refine wp_eq (b_Ca_areTwo_0 _ _ _ _ _ _ _) ?_)
          | (with_reducible refine wp_eq (c_Ca_answer (by omega) _ _ _ _) ?_; with_reducible refine wp_eq (b_Ca_answer_0 _ _ _ _ _) ?_)
          | (with_reducible refine wp_eq (c_Ca_refuse (by omega) _ _ _ _) ?_; with_reducible refine wp_eq (b_Ca_refuse_0 _ _ _ _ _) ?_)
          | (with_reducible refine wp_eq (c_Ca_answerOr (by omega) _ _ _ _ _) ?_; with_reducible refine wp_eq (b_Ca_answerOr_0 _ _ _ _ _ _) ?_)
          | (with_reducible refine wp_eq (c_Ca_agree (by omega) _ _ _) ?_; with_reducible refine wp_eq (b_Ca_agree_0 _ _ _ _) ?_)
          | (with_reducible refine wp_eq (c_Ca_deny (by omega) _ _ _ _) ?_; with_reducible refine wp_eq (b_Ca_deny_0 _ _ _ _ _) ?_)
          | (with_reducible apply wp_eq; (with_reducible apply lf_go; simp (disch := omega) only [not_false_eq_true, not_true_eq_false, w32_id, tLt, fLt, tLe, fEq, itE, and_true, true_and, and_self, and_false, false_and, ↓reduceIte, nat_add, nat_mul3, nat_mul4, nat_mul6, nat_mul15, nat_mul60, nat_cast, nc1, Int.reduceToNat, upE, upN, fill_ne, fill_in, i0]; with_reducible exact rfl))
          | with_reducible apply wp_q1
        all_goals exact wp_c (by first | rfl | exact congrArg vI (by omega) | simp (disch := omega) only [not_false_eq_true, not_true_eq_false, w32_id, tLt, fLt, tLe, fEq, itE, and_true, true_and, and_self, and_false, false_and, ↓reduceIte, nat_add, nat_mul3, nat_mul4, nat_mul6, nat_mul15, nat_mul60, nat_cast, nc1, Int.reduceToNat, upE, upN, fill_ne, fill_in, i0]) (by repeat' first | assumption | apply RelS.up | apply RelS.fill | (intros; unfold core k1 kTr kTp kLv kLp kMk kNw; omega)) (by first | rfl | assumption | simp (disch := omega) only [not_false_eq_true, not_true_eq_false, w32_id, tLt, fLt, tLe, fEq, itE, and_true, true_and, and_self, and_false, false_and, ↓reduceIte, nat_add, nat_mul3, nat_mul4, nat_mul6, nat_mul15, nat_mul60, nat_cast, nc1, Int.reduceToNat, upE, upN, fill_ne, fill_in, i0])
      · rw [if_neg e]
        have hr := hr e
        repeat' first
          | (with_reducible apply wp_bR; (simp (disch := omega) only [rM L, rK L, rN L, rNf, rNv, rNp, rNd, rRow, rLeg, rMark, nat_cast, Int.reduceToNat, hr.1, hr.2]; with_reducible exact rfl))
          | with_reducible apply wp_bI
          | with_reducible apply wp_bV
          | with_reducible apply wp_bL
          | with_reducible apply wp_rI
          | with_reducible apply wp_rV
          | with_reducible apply wp_rL
          | (with_reducible apply wp_1; (first | omega | (simp (disch := omega) only [not_false_eq_true, not_true_eq_false, w32_id, tLt, fLt, tLe, fEq, itE, and_true, true_and, and_self, and_false, false_and, ↓reduceIte, nat_add, nat_mul3, nat_mul4, nat_mul6, nat_mul15, nat_mul60, nat_cast, nc1, Int.reduceToNat, upE, upN, fill_ne, fill_in, i0, hr.1, hr.2] <;> omega)))
          | (with_reducible apply wp_2; (first | omega | (simp (disch := omega) only [not_false_eq_true, not_true_eq_false, w32_id, tLt, fLt, tLe, fEq, itE, and_true, true_and, and_self, and_false, false_and, ↓reduceIte, nat_add, nat_mul3, nat_mul4, nat_mul6, nat_mul15, nat_mul60, nat_cast, nc1, Int.reduceToNat, upE, upN, fill_ne, fill_in, i0, hr.1, hr.2] <;> omega)))
          | (with_reducible apply wp_s; (first | (simp (disch := omega) only [not_false_eq_true, not_true_eq_false, w32_id, tLt, fLt, tLe, fEq, itE, and_true, true_and, and_self, and_false, false_and, ↓reduceIte, nat_add, nat_mul3, nat_mul4, nat_mul6, nat_mul15, nat_mul60, nat_cast, nc1, Int.reduceToNat, upE, upN, fill_ne, fill_in, i0, hr.1, hr.2]; with_reducible exact Iff.rfl) | with_reducible exact Iff.rfl); intro hc__; (try subst hc__); rotate_left; intro hc__; rotate_left)
          | (with_reducible apply wp_eq; (with_reducible apply cl_go; simp (disch := omega) only [not_false_eq_true, not_true_eq_false, w32_id, tLt, fLt, tLe, fEq, itE, and_true, true_and, and_self, and_false, false_and, ↓reduceIte, nat_add, nat_mul3, nat_mul4, nat_mul6, nat_mul15, nat_mul60, nat_cast, nc1, Int.reduceToNat, upE, upN, fill_ne, fill_in, i0, hr.1, hr.2]; with_reducible exact rfl))
          | (with_reducible refine wp_eq (c_Ca_within (by omega) _ _ _ _ _) ?_; with_reducible refine wp_eq (b_Ca_within_0 _ _ _ _ _ _) ?_)
          | (with_reducible refine wp_eq (c_Ca_isShip (by omega) _ _ _ _) ?_; with_reducible refine wp_eq (b_Ca_isShip_0 _ _ _ _ _) ?_)
          | (with_reducible refine wp_eq (c_Ca_isNation (by omega) _ _ _ _) ?_; with_reducible refine wp_eq (b_Ca_isNation_0 _ _ _ _ _) ?_)
          | (with_reducible refine wp_eq (c_Ca_isGood (by omega) _ _ _ _) ?_; with_reducible refine wp_eq (b_Ca_isGood_0 _ _ _ _ _) ?_)
          | (with_reducible refine wp_eq (c_Ca_isPort (by omega) _ _ _ _) ?_; with_reducible refine wp_eq (b_Ca_isPort_0 _ _ _ _ _) ?_)
          | (with_reducible refine wp_eq (c_Ca_areTwo (by omega) _ _ _ _ _ _) ?_; with_reducible refine wp_eq (b_Ca_areTwo_0 _ _ _ _ _ _ _) ?_)
          | (with_reducible refine wp_eq (c_Ca_answer (by omega) _ _ _ _) ?_; with_reducible refine wp_eq (b_Ca_answer_0 _ _ _ _ _) ?_)
          | (with_reducible refine wp_eq (c_Ca_refuse (by omega) _ _ _ _) ?_; with_reducible refine wp_eq (b_Ca_refuse_0 _ _ _ _ _) ?_)
          | (with_reducible refine wp_eq (c_Ca_answerOr (by omega) _ _ _ _ _) ?_; with_reducible refine wp_eq (b_Ca_answerOr_0 _ _ _ _ _ _) ?_)
          | (with_reducible refine wp_eq (c_Ca_agree (by omega) _ _ _) ?_; with_reducible refine wp_eq (b_Ca_agree_0 _ _ _ _) ?_)
          | (with_reducible refine wp_eq (c_Ca_deny (by omega) _ _ _ _) ?_; with_reducible refine wp_eq (b_Ca_deny_0 _ _ _ _ _) ?_)
          | (with_reducible apply wp_eq; (with_reducible apply lf_go; simp (disch := omega) only [not_false_eq_true, not_true_eq_false, w32_id, tLt, fLt, tLe, fEq, itE, and_true, true_and, and_self, and_false, false_and, ↓reduceIte, nat_add, nat_mul3, nat_mul4, nat_mul6, nat_mul15, nat_mul60, nat_cast, nc1, Int.reduceToNat, upE, upN, fill_ne, fill_in, i0, hr.1, hr.2]; with_reducible exact rfl))
          | with_reducible apply wp_q1
        all_goals exact wp_c (by first | rfl | exact congrArg vI (by omega) | simp (disch := omega) only [not_false_eq_true, not_true_eq_false, w32_id, tLt, fLt, tLe, fEq, itE, and_true, true_and, and_self, and_false, false_and, ↓reduceIte, nat_add, nat_mul3, nat_mul4, nat_mul6, nat_mul15, nat_mul60, nat_cast, nc1, Int.reduceToNat, upE, upN, fill_ne, fill_in, i0]) (by repeat' first | assumption | apply RelS.up | apply RelS.fill | (intros; unfold core k1 kTr kTp kLv kLp kMk kNw; omega)) (by first | rfl | assumption | simp (disch := omega) only [not_false_eq_true, not_true_eq_false, w32_id, tLt, fLt, tLe, fEq, itE, and_true, true_and, and_self, and_false, false_and, ↓reduceIte, nat_add, nat_mul3, nat_mul4, nat_mul6, nat_mul15, nat_mul60, nat_cast, nc1, Int.reduceToNat, upE, upN, fill_ne, fill_in, i0])
    · intro M' h'
      have hA := h'.hA
      repeat' first
        | (with_reducible apply wp_bR; (simp (disch := omega) only [rM L, rK L, rN L, rNf, rNv, rNp, rNd, rRow, rLeg, rMark, nat_cast, Int.reduceToNat, hA]; with_reducible exact rfl))
        | with_reducible apply wp_bI
        | with_reducible apply wp_bV
        | with_reducible apply wp_bL
        | with_reducible apply wp_rI
        | with_reducible apply wp_rV
        | with_reducible apply wp_rL
        | (with_reducible apply wp_1; (first | omega | (simp (disch := omega) only [not_false_eq_true, not_true_eq_false, w32_id, tLt, fLt, tLe, fEq, itE, and_true, true_and, and_self, and_false, false_and, ↓reduceIte, nat_add, nat_mul3, nat_mul4, nat_mul6, nat_mul15, nat_mul60, nat_cast, nc1, Int.reduceToNat, upE, upN, fill_ne, fill_in, i0, hA] <;> omega)))
        | (with_reducible apply wp_2; (first | omega | (simp (disch := omega) only [not_false_eq_true, not_true_eq_false, w32_id, tLt, fLt, tLe, fEq, itE, and_true, true_and, and_self, and_false, false_and, ↓reduceIte, nat_add, nat_mul3, nat_mul4, nat_mul6, nat_mul15, nat_mul60, nat_cast, nc1, Int.reduceToNat, upE, upN, fill_ne, fill_in, i0, hA] <;> omega)))
        | (with_reducible apply wp_s; (first | (simp (disch := omega) only [not_false_eq_true, not_true_eq_false, w32_id, tLt, fLt, tLe, fEq, itE, and_true, true_and, and_self, and_false, false_and, ↓reduceIte, nat_add, nat_mul3, nat_mul4, nat_mul6, nat_mul15, nat_mul60, nat_cast, nc1, Int.reduceToNat, upE, upN, fill_ne, fill_in, i0, hA]; with_reducible exact Iff.rfl) | with_reducible exact Iff.rfl); intro hc__; (try subst hc__); rotate_left; intro hc__; rotate_left)
        | (with_reducible apply wp_eq; (with_reducible apply cl_go; simp (disch := omega) only [not_false_eq_true, not_true_eq_false, w32_id, tLt, fLt, tLe, fEq, itE, and_true, true_and, and_self, and_false, false_and, ↓reduceIte, nat_add, nat_mul3, nat_mul4, nat_mul6, nat_mul15, nat_mul60, nat_cast, nc1, Int.reduceToNat, upE, upN, fill_ne, fill_in, i0, hA]; with_reducible exact rfl))
        | (with_reducible refine wp_eq (c_Mo_passFor (by omega) _ _ _ _ _) ?_; with_reducible refine wp_eq (b_Mo_passFor_0 _ _ _ _ _ _) ?_)
        | (with_reducible refine wp_eq (c_Mo_isShip (by omega) _ _ _ _) ?_; with_reducible refine wp_eq (b_Mo_isShip_0 _ _ _ _ _) ?_)
        | (with_reducible refine wp_eq (c_Mo_isNation (by omega) _ _ _ _) ?_; with_reducible refine wp_eq (b_Mo_isNation_0 _ _ _ _ _) ?_)
        | (with_reducible refine wp_eq (c_Mo_isGood (by omega) _ _ _ _) ?_; with_reducible refine wp_eq (b_Mo_isGood_0 _ _ _ _ _) ?_)
        | (with_reducible refine wp_eq (c_Mo_isPort (by omega) _ _ _ _) ?_; with_reducible refine wp_eq (b_Mo_isPort_0 _ _ _ _ _) ?_)
        | (with_reducible refine wp_eq (c_Mo_areTwo (by omega) _ _ _ _ _) ?_; with_reducible refine wp_eq (b_Mo_areTwo_0 _ _ _ _ _ _) ?_)
        | (with_reducible refine wp_eq (c_Mo_gives (by omega) _ _ _ _) ?_; with_reducible refine wp_eq (b_Mo_gives_0 _ _ _ _ _) ?_)
        | (with_reducible refine wp_eq (c_Mo_refuse (by omega) _ _ _ _) ?_; with_reducible refine wp_eq (b_Mo_refuse_0 _ _ _ _ _) ?_)
        | (with_reducible refine wp_eq (c_Mo_orNone (by omega) _ _ _ _) ?_; with_reducible refine wp_eq (b_Mo_orNone_0 _ _ _ _ _) ?_)
        | (with_reducible refine wp_eq (c_Mo_orNothing (by omega) _ _ _ _) ?_; with_reducible refine wp_eq (b_Mo_orNothing_0 _ _ _ _ _) ?_)
        | (with_reducible refine wp_eq (c_Mo_is (by omega) _ _ _ _) ?_; with_reducible refine wp_eq (b_Mo_is_0 _ _ _ _ _) ?_)
        | (with_reducible refine wp_eq (c_Mo_isRule (by omega) _ _ _) ?_; with_reducible refine wp_eq (b_Mo_isRule_0 _ _ _ _) ?_)
        | (with_reducible refine wp_eq (c_Mo_isTons (by omega) _ _ _) ?_; with_reducible refine wp_eq (b_Mo_isTons_0 _ _ _ _) ?_)
        | (with_reducible refine wp_eq (c_Mo_isFrom (by omega) _ _ _ _ _) ?_; with_reducible refine wp_eq (b_Mo_isFrom_0 _ _ _ _ _ _) ?_)
        | (with_reducible refine wp_eq (c_Mo_isTray (by omega) _ _ _) ?_; with_reducible refine wp_eq (b_Mo_isTray_0 _ _ _ _) ?_)
        | (with_reducible apply wp_eq; (with_reducible apply lf_go; simp (disch := omega) only [not_false_eq_true, not_true_eq_false, w32_id, tLt, fLt, tLe, fEq, itE, and_true, true_and, and_self, and_false, false_and, ↓reduceIte, nat_add, nat_mul3, nat_mul4, nat_mul6, nat_mul15, nat_mul60, nat_cast, nc1, Int.reduceToNat, upE, upN, fill_ne, fill_in, i0, hA]; with_reducible exact rfl))
        | with_reducible apply wp_q1
      refine wp_qx (n_passes0 (by omega) h' (by omega) (by omega) hR hT) fun M1 h1 s1 s2 hr => ?_
      repeat' first
        | (with_reducible apply wp_bR; (simp (disch := omega) only [rM L, rK L, rN L, rNf, rNv, rNp, rNd, rRow, rLeg, rMark, nat_cast, Int.reduceToNat]; with_reducible exact rfl))
        | with_reducible apply wp_bI
        | with_reducible apply wp_bV
        | with_reducible apply wp_bL
        | with_reducible apply wp_rI
        | with_reducible apply wp_rV
        | with_reducible apply wp_rL
        | (with_reducible apply wp_1; (first | omega | (simp (disch := omega) only [not_false_eq_true, not_true_eq_false, w32_id, tLt, fLt, tLe, fEq, itE, and_true, true_and, and_self, and_false, false_and, ↓reduceIte, nat_add, nat_mul3, nat_mul4, nat_mul6, nat_mul15, nat_mul60, nat_cast, nc1, Int.reduceToNat, upE, upN, fill_ne, fill_in, i0] <;> omega)))
        | (with_reducible apply wp_2; (first | omega | (simp (disch := omega) only [not_false_eq_true, not_true_eq_false, w32_id, tLt, fLt, tLe, fEq, itE, and_true, true_and, and_self, and_false, false_and, ↓reduceIte, nat_add, nat_mul3, nat_mul4, nat_mul6, nat_mul15, nat_mul60, nat_cast, nc1, Int.reduceToNat, upE, upN, fill_ne, fill_in, i0] <;> omega)))
        | (with_reducible apply wp_s; (first | (simp (disch := omega) only [not_false_eq_true, not_true_eq_false, w32_id, tLt, fLt, tLe, fEq, itE, and_true, true_and, and_self, and_false, false_and, ↓reduceIte, nat_add, nat_mul3, nat_mul4, nat_mul6, nat_mul15, nat_mul60, nat_cast, nc1, Int.reduceToNat, upE, upN, fill_ne, fill_in, i0]; with_reducible exact Iff.rfl) | with_reducible exact Iff.rfl); intro hc__; (try subst hc__); rotate_left; intro hc__; rotate_left)
        | (with_reducible apply wp_eq; (with_reducible apply cl_go; simp (disch := omega) only [not_false_eq_true, not_true_eq_false, w32_id, tLt, fLt, tLe, fEq, itE, and_true, true_and, and_self, and_false, false_and, ↓reduceIte, nat_add, nat_mul3, nat_mul4, nat_mul6, nat_mul15, nat_mul60, nat_cast, nc1, Int.reduceToNat, upE, upN, fill_ne, fill_in, i0]; with_reducible exact rfl))
        | (with_reducible refine wp_eq (c_Mo_isShip (by omega) _ _ _ _) ?_; with_reducible refine wp_eq (b_Mo_isShip_0 _ _ _ _ _) ?_)
        | (with_reducible refine wp_eq (c_Mo_isNation (by omega) _ _ _ _) ?_; with_reducible refine wp_eq (b_Mo_isNation_0 _ _ _ _ _) ?_)
        | (with_reducible refine wp_eq (c_Mo_isGood (by omega) _ _ _ _) ?_; with_reducible refine wp_eq (b_Mo_isGood_0 _ _ _ _ _) ?_)
        | (with_reducible refine wp_eq (c_Mo_isPort (by omega) _ _ _ _) ?_; with_reducible refine wp_eq (b_Mo_isPort_0 _ _ _ _ _) ?_)
        | (with_reducible refine wp_eq (c_Mo_areTwo (by omega) _ _ _ _ _) ?_; with_reducible refine wp_eq (b_Mo_areTwo_0 _ _ _ _ _ _) ?_)
        | (with_reducible refine wp_eq (c_Mo_gives (by omega) _ _ _ _) ?_; with_reducible refine wp_eq (b_Mo_gives_0 _ _ _ _ _) ?_)
        | (with_reducible refine wp_eq (c_Mo_refuse (by omega) _ _ _ _) ?_; with_reducible refine wp_eq (b_Mo_refuse_0 _ _ _ _ _) ?_)
        | (with_reducible refine wp_eq (c_Mo_orNone (by omega) _ _ _ _) ?_; with_reducible refine wp_eq (b_Mo_orNone_0 _ _ _ _ _) ?_)
        | (with_reducible refine wp_eq (c_Mo_orNothing (by omega) _ _ _ _) ?_; with_reducible refine wp_eq (b_Mo_orNothing_0 _ _ _ _ _) ?_)
        | (with_reducible refine wp_eq (c_Mo_is (by omega) _ _ _ _) ?_; with_reducible refine wp_eq (b_Mo_is_0 _ _ _ _ _) ?_)
        | (with_reducible refine wp_eq (c_Mo_isRule (by omega) _ _ _) ?_; with_reducible refine wp_eq (b_Mo_isRule_0 _ _ _ _) ?_)
        | (with_reducible refine wp_eq (c_Mo_isTons (by omega) _ _ _) ?_; with_reducible refine wp_eq (b_Mo_isTons_0 _ _ _ _) ?_)
        | (with_reducible refine wp_eq (c_Mo_isFrom (by omega) _ _ _ _ _) ?_; with_reducible refine wp_eq (b_Mo_isFrom_0 _ _ _ _ _ _) ?_)
        | (with_reducible refine wp_eq (c_Mo_isTray (by omega) _ _ _) ?_; with_reducible refine wp_eq (b_Mo_isTray_0 _ _ _ _) ?_)
        | (with_reducible apply wp_eq; (with_reducible apply lf_go; simp (disch := omega) only [not_false_eq_true, not_true_eq_false, w32_id, tLt, fLt, tLe, fEq, itE, and_true, true_and, and_self, and_false, false_and, ↓reduceIte, nat_add, nat_mul3, nat_mul4, nat_mul6, nat_mul15, nat_mul60, nat_cast, nc1, Int.reduceToNat, upE, upN, fill_ne, fill_in, i0]; with_reducible exact rfl))
        | with_reducible apply wp_q1
      all_goals exact wp_m (by first | rfl | exact congrArg vI (by omega) | simp (disch := omega) only [not_false_eq_true, not_true_eq_false, w32_id, tLt, fLt, tLe, fEq, itE, and_true, true_and, and_self, and_false, false_and, ↓reduceIte, nat_add, nat_mul3, nat_mul4, nat_mul6, nat_mul15, nat_mul60, nat_cast, nc1, Int.reduceToNat, upE, upN, fill_ne, fill_in, i0]) (by repeat' first | assumption | apply RelS.up | apply RelS.fill | (intros; unfold core k1 kTr kTp kLv kLp kMk kNw; omega)) (by first | rfl | assumption | simp (disch := omega) only [not_false_eq_true, not_true_eq_false, w32_id, tLt, fLt, tLe, fEq, itE, and_true, true_and, and_self, and_false, false_and, ↓reduceIte, nat_add, nat_mul3, nat_mul4, nat_mul6, nat_mul15, nat_mul60, nat_cast, nc1, Int.reduceToNat, upE, upN, fill_ne, fill_in, i0] | (simp (disch := omega) only [not_false_eq_true, not_true_eq_false, w32_id, tLt, fLt, tLe, fEq, itE, and_true, true_and, and_self, and_false, false_and, ↓reduceIte, nat_add, nat_mul3, nat_mul4, nat_mul6, nat_mul15, nat_mul60, nat_cast, nc1, Int.reduceToNat, upE, upN, fill_ne, fill_in, i0]; assumption)) (by first | rfl | assumption | simp (disch := omega) only [not_false_eq_true, not_true_eq_false, w32_id, tLt, fLt, tLe, fEq, itE, and_true, true_and, and_self, and_false, false_and, ↓reduceIte, nat_add, nat_mul3, nat_mul4, nat_mul6, nat_mul15, nat_mul60, nat_cast, nc1, Int.reduceToNat, upE, upN, fill_ne, fill_in, i0])
  · refine ⟨vI (-1), 1, ?_, ?_⟩
    · repeat' first
        | (with_reducible apply wp_bR; (simp (disch := omega) only [rM L, rK L, rN L, rNf, rNv, rNp, rNd, rRow, rLeg, rMark, nat_cast, Int.reduceToNat, hct]; with_reducible exact rfl))
        | with_reducible apply wp_bI
        | with_reducible apply wp_bV
        | with_reducible apply wp_bL
        | with_reducible apply wp_rI
        | with_reducible apply wp_rV
        | with_reducible apply wp_rL
        | (with_reducible apply wp_1; (first | omega | (simp (disch := omega) only [not_false_eq_true, not_true_eq_false, w32_id, tLt, fLt, tLe, fEq, itE, and_true, true_and, and_self, and_false, false_and, ↓reduceIte, nat_add, nat_mul3, nat_mul4, nat_mul6, nat_mul15, nat_mul60, nat_cast, nc1, Int.reduceToNat, upE, upN, fill_ne, fill_in, i0, hct] <;> omega)))
        | (with_reducible apply wp_2; (first | omega | (simp (disch := omega) only [not_false_eq_true, not_true_eq_false, w32_id, tLt, fLt, tLe, fEq, itE, and_true, true_and, and_self, and_false, false_and, ↓reduceIte, nat_add, nat_mul3, nat_mul4, nat_mul6, nat_mul15, nat_mul60, nat_cast, nc1, Int.reduceToNat, upE, upN, fill_ne, fill_in, i0, hct] <;> omega)))
        | (with_reducible apply wp_s; (first | (simp (disch := omega) only [not_false_eq_true, not_true_eq_false, w32_id, tLt, fLt, tLe, fEq, itE, and_true, true_and, and_self, and_false, false_and, ↓reduceIte, nat_add, nat_mul3, nat_mul4, nat_mul6, nat_mul15, nat_mul60, nat_cast, nc1, Int.reduceToNat, upE, upN, fill_ne, fill_in, i0, hct]; with_reducible exact Iff.rfl) | with_reducible exact Iff.rfl); intro hc__; (try subst hc__); rotate_left; intro hc__; rotate_left)
        | (with_reducible apply wp_eq; (with_reducible apply cl_go; simp (disch := omega) only [not_false_eq_true, not_true_eq_false, w32_id, tLt, fLt, tLe, fEq, itE, and_true, true_and, and_self, and_false, false_and, ↓reduceIte, nat_add, nat_mul3, nat_mul4, nat_mul6, nat_mul15, nat_mul60, nat_cast, nc1, Int.reduceToNat, upE, upN, fill_ne, fill_in, i0, hct]; with_reducible exact rfl))
        | (with_reducible refine wp_eq (c_Ca_passFor (by omega) _ _ _ _ _) ?_; with_reducible refine wp_eq (b_Ca_passFor_0 _ _ _ _ _ _) ?_)
        | (with_reducible refine wp_eq (c_Ca_passAt (by omega) _ _ _ _ _ _) ?_; with_reducible refine wp_eq (b_Ca_passAt_0 _ _ _ _ _ _ _) ?_)
        | (with_reducible refine wp_eq (c_Ca_within (by omega) _ _ _ _ _) ?_; with_reducible refine wp_eq (b_Ca_within_0 _ _ _ _ _ _) ?_)
        | (with_reducible refine wp_eq (c_Ca_isShip (by omega) _ _ _ _) ?_; with_reducible refine wp_eq (b_Ca_isShip_0 _ _ _ _ _) ?_)
        | (with_reducible refine wp_eq (c_Ca_isNation (by omega) _ _ _ _) ?_; with_reducible refine wp_eq (b_Ca_isNation_0 _ _ _ _ _) ?_)
        | (with_reducible refine wp_eq (c_Ca_isGood (by omega) _ _ _ _) ?_; with_reducible refine wp_eq (b_Ca_isGood_0 _ _ _ _ _) ?_)
        | (with_reducible refine wp_eq (c_Ca_isPort (by omega) _ _ _ _) ?_; with_reducible refine wp_eq (b_Ca_isPort_0 _ _ _ _ _) ?_)
        | (with_reducible refine wp_eq (c_Ca_areTwo (by omega) _ _ _ _ _ _) ?_; with_reducible refine wp_eq (b_Ca_areTwo_0 _ _ _ _ _ _ _) ?_)
        | (with_reducible refine wp_eq (c_Ca_answer (by omega) _ _ _ _) ?_; with_reducible refine wp_eq (b_Ca_answer_0 _ _ _ _ _) ?_)
        | (with_reducible refine wp_eq (c_Ca_refuse (by omega) _ _ _ _) ?_; with_reducible refine wp_eq (b_Ca_refuse_0 _ _ _ _ _) ?_)
        | (with_reducible refine wp_eq (c_Ca_answerOr (by omega) _ _ _ _ _) ?_; with_reducible refine wp_eq (b_Ca_answerOr_0 _ _ _ _ _ _) ?_)
        | (with_reducible refine wp_eq (c_Ca_agree (by omega) _ _ _) ?_; with_reducible refine wp_eq (b_Ca_agree_0 _ _ _ _) ?_)
        | (with_reducible refine wp_eq (c_Ca_deny (by omega) _ _ _ _) ?_; with_reducible refine wp_eq (b_Ca_deny_0 _ _ _ _ _) ?_)
        | (with_reducible apply wp_eq; (with_reducible apply lf_go; simp (disch := omega) only [not_false_eq_true, not_true_eq_false, w32_id, tLt, fLt, tLe, fEq, itE, and_true, true_and, and_self, and_false, false_and, ↓reduceIte, nat_add, nat_mul3, nat_mul4, nat_mul6, nat_mul15, nat_mul60, nat_cast, nc1, Int.reduceToNat, upE, upN, fill_ne, fill_in, i0, hct]; with_reducible exact rfl))
        | with_reducible apply wp_q1
      all_goals exact wp_c (by first | rfl | exact congrArg vI (by omega) | simp (disch := omega) only [not_false_eq_true, not_true_eq_false, w32_id, tLt, fLt, tLe, fEq, itE, and_true, true_and, and_self, and_false, false_and, ↓reduceIte, nat_add, nat_mul3, nat_mul4, nat_mul6, nat_mul15, nat_mul60, nat_cast, nc1, Int.reduceToNat, upE, upN, fill_ne, fill_in, i0]) (by repeat' first | assumption | apply RelS.up | apply RelS.fill | (intros; unfold core k1 kTr kTp kLv kLp kMk kNw; omega)) (by first | rfl | assumption | simp (disch := omega) only [not_false_eq_true, not_true_eq_false, w32_id, tLt, fLt, tLe, fEq, itE, and_true, true_and, and_self, and_false, false_and, ↓reduceIte, nat_add, nat_mul3, nat_mul4, nat_mul6, nat_mul15, nat_mul60, nat_cast, nc1, Int.reduceToNat, upE, upN, fill_ne, fill_in, i0])
    · intro M' h'
      have hA := h'.hA
      repeat' first
        | (with_reducible apply wp_bR; (simp (disch := omega) only [rM L, rK L, rN L, rNf, rNv, rNp, rNd, rRow, rLeg, rMark, nat_cast, Int.reduceToNat, hA]; with_reducible exact rfl))
        | with_reducible apply wp_bI
        | with_reducible apply wp_bV
        | with_reducible apply wp_bL
        | with_reducible apply wp_rI
        | with_reducible apply wp_rV
        | with_reducible apply wp_rL
        | (with_reducible apply wp_1; (first | omega | (simp (disch := omega) only [not_false_eq_true, not_true_eq_false, w32_id, tLt, fLt, tLe, fEq, itE, and_true, true_and, and_self, and_false, false_and, ↓reduceIte, nat_add, nat_mul3, nat_mul4, nat_mul6, nat_mul15, nat_mul60, nat_cast, nc1, Int.reduceToNat, upE, upN, fill_ne, fill_in, i0, hA] <;> omega)))
        | (with_reducible apply wp_2; (first | omega | (simp (disch := omega) only [not_false_eq_true, not_true_eq_false, w32_id, tLt, fLt, tLe, fEq, itE, and_true, true_and, and_self, and_false, false_and, ↓reduceIte, nat_add, nat_mul3, nat_mul4, nat_mul6, nat_mul15, nat_mul60, nat_cast, nc1, Int.reduceToNat, upE, upN, fill_ne, fill_in, i0, hA] <;> omega)))
        | (with_reducible apply wp_s; (first | (simp (disch := omega) only [not_false_eq_true, not_true_eq_false, w32_id, tLt, fLt, tLe, fEq, itE, and_true, true_and, and_self, and_false, false_and, ↓reduceIte, nat_add, nat_mul3, nat_mul4, nat_mul6, nat_mul15, nat_mul60, nat_cast, nc1, Int.reduceToNat, upE, upN, fill_ne, fill_in, i0, hA]; with_reducible exact Iff.rfl) | with_reducible exact Iff.rfl); intro hc__; (try subst hc__); rotate_left; intro hc__; rotate_left)
        | (with_reducible apply wp_eq; (with_reducible apply cl_go; simp (disch := omega) only [not_false_eq_true, not_true_eq_false, w32_id, tLt, fLt, tLe, fEq, itE, and_true, true_and, and_self, and_false, false_and, ↓reduceIte, nat_add, nat_mul3, nat_mul4, nat_mul6, nat_mul15, nat_mul60, nat_cast, nc1, Int.reduceToNat, upE, upN, fill_ne, fill_in, i0, hA]; with_reducible exact rfl))
        | (with_reducible refine wp_eq (c_Mo_passFor (by omega) _ _ _ _ _) ?_; with_reducible refine wp_eq (b_Mo_passFor_0 _ _ _ _ _ _) ?_)
        | (with_reducible refine wp_eq (c_Mo_isShip (by omega) _ _ _ _) ?_; with_reducible refine wp_eq (b_Mo_isShip_0 _ _ _ _ _) ?_)
        | (with_reducible refine wp_eq (c_Mo_isNation (by omega) _ _ _ _) ?_; with_reducible refine wp_eq (b_Mo_isNation_0 _ _ _ _ _) ?_)
        | (with_reducible refine wp_eq (c_Mo_isGood (by omega) _ _ _ _) ?_; with_reducible refine wp_eq (b_Mo_isGood_0 _ _ _ _ _) ?_)
        | (with_reducible refine wp_eq (c_Mo_isPort (by omega) _ _ _ _) ?_; with_reducible refine wp_eq (b_Mo_isPort_0 _ _ _ _ _) ?_)
        | (with_reducible refine wp_eq (c_Mo_areTwo (by omega) _ _ _ _ _) ?_; with_reducible refine wp_eq (b_Mo_areTwo_0 _ _ _ _ _ _) ?_)
        | (with_reducible refine wp_eq (c_Mo_gives (by omega) _ _ _ _) ?_; with_reducible refine wp_eq (b_Mo_gives_0 _ _ _ _ _) ?_)
        | (with_reducible refine wp_eq (c_Mo_refuse (by omega) _ _ _ _) ?_; with_reducible refine wp_eq (b_Mo_refuse_0 _ _ _ _ _) ?_)
        | (with_reducible refine wp_eq (c_Mo_orNone (by omega) _ _ _ _) ?_; with_reducible refine wp_eq (b_Mo_orNone_0 _ _ _ _ _) ?_)
        | (with_reducible refine wp_eq (c_Mo_orNothing (by omega) _ _ _ _) ?_; with_reducible refine wp_eq (b_Mo_orNothing_0 _ _ _ _ _) ?_)
        | (with_reducible refine wp_eq (c_Mo_is (by omega) _ _ _ _) ?_; with_reducible refine wp_eq (b_Mo_is_0 _ _ _ _ _) ?_)
        | (with_reducible refine wp_eq (c_Mo_isRule (by omega) _ _ _) ?_; with_reducible refine wp_eq (b_Mo_isRule_0 _ _ _ _) ?_)
        | (with_reducible refine wp_eq (c_Mo_isTons (by omega) _ _ _) ?_; with_reducible refine wp_eq (b_Mo_isTons_0 _ _ _ _) ?_)
        | (with_reducible refine wp_eq (c_Mo_isFrom (by omega) _ _ _ _ _) ?_; with_reducible refine wp_eq (b_Mo_isFrom_0 _ _ _ _ _ _) ?_)
        | (with_reducible refine wp_eq (c_Mo_isTray (by omega) _ _ _) ?_; with_reducible refine wp_eq (b_Mo_isTray_0 _ _ _ _) ?_)
        | (with_reducible apply wp_eq; (with_reducible apply lf_go; simp (disch := omega) only [not_false_eq_true, not_true_eq_false, w32_id, tLt, fLt, tLe, fEq, itE, and_true, true_and, and_self, and_false, false_and, ↓reduceIte, nat_add, nat_mul3, nat_mul4, nat_mul6, nat_mul15, nat_mul60, nat_cast, nc1, Int.reduceToNat, upE, upN, fill_ne, fill_in, i0, hA]; with_reducible exact rfl))
        | with_reducible apply wp_q1
      all_goals exact wp_m (by first | rfl | exact congrArg vI (by omega) | simp (disch := omega) only [not_false_eq_true, not_true_eq_false, w32_id, tLt, fLt, tLe, fEq, itE, and_true, true_and, and_self, and_false, false_and, ↓reduceIte, nat_add, nat_mul3, nat_mul4, nat_mul6, nat_mul15, nat_mul60, nat_cast, nc1, Int.reduceToNat, upE, upN, fill_ne, fill_in, i0]) (by repeat' first | assumption | apply RelS.up | apply RelS.fill | (intros; unfold core k1 kTr kTp kLv kLp kMk kNw; omega)) (by first | rfl | assumption | simp (disch := omega) only [not_false_eq_true, not_true_eq_false, w32_id, tLt, fLt, tLe, fEq, itE, and_true, true_and, and_self, and_false, false_and, ↓reduceIte, nat_add, nat_mul3, nat_mul4, nat_mul6, nat_mul15, nat_mul60, nat_cast, nc1, Int.reduceToNat, upE, upN, fill_ne, fill_in, i0] | (simp (disch := omega) only [not_false_eq_true, not_true_eq_false, w32_id, tLt, fLt, tLe, fEq, itE, and_true, true_and, and_self, and_false, false_and, ↓reduceIte, nat_add, nat_mul3, nat_mul4, nat_mul6, nat_mul15, nat_mul60, nat_cast, nc1, Int.reduceToNat, upE, upN, fill_ne, fill_in, i0]; assumption)) (by first | rfl | assumption | simp (disch := omega) only [not_false_eq_true, not_true_eq_false, w32_id, tLt, fLt, tLe, fEq, itE, and_true, true_and, and_self, and_false, false_and, ↓reduceIte, nat_add, nat_mul3, nat_mul4, nat_mul6, nat_mul15, nat_mul60, nat_cast, nc1, Int.reduceToNat, upE, upN, fill_ne, fill_in, i0])

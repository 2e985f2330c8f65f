/-! THE CASES OF THE LAW -/
def nz : Option Nat → Bool
  | some 0 => false
  | _ => true
def wfB (S : Sp) : Bool := S.all fun c => c.2.2.all nz
set_option maxRecDepth 100000 in
theorem wfB_t (L : Nat) : wfB (SH L) = true := rfl
theorem wfSH (L : Nat) : wfS (SH L) := by
  refine ⟨(by intro e; have z : (SH L)[0]? = some (29, L, []) := rfl; rw [List.eq_nil_of_length_eq_zero e] at z; cases z), fun c hc r hr e => ?_⟩
  have h := wfB_t L
  unfold wfB at h
  have h := List.all_eq_true.mp (List.all_eq_true.mp h c hc) r hr
  rw [e] at h
  cases h
theorem cmp3_self (x : Int) : cmp3 x x = 0 := by
  unfold cmp3
  rw [if_neg (by omega), if_pos rfl]
section
variable {xs : Nat → Int} {M : Mm} {A N : Nat → Int} {B P : Nat → Nat → Int} {L i : Nat}
theorem lw_I {y1 y2 : Nat} {args : List AV} (L : Nat) (hC : Case y1 y2 args) (hy : rowB fI (nthT tbs y1) = true) (ha : okl args) (h : Rel xs M A N B P) : ∃ x M1 M2 A' N' B' P', callD 100 y1 (vR 11 0 3 :: args) (SH L) M = some (some (vI x), SH L, M1) ∧ callD 100 y2 (vR 12 0 271 :: args) (SH L) M1 = some (some (vI x), SH L, M2) ∧ (∀ j, M1 0 j = xs j) ∧ Rel xs M2 A' N' B' P' := by
  obtain ⟨r, S1, M1, e1, rfl, r2, S2, M2, e2, rfl, rfl, A', N', B', P', R⟩ := hC L xs M A N B P h
  have ha' : okl (vR 11 0 3 :: args) := ⟨(by decide : (3 : Nat) ≠ 0), ha⟩
  obtain ⟨x, rfl⟩ := callTI hy ha' (wfSH L) e1
  exact ⟨x, M1, M2, A', N', B', P', e1, e2, fun j => ((callW _ _ _ _ _ _ _ _ ha' (wfSH L) e1).2 j).trans (h.2.1 j), R⟩
theorem lw_L {y1 y2 : Nat} {args : List AV} (L : Nat) (hC : Case y1 y2 args) (hy : rowB fL (nthT tbs y1) = true) (ha : okl args) (h : Rel xs M A N B P) : ∃ x M1 M2 A' N' B' P', callD 100 y1 (vR 11 0 3 :: args) (SH L) M = some (some (vL x), SH L, M1) ∧ callD 100 y2 (vR 12 0 271 :: args) (SH L) M1 = some (some (vL x), SH L, M2) ∧ (∀ j, M1 0 j = xs j) ∧ Rel xs M2 A' N' B' P' := by
  obtain ⟨r, S1, M1, e1, rfl, r2, S2, M2, e2, rfl, rfl, A', N', B', P', R⟩ := hC L xs M A N B P h
  have ha' : okl (vR 11 0 3 :: args) := ⟨(by decide : (3 : Nat) ≠ 0), ha⟩
  obtain ⟨x, rfl⟩ := callTL hy ha' (wfSH L) e1
  exact ⟨x, M1, M2, A', N', B', P', e1, e2, fun j => ((callW _ _ _ _ _ _ _ _ ha' (wfSH L) e1).2 j).trans (h.2.1 j), R⟩
def Nx (xs : Nat → Int) (L i pc : Nat) (M : Mm) : Prop := ∃ M' A' N' B' P', Run (callD 100) tb_Law_law pc [vR 29 (L : Int) 0, vR 11 0 3, vR 12 0 271, vI (i : Int)] [] (SH L) M = Run (callD 100) tb_Law_law 2439 [vR 29 (L : Int) 0, vR 11 0 3, vR 12 0 271, vI (i : Int)] [] (SH L) M' ∧ Rel xs M' A' N' B' P'
theorem ty_aboard : rowB fI (nthT tbs m_Ca_aboard) = true := by decide +kernel
theorem ty_best : rowB fI (nthT tbs m_Ca_best) = true := by decide +kernel
theorem ty_board : rowB fI (nthT tbs m_Ca_board) = true := by decide +kernel
theorem ty_boarders : rowB fI (nthT tbs m_Ca_boarders) = true := by decide +kernel
theorem ty_buy : rowB fI (nthT tbs m_Ca_buy) = true := by decide +kernel
theorem ty_captains : rowB fI (nthT tbs m_Ca_captains) = true := by decide +kernel
theorem ty_copyLog : rowB fI (nthT tbs m_Ca_copyLog) = true := by decide +kernel
theorem ty_day : rowB fI (nthT tbs m_Ca_day) = true := by decide +kernel
theorem ty_deeds : rowB fI (nthT tbs m_Ca_deeds) = true := by decide +kernel
theorem ty_dump : rowB fI (nthT tbs m_Ca_dump) = true := by decide +kernel
theorem ty_fault : rowB fI (nthT tbs m_Ca_fault) = true := by decide +kernel
theorem ty_feed : rowB fI (nthT tbs m_Ca_feed) = true := by decide +kernel
theorem ty_flagIn : rowB fI (nthT tbs m_Ca_flagIn) = true := by decide +kernel
theorem ty_flags : rowB fI (nthT tbs m_Ca_flags) = true := by decide +kernel
theorem ty_good : rowB fI (nthT tbs m_Ca_good) = true := by decide +kernel
theorem ty_greatest : rowB fI (nthT tbs m_Ca_greatest) = true := by decide +kernel
theorem ty_guard : rowB fI (nthT tbs m_Ca_guard) = true := by decide +kernel
theorem ty_lawful : rowB fI (nthT tbs m_Ca_lawful) = true := by decide +kernel
theorem ty_live : rowB fI (nthT tbs m_Ca_live) = true := by decide +kernel
theorem ty_lived : rowB fI (nthT tbs m_Ca_lived) = true := by decide +kernel
theorem ty_log : rowB fI (nthT tbs m_Ca_log) = true := by decide +kernel
theorem ty_mark : rowB fI (nthT tbs m_Ca_mark) = true := by decide +kernel
theorem ty_mean : rowB fI (nthT tbs m_Ca_mean) = true := by decide +kernel
theorem ty_nation : rowB fI (nthT tbs m_Ca_nation) = true := by decide +kernel
theorem ty_next : rowB fI (nthT tbs m_Ca_next) = true := by decide +kernel
theorem ty_pass : rowB fI (nthT tbs m_Ca_pass) = true := by decide +kernel
theorem ty_passFor : rowB fI (nthT tbs m_Ca_passFor) = true := by decide +kernel
theorem ty_passGood : rowB fI (nthT tbs m_Ca_passGood) = true := by decide +kernel
theorem ty_pay : rowB fI (nthT tbs m_Ca_pay) = true := by decide +kernel
theorem ty_peace : rowB fI (nthT tbs m_Ca_peace) = true := by decide +kernel
theorem ty_peaceCost : rowB fI (nthT tbs m_Ca_peaceCost) = true := by decide +kernel
theorem ty_portOf : rowB fI (nthT tbs m_Ca_portOf) = true := by decide +kernel
theorem ty_pour : rowB fI (nthT tbs m_Ca_pour) = true := by decide +kernel
theorem ty_price : rowB fI (nthT tbs m_Ca_price) = true := by decide +kernel
theorem ty_reach : rowB fI (nthT tbs m_Ca_reach) = true := by decide +kernel
theorem ty_rule : rowB fI (nthT tbs m_Ca_rule) = true := by decide +kernel
theorem ty_ruled : rowB fI (nthT tbs m_Ca_ruled) = true := by decide +kernel
theorem ty_ruledBy : rowB fI (nthT tbs m_Ca_ruledBy) = true := by decide +kernel
theorem ty_sail : rowB fI (nthT tbs m_Ca_sail) = true := by decide +kernel
theorem ty_sell : rowB fI (nthT tbs m_Ca_sell) = true := by decide +kernel
theorem ty_share : rowB fI (nthT tbs m_Ca_share) = true := by decide +kernel
theorem ty_ship : rowB fI (nthT tbs m_Ca_ship) = true := by decide +kernel
theorem ty_soonest : rowB fI (nthT tbs m_Ca_soonest) = true := by decide +kernel
theorem ty_status : rowB fI (nthT tbs m_Ca_status) = true := by decide +kernel
theorem ty_stowaway : rowB fI (nthT tbs m_Ca_stowaway) = true := by decide +kernel
theorem ty_stowawayGood : rowB fI (nthT tbs m_Ca_stowawayGood) = true := by decide +kernel
theorem ty_sure : rowB fI (nthT tbs m_Ca_sure) = true := by decide +kernel
theorem ty_told : rowB fI (nthT tbs m_Ca_told) = true := by decide +kernel
theorem ty_tonsIn : rowB fI (nthT tbs m_Ca_tonsIn) = true := by decide +kernel
theorem ty_trade : rowB fI (nthT tbs m_Ca_trade) = true := by decide +kernel
theorem ty_tray : rowB fI (nthT tbs m_Ca_tray) = true := by decide +kernel
theorem ty_turns : rowB fI (nthT tbs m_Ca_turns) = true := by decide +kernel
theorem ty_undo : rowB fI (nthT tbs m_Ca_undo) = true := by decide +kernel
theorem ty_voyage : rowB fI (nthT tbs m_Ca_voyage) = true := by decide +kernel
theorem ty_voyageAt : rowB fI (nthT tbs m_Ca_voyageAt) = true := by decide +kernel
theorem ty_voyages : rowB fI (nthT tbs m_Ca_voyages) = true := by decide +kernel
theorem ty_wages : rowB fI (nthT tbs m_Ca_wages) = true := by decide +kernel
theorem ty_war : rowB fI (nthT tbs m_Ca_war) = true := by decide +kernel
theorem ty_way : rowB fI (nthT tbs m_Ca_way) = true := by decide +kernel
theorem ty_weight : rowB fI (nthT tbs m_Ca_weight) = true := by decide +kernel
theorem ty_weightBy : rowB fI (nthT tbs m_Ca_weightBy) = true := by decide +kernel
theorem ty_world : rowB fI (nthT tbs m_Ca_world) = true := by decide +kernel
theorem ty_write : rowB fI (nthT tbs m_Ca_write) = true := by decide +kernel
theorem ty_bottom : rowB fL (nthT tbs m_Ca_bottom) = true := by decide +kernel
theorem ty_read : rowB fL (nthT tbs m_Ca_read) = true := by decide +kernel
theorem ty_top : rowB fL (nthT tbs m_Ca_top) = true := by decide +kernel
theorem lw_status (hx : ∀ j, i32 (xs j)) (h : Rel xs M A N B P) (hi : i + 6 ≤ L) (hL : L ≤ 3072) : Nx xs L i 312 M := by
  have g := h.2.1
  obtain ⟨x, M1, M2, A', N', B', P', e1, e2, z, r⟩ := lw_I L (case_status) ty_status trivial h
  refine ⟨M2, A', N', B', P', ?_, r⟩
  rw [b_Law_312]
  repeat' first
    | (with_reducible apply bR_go; (simp (disch := omega) only [rM L, rK L, rN L, rNf, rNv, rNp, rNd, rRow, rLeg, rMark, nat_cast, Int.reduceToNat, g, z, cmp3_self]; with_reducible exact rfl))
    | with_reducible apply bI_go
    | with_reducible apply bV_go
    | with_reducible apply bL_go
    | (with_reducible apply it_1; (first | omega | (simp (disch := omega) only [not_false_eq_true, not_true_eq_false, w32_id, tLt, fLt, tLe, fEq, itE, and_true, true_and, and_self, and_false, false_and, ↓reduceIte, nat_add, nat_mul3, nat_mul4, nat_mul6, nat_mul15, nat_mul60, nat_cast, nc1, Int.reduceToNat, upE, upN, fill_ne, fill_in, i0, g, z, cmp3_self] <;> omega)))
    | (with_reducible apply it_2; (first | omega | (simp (disch := omega) only [not_false_eq_true, not_true_eq_false, w32_id, tLt, fLt, tLe, fEq, itE, and_true, true_and, and_self, and_false, false_and, ↓reduceIte, nat_add, nat_mul3, nat_mul4, nat_mul6, nat_mul15, nat_mul60, nat_cast, nc1, Int.reduceToNat, upE, upN, fill_ne, fill_in, i0, g, z, cmp3_self] <;> omega)))
    | (with_reducible refine cl_go ?_; simp (disch := omega) only [not_false_eq_true, not_true_eq_false, w32_id, tLt, fLt, tLe, fEq, itE, and_true, true_and, and_self, and_false, false_and, ↓reduceIte, nat_add, nat_mul3, nat_mul4, nat_mul6, nat_mul15, nat_mul60, nat_cast, nc1, Int.reduceToNat, upE, upN, fill_ne, fill_in, i0, g, z, cmp3_self])
    | with_reducible exact e1
    | with_reducible exact e2
    | (with_reducible refine rn_go ?_; simp (disch := omega) only [not_false_eq_true, not_true_eq_false, w32_id, tLt, fLt, tLe, fEq, itE, and_true, true_and, and_self, and_false, false_and, ↓reduceIte, nat_add, nat_mul3, nat_mul4, nat_mul6, nat_mul15, nat_mul60, nat_cast, nc1, Int.reduceToNat, upE, upN, fill_ne, fill_in, i0, g, z, cmp3_self])
    | (with_reducible refine lf_go ?_; simp (disch := omega) only [not_false_eq_true, not_true_eq_false, w32_id, tLt, fLt, tLe, fEq, itE, and_true, true_and, and_self, and_false, false_and, ↓reduceIte, nat_add, nat_mul3, nat_mul4, nat_mul6, nat_mul15, nat_mul60, nat_cast, nc1, Int.reduceToNat, upE, upN, fill_ne, fill_in, i0, g, z, cmp3_self])
    | with_reducible exact rfl
theorem lw_top (hx : ∀ j, i32 (xs j)) (h : Rel xs M A N B P) (hi : i + 6 ≤ L) (hL : L ≤ 3072) : Nx xs L i 325 M := by
  have g := h.2.1
  obtain ⟨x, M1, M2, A', N', B', P', e1, e2, z, r⟩ := lw_L L (case_top) ty_top trivial h
  refine ⟨M2, A', N', B', P', ?_, r⟩
  rw [b_Law_325]
  repeat' first
    | (with_reducible apply bR_go; (simp (disch := omega) only [rM L, rK L, rN L, rNf, rNv, rNp, rNd, rRow, rLeg, rMark, nat_cast, Int.reduceToNat, g, z, cmp3_self]; with_reducible exact rfl))
    | with_reducible apply bI_go
    | with_reducible apply bV_go
    | with_reducible apply bL_go
    | (with_reducible apply it_1; (first | omega | (simp (disch := omega) only [not_false_eq_true, not_true_eq_false, w32_id, tLt, fLt, tLe, fEq, itE, and_true, true_and, and_self, and_false, false_and, ↓reduceIte, nat_add, nat_mul3, nat_mul4, nat_mul6, nat_mul15, nat_mul60, nat_cast, nc1, Int.reduceToNat, upE, upN, fill_ne, fill_in, i0, g, z, cmp3_self] <;> omega)))
    | (with_reducible apply it_2; (first | omega | (simp (disch := omega) only [not_false_eq_true, not_true_eq_false, w32_id, tLt, fLt, tLe, fEq, itE, and_true, true_and, and_self, and_false, false_and, ↓reduceIte, nat_add, nat_mul3, nat_mul4, nat_mul6, nat_mul15, nat_mul60, nat_cast, nc1, Int.reduceToNat, upE, upN, fill_ne, fill_in, i0, g, z, cmp3_self] <;> omega)))
    | (with_reducible refine cl_go ?_; simp (disch := omega) only [not_false_eq_true, not_true_eq_false, w32_id, tLt, fLt, tLe, fEq, itE, and_true, true_and, and_self, and_false, false_and, ↓reduceIte, nat_add, nat_mul3, nat_mul4, nat_mul6, nat_mul15, nat_mul60, nat_cast, nc1, Int.reduceToNat, upE, upN, fill_ne, fill_in, i0, g, z, cmp3_self])
    | with_reducible exact e1
    | with_reducible exact e2
    | (with_reducible refine rn_go ?_; simp (disch := omega) only [not_false_eq_true, not_true_eq_false, w32_id, tLt, fLt, tLe, fEq, itE, and_true, true_and, and_self, and_false, false_and, ↓reduceIte, nat_add, nat_mul3, nat_mul4, nat_mul6, nat_mul15, nat_mul60, nat_cast, nc1, Int.reduceToNat, upE, upN, fill_ne, fill_in, i0, g, z, cmp3_self])
    | (with_reducible refine lf_go ?_; simp (disch := omega) only [not_false_eq_true, not_true_eq_false, w32_id, tLt, fLt, tLe, fEq, itE, and_true, true_and, and_self, and_false, false_and, ↓reduceIte, nat_add, nat_mul3, nat_mul4, nat_mul6, nat_mul15, nat_mul60, nat_cast, nc1, Int.reduceToNat, upE, upN, fill_ne, fill_in, i0, g, z, cmp3_self])
    | with_reducible exact rfl
theorem lw_bottom (hx : ∀ j, i32 (xs j)) (h : Rel xs M A N B P) (hi : i + 6 ≤ L) (hL : L ≤ 3072) : Nx xs L i 339 M := by
  have g := h.2.1
  obtain ⟨x, M1, M2, A', N', B', P', e1, e2, z, r⟩ := lw_L L (case_bottom) ty_bottom trivial h
  refine ⟨M2, A', N', B', P', ?_, r⟩
  rw [b_Law_339]
  repeat' first
    | (with_reducible apply bR_go; (simp (disch := omega) only [rM L, rK L, rN L, rNf, rNv, rNp, rNd, rRow, rLeg, rMark, nat_cast, Int.reduceToNat, g, z, cmp3_self]; with_reducible exact rfl))
    | with_reducible apply bI_go
    | with_reducible apply bV_go
    | with_reducible apply bL_go
    | (with_reducible apply it_1; (first | omega | (simp (disch := omega) only [not_false_eq_true, not_true_eq_false, w32_id, tLt, fLt, tLe, fEq, itE, and_true, true_and, and_self, and_false, false_and, ↓reduceIte, nat_add, nat_mul3, nat_mul4, nat_mul6, nat_mul15, nat_mul60, nat_cast, nc1, Int.reduceToNat, upE, upN, fill_ne, fill_in, i0, g, z, cmp3_self] <;> omega)))
    | (with_reducible apply it_2; (first | omega | (simp (disch := omega) only [not_false_eq_true, not_true_eq_false, w32_id, tLt, fLt, tLe, fEq, itE, and_true, true_and, and_self, and_false, false_and, ↓reduceIte, nat_add, nat_mul3, nat_mul4, nat_mul6, nat_mul15, nat_mul60, nat_cast, nc1, Int.reduceToNat, upE, upN, fill_ne, fill_in, i0, g, z, cmp3_self] <;> omega)))
    | (with_reducible refine cl_go ?_; simp (disch := omega) only [not_false_eq_true, not_true_eq_false, w32_id, tLt, fLt, tLe, fEq, itE, and_true, true_and, and_self, and_false, false_and, ↓reduceIte, nat_add, nat_mul3, nat_mul4, nat_mul6, nat_mul15, nat_mul60, nat_cast, nc1, Int.reduceToNat, upE, upN, fill_ne, fill_in, i0, g, z, cmp3_self])
    | with_reducible exact e1
    | with_reducible exact e2
    | (with_reducible refine rn_go ?_; simp (disch := omega) only [not_false_eq_true, not_true_eq_false, w32_id, tLt, fLt, tLe, fEq, itE, and_true, true_and, and_self, and_false, false_and, ↓reduceIte, nat_add, nat_mul3, nat_mul4, nat_mul6, nat_mul15, nat_mul60, nat_cast, nc1, Int.reduceToNat, upE, upN, fill_ne, fill_in, i0, g, z, cmp3_self])
    | (with_reducible refine lf_go ?_; simp (disch := omega) only [not_false_eq_true, not_true_eq_false, w32_id, tLt, fLt, tLe, fEq, itE, and_true, true_and, and_self, and_false, false_and, ↓reduceIte, nat_add, nat_mul3, nat_mul4, nat_mul6, nat_mul15, nat_mul60, nat_cast, nc1, Int.reduceToNat, upE, upN, fill_ne, fill_in, i0, g, z, cmp3_self])
    | with_reducible exact rfl
theorem lw_tray (hx : ∀ j, i32 (xs j)) (h : Rel xs M A N B P) (hi : i + 6 ≤ L) (hL : L ≤ 3072) : Nx xs L i 353 M := by
  have g := h.2.1
  obtain ⟨x, M1, M2, A', N', B', P', e1, e2, z, r⟩ := lw_I L (case_tray (xs (i + 1)) (xs (i + 2)) (xs (i + 3))) ty_tray ⟨trivial, trivial, trivial, trivial⟩ h
  refine ⟨M2, A', N', B', P', ?_, r⟩
  rw [b_Law_353]
  repeat' first
    | (with_reducible apply bR_go; (simp (disch := omega) only [rM L, rK L, rN L, rNf, rNv, rNp, rNd, rRow, rLeg, rMark, nat_cast, Int.reduceToNat, g, z, cmp3_self]; with_reducible exact rfl))
    | with_reducible apply bI_go
    | with_reducible apply bV_go
    | with_reducible apply bL_go
    | (with_reducible apply it_1; (first | omega | (simp (disch := omega) only [not_false_eq_true, not_true_eq_false, w32_id, tLt, fLt, tLe, fEq, itE, and_true, true_and, and_self, and_false, false_and, ↓reduceIte, nat_add, nat_mul3, nat_mul4, nat_mul6, nat_mul15, nat_mul60, nat_cast, nc1, Int.reduceToNat, upE, upN, fill_ne, fill_in, i0, g, z, cmp3_self] <;> omega)))
    | (with_reducible apply it_2; (first | omega | (simp (disch := omega) only [not_false_eq_true, not_true_eq_false, w32_id, tLt, fLt, tLe, fEq, itE, and_true, true_and, and_self, and_false, false_and, ↓reduceIte, nat_add, nat_mul3, nat_mul4, nat_mul6, nat_mul15, nat_mul60, nat_cast, nc1, Int.reduceToNat, upE, upN, fill_ne, fill_in, i0, g, z, cmp3_self] <;> omega)))
    | (with_reducible refine cl_go ?_; simp (disch := omega) only [not_false_eq_true, not_true_eq_false, w32_id, tLt, fLt, tLe, fEq, itE, and_true, true_and, and_self, and_false, false_and, ↓reduceIte, nat_add, nat_mul3, nat_mul4, nat_mul6, nat_mul15, nat_mul60, nat_cast, nc1, Int.reduceToNat, upE, upN, fill_ne, fill_in, i0, g, z, cmp3_self])
    | with_reducible exact e1
    | with_reducible exact e2
    | (with_reducible refine rn_go ?_; simp (disch := omega) only [not_false_eq_true, not_true_eq_false, w32_id, tLt, fLt, tLe, fEq, itE, and_true, true_and, and_self, and_false, false_and, ↓reduceIte, nat_add, nat_mul3, nat_mul4, nat_mul6, nat_mul15, nat_mul60, nat_cast, nc1, Int.reduceToNat, upE, upN, fill_ne, fill_in, i0, g, z, cmp3_self])
    | (with_reducible refine lf_go ?_; simp (disch := omega) only [not_false_eq_true, not_true_eq_false, w32_id, tLt, fLt, tLe, fEq, itE, and_true, true_and, and_self, and_false, false_and, ↓reduceIte, nat_add, nat_mul3, nat_mul4, nat_mul6, nat_mul15, nat_mul60, nat_cast, nc1, Int.reduceToNat, upE, upN, fill_ne, fill_in, i0, g, z, cmp3_self])
    | with_reducible exact rfl
theorem lw_write (hx : ∀ j, i32 (xs j)) (h : Rel xs M A N B P) (hi : i + 6 ≤ L) (hL : L ≤ 3072) : Nx xs L i 396 M := by
  have g := h.2.1
  obtain ⟨x, M1, M2, A', N', B', P', e1, e2, z, r⟩ := lw_I L (case_write (xs (i + 1)) (xs (i + 2)) (or64 (shl64 (xs (i + 3)) 32) (and64 (xs (i + 4)) 4294967295))) ty_write ⟨trivial, trivial, trivial, trivial⟩ h
  refine ⟨M2, A', N', B', P', ?_, r⟩
  rw [b_Law_396]
  repeat' first
    | (with_reducible apply bR_go; (simp (disch := omega) only [rM L, rK L, rN L, rNf, rNv, rNp, rNd, rRow, rLeg, rMark, nat_cast, Int.reduceToNat, g, z, cmp3_self]; with_reducible exact rfl))
    | with_reducible apply bI_go
    | with_reducible apply bV_go
    | with_reducible apply bL_go
    | (with_reducible apply it_1; (first | omega | (simp (disch := omega) only [not_false_eq_true, not_true_eq_false, w32_id, tLt, fLt, tLe, fEq, itE, and_true, true_and, and_self, and_false, false_and, ↓reduceIte, nat_add, nat_mul3, nat_mul4, nat_mul6, nat_mul15, nat_mul60, nat_cast, nc1, Int.reduceToNat, upE, upN, fill_ne, fill_in, i0, g, z, cmp3_self] <;> omega)))
    | (with_reducible apply it_2; (first | omega | (simp (disch := omega) only [not_false_eq_true, not_true_eq_false, w32_id, tLt, fLt, tLe, fEq, itE, and_true, true_and, and_self, and_false, false_and, ↓reduceIte, nat_add, nat_mul3, nat_mul4, nat_mul6, nat_mul15, nat_mul60, nat_cast, nc1, Int.reduceToNat, upE, upN, fill_ne, fill_in, i0, g, z, cmp3_self] <;> omega)))
    | (with_reducible refine cl_go ?_; simp (disch := omega) only [not_false_eq_true, not_true_eq_false, w32_id, tLt, fLt, tLe, fEq, itE, and_true, true_and, and_self, and_false, false_and, ↓reduceIte, nat_add, nat_mul3, nat_mul4, nat_mul6, nat_mul15, nat_mul60, nat_cast, nc1, Int.reduceToNat, upE, upN, fill_ne, fill_in, i0, g, z, cmp3_self])
    | with_reducible exact e1
    | with_reducible exact e2
    | (with_reducible refine rn_go ?_; simp (disch := omega) only [not_false_eq_true, not_true_eq_false, w32_id, tLt, fLt, tLe, fEq, itE, and_true, true_and, and_self, and_false, false_and, ↓reduceIte, nat_add, nat_mul3, nat_mul4, nat_mul6, nat_mul15, nat_mul60, nat_cast, nc1, Int.reduceToNat, upE, upN, fill_ne, fill_in, i0, g, z, cmp3_self])
    | (with_reducible refine lf_go ?_; simp (disch := omega) only [not_false_eq_true, not_true_eq_false, w32_id, tLt, fLt, tLe, fEq, itE, and_true, true_and, and_self, and_false, false_and, ↓reduceIte, nat_add, nat_mul3, nat_mul4, nat_mul6, nat_mul15, nat_mul60, nat_cast, nc1, Int.reduceToNat, upE, upN, fill_ne, fill_in, i0, g, z, cmp3_self])
    | with_reducible exact rfl
theorem lw_read (hx : ∀ j, i32 (xs j)) (h : Rel xs M A N B P) (hi : i + 6 ≤ L) (hL : L ≤ 3072) : Nx xs L i 469 M := by
  have g := h.2.1
  obtain ⟨x, M1, M2, A', N', B', P', e1, e2, z, r⟩ := lw_L L (case_read (xs (i + 1)) (xs (i + 2))) ty_read ⟨trivial, trivial, trivial⟩ h
  refine ⟨M2, A', N', B', P', ?_, r⟩
  rw [b_Law_469]
  repeat' first
    | (with_reducible apply bR_go; (simp (disch := omega) only [rM L, rK L, rN L, rNf, rNv, rNp, rNd, rRow, rLeg, rMark, nat_cast, Int.reduceToNat, g, z, cmp3_self]; with_reducible exact rfl))
    | with_reducible apply bI_go
    | with_reducible apply bV_go
    | with_reducible apply bL_go
    | (with_reducible apply it_1; (first | omega | (simp (disch := omega) only [not_false_eq_true, not_true_eq_false, w32_id, tLt, fLt, tLe, fEq, itE, and_true, true_and, and_self, and_false, false_and, ↓reduceIte, nat_add, nat_mul3, nat_mul4, nat_mul6, nat_mul15, nat_mul60, nat_cast, nc1, Int.reduceToNat, upE, upN, fill_ne, fill_in, i0, g, z, cmp3_self] <;> omega)))
    | (with_reducible apply it_2; (first | omega | (simp (disch := omega) only [not_false_eq_true, not_true_eq_false, w32_id, tLt, fLt, tLe, fEq, itE, and_true, true_and, and_self, and_false, false_and, ↓reduceIte, nat_add, nat_mul3, nat_mul4, nat_mul6, nat_mul15, nat_mul60, nat_cast, nc1, Int.reduceToNat, upE, upN, fill_ne, fill_in, i0, g, z, cmp3_self] <;> omega)))
    | (with_reducible refine cl_go ?_; simp (disch := omega) only [not_false_eq_true, not_true_eq_false, w32_id, tLt, fLt, tLe, fEq, itE, and_true, true_and, and_self, and_false, false_and, ↓reduceIte, nat_add, nat_mul3, nat_mul4, nat_mul6, nat_mul15, nat_mul60, nat_cast, nc1, Int.reduceToNat, upE, upN, fill_ne, fill_in, i0, g, z, cmp3_self])
    | with_reducible exact e1
    | with_reducible exact e2
    | (with_reducible refine rn_go ?_; simp (disch := omega) only [not_false_eq_true, not_true_eq_false, w32_id, tLt, fLt, tLe, fEq, itE, and_true, true_and, and_self, and_false, false_and, ↓reduceIte, nat_add, nat_mul3, nat_mul4, nat_mul6, nat_mul15, nat_mul60, nat_cast, nc1, Int.reduceToNat, upE, upN, fill_ne, fill_in, i0, g, z, cmp3_self])
    | (with_reducible refine lf_go ?_; simp (disch := omega) only [not_false_eq_true, not_true_eq_false, w32_id, tLt, fLt, tLe, fEq, itE, and_true, true_and, and_self, and_false, false_and, ↓reduceIte, nat_add, nat_mul3, nat_mul4, nat_mul6, nat_mul15, nat_mul60, nat_cast, nc1, Int.reduceToNat, upE, upN, fill_ne, fill_in, i0, g, z, cmp3_self])
    | with_reducible exact rfl
theorem lw_pour (hx : ∀ j, i32 (xs j)) (h : Rel xs M A N B P) (hi : i + 6 ≤ L) (hL : L ≤ 3072) : Nx xs L i 503 M := by
  have g := h.2.1
  obtain ⟨x, M1, M2, A', N', B', P', e1, e2, z, r⟩ := lw_I L (case_pour (xs (i + 1)) (xs (i + 2)) (xs (i + 3)) (xs (i + 4)) (xs (i + 5)) (hx _).2 (hx _).2 (hx _).2) ty_pour ⟨trivial, trivial, trivial, trivial, trivial, trivial⟩ h
  refine ⟨M2, A', N', B', P', ?_, r⟩
  rw [b_Law_503]
  repeat' first
    | (with_reducible apply bR_go; (simp (disch := omega) only [rM L, rK L, rN L, rNf, rNv, rNp, rNd, rRow, rLeg, rMark, nat_cast, Int.reduceToNat, g, z, cmp3_self]; with_reducible exact rfl))
    | with_reducible apply bI_go
    | with_reducible apply bV_go
    | with_reducible apply bL_go
    | (with_reducible apply it_1; (first | omega | (simp (disch := omega) only [not_false_eq_true, not_true_eq_false, w32_id, tLt, fLt, tLe, fEq, itE, and_true, true_and, and_self, and_false, false_and, ↓reduceIte, nat_add, nat_mul3, nat_mul4, nat_mul6, nat_mul15, nat_mul60, nat_cast, nc1, Int.reduceToNat, upE, upN, fill_ne, fill_in, i0, g, z, cmp3_self] <;> omega)))
    | (with_reducible apply it_2; (first | omega | (simp (disch := omega) only [not_false_eq_true, not_true_eq_false, w32_id, tLt, fLt, tLe, fEq, itE, and_true, true_and, and_self, and_false, false_and, ↓reduceIte, nat_add, nat_mul3, nat_mul4, nat_mul6, nat_mul15, nat_mul60, nat_cast, nc1, Int.reduceToNat, upE, upN, fill_ne, fill_in, i0, g, z, cmp3_self] <;> omega)))
    | (with_reducible refine cl_go ?_; simp (disch := omega) only [not_false_eq_true, not_true_eq_false, w32_id, tLt, fLt, tLe, fEq, itE, and_true, true_and, and_self, and_false, false_and, ↓reduceIte, nat_add, nat_mul3, nat_mul4, nat_mul6, nat_mul15, nat_mul60, nat_cast, nc1, Int.reduceToNat, upE, upN, fill_ne, fill_in, i0, g, z, cmp3_self])
    | with_reducible exact e1
    | with_reducible exact e2
    | (with_reducible refine rn_go ?_; simp (disch := omega) only [not_false_eq_true, not_true_eq_false, w32_id, tLt, fLt, tLe, fEq, itE, and_true, true_and, and_self, and_false, false_and, ↓reduceIte, nat_add, nat_mul3, nat_mul4, nat_mul6, nat_mul15, nat_mul60, nat_cast, nc1, Int.reduceToNat, upE, upN, fill_ne, fill_in, i0, g, z, cmp3_self])
    | (with_reducible refine lf_go ?_; simp (disch := omega) only [not_false_eq_true, not_true_eq_false, w32_id, tLt, fLt, tLe, fEq, itE, and_true, true_and, and_self, and_false, false_and, ↓reduceIte, nat_add, nat_mul3, nat_mul4, nat_mul6, nat_mul15, nat_mul60, nat_cast, nc1, Int.reduceToNat, upE, upN, fill_ne, fill_in, i0, g, z, cmp3_self])
    | with_reducible exact rfl
theorem lw_feed (hx : ∀ j, i32 (xs j)) (h : Rel xs M A N B P) (hi : i + 6 ≤ L) (hL : L ≤ 3072) : Nx xs L i 566 M := by
  have g := h.2.1
  obtain ⟨x, M1, M2, A', N', B', P', e1, e2, z, r⟩ := lw_I L (case_feed (xs (i + 1)) (xs (i + 2)) (xs (i + 3)) (xs (i + 4)) (xs (i + 5))) ty_feed ⟨trivial, trivial, trivial, trivial, trivial, trivial⟩ h
  refine ⟨M2, A', N', B', P', ?_, r⟩
  rw [b_Law_566]
  repeat' first
    | (with_reducible apply bR_go; (simp (disch := omega) only [rM L, rK L, rN L, rNf, rNv, rNp, rNd, rRow, rLeg, rMark, nat_cast, Int.reduceToNat, g, z, cmp3_self]; with_reducible exact rfl))
    | with_reducible apply bI_go
    | with_reducible apply bV_go
    | with_reducible apply bL_go
    | (with_reducible apply it_1; (first | omega | (simp (disch := omega) only [not_false_eq_true, not_true_eq_false, w32_id, tLt, fLt, tLe, fEq, itE, and_true, true_and, and_self, and_false, false_and, ↓reduceIte, nat_add, nat_mul3, nat_mul4, nat_mul6, nat_mul15, nat_mul60, nat_cast, nc1, Int.reduceToNat, upE, upN, fill_ne, fill_in, i0, g, z, cmp3_self] <;> omega)))
    | (with_reducible apply it_2; (first | omega | (simp (disch := omega) only [not_false_eq_true, not_true_eq_false, w32_id, tLt, fLt, tLe, fEq, itE, and_true, true_and, and_self, and_false, false_and, ↓reduceIte, nat_add, nat_mul3, nat_mul4, nat_mul6, nat_mul15, nat_mul60, nat_cast, nc1, Int.reduceToNat, upE, upN, fill_ne, fill_in, i0, g, z, cmp3_self] <;> omega)))
    | (with_reducible refine cl_go ?_; simp (disch := omega) only [not_false_eq_true, not_true_eq_false, w32_id, tLt, fLt, tLe, fEq, itE, and_true, true_and, and_self, and_false, false_and, ↓reduceIte, nat_add, nat_mul3, nat_mul4, nat_mul6, nat_mul15, nat_mul60, nat_cast, nc1, Int.reduceToNat, upE, upN, fill_ne, fill_in, i0, g, z, cmp3_self])
    | with_reducible exact e1
    | with_reducible exact e2
    | (with_reducible refine rn_go ?_; simp (disch := omega) only [not_false_eq_true, not_true_eq_false, w32_id, tLt, fLt, tLe, fEq, itE, and_true, true_and, and_self, and_false, false_and, ↓reduceIte, nat_add, nat_mul3, nat_mul4, nat_mul6, nat_mul15, nat_mul60, nat_cast, nc1, Int.reduceToNat, upE, upN, fill_ne, fill_in, i0, g, z, cmp3_self])
    | (with_reducible refine lf_go ?_; simp (disch := omega) only [not_false_eq_true, not_true_eq_false, w32_id, tLt, fLt, tLe, fEq, itE, and_true, true_and, and_self, and_false, false_and, ↓reduceIte, nat_add, nat_mul3, nat_mul4, nat_mul6, nat_mul15, nat_mul60, nat_cast, nc1, Int.reduceToNat, upE, upN, fill_ne, fill_in, i0, g, z, cmp3_self])
    | with_reducible exact rfl
theorem lw_world (hx : ∀ j, i32 (xs j)) (h : Rel xs M A N B P) (hi : i + 6 ≤ L) (hL : L ≤ 3072) : Nx xs L i 629 M := by
  have g := h.2.1
  obtain ⟨x, M1, M2, A', N', B', P', e1, e2, z, r⟩ := lw_I L (case_world (xs (i + 1))) ty_world ⟨trivial, trivial⟩ h
  refine ⟨M2, A', N', B', P', ?_, r⟩
  rw [b_Law_629]
  repeat' first
    | (with_reducible apply bR_go; (simp (disch := omega) only [rM L, rK L, rN L, rNf, rNv, rNp, rNd, rRow, rLeg, rMark, nat_cast, Int.reduceToNat, g, z, cmp3_self]; with_reducible exact rfl))
    | with_reducible apply bI_go
    | with_reducible apply bV_go
    | with_reducible apply bL_go
    | (with_reducible apply it_1; (first | omega | (simp (disch := omega) only [not_false_eq_true, not_true_eq_false, w32_id, tLt, fLt, tLe, fEq, itE, and_true, true_and, and_self, and_false, false_and, ↓reduceIte, nat_add, nat_mul3, nat_mul4, nat_mul6, nat_mul15, nat_mul60, nat_cast, nc1, Int.reduceToNat, upE, upN, fill_ne, fill_in, i0, g, z, cmp3_self] <;> omega)))
    | (with_reducible apply it_2; (first | omega | (simp (disch := omega) only [not_false_eq_true, not_true_eq_false, w32_id, tLt, fLt, tLe, fEq, itE, and_true, true_and, and_self, and_false, false_and, ↓reduceIte, nat_add, nat_mul3, nat_mul4, nat_mul6, nat_mul15, nat_mul60, nat_cast, nc1, Int.reduceToNat, upE, upN, fill_ne, fill_in, i0, g, z, cmp3_self] <;> omega)))
    | (with_reducible refine cl_go ?_; simp (disch := omega) only [not_false_eq_true, not_true_eq_false, w32_id, tLt, fLt, tLe, fEq, itE, and_true, true_and, and_self, and_false, false_and, ↓reduceIte, nat_add, nat_mul3, nat_mul4, nat_mul6, nat_mul15, nat_mul60, nat_cast, nc1, Int.reduceToNat, upE, upN, fill_ne, fill_in, i0, g, z, cmp3_self])
    | with_reducible exact e1
    | with_reducible exact e2
    | (with_reducible refine rn_go ?_; simp (disch := omega) only [not_false_eq_true, not_true_eq_false, w32_id, tLt, fLt, tLe, fEq, itE, and_true, true_and, and_self, and_false, false_and, ↓reduceIte, nat_add, nat_mul3, nat_mul4, nat_mul6, nat_mul15, nat_mul60, nat_cast, nc1, Int.reduceToNat, upE, upN, fill_ne, fill_in, i0, g, z, cmp3_self])
    | (with_reducible refine lf_go ?_; simp (disch := omega) only [not_false_eq_true, not_true_eq_false, w32_id, tLt, fLt, tLe, fEq, itE, and_true, true_and, and_self, and_false, false_and, ↓reduceIte, nat_add, nat_mul3, nat_mul4, nat_mul6, nat_mul15, nat_mul60, nat_cast, nc1, Int.reduceToNat, upE, upN, fill_ne, fill_in, i0, g, z, cmp3_self])
    | with_reducible exact rfl
theorem lw_voyages (hx : ∀ j, i32 (xs j)) (h : Rel xs M A N B P) (hi : i + 6 ≤ L) (hL : L ≤ 3072) : Nx xs L i 652 M := by
  have g := h.2.1
  obtain ⟨x, M1, M2, A', N', B', P', e1, e2, z, r⟩ := lw_I L (case_voyages (xs (i + 1))) ty_voyages ⟨trivial, trivial⟩ h
  refine ⟨M2, A', N', B', P', ?_, r⟩
  rw [b_Law_652]
  repeat' first
    | (with_reducible apply bR_go; (simp (disch := omega) only [rM L, rK L, rN L, rNf, rNv, rNp, rNd, rRow, rLeg, rMark, nat_cast, Int.reduceToNat, g, z, cmp3_self]; with_reducible exact rfl))
    | with_reducible apply bI_go
    | with_reducible apply bV_go
    | with_reducible apply bL_go
    | (with_reducible apply it_1; (first | omega | (simp (disch := omega) only [not_false_eq_true, not_true_eq_false, w32_id, tLt, fLt, tLe, fEq, itE, and_true, true_and, and_self, and_false, false_and, ↓reduceIte, nat_add, nat_mul3, nat_mul4, nat_mul6, nat_mul15, nat_mul60, nat_cast, nc1, Int.reduceToNat, upE, upN, fill_ne, fill_in, i0, g, z, cmp3_self] <;> omega)))
    | (with_reducible apply it_2; (first | omega | (simp (disch := omega) only [not_false_eq_true, not_true_eq_false, w32_id, tLt, fLt, tLe, fEq, itE, and_true, true_and, and_self, and_false, false_and, ↓reduceIte, nat_add, nat_mul3, nat_mul4, nat_mul6, nat_mul15, nat_mul60, nat_cast, nc1, Int.reduceToNat, upE, upN, fill_ne, fill_in, i0, g, z, cmp3_self] <;> omega)))
    | (with_reducible refine cl_go ?_; simp (disch := omega) only [not_false_eq_true, not_true_eq_false, w32_id, tLt, fLt, tLe, fEq, itE, and_true, true_and, and_self, and_false, false_and, ↓reduceIte, nat_add, nat_mul3, nat_mul4, nat_mul6, nat_mul15, nat_mul60, nat_cast, nc1, Int.reduceToNat, upE, upN, fill_ne, fill_in, i0, g, z, cmp3_self])
    | with_reducible exact e1
    | with_reducible exact e2
    | (with_reducible refine rn_go ?_; simp (disch := omega) only [not_false_eq_true, not_true_eq_false, w32_id, tLt, fLt, tLe, fEq, itE, and_true, true_and, and_self, and_false, false_and, ↓reduceIte, nat_add, nat_mul3, nat_mul4, nat_mul6, nat_mul15, nat_mul60, nat_cast, nc1, Int.reduceToNat, upE, upN, fill_ne, fill_in, i0, g, z, cmp3_self])
    | (with_reducible refine lf_go ?_; simp (disch := omega) only [not_false_eq_true, not_true_eq_false, w32_id, tLt, fLt, tLe, fEq, itE, and_true, true_and, and_self, and_false, false_and, ↓reduceIte, nat_add, nat_mul3, nat_mul4, nat_mul6, nat_mul15, nat_mul60, nat_cast, nc1, Int.reduceToNat, upE, upN, fill_ne, fill_in, i0, g, z, cmp3_self])
    | with_reducible exact rfl
theorem lw_fault (hx : ∀ j, i32 (xs j)) (h : Rel xs M A N B P) (hi : i + 6 ≤ L) (hL : L ≤ 3072) : Nx xs L i 675 M := by
  have g := h.2.1
  obtain ⟨x, M1, M2, A', N', B', P', e1, e2, z, r⟩ := lw_I L (case_fault (xs (i + 1))) ty_fault ⟨trivial, trivial⟩ h
  refine ⟨M2, A', N', B', P', ?_, r⟩
  rw [b_Law_675]
  repeat' first
    | (with_reducible apply bR_go; (simp (disch := omega) only [rM L, rK L, rN L, rNf, rNv, rNp, rNd, rRow, rLeg, rMark, nat_cast, Int.reduceToNat, g, z, cmp3_self]; with_reducible exact rfl))
    | with_reducible apply bI_go
    | with_reducible apply bV_go
    | with_reducible apply bL_go
    | (with_reducible apply it_1; (first | omega | (simp (disch := omega) only [not_false_eq_true, not_true_eq_false, w32_id, tLt, fLt, tLe, fEq, itE, and_true, true_and, and_self, and_false, false_and, ↓reduceIte, nat_add, nat_mul3, nat_mul4, nat_mul6, nat_mul15, nat_mul60, nat_cast, nc1, Int.reduceToNat, upE, upN, fill_ne, fill_in, i0, g, z, cmp3_self] <;> omega)))
    | (with_reducible apply it_2; (first | omega | (simp (disch := omega) only [not_false_eq_true, not_true_eq_false, w32_id, tLt, fLt, tLe, fEq, itE, and_true, true_and, and_self, and_false, false_and, ↓reduceIte, nat_add, nat_mul3, nat_mul4, nat_mul6, nat_mul15, nat_mul60, nat_cast, nc1, Int.reduceToNat, upE, upN, fill_ne, fill_in, i0, g, z, cmp3_self] <;> omega)))
    | (with_reducible refine cl_go ?_; simp (disch := omega) only [not_false_eq_true, not_true_eq_false, w32_id, tLt, fLt, tLe, fEq, itE, and_true, true_and, and_self, and_false, false_and, ↓reduceIte, nat_add, nat_mul3, nat_mul4, nat_mul6, nat_mul15, nat_mul60, nat_cast, nc1, Int.reduceToNat, upE, upN, fill_ne, fill_in, i0, g, z, cmp3_self])
    | with_reducible exact e1
    | with_reducible exact e2
    | (with_reducible refine rn_go ?_; simp (disch := omega) only [not_false_eq_true, not_true_eq_false, w32_id, tLt, fLt, tLe, fEq, itE, and_true, true_and, and_self, and_false, false_and, ↓reduceIte, nat_add, nat_mul3, nat_mul4, nat_mul6, nat_mul15, nat_mul60, nat_cast, nc1, Int.reduceToNat, upE, upN, fill_ne, fill_in, i0, g, z, cmp3_self])
    | (with_reducible refine lf_go ?_; simp (disch := omega) only [not_false_eq_true, not_true_eq_false, w32_id, tLt, fLt, tLe, fEq, itE, and_true, true_and, and_self, and_false, false_and, ↓reduceIte, nat_add, nat_mul3, nat_mul4, nat_mul6, nat_mul15, nat_mul60, nat_cast, nc1, Int.reduceToNat, upE, upN, fill_ne, fill_in, i0, g, z, cmp3_self])
    | with_reducible exact rfl
theorem lw_told (hx : ∀ j, i32 (xs j)) (h : Rel xs M A N B P) (hi : i + 6 ≤ L) (hL : L ≤ 3072) : Nx xs L i 698 M := by
  have g := h.2.1
  obtain ⟨x, M1, M2, A', N', B', P', e1, e2, z, r⟩ := lw_I L (case_told (xs (i + 1))) ty_told ⟨trivial, trivial⟩ h
  refine ⟨M2, A', N', B', P', ?_, r⟩
  rw [b_Law_698]
  repeat' first
    | (with_reducible apply bR_go; (simp (disch := omega) only [rM L, rK L, rN L, rNf, rNv, rNp, rNd, rRow, rLeg, rMark, nat_cast, Int.reduceToNat, g, z, cmp3_self]; with_reducible exact rfl))
    | with_reducible apply bI_go
    | with_reducible apply bV_go
    | with_reducible apply bL_go
    | (with_reducible apply it_1; (first | omega | (simp (disch := omega) only [not_false_eq_true, not_true_eq_false, w32_id, tLt, fLt, tLe, fEq, itE, and_true, true_and, and_self, and_false, false_and, ↓reduceIte, nat_add, nat_mul3, nat_mul4, nat_mul6, nat_mul15, nat_mul60, nat_cast, nc1, Int.reduceToNat, upE, upN, fill_ne, fill_in, i0, g, z, cmp3_self] <;> omega)))
    | (with_reducible apply it_2; (first | omega | (simp (disch := omega) only [not_false_eq_true, not_true_eq_false, w32_id, tLt, fLt, tLe, fEq, itE, and_true, true_and, and_self, and_false, false_and, ↓reduceIte, nat_add, nat_mul3, nat_mul4, nat_mul6, nat_mul15, nat_mul60, nat_cast, nc1, Int.reduceToNat, upE, upN, fill_ne, fill_in, i0, g, z, cmp3_self] <;> omega)))
    | (with_reducible refine cl_go ?_; simp (disch := omega) only [not_false_eq_true, not_true_eq_false, w32_id, tLt, fLt, tLe, fEq, itE, and_true, true_and, and_self, and_false, false_and, ↓reduceIte, nat_add, nat_mul3, nat_mul4, nat_mul6, nat_mul15, nat_mul60, nat_cast, nc1, Int.reduceToNat, upE, upN, fill_ne, fill_in, i0, g, z, cmp3_self])
    | with_reducible exact e1
    | with_reducible exact e2
    | (with_reducible refine rn_go ?_; simp (disch := omega) only [not_false_eq_true, not_true_eq_false, w32_id, tLt, fLt, tLe, fEq, itE, and_true, true_and, and_self, and_false, false_and, ↓reduceIte, nat_add, nat_mul3, nat_mul4, nat_mul6, nat_mul15, nat_mul60, nat_cast, nc1, Int.reduceToNat, upE, upN, fill_ne, fill_in, i0, g, z, cmp3_self])
    | (with_reducible refine lf_go ?_; simp (disch := omega) only [not_false_eq_true, not_true_eq_false, w32_id, tLt, fLt, tLe, fEq, itE, and_true, true_and, and_self, and_false, false_and, ↓reduceIte, nat_add, nat_mul3, nat_mul4, nat_mul6, nat_mul15, nat_mul60, nat_cast, nc1, Int.reduceToNat, upE, upN, fill_ne, fill_in, i0, g, z, cmp3_self])
    | with_reducible exact rfl
theorem lw_nation (hx : ∀ j, i32 (xs j)) (h : Rel xs M A N B P) (hi : i + 6 ≤ L) (hL : L ≤ 3072) : Nx xs L i 721 M := by
  have g := h.2.1
  obtain ⟨x, M1, M2, A', N', B', P', e1, e2, z, r⟩ := lw_I L (case_nation (xs (i + 1)) (xs (i + 2))) ty_nation ⟨trivial, trivial, trivial⟩ h
  refine ⟨M2, A', N', B', P', ?_, r⟩
  rw [b_Law_721]
  repeat' first
    | (with_reducible apply bR_go; (simp (disch := omega) only [rM L, rK L, rN L, rNf, rNv, rNp, rNd, rRow, rLeg, rMark, nat_cast, Int.reduceToNat, g, z, cmp3_self]; with_reducible exact rfl))
    | with_reducible apply bI_go
    | with_reducible apply bV_go
    | with_reducible apply bL_go
    | (with_reducible apply it_1; (first | omega | (simp (disch := omega) only [not_false_eq_true, not_true_eq_false, w32_id, tLt, fLt, tLe, fEq, itE, and_true, true_and, and_self, and_false, false_and, ↓reduceIte, nat_add, nat_mul3, nat_mul4, nat_mul6, nat_mul15, nat_mul60, nat_cast, nc1, Int.reduceToNat, upE, upN, fill_ne, fill_in, i0, g, z, cmp3_self] <;> omega)))
    | (with_reducible apply it_2; (first | omega | (simp (disch := omega) only [not_false_eq_true, not_true_eq_false, w32_id, tLt, fLt, tLe, fEq, itE, and_true, true_and, and_self, and_false, false_and, ↓reduceIte, nat_add, nat_mul3, nat_mul4, nat_mul6, nat_mul15, nat_mul60, nat_cast, nc1, Int.reduceToNat, upE, upN, fill_ne, fill_in, i0, g, z, cmp3_self] <;> omega)))
    | (with_reducible refine cl_go ?_; simp (disch := omega) only [not_false_eq_true, not_true_eq_false, w32_id, tLt, fLt, tLe, fEq, itE, and_true, true_and, and_self, and_false, false_and, ↓reduceIte, nat_add, nat_mul3, nat_mul4, nat_mul6, nat_mul15, nat_mul60, nat_cast, nc1, Int.reduceToNat, upE, upN, fill_ne, fill_in, i0, g, z, cmp3_self])
    | with_reducible exact e1
    | with_reducible exact e2
    | (with_reducible refine rn_go ?_; simp (disch := omega) only [not_false_eq_true, not_true_eq_false, w32_id, tLt, fLt, tLe, fEq, itE, and_true, true_and, and_self, and_false, false_and, ↓reduceIte, nat_add, nat_mul3, nat_mul4, nat_mul6, nat_mul15, nat_mul60, nat_cast, nc1, Int.reduceToNat, upE, upN, fill_ne, fill_in, i0, g, z, cmp3_self])
    | (with_reducible refine lf_go ?_; simp (disch := omega) only [not_false_eq_true, not_true_eq_false, w32_id, tLt, fLt, tLe, fEq, itE, and_true, true_and, and_self, and_false, false_and, ↓reduceIte, nat_add, nat_mul3, nat_mul4, nat_mul6, nat_mul15, nat_mul60, nat_cast, nc1, Int.reduceToNat, upE, upN, fill_ne, fill_in, i0, g, z, cmp3_self])
    | with_reducible exact rfl
theorem lw_good (hx : ∀ j, i32 (xs j)) (h : Rel xs M A N B P) (hi : i + 6 ≤ L) (hL : L ≤ 3072) : Nx xs L i 754 M := by
  have g := h.2.1
  obtain ⟨x, M1, M2, A', N', B', P', e1, e2, z, r⟩ := lw_I L (case_good (xs (i + 1)) (xs (i + 2))) ty_good ⟨trivial, trivial, trivial⟩ h
  refine ⟨M2, A', N', B', P', ?_, r⟩
  rw [b_Law_754]
  repeat' first
    | (with_reducible apply bR_go; (simp (disch := omega) only [rM L, rK L, rN L, rNf, rNv, rNp, rNd, rRow, rLeg, rMark, nat_cast, Int.reduceToNat, g, z, cmp3_self]; with_reducible exact rfl))
    | with_reducible apply bI_go
    | with_reducible apply bV_go
    | with_reducible apply bL_go
    | (with_reducible apply it_1; (first | omega | (simp (disch := omega) only [not_false_eq_true, not_true_eq_false, w32_id, tLt, fLt, tLe, fEq, itE, and_true, true_and, and_self, and_false, false_and, ↓reduceIte, nat_add, nat_mul3, nat_mul4, nat_mul6, nat_mul15, nat_mul60, nat_cast, nc1, Int.reduceToNat, upE, upN, fill_ne, fill_in, i0, g, z, cmp3_self] <;> omega)))
    | (with_reducible apply it_2; (first | omega | (simp (disch := omega) only [not_false_eq_true, not_true_eq_false, w32_id, tLt, fLt, tLe, fEq, itE, and_true, true_and, and_self, and_false, false_and, ↓reduceIte, nat_add, nat_mul3, nat_mul4, nat_mul6, nat_mul15, nat_mul60, nat_cast, nc1, Int.reduceToNat, upE, upN, fill_ne, fill_in, i0, g, z, cmp3_self] <;> omega)))
    | (with_reducible refine cl_go ?_; simp (disch := omega) only [not_false_eq_true, not_true_eq_false, w32_id, tLt, fLt, tLe, fEq, itE, and_true, true_and, and_self, and_false, false_and, ↓reduceIte, nat_add, nat_mul3, nat_mul4, nat_mul6, nat_mul15, nat_mul60, nat_cast, nc1, Int.reduceToNat, upE, upN, fill_ne, fill_in, i0, g, z, cmp3_self])
    | with_reducible exact e1
    | with_reducible exact e2
    | (with_reducible refine rn_go ?_; simp (disch := omega) only [not_false_eq_true, not_true_eq_false, w32_id, tLt, fLt, tLe, fEq, itE, and_true, true_and, and_self, and_false, false_and, ↓reduceIte, nat_add, nat_mul3, nat_mul4, nat_mul6, nat_mul15, nat_mul60, nat_cast, nc1, Int.reduceToNat, upE, upN, fill_ne, fill_in, i0, g, z, cmp3_self])
    | (with_reducible refine lf_go ?_; simp (disch := omega) only [not_false_eq_true, not_true_eq_false, w32_id, tLt, fLt, tLe, fEq, itE, and_true, true_and, and_self, and_false, false_and, ↓reduceIte, nat_add, nat_mul3, nat_mul4, nat_mul6, nat_mul15, nat_mul60, nat_cast, nc1, Int.reduceToNat, upE, upN, fill_ne, fill_in, i0, g, z, cmp3_self])
    | with_reducible exact rfl
theorem lw_portOf (hx : ∀ j, i32 (xs j)) (h : Rel xs M A N B P) (hi : i + 6 ≤ L) (hL : L ≤ 3072) : Nx xs L i 787 M := by
  have g := h.2.1
  obtain ⟨x, M1, M2, A', N', B', P', e1, e2, z, r⟩ := lw_I L (case_portOf (xs (i + 1))) ty_portOf ⟨trivial, trivial⟩ h
  refine ⟨M2, A', N', B', P', ?_, r⟩
  rw [b_Law_787]
  repeat' first
    | (with_reducible apply bR_go; (simp (disch := omega) only [rM L, rK L, rN L, rNf, rNv, rNp, rNd, rRow, rLeg, rMark, nat_cast, Int.reduceToNat, g, z, cmp3_self]; with_reducible exact rfl))
    | with_reducible apply bI_go
    | with_reducible apply bV_go
    | with_reducible apply bL_go
    | (with_reducible apply it_1; (first | omega | (simp (disch := omega) only [not_false_eq_true, not_true_eq_false, w32_id, tLt, fLt, tLe, fEq, itE, and_true, true_and, and_self, and_false, false_and, ↓reduceIte, nat_add, nat_mul3, nat_mul4, nat_mul6, nat_mul15, nat_mul60, nat_cast, nc1, Int.reduceToNat, upE, upN, fill_ne, fill_in, i0, g, z, cmp3_self] <;> omega)))
    | (with_reducible apply it_2; (first | omega | (simp (disch := omega) only [not_false_eq_true, not_true_eq_false, w32_id, tLt, fLt, tLe, fEq, itE, and_true, true_and, and_self, and_false, false_and, ↓reduceIte, nat_add, nat_mul3, nat_mul4, nat_mul6, nat_mul15, nat_mul60, nat_cast, nc1, Int.reduceToNat, upE, upN, fill_ne, fill_in, i0, g, z, cmp3_self] <;> omega)))
    | (with_reducible refine cl_go ?_; simp (disch := omega) only [not_false_eq_true, not_true_eq_false, w32_id, tLt, fLt, tLe, fEq, itE, and_true, true_and, and_self, and_false, false_and, ↓reduceIte, nat_add, nat_mul3, nat_mul4, nat_mul6, nat_mul15, nat_mul60, nat_cast, nc1, Int.reduceToNat, upE, upN, fill_ne, fill_in, i0, g, z, cmp3_self])
    | with_reducible exact e1
    | with_reducible exact e2
    | (with_reducible refine rn_go ?_; simp (disch := omega) only [not_false_eq_true, not_true_eq_false, w32_id, tLt, fLt, tLe, fEq, itE, and_true, true_and, and_self, and_false, false_and, ↓reduceIte, nat_add, nat_mul3, nat_mul4, nat_mul6, nat_mul15, nat_mul60, nat_cast, nc1, Int.reduceToNat, upE, upN, fill_ne, fill_in, i0, g, z, cmp3_self])
    | (with_reducible refine lf_go ?_; simp (disch := omega) only [not_false_eq_true, not_true_eq_false, w32_id, tLt, fLt, tLe, fEq, itE, and_true, true_and, and_self, and_false, false_and, ↓reduceIte, nat_add, nat_mul3, nat_mul4, nat_mul6, nat_mul15, nat_mul60, nat_cast, nc1, Int.reduceToNat, upE, upN, fill_ne, fill_in, i0, g, z, cmp3_self])
    | with_reducible exact rfl
theorem lw_price (hx : ∀ j, i32 (xs j)) (h : Rel xs M A N B P) (hi : i + 6 ≤ L) (hL : L ≤ 3072) : Nx xs L i 810 M := by
  have g := h.2.1
  obtain ⟨x, M1, M2, A', N', B', P', e1, e2, z, r⟩ := lw_I L (case_price (xs (i + 1)) (xs (i + 2))) ty_price ⟨trivial, trivial, trivial⟩ h
  refine ⟨M2, A', N', B', P', ?_, r⟩
  rw [b_Law_810]
  repeat' first
    | (with_reducible apply bR_go; (simp (disch := omega) only [rM L, rK L, rN L, rNf, rNv, rNp, rNd, rRow, rLeg, rMark, nat_cast, Int.reduceToNat, g, z, cmp3_self]; with_reducible exact rfl))
    | with_reducible apply bI_go
    | with_reducible apply bV_go
    | with_reducible apply bL_go
    | (with_reducible apply it_1; (first | omega | (simp (disch := omega) only [not_false_eq_true, not_true_eq_false, w32_id, tLt, fLt, tLe, fEq, itE, and_true, true_and, and_self, and_false, false_and, ↓reduceIte, nat_add, nat_mul3, nat_mul4, nat_mul6, nat_mul15, nat_mul60, nat_cast, nc1, Int.reduceToNat, upE, upN, fill_ne, fill_in, i0, g, z, cmp3_self] <;> omega)))
    | (with_reducible apply it_2; (first | omega | (simp (disch := omega) only [not_false_eq_true, not_true_eq_false, w32_id, tLt, fLt, tLe, fEq, itE, and_true, true_and, and_self, and_false, false_and, ↓reduceIte, nat_add, nat_mul3, nat_mul4, nat_mul6, nat_mul15, nat_mul60, nat_cast, nc1, Int.reduceToNat, upE, upN, fill_ne, fill_in, i0, g, z, cmp3_self] <;> omega)))
    | (with_reducible refine cl_go ?_; simp (disch := omega) only [not_false_eq_true, not_true_eq_false, w32_id, tLt, fLt, tLe, fEq, itE, and_true, true_and, and_self, and_false, false_and, ↓reduceIte, nat_add, nat_mul3, nat_mul4, nat_mul6, nat_mul15, nat_mul60, nat_cast, nc1, Int.reduceToNat, upE, upN, fill_ne, fill_in, i0, g, z, cmp3_self])
    | with_reducible exact e1
    | with_reducible exact e2
    | (with_reducible refine rn_go ?_; simp (disch := omega) only [not_false_eq_true, not_true_eq_false, w32_id, tLt, fLt, tLe, fEq, itE, and_true, true_and, and_self, and_false, false_and, ↓reduceIte, nat_add, nat_mul3, nat_mul4, nat_mul6, nat_mul15, nat_mul60, nat_cast, nc1, Int.reduceToNat, upE, upN, fill_ne, fill_in, i0, g, z, cmp3_self])
    | (with_reducible refine lf_go ?_; simp (disch := omega) only [not_false_eq_true, not_true_eq_false, w32_id, tLt, fLt, tLe, fEq, itE, and_true, true_and, and_self, and_false, false_and, ↓reduceIte, nat_add, nat_mul3, nat_mul4, nat_mul6, nat_mul15, nat_mul60, nat_cast, nc1, Int.reduceToNat, upE, upN, fill_ne, fill_in, i0, g, z, cmp3_self])
    | with_reducible exact rfl
theorem lw_way (hx : ∀ j, i32 (xs j)) (h : Rel xs M A N B P) (hi : i + 6 ≤ L) (hL : L ≤ 3072) : Nx xs L i 843 M := by
  have g := h.2.1
  obtain ⟨x, M1, M2, A', N', B', P', e1, e2, z, r⟩ := lw_I L (case_way (xs (i + 1)) (xs (i + 2))) ty_way ⟨trivial, trivial, trivial⟩ h
  refine ⟨M2, A', N', B', P', ?_, r⟩
  rw [b_Law_843]
  repeat' first
    | (with_reducible apply bR_go; (simp (disch := omega) only [rM L, rK L, rN L, rNf, rNv, rNp, rNd, rRow, rLeg, rMark, nat_cast, Int.reduceToNat, g, z, cmp3_self]; with_reducible exact rfl))
    | with_reducible apply bI_go
    | with_reducible apply bV_go
    | with_reducible apply bL_go
    | (with_reducible apply it_1; (first | omega | (simp (disch := omega) only [not_false_eq_true, not_true_eq_false, w32_id, tLt, fLt, tLe, fEq, itE, and_true, true_and, and_self, and_false, false_and, ↓reduceIte, nat_add, nat_mul3, nat_mul4, nat_mul6, nat_mul15, nat_mul60, nat_cast, nc1, Int.reduceToNat, upE, upN, fill_ne, fill_in, i0, g, z, cmp3_self] <;> omega)))
    | (with_reducible apply it_2; (first | omega | (simp (disch := omega) only [not_false_eq_true, not_true_eq_false, w32_id, tLt, fLt, tLe, fEq, itE, and_true, true_and, and_self, and_false, false_and, ↓reduceIte, nat_add, nat_mul3, nat_mul4, nat_mul6, nat_mul15, nat_mul60, nat_cast, nc1, Int.reduceToNat, upE, upN, fill_ne, fill_in, i0, g, z, cmp3_self] <;> omega)))
    | (with_reducible refine cl_go ?_; simp (disch := omega) only [not_false_eq_true, not_true_eq_false, w32_id, tLt, fLt, tLe, fEq, itE, and_true, true_and, and_self, and_false, false_and, ↓reduceIte, nat_add, nat_mul3, nat_mul4, nat_mul6, nat_mul15, nat_mul60, nat_cast, nc1, Int.reduceToNat, upE, upN, fill_ne, fill_in, i0, g, z, cmp3_self])
    | with_reducible exact e1
    | with_reducible exact e2
    | (with_reducible refine rn_go ?_; simp (disch := omega) only [not_false_eq_true, not_true_eq_false, w32_id, tLt, fLt, tLe, fEq, itE, and_true, true_and, and_self, and_false, false_and, ↓reduceIte, nat_add, nat_mul3, nat_mul4, nat_mul6, nat_mul15, nat_mul60, nat_cast, nc1, Int.reduceToNat, upE, upN, fill_ne, fill_in, i0, g, z, cmp3_self])
    | (with_reducible refine lf_go ?_; simp (disch := omega) only [not_false_eq_true, not_true_eq_false, w32_id, tLt, fLt, tLe, fEq, itE, and_true, true_and, and_self, and_false, false_and, ↓reduceIte, nat_add, nat_mul3, nat_mul4, nat_mul6, nat_mul15, nat_mul60, nat_cast, nc1, Int.reduceToNat, upE, upN, fill_ne, fill_in, i0, g, z, cmp3_self])
    | with_reducible exact rfl
theorem lw_ship (hx : ∀ j, i32 (xs j)) (h : Rel xs M A N B P) (hi : i + 6 ≤ L) (hL : L ≤ 3072) : Nx xs L i 876 M := by
  have g := h.2.1
  obtain ⟨x, M1, M2, A', N', B', P', e1, e2, z, r⟩ := lw_I L (case_ship (xs (i + 1)) (xs (i + 2))) ty_ship ⟨trivial, trivial, trivial⟩ h
  refine ⟨M2, A', N', B', P', ?_, r⟩
  rw [b_Law_876]
  repeat' first
    | (with_reducible apply bR_go; (simp (disch := omega) only [rM L, rK L, rN L, rNf, rNv, rNp, rNd, rRow, rLeg, rMark, nat_cast, Int.reduceToNat, g, z, cmp3_self]; with_reducible exact rfl))
    | with_reducible apply bI_go
    | with_reducible apply bV_go
    | with_reducible apply bL_go
    | (with_reducible apply it_1; (first | omega | (simp (disch := omega) only [not_false_eq_true, not_true_eq_false, w32_id, tLt, fLt, tLe, fEq, itE, and_true, true_and, and_self, and_false, false_and, ↓reduceIte, nat_add, nat_mul3, nat_mul4, nat_mul6, nat_mul15, nat_mul60, nat_cast, nc1, Int.reduceToNat, upE, upN, fill_ne, fill_in, i0, g, z, cmp3_self] <;> omega)))
    | (with_reducible apply it_2; (first | omega | (simp (disch := omega) only [not_false_eq_true, not_true_eq_false, w32_id, tLt, fLt, tLe, fEq, itE, and_true, true_and, and_self, and_false, false_and, ↓reduceIte, nat_add, nat_mul3, nat_mul4, nat_mul6, nat_mul15, nat_mul60, nat_cast, nc1, Int.reduceToNat, upE, upN, fill_ne, fill_in, i0, g, z, cmp3_self] <;> omega)))
    | (with_reducible refine cl_go ?_; simp (disch := omega) only [not_false_eq_true, not_true_eq_false, w32_id, tLt, fLt, tLe, fEq, itE, and_true, true_and, and_self, and_false, false_and, ↓reduceIte, nat_add, nat_mul3, nat_mul4, nat_mul6, nat_mul15, nat_mul60, nat_cast, nc1, Int.reduceToNat, upE, upN, fill_ne, fill_in, i0, g, z, cmp3_self])
    | with_reducible exact e1
    | with_reducible exact e2
    | (with_reducible refine rn_go ?_; simp (disch := omega) only [not_false_eq_true, not_true_eq_false, w32_id, tLt, fLt, tLe, fEq, itE, and_true, true_and, and_self, and_false, false_and, ↓reduceIte, nat_add, nat_mul3, nat_mul4, nat_mul6, nat_mul15, nat_mul60, nat_cast, nc1, Int.reduceToNat, upE, upN, fill_ne, fill_in, i0, g, z, cmp3_self])
    | (with_reducible refine lf_go ?_; simp (disch := omega) only [not_false_eq_true, not_true_eq_false, w32_id, tLt, fLt, tLe, fEq, itE, and_true, true_and, and_self, and_false, false_and, ↓reduceIte, nat_add, nat_mul3, nat_mul4, nat_mul6, nat_mul15, nat_mul60, nat_cast, nc1, Int.reduceToNat, upE, upN, fill_ne, fill_in, i0, g, z, cmp3_self])
    | with_reducible exact rfl
theorem lw_aboard (hx : ∀ j, i32 (xs j)) (h : Rel xs M A N B P) (hi : i + 6 ≤ L) (hL : L ≤ 3072) : Nx xs L i 909 M := by
  have g := h.2.1
  obtain ⟨x, M1, M2, A', N', B', P', e1, e2, z, r⟩ := lw_I L (case_aboard (xs (i + 1)) (xs (i + 2))) ty_aboard ⟨trivial, trivial, trivial⟩ h
  refine ⟨M2, A', N', B', P', ?_, r⟩
  rw [b_Law_909]
  repeat' first
    | (with_reducible apply bR_go; (simp (disch := omega) only [rM L, rK L, rN L, rNf, rNv, rNp, rNd, rRow, rLeg, rMark, nat_cast, Int.reduceToNat, g, z, cmp3_self]; with_reducible exact rfl))
    | with_reducible apply bI_go
    | with_reducible apply bV_go
    | with_reducible apply bL_go
    | (with_reducible apply it_1; (first | omega | (simp (disch := omega) only [not_false_eq_true, not_true_eq_false, w32_id, tLt, fLt, tLe, fEq, itE, and_true, true_and, and_self, and_false, false_and, ↓reduceIte, nat_add, nat_mul3, nat_mul4, nat_mul6, nat_mul15, nat_mul60, nat_cast, nc1, Int.reduceToNat, upE, upN, fill_ne, fill_in, i0, g, z, cmp3_self] <;> omega)))
    | (with_reducible apply it_2; (first | omega | (simp (disch := omega) only [not_false_eq_true, not_true_eq_false, w32_id, tLt, fLt, tLe, fEq, itE, and_true, true_and, and_self, and_false, false_and, ↓reduceIte, nat_add, nat_mul3, nat_mul4, nat_mul6, nat_mul15, nat_mul60, nat_cast, nc1, Int.reduceToNat, upE, upN, fill_ne, fill_in, i0, g, z, cmp3_self] <;> omega)))
    | (with_reducible refine cl_go ?_; simp (disch := omega) only [not_false_eq_true, not_true_eq_false, w32_id, tLt, fLt, tLe, fEq, itE, and_true, true_and, and_self, and_false, false_and, ↓reduceIte, nat_add, nat_mul3, nat_mul4, nat_mul6, nat_mul15, nat_mul60, nat_cast, nc1, Int.reduceToNat, upE, upN, fill_ne, fill_in, i0, g, z, cmp3_self])
    | with_reducible exact e1
    | with_reducible exact e2
    | (with_reducible refine rn_go ?_; simp (disch := omega) only [not_false_eq_true, not_true_eq_false, w32_id, tLt, fLt, tLe, fEq, itE, and_true, true_and, and_self, and_false, false_and, ↓reduceIte, nat_add, nat_mul3, nat_mul4, nat_mul6, nat_mul15, nat_mul60, nat_cast, nc1, Int.reduceToNat, upE, upN, fill_ne, fill_in, i0, g, z, cmp3_self])
    | (with_reducible refine lf_go ?_; simp (disch := omega) only [not_false_eq_true, not_true_eq_false, w32_id, tLt, fLt, tLe, fEq, itE, and_true, true_and, and_self, and_false, false_and, ↓reduceIte, nat_add, nat_mul3, nat_mul4, nat_mul6, nat_mul15, nat_mul60, nat_cast, nc1, Int.reduceToNat, upE, upN, fill_ne, fill_in, i0, g, z, cmp3_self])
    | with_reducible exact rfl
theorem lw_weight (hx : ∀ j, i32 (xs j)) (h : Rel xs M A N B P) (hi : i + 6 ≤ L) (hL : L ≤ 3072) : Nx xs L i 942 M := by
  have g := h.2.1
  obtain ⟨x, M1, M2, A', N', B', P', e1, e2, z, r⟩ := lw_I L (case_weight (xs (i + 1)) (xs (i + 2))) ty_weight ⟨trivial, trivial, trivial⟩ h
  refine ⟨M2, A', N', B', P', ?_, r⟩
  rw [b_Law_942]
  repeat' first
    | (with_reducible apply bR_go; (simp (disch := omega) only [rM L, rK L, rN L, rNf, rNv, rNp, rNd, rRow, rLeg, rMark, nat_cast, Int.reduceToNat, g, z, cmp3_self]; with_reducible exact rfl))
    | with_reducible apply bI_go
    | with_reducible apply bV_go
    | with_reducible apply bL_go
    | (with_reducible apply it_1; (first | omega | (simp (disch := omega) only [not_false_eq_true, not_true_eq_false, w32_id, tLt, fLt, tLe, fEq, itE, and_true, true_and, and_self, and_false, false_and, ↓reduceIte, nat_add, nat_mul3, nat_mul4, nat_mul6, nat_mul15, nat_mul60, nat_cast, nc1, Int.reduceToNat, upE, upN, fill_ne, fill_in, i0, g, z, cmp3_self] <;> omega)))
    | (with_reducible apply it_2; (first | omega | (simp (disch := omega) only [not_false_eq_true, not_true_eq_false, w32_id, tLt, fLt, tLe, fEq, itE, and_true, true_and, and_self, and_false, false_and, ↓reduceIte, nat_add, nat_mul3, nat_mul4, nat_mul6, nat_mul15, nat_mul60, nat_cast, nc1, Int.reduceToNat, upE, upN, fill_ne, fill_in, i0, g, z, cmp3_self] <;> omega)))
    | (with_reducible refine cl_go ?_; simp (disch := omega) only [not_false_eq_true, not_true_eq_false, w32_id, tLt, fLt, tLe, fEq, itE, and_true, true_and, and_self, and_false, false_and, ↓reduceIte, nat_add, nat_mul3, nat_mul4, nat_mul6, nat_mul15, nat_mul60, nat_cast, nc1, Int.reduceToNat, upE, upN, fill_ne, fill_in, i0, g, z, cmp3_self])
    | with_reducible exact e1
    | with_reducible exact e2
    | (with_reducible refine rn_go ?_; simp (disch := omega) only [not_false_eq_true, not_true_eq_false, w32_id, tLt, fLt, tLe, fEq, itE, and_true, true_and, and_self, and_false, false_and, ↓reduceIte, nat_add, nat_mul3, nat_mul4, nat_mul6, nat_mul15, nat_mul60, nat_cast, nc1, Int.reduceToNat, upE, upN, fill_ne, fill_in, i0, g, z, cmp3_self])
    | (with_reducible refine lf_go ?_; simp (disch := omega) only [not_false_eq_true, not_true_eq_false, w32_id, tLt, fLt, tLe, fEq, itE, and_true, true_and, and_self, and_false, false_and, ↓reduceIte, nat_add, nat_mul3, nat_mul4, nat_mul6, nat_mul15, nat_mul60, nat_cast, nc1, Int.reduceToNat, upE, upN, fill_ne, fill_in, i0, g, z, cmp3_self])
    | with_reducible exact rfl
theorem lw_weightBy (hx : ∀ j, i32 (xs j)) (h : Rel xs M A N B P) (hi : i + 6 ≤ L) (hL : L ≤ 3072) : Nx xs L i 975 M := by
  have g := h.2.1
  obtain ⟨x, M1, M2, A', N', B', P', e1, e2, z, r⟩ := lw_I L (case_weightBy (xs (i + 1)) (xs (i + 2)) (xs (i + 3))) ty_weightBy ⟨trivial, trivial, trivial, trivial⟩ h
  refine ⟨M2, A', N', B', P', ?_, r⟩
  rw [b_Law_975]
  repeat' first
    | (with_reducible apply bR_go; (simp (disch := omega) only [rM L, rK L, rN L, rNf, rNv, rNp, rNd, rRow, rLeg, rMark, nat_cast, Int.reduceToNat, g, z, cmp3_self]; with_reducible exact rfl))
    | with_reducible apply bI_go
    | with_reducible apply bV_go
    | with_reducible apply bL_go
    | (with_reducible apply it_1; (first | omega | (simp (disch := omega) only [not_false_eq_true, not_true_eq_false, w32_id, tLt, fLt, tLe, fEq, itE, and_true, true_and, and_self, and_false, false_and, ↓reduceIte, nat_add, nat_mul3, nat_mul4, nat_mul6, nat_mul15, nat_mul60, nat_cast, nc1, Int.reduceToNat, upE, upN, fill_ne, fill_in, i0, g, z, cmp3_self] <;> omega)))
    | (with_reducible apply it_2; (first | omega | (simp (disch := omega) only [not_false_eq_true, not_true_eq_false, w32_id, tLt, fLt, tLe, fEq, itE, and_true, true_and, and_self, and_false, false_and, ↓reduceIte, nat_add, nat_mul3, nat_mul4, nat_mul6, nat_mul15, nat_mul60, nat_cast, nc1, Int.reduceToNat, upE, upN, fill_ne, fill_in, i0, g, z, cmp3_self] <;> omega)))
    | (with_reducible refine cl_go ?_; simp (disch := omega) only [not_false_eq_true, not_true_eq_false, w32_id, tLt, fLt, tLe, fEq, itE, and_true, true_and, and_self, and_false, false_and, ↓reduceIte, nat_add, nat_mul3, nat_mul4, nat_mul6, nat_mul15, nat_mul60, nat_cast, nc1, Int.reduceToNat, upE, upN, fill_ne, fill_in, i0, g, z, cmp3_self])
    | with_reducible exact e1
    | with_reducible exact e2
    | (with_reducible refine rn_go ?_; simp (disch := omega) only [not_false_eq_true, not_true_eq_false, w32_id, tLt, fLt, tLe, fEq, itE, and_true, true_and, and_self, and_false, false_and, ↓reduceIte, nat_add, nat_mul3, nat_mul4, nat_mul6, nat_mul15, nat_mul60, nat_cast, nc1, Int.reduceToNat, upE, upN, fill_ne, fill_in, i0, g, z, cmp3_self])
    | (with_reducible refine lf_go ?_; simp (disch := omega) only [not_false_eq_true, not_true_eq_false, w32_id, tLt, fLt, tLe, fEq, itE, and_true, true_and, and_self, and_false, false_and, ↓reduceIte, nat_add, nat_mul3, nat_mul4, nat_mul6, nat_mul15, nat_mul60, nat_cast, nc1, Int.reduceToNat, upE, upN, fill_ne, fill_in, i0, g, z, cmp3_self])
    | with_reducible exact rfl
theorem lw_captains (hx : ∀ j, i32 (xs j)) (h : Rel xs M A N B P) (hi : i + 6 ≤ L) (hL : L ≤ 3072) : Nx xs L i 1018 M := by
  have g := h.2.1
  obtain ⟨x, M1, M2, A', N', B', P', e1, e2, z, r⟩ := lw_I L (case_captains (xs (i + 1))) ty_captains ⟨trivial, trivial⟩ h
  refine ⟨M2, A', N', B', P', ?_, r⟩
  rw [b_Law_1018]
  repeat' first
    | (with_reducible apply bR_go; (simp (disch := omega) only [rM L, rK L, rN L, rNf, rNv, rNp, rNd, rRow, rLeg, rMark, nat_cast, Int.reduceToNat, g, z, cmp3_self]; with_reducible exact rfl))
    | with_reducible apply bI_go
    | with_reducible apply bV_go
    | with_reducible apply bL_go
    | (with_reducible apply it_1; (first | omega | (simp (disch := omega) only [not_false_eq_true, not_true_eq_false, w32_id, tLt, fLt, tLe, fEq, itE, and_true, true_and, and_self, and_false, false_and, ↓reduceIte, nat_add, nat_mul3, nat_mul4, nat_mul6, nat_mul15, nat_mul60, nat_cast, nc1, Int.reduceToNat, upE, upN, fill_ne, fill_in, i0, g, z, cmp3_self] <;> omega)))
    | (with_reducible apply it_2; (first | omega | (simp (disch := omega) only [not_false_eq_true, not_true_eq_false, w32_id, tLt, fLt, tLe, fEq, itE, and_true, true_and, and_self, and_false, false_and, ↓reduceIte, nat_add, nat_mul3, nat_mul4, nat_mul6, nat_mul15, nat_mul60, nat_cast, nc1, Int.reduceToNat, upE, upN, fill_ne, fill_in, i0, g, z, cmp3_self] <;> omega)))
    | (with_reducible refine cl_go ?_; simp (disch := omega) only [not_false_eq_true, not_true_eq_false, w32_id, tLt, fLt, tLe, fEq, itE, and_true, true_and, and_self, and_false, false_and, ↓reduceIte, nat_add, nat_mul3, nat_mul4, nat_mul6, nat_mul15, nat_mul60, nat_cast, nc1, Int.reduceToNat, upE, upN, fill_ne, fill_in, i0, g, z, cmp3_self])
    | with_reducible exact e1
    | with_reducible exact e2
    | (with_reducible refine rn_go ?_; simp (disch := omega) only [not_false_eq_true, not_true_eq_false, w32_id, tLt, fLt, tLe, fEq, itE, and_true, true_and, and_self, and_false, false_and, ↓reduceIte, nat_add, nat_mul3, nat_mul4, nat_mul6, nat_mul15, nat_mul60, nat_cast, nc1, Int.reduceToNat, upE, upN, fill_ne, fill_in, i0, g, z, cmp3_self])
    | (with_reducible refine lf_go ?_; simp (disch := omega) only [not_false_eq_true, not_true_eq_false, w32_id, tLt, fLt, tLe, fEq, itE, and_true, true_and, and_self, and_false, false_and, ↓reduceIte, nat_add, nat_mul3, nat_mul4, nat_mul6, nat_mul15, nat_mul60, nat_cast, nc1, Int.reduceToNat, upE, upN, fill_ne, fill_in, i0, g, z, cmp3_self])
    | with_reducible exact rfl
theorem lw_ruled (hx : ∀ j, i32 (xs j)) (h : Rel xs M A N B P) (hi : i + 6 ≤ L) (hL : L ≤ 3072) : Nx xs L i 1041 M := by
  have g := h.2.1
  obtain ⟨x, M1, M2, A', N', B', P', e1, e2, z, r⟩ := lw_I L (case_ruled (xs (i + 1))) ty_ruled ⟨trivial, trivial⟩ h
  refine ⟨M2, A', N', B', P', ?_, r⟩
  rw [b_Law_1041]
  repeat' first
    | (with_reducible apply bR_go; (simp (disch := omega) only [rM L, rK L, rN L, rNf, rNv, rNp, rNd, rRow, rLeg, rMark, nat_cast, Int.reduceToNat, g, z, cmp3_self]; with_reducible exact rfl))
    | with_reducible apply bI_go
    | with_reducible apply bV_go
    | with_reducible apply bL_go
    | (with_reducible apply it_1; (first | omega | (simp (disch := omega) only [not_false_eq_true, not_true_eq_false, w32_id, tLt, fLt, tLe, fEq, itE, and_true, true_and, and_self, and_false, false_and, ↓reduceIte, nat_add, nat_mul3, nat_mul4, nat_mul6, nat_mul15, nat_mul60, nat_cast, nc1, Int.reduceToNat, upE, upN, fill_ne, fill_in, i0, g, z, cmp3_self] <;> omega)))
    | (with_reducible apply it_2; (first | omega | (simp (disch := omega) only [not_false_eq_true, not_true_eq_false, w32_id, tLt, fLt, tLe, fEq, itE, and_true, true_and, and_self, and_false, false_and, ↓reduceIte, nat_add, nat_mul3, nat_mul4, nat_mul6, nat_mul15, nat_mul60, nat_cast, nc1, Int.reduceToNat, upE, upN, fill_ne, fill_in, i0, g, z, cmp3_self] <;> omega)))
    | (with_reducible refine cl_go ?_; simp (disch := omega) only [not_false_eq_true, not_true_eq_false, w32_id, tLt, fLt, tLe, fEq, itE, and_true, true_and, and_self, and_false, false_and, ↓reduceIte, nat_add, nat_mul3, nat_mul4, nat_mul6, nat_mul15, nat_mul60, nat_cast, nc1, Int.reduceToNat, upE, upN, fill_ne, fill_in, i0, g, z, cmp3_self])
    | with_reducible exact e1
    | with_reducible exact e2
    | (with_reducible refine rn_go ?_; simp (disch := omega) only [not_false_eq_true, not_true_eq_false, w32_id, tLt, fLt, tLe, fEq, itE, and_true, true_and, and_self, and_false, false_and, ↓reduceIte, nat_add, nat_mul3, nat_mul4, nat_mul6, nat_mul15, nat_mul60, nat_cast, nc1, Int.reduceToNat, upE, upN, fill_ne, fill_in, i0, g, z, cmp3_self])
    | (with_reducible refine lf_go ?_; simp (disch := omega) only [not_false_eq_true, not_true_eq_false, w32_id, tLt, fLt, tLe, fEq, itE, and_true, true_and, and_self, and_false, false_and, ↓reduceIte, nat_add, nat_mul3, nat_mul4, nat_mul6, nat_mul15, nat_mul60, nat_cast, nc1, Int.reduceToNat, upE, upN, fill_ne, fill_in, i0, g, z, cmp3_self])
    | with_reducible exact rfl
theorem lw_ruledBy (hx : ∀ j, i32 (xs j)) (h : Rel xs M A N B P) (hi : i + 6 ≤ L) (hL : L ≤ 3072) : Nx xs L i 1064 M := by
  have g := h.2.1
  obtain ⟨x, M1, M2, A', N', B', P', e1, e2, z, r⟩ := lw_I L (case_ruledBy (xs (i + 1)) (xs (i + 2))) ty_ruledBy ⟨trivial, trivial, trivial⟩ h
  refine ⟨M2, A', N', B', P', ?_, r⟩
  rw [b_Law_1064]
  repeat' first
    | (with_reducible apply bR_go; (simp (disch := omega) only [rM L, rK L, rN L, rNf, rNv, rNp, rNd, rRow, rLeg, rMark, nat_cast, Int.reduceToNat, g, z, cmp3_self]; with_reducible exact rfl))
    | with_reducible apply bI_go
    | with_reducible apply bV_go
    | with_reducible apply bL_go
    | (with_reducible apply it_1; (first | omega | (simp (disch := omega) only [not_false_eq_true, not_true_eq_false, w32_id, tLt, fLt, tLe, fEq, itE, and_true, true_and, and_self, and_false, false_and, ↓reduceIte, nat_add, nat_mul3, nat_mul4, nat_mul6, nat_mul15, nat_mul60, nat_cast, nc1, Int.reduceToNat, upE, upN, fill_ne, fill_in, i0, g, z, cmp3_self] <;> omega)))
    | (with_reducible apply it_2; (first | omega | (simp (disch := omega) only [not_false_eq_true, not_true_eq_false, w32_id, tLt, fLt, tLe, fEq, itE, and_true, true_and, and_self, and_false, false_and, ↓reduceIte, nat_add, nat_mul3, nat_mul4, nat_mul6, nat_mul15, nat_mul60, nat_cast, nc1, Int.reduceToNat, upE, upN, fill_ne, fill_in, i0, g, z, cmp3_self] <;> omega)))
    | (with_reducible refine cl_go ?_; simp (disch := omega) only [not_false_eq_true, not_true_eq_false, w32_id, tLt, fLt, tLe, fEq, itE, and_true, true_and, and_self, and_false, false_and, ↓reduceIte, nat_add, nat_mul3, nat_mul4, nat_mul6, nat_mul15, nat_mul60, nat_cast, nc1, Int.reduceToNat, upE, upN, fill_ne, fill_in, i0, g, z, cmp3_self])
    | with_reducible exact e1
    | with_reducible exact e2
    | (with_reducible refine rn_go ?_; simp (disch := omega) only [not_false_eq_true, not_true_eq_false, w32_id, tLt, fLt, tLe, fEq, itE, and_true, true_and, and_self, and_false, false_and, ↓reduceIte, nat_add, nat_mul3, nat_mul4, nat_mul6, nat_mul15, nat_mul60, nat_cast, nc1, Int.reduceToNat, upE, upN, fill_ne, fill_in, i0, g, z, cmp3_self])
    | (with_reducible refine lf_go ?_; simp (disch := omega) only [not_false_eq_true, not_true_eq_false, w32_id, tLt, fLt, tLe, fEq, itE, and_true, true_and, and_self, and_false, false_and, ↓reduceIte, nat_add, nat_mul3, nat_mul4, nat_mul6, nat_mul15, nat_mul60, nat_cast, nc1, Int.reduceToNat, upE, upN, fill_ne, fill_in, i0, g, z, cmp3_self])
    | with_reducible exact rfl
theorem lw_share (hx : ∀ j, i32 (xs j)) (h : Rel xs M A N B P) (hi : i + 6 ≤ L) (hL : L ≤ 3072) : Nx xs L i 1097 M := by
  have g := h.2.1
  obtain ⟨x, M1, M2, A', N', B', P', e1, e2, z, r⟩ := lw_I L (case_share (xs (i + 1)) (xs (i + 2))) ty_share ⟨trivial, trivial, trivial⟩ h
  refine ⟨M2, A', N', B', P', ?_, r⟩
  rw [b_Law_1097]
  repeat' first
    | (with_reducible apply bR_go; (simp (disch := omega) only [rM L, rK L, rN L, rNf, rNv, rNp, rNd, rRow, rLeg, rMark, nat_cast, Int.reduceToNat, g, z, cmp3_self]; with_reducible exact rfl))
    | with_reducible apply bI_go
    | with_reducible apply bV_go
    | with_reducible apply bL_go
    | (with_reducible apply it_1; (first | omega | (simp (disch := omega) only [not_false_eq_true, not_true_eq_false, w32_id, tLt, fLt, tLe, fEq, itE, and_true, true_and, and_self, and_false, false_and, ↓reduceIte, nat_add, nat_mul3, nat_mul4, nat_mul6, nat_mul15, nat_mul60, nat_cast, nc1, Int.reduceToNat, upE, upN, fill_ne, fill_in, i0, g, z, cmp3_self] <;> omega)))
    | (with_reducible apply it_2; (first | omega | (simp (disch := omega) only [not_false_eq_true, not_true_eq_false, w32_id, tLt, fLt, tLe, fEq, itE, and_true, true_and, and_self, and_false, false_and, ↓reduceIte, nat_add, nat_mul3, nat_mul4, nat_mul6, nat_mul15, nat_mul60, nat_cast, nc1, Int.reduceToNat, upE, upN, fill_ne, fill_in, i0, g, z, cmp3_self] <;> omega)))
    | (with_reducible refine cl_go ?_; simp (disch := omega) only [not_false_eq_true, not_true_eq_false, w32_id, tLt, fLt, tLe, fEq, itE, and_true, true_and, and_self, and_false, false_and, ↓reduceIte, nat_add, nat_mul3, nat_mul4, nat_mul6, nat_mul15, nat_mul60, nat_cast, nc1, Int.reduceToNat, upE, upN, fill_ne, fill_in, i0, g, z, cmp3_self])
    | with_reducible exact e1
    | with_reducible exact e2
    | (with_reducible refine rn_go ?_; simp (disch := omega) only [not_false_eq_true, not_true_eq_false, w32_id, tLt, fLt, tLe, fEq, itE, and_true, true_and, and_self, and_false, false_and, ↓reduceIte, nat_add, nat_mul3, nat_mul4, nat_mul6, nat_mul15, nat_mul60, nat_cast, nc1, Int.reduceToNat, upE, upN, fill_ne, fill_in, i0, g, z, cmp3_self])
    | (with_reducible refine lf_go ?_; simp (disch := omega) only [not_false_eq_true, not_true_eq_false, w32_id, tLt, fLt, tLe, fEq, itE, and_true, true_and, and_self, and_false, false_and, ↓reduceIte, nat_add, nat_mul3, nat_mul4, nat_mul6, nat_mul15, nat_mul60, nat_cast, nc1, Int.reduceToNat, upE, upN, fill_ne, fill_in, i0, g, z, cmp3_self])
    | with_reducible exact rfl
theorem lw_lawful (hx : ∀ j, i32 (xs j)) (h : Rel xs M A N B P) (hi : i + 6 ≤ L) (hL : L ≤ 3072) : Nx xs L i 1130 M := by
  have g := h.2.1
  obtain ⟨x, M1, M2, A', N', B', P', e1, e2, z, r⟩ := lw_I L (case_lawful (xs (i + 1)) (xs (i + 2))) ty_lawful ⟨trivial, trivial, trivial⟩ h
  refine ⟨M2, A', N', B', P', ?_, r⟩
  rw [b_Law_1130]
  repeat' first
    | (with_reducible apply bR_go; (simp (disch := omega) only [rM L, rK L, rN L, rNf, rNv, rNp, rNd, rRow, rLeg, rMark, nat_cast, Int.reduceToNat, g, z, cmp3_self]; with_reducible exact rfl))
    | with_reducible apply bI_go
    | with_reducible apply bV_go
    | with_reducible apply bL_go
    | (with_reducible apply it_1; (first | omega | (simp (disch := omega) only [not_false_eq_true, not_true_eq_false, w32_id, tLt, fLt, tLe, fEq, itE, and_true, true_and, and_self, and_false, false_and, ↓reduceIte, nat_add, nat_mul3, nat_mul4, nat_mul6, nat_mul15, nat_mul60, nat_cast, nc1, Int.reduceToNat, upE, upN, fill_ne, fill_in, i0, g, z, cmp3_self] <;> omega)))
    | (with_reducible apply it_2; (first | omega | (simp (disch := omega) only [not_false_eq_true, not_true_eq_false, w32_id, tLt, fLt, tLe, fEq, itE, and_true, true_and, and_self, and_false, false_and, ↓reduceIte, nat_add, nat_mul3, nat_mul4, nat_mul6, nat_mul15, nat_mul60, nat_cast, nc1, Int.reduceToNat, upE, upN, fill_ne, fill_in, i0, g, z, cmp3_self] <;> omega)))
    | (with_reducible refine cl_go ?_; simp (disch := omega) only [not_false_eq_true, not_true_eq_false, w32_id, tLt, fLt, tLe, fEq, itE, and_true, true_and, and_self, and_false, false_and, ↓reduceIte, nat_add, nat_mul3, nat_mul4, nat_mul6, nat_mul15, nat_mul60, nat_cast, nc1, Int.reduceToNat, upE, upN, fill_ne, fill_in, i0, g, z, cmp3_self])
    | with_reducible exact e1
    | with_reducible exact e2
    | (with_reducible refine rn_go ?_; simp (disch := omega) only [not_false_eq_true, not_true_eq_false, w32_id, tLt, fLt, tLe, fEq, itE, and_true, true_and, and_self, and_false, false_and, ↓reduceIte, nat_add, nat_mul3, nat_mul4, nat_mul6, nat_mul15, nat_mul60, nat_cast, nc1, Int.reduceToNat, upE, upN, fill_ne, fill_in, i0, g, z, cmp3_self])
    | (with_reducible refine lf_go ?_; simp (disch := omega) only [not_false_eq_true, not_true_eq_false, w32_id, tLt, fLt, tLe, fEq, itE, and_true, true_and, and_self, and_false, false_and, ↓reduceIte, nat_add, nat_mul3, nat_mul4, nat_mul6, nat_mul15, nat_mul60, nat_cast, nc1, Int.reduceToNat, upE, upN, fill_ne, fill_in, i0, g, z, cmp3_self])
    | with_reducible exact rfl
theorem lw_deeds (hx : ∀ j, i32 (xs j)) (h : Rel xs M A N B P) (hi : i + 6 ≤ L) (hL : L ≤ 3072) : Nx xs L i 1163 M := by
  have g := h.2.1
  obtain ⟨x, M1, M2, A', N', B', P', e1, e2, z, r⟩ := lw_I L (case_deeds (xs (i + 1))) ty_deeds ⟨trivial, trivial⟩ h
  refine ⟨M2, A', N', B', P', ?_, r⟩
  rw [b_Law_1163]
  repeat' first
    | (with_reducible apply bR_go; (simp (disch := omega) only [rM L, rK L, rN L, rNf, rNv, rNp, rNd, rRow, rLeg, rMark, nat_cast, Int.reduceToNat, g, z, cmp3_self]; with_reducible exact rfl))
    | with_reducible apply bI_go
    | with_reducible apply bV_go
    | with_reducible apply bL_go
    | (with_reducible apply it_1; (first | omega | (simp (disch := omega) only [not_false_eq_true, not_true_eq_false, w32_id, tLt, fLt, tLe, fEq, itE, and_true, true_and, and_self, and_false, false_and, ↓reduceIte, nat_add, nat_mul3, nat_mul4, nat_mul6, nat_mul15, nat_mul60, nat_cast, nc1, Int.reduceToNat, upE, upN, fill_ne, fill_in, i0, g, z, cmp3_self] <;> omega)))
    | (with_reducible apply it_2; (first | omega | (simp (disch := omega) only [not_false_eq_true, not_true_eq_false, w32_id, tLt, fLt, tLe, fEq, itE, and_true, true_and, and_self, and_false, false_and, ↓reduceIte, nat_add, nat_mul3, nat_mul4, nat_mul6, nat_mul15, nat_mul60, nat_cast, nc1, Int.reduceToNat, upE, upN, fill_ne, fill_in, i0, g, z, cmp3_self] <;> omega)))
    | (with_reducible refine cl_go ?_; simp (disch := omega) only [not_false_eq_true, not_true_eq_false, w32_id, tLt, fLt, tLe, fEq, itE, and_true, true_and, and_self, and_false, false_and, ↓reduceIte, nat_add, nat_mul3, nat_mul4, nat_mul6, nat_mul15, nat_mul60, nat_cast, nc1, Int.reduceToNat, upE, upN, fill_ne, fill_in, i0, g, z, cmp3_self])
    | with_reducible exact e1
    | with_reducible exact e2
    | (with_reducible refine rn_go ?_; simp (disch := omega) only [not_false_eq_true, not_true_eq_false, w32_id, tLt, fLt, tLe, fEq, itE, and_true, true_and, and_self, and_false, false_and, ↓reduceIte, nat_add, nat_mul3, nat_mul4, nat_mul6, nat_mul15, nat_mul60, nat_cast, nc1, Int.reduceToNat, upE, upN, fill_ne, fill_in, i0, g, z, cmp3_self])
    | (with_reducible refine lf_go ?_; simp (disch := omega) only [not_false_eq_true, not_true_eq_false, w32_id, tLt, fLt, tLe, fEq, itE, and_true, true_and, and_self, and_false, false_and, ↓reduceIte, nat_add, nat_mul3, nat_mul4, nat_mul6, nat_mul15, nat_mul60, nat_cast, nc1, Int.reduceToNat, upE, upN, fill_ne, fill_in, i0, g, z, cmp3_self])
    | with_reducible exact rfl
theorem lw_board (hx : ∀ j, i32 (xs j)) (h : Rel xs M A N B P) (hi : i + 6 ≤ L) (hL : L ≤ 3072) : Nx xs L i 1186 M := by
  have g := h.2.1
  obtain ⟨x, M1, M2, A', N', B', P', e1, e2, z, r⟩ := lw_I L (case_board (xs (i + 1)) (xs (i + 2))) ty_board ⟨trivial, trivial, trivial⟩ h
  refine ⟨M2, A', N', B', P', ?_, r⟩
  rw [b_Law_1186]
  repeat' first
    | (with_reducible apply bR_go; (simp (disch := omega) only [rM L, rK L, rN L, rNf, rNv, rNp, rNd, rRow, rLeg, rMark, nat_cast, Int.reduceToNat, g, z, cmp3_self]; with_reducible exact rfl))
    | with_reducible apply bI_go
    | with_reducible apply bV_go
    | with_reducible apply bL_go
    | (with_reducible apply it_1; (first | omega | (simp (disch := omega) only [not_false_eq_true, not_true_eq_false, w32_id, tLt, fLt, tLe, fEq, itE, and_true, true_and, and_self, and_false, false_and, ↓reduceIte, nat_add, nat_mul3, nat_mul4, nat_mul6, nat_mul15, nat_mul60, nat_cast, nc1, Int.reduceToNat, upE, upN, fill_ne, fill_in, i0, g, z, cmp3_self] <;> omega)))
    | (with_reducible apply it_2; (first | omega | (simp (disch := omega) only [not_false_eq_true, not_true_eq_false, w32_id, tLt, fLt, tLe, fEq, itE, and_true, true_and, and_self, and_false, false_and, ↓reduceIte, nat_add, nat_mul3, nat_mul4, nat_mul6, nat_mul15, nat_mul60, nat_cast, nc1, Int.reduceToNat, upE, upN, fill_ne, fill_in, i0, g, z, cmp3_self] <;> omega)))
    | (with_reducible refine cl_go ?_; simp (disch := omega) only [not_false_eq_true, not_true_eq_false, w32_id, tLt, fLt, tLe, fEq, itE, and_true, true_and, and_self, and_false, false_and, ↓reduceIte, nat_add, nat_mul3, nat_mul4, nat_mul6, nat_mul15, nat_mul60, nat_cast, nc1, Int.reduceToNat, upE, upN, fill_ne, fill_in, i0, g, z, cmp3_self])
    | with_reducible exact e1
    | with_reducible exact e2
    | (with_reducible refine rn_go ?_; simp (disch := omega) only [not_false_eq_true, not_true_eq_false, w32_id, tLt, fLt, tLe, fEq, itE, and_true, true_and, and_self, and_false, false_and, ↓reduceIte, nat_add, nat_mul3, nat_mul4, nat_mul6, nat_mul15, nat_mul60, nat_cast, nc1, Int.reduceToNat, upE, upN, fill_ne, fill_in, i0, g, z, cmp3_self])
    | (with_reducible refine lf_go ?_; simp (disch := omega) only [not_false_eq_true, not_true_eq_false, w32_id, tLt, fLt, tLe, fEq, itE, and_true, true_and, and_self, and_false, false_and, ↓reduceIte, nat_add, nat_mul3, nat_mul4, nat_mul6, nat_mul15, nat_mul60, nat_cast, nc1, Int.reduceToNat, upE, upN, fill_ne, fill_in, i0, g, z, cmp3_self])
    | with_reducible exact rfl
theorem lw_boarders (hx : ∀ j, i32 (xs j)) (h : Rel xs M A N B P) (hi : i + 6 ≤ L) (hL : L ≤ 3072) : Nx xs L i 1219 M := by
  have g := h.2.1
  obtain ⟨x, M1, M2, A', N', B', P', e1, e2, z, r⟩ := lw_I L (case_boarders (xs (i + 1))) ty_boarders ⟨trivial, trivial⟩ h
  refine ⟨M2, A', N', B', P', ?_, r⟩
  rw [b_Law_1219]
  repeat' first
    | (with_reducible apply bR_go; (simp (disch := omega) only [rM L, rK L, rN L, rNf, rNv, rNp, rNd, rRow, rLeg, rMark, nat_cast, Int.reduceToNat, g, z, cmp3_self]; with_reducible exact rfl))
    | with_reducible apply bI_go
    | with_reducible apply bV_go
    | with_reducible apply bL_go
    | (with_reducible apply it_1; (first | omega | (simp (disch := omega) only [not_false_eq_true, not_true_eq_false, w32_id, tLt, fLt, tLe, fEq, itE, and_true, true_and, and_self, and_false, false_and, ↓reduceIte, nat_add, nat_mul3, nat_mul4, nat_mul6, nat_mul15, nat_mul60, nat_cast, nc1, Int.reduceToNat, upE, upN, fill_ne, fill_in, i0, g, z, cmp3_self] <;> omega)))
    | (with_reducible apply it_2; (first | omega | (simp (disch := omega) only [not_false_eq_true, not_true_eq_false, w32_id, tLt, fLt, tLe, fEq, itE, and_true, true_and, and_self, and_false, false_and, ↓reduceIte, nat_add, nat_mul3, nat_mul4, nat_mul6, nat_mul15, nat_mul60, nat_cast, nc1, Int.reduceToNat, upE, upN, fill_ne, fill_in, i0, g, z, cmp3_self] <;> omega)))
    | (with_reducible refine cl_go ?_; simp (disch := omega) only [not_false_eq_true, not_true_eq_false, w32_id, tLt, fLt, tLe, fEq, itE, and_true, true_and, and_self, and_false, false_and, ↓reduceIte, nat_add, nat_mul3, nat_mul4, nat_mul6, nat_mul15, nat_mul60, nat_cast, nc1, Int.reduceToNat, upE, upN, fill_ne, fill_in, i0, g, z, cmp3_self])
    | with_reducible exact e1
    | with_reducible exact e2
    | (with_reducible refine rn_go ?_; simp (disch := omega) only [not_false_eq_true, not_true_eq_false, w32_id, tLt, fLt, tLe, fEq, itE, and_true, true_and, and_self, and_false, false_and, ↓reduceIte, nat_add, nat_mul3, nat_mul4, nat_mul6, nat_mul15, nat_mul60, nat_cast, nc1, Int.reduceToNat, upE, upN, fill_ne, fill_in, i0, g, z, cmp3_self])
    | (with_reducible refine lf_go ?_; simp (disch := omega) only [not_false_eq_true, not_true_eq_false, w32_id, tLt, fLt, tLe, fEq, itE, and_true, true_and, and_self, and_false, false_and, ↓reduceIte, nat_add, nat_mul3, nat_mul4, nat_mul6, nat_mul15, nat_mul60, nat_cast, nc1, Int.reduceToNat, upE, upN, fill_ne, fill_in, i0, g, z, cmp3_self])
    | with_reducible exact rfl
theorem lw_greatest (hx : ∀ j, i32 (xs j)) (h : Rel xs M A N B P) (hi : i + 6 ≤ L) (hL : L ≤ 3072) : Nx xs L i 1242 M := by
  have g := h.2.1
  obtain ⟨x, M1, M2, A', N', B', P', e1, e2, z, r⟩ := lw_I L (case_greatest (xs (i + 1))) ty_greatest ⟨trivial, trivial⟩ h
  refine ⟨M2, A', N', B', P', ?_, r⟩
  rw [b_Law_1242]
  repeat' first
    | (with_reducible apply bR_go; (simp (disch := omega) only [rM L, rK L, rN L, rNf, rNv, rNp, rNd, rRow, rLeg, rMark, nat_cast, Int.reduceToNat, g, z, cmp3_self]; with_reducible exact rfl))
    | with_reducible apply bI_go
    | with_reducible apply bV_go
    | with_reducible apply bL_go
    | (with_reducible apply it_1; (first | omega | (simp (disch := omega) only [not_false_eq_true, not_true_eq_false, w32_id, tLt, fLt, tLe, fEq, itE, and_true, true_and, and_self, and_false, false_and, ↓reduceIte, nat_add, nat_mul3, nat_mul4, nat_mul6, nat_mul15, nat_mul60, nat_cast, nc1, Int.reduceToNat, upE, upN, fill_ne, fill_in, i0, g, z, cmp3_self] <;> omega)))
    | (with_reducible apply it_2; (first | omega | (simp (disch := omega) only [not_false_eq_true, not_true_eq_false, w32_id, tLt, fLt, tLe, fEq, itE, and_true, true_and, and_self, and_false, false_and, ↓reduceIte, nat_add, nat_mul3, nat_mul4, nat_mul6, nat_mul15, nat_mul60, nat_cast, nc1, Int.reduceToNat, upE, upN, fill_ne, fill_in, i0, g, z, cmp3_self] <;> omega)))
    | (with_reducible refine cl_go ?_; simp (disch := omega) only [not_false_eq_true, not_true_eq_false, w32_id, tLt, fLt, tLe, fEq, itE, and_true, true_and, and_self, and_false, false_and, ↓reduceIte, nat_add, nat_mul3, nat_mul4, nat_mul6, nat_mul15, nat_mul60, nat_cast, nc1, Int.reduceToNat, upE, upN, fill_ne, fill_in, i0, g, z, cmp3_self])
    | with_reducible exact e1
    | with_reducible exact e2
    | (with_reducible refine rn_go ?_; simp (disch := omega) only [not_false_eq_true, not_true_eq_false, w32_id, tLt, fLt, tLe, fEq, itE, and_true, true_and, and_self, and_false, false_and, ↓reduceIte, nat_add, nat_mul3, nat_mul4, nat_mul6, nat_mul15, nat_mul60, nat_cast, nc1, Int.reduceToNat, upE, upN, fill_ne, fill_in, i0, g, z, cmp3_self])
    | (with_reducible refine lf_go ?_; simp (disch := omega) only [not_false_eq_true, not_true_eq_false, w32_id, tLt, fLt, tLe, fEq, itE, and_true, true_and, and_self, and_false, false_and, ↓reduceIte, nat_add, nat_mul3, nat_mul4, nat_mul6, nat_mul15, nat_mul60, nat_cast, nc1, Int.reduceToNat, upE, upN, fill_ne, fill_in, i0, g, z, cmp3_self])
    | with_reducible exact rfl
theorem lw_buy (hx : ∀ j, i32 (xs j)) (h : Rel xs M A N B P) (hi : i + 6 ≤ L) (hL : L ≤ 3072) : Nx xs L i 1265 M := by
  have g := h.2.1
  obtain ⟨x, M1, M2, A', N', B', P', e1, e2, z, r⟩ := lw_I L (case_buy (xs (i + 1)) (xs (i + 2)) (xs (i + 3))) ty_buy ⟨trivial, trivial, trivial, trivial⟩ h
  refine ⟨M2, A', N', B', P', ?_, r⟩
  rw [b_Law_1265]
  repeat' first
    | (with_reducible apply bR_go; (simp (disch := omega) only [rM L, rK L, rN L, rNf, rNv, rNp, rNd, rRow, rLeg, rMark, nat_cast, Int.reduceToNat, g, z, cmp3_self]; with_reducible exact rfl))
    | with_reducible apply bI_go
    | with_reducible apply bV_go
    | with_reducible apply bL_go
    | (with_reducible apply it_1; (first | omega | (simp (disch := omega) only [not_false_eq_true, not_true_eq_false, w32_id, tLt, fLt, tLe, fEq, itE, and_true, true_and, and_self, and_false, false_and, ↓reduceIte, nat_add, nat_mul3, nat_mul4, nat_mul6, nat_mul15, nat_mul60, nat_cast, nc1, Int.reduceToNat, upE, upN, fill_ne, fill_in, i0, g, z, cmp3_self] <;> omega)))
    | (with_reducible apply it_2; (first | omega | (simp (disch := omega) only [not_false_eq_true, not_true_eq_false, w32_id, tLt, fLt, tLe, fEq, itE, and_true, true_and, and_self, and_false, false_and, ↓reduceIte, nat_add, nat_mul3, nat_mul4, nat_mul6, nat_mul15, nat_mul60, nat_cast, nc1, Int.reduceToNat, upE, upN, fill_ne, fill_in, i0, g, z, cmp3_self] <;> omega)))
    | (with_reducible refine cl_go ?_; simp (disch := omega) only [not_false_eq_true, not_true_eq_false, w32_id, tLt, fLt, tLe, fEq, itE, and_true, true_and, and_self, and_false, false_and, ↓reduceIte, nat_add, nat_mul3, nat_mul4, nat_mul6, nat_mul15, nat_mul60, nat_cast, nc1, Int.reduceToNat, upE, upN, fill_ne, fill_in, i0, g, z, cmp3_self])
    | with_reducible exact e1
    | with_reducible exact e2
    | (with_reducible refine rn_go ?_; simp (disch := omega) only [not_false_eq_true, not_true_eq_false, w32_id, tLt, fLt, tLe, fEq, itE, and_true, true_and, and_self, and_false, false_and, ↓reduceIte, nat_add, nat_mul3, nat_mul4, nat_mul6, nat_mul15, nat_mul60, nat_cast, nc1, Int.reduceToNat, upE, upN, fill_ne, fill_in, i0, g, z, cmp3_self])
    | (with_reducible refine lf_go ?_; simp (disch := omega) only [not_false_eq_true, not_true_eq_false, w32_id, tLt, fLt, tLe, fEq, itE, and_true, true_and, and_self, and_false, false_and, ↓reduceIte, nat_add, nat_mul3, nat_mul4, nat_mul6, nat_mul15, nat_mul60, nat_cast, nc1, Int.reduceToNat, upE, upN, fill_ne, fill_in, i0, g, z, cmp3_self])
    | with_reducible exact rfl
theorem lw_sell (hx : ∀ j, i32 (xs j)) (h : Rel xs M A N B P) (hi : i + 6 ≤ L) (hL : L ≤ 3072) : Nx xs L i 1308 M := by
  have g := h.2.1
  obtain ⟨x, M1, M2, A', N', B', P', e1, e2, z, r⟩ := lw_I L (case_sell (xs (i + 1)) (xs (i + 2)) (xs (i + 3))) ty_sell ⟨trivial, trivial, trivial, trivial⟩ h
  refine ⟨M2, A', N', B', P', ?_, r⟩
  rw [b_Law_1308]
  repeat' first
    | (with_reducible apply bR_go; (simp (disch := omega) only [rM L, rK L, rN L, rNf, rNv, rNp, rNd, rRow, rLeg, rMark, nat_cast, Int.reduceToNat, g, z, cmp3_self]; with_reducible exact rfl))
    | with_reducible apply bI_go
    | with_reducible apply bV_go
    | with_reducible apply bL_go
    | (with_reducible apply it_1; (first | omega | (simp (disch := omega) only [not_false_eq_true, not_true_eq_false, w32_id, tLt, fLt, tLe, fEq, itE, and_true, true_and, and_self, and_false, false_and, ↓reduceIte, nat_add, nat_mul3, nat_mul4, nat_mul6, nat_mul15, nat_mul60, nat_cast, nc1, Int.reduceToNat, upE, upN, fill_ne, fill_in, i0, g, z, cmp3_self] <;> omega)))
    | (with_reducible apply it_2; (first | omega | (simp (disch := omega) only [not_false_eq_true, not_true_eq_false, w32_id, tLt, fLt, tLe, fEq, itE, and_true, true_and, and_self, and_false, false_and, ↓reduceIte, nat_add, nat_mul3, nat_mul4, nat_mul6, nat_mul15, nat_mul60, nat_cast, nc1, Int.reduceToNat, upE, upN, fill_ne, fill_in, i0, g, z, cmp3_self] <;> omega)))
    | (with_reducible refine cl_go ?_; simp (disch := omega) only [not_false_eq_true, not_true_eq_false, w32_id, tLt, fLt, tLe, fEq, itE, and_true, true_and, and_self, and_false, false_and, ↓reduceIte, nat_add, nat_mul3, nat_mul4, nat_mul6, nat_mul15, nat_mul60, nat_cast, nc1, Int.reduceToNat, upE, upN, fill_ne, fill_in, i0, g, z, cmp3_self])
    | with_reducible exact e1
    | with_reducible exact e2
    | (with_reducible refine rn_go ?_; simp (disch := omega) only [not_false_eq_true, not_true_eq_false, w32_id, tLt, fLt, tLe, fEq, itE, and_true, true_and, and_self, and_false, false_and, ↓reduceIte, nat_add, nat_mul3, nat_mul4, nat_mul6, nat_mul15, nat_mul60, nat_cast, nc1, Int.reduceToNat, upE, upN, fill_ne, fill_in, i0, g, z, cmp3_self])
    | (with_reducible refine lf_go ?_; simp (disch := omega) only [not_false_eq_true, not_true_eq_false, w32_id, tLt, fLt, tLe, fEq, itE, and_true, true_and, and_self, and_false, false_and, ↓reduceIte, nat_add, nat_mul3, nat_mul4, nat_mul6, nat_mul15, nat_mul60, nat_cast, nc1, Int.reduceToNat, upE, upN, fill_ne, fill_in, i0, g, z, cmp3_self])
    | with_reducible exact rfl
theorem lw_dump (hx : ∀ j, i32 (xs j)) (h : Rel xs M A N B P) (hi : i + 6 ≤ L) (hL : L ≤ 3072) : Nx xs L i 1351 M := by
  have g := h.2.1
  obtain ⟨x, M1, M2, A', N', B', P', e1, e2, z, r⟩ := lw_I L (case_dump (xs (i + 1)) (xs (i + 2)) (xs (i + 3))) ty_dump ⟨trivial, trivial, trivial, trivial⟩ h
  refine ⟨M2, A', N', B', P', ?_, r⟩
  rw [b_Law_1351]
  repeat' first
    | (with_reducible apply bR_go; (simp (disch := omega) only [rM L, rK L, rN L, rNf, rNv, rNp, rNd, rRow, rLeg, rMark, nat_cast, Int.reduceToNat, g, z, cmp3_self]; with_reducible exact rfl))
    | with_reducible apply bI_go
    | with_reducible apply bV_go
    | with_reducible apply bL_go
    | (with_reducible apply it_1; (first | omega | (simp (disch := omega) only [not_false_eq_true, not_true_eq_false, w32_id, tLt, fLt, tLe, fEq, itE, and_true, true_and, and_self, and_false, false_and, ↓reduceIte, nat_add, nat_mul3, nat_mul4, nat_mul6, nat_mul15, nat_mul60, nat_cast, nc1, Int.reduceToNat, upE, upN, fill_ne, fill_in, i0, g, z, cmp3_self] <;> omega)))
    | (with_reducible apply it_2; (first | omega | (simp (disch := omega) only [not_false_eq_true, not_true_eq_false, w32_id, tLt, fLt, tLe, fEq, itE, and_true, true_and, and_self, and_false, false_and, ↓reduceIte, nat_add, nat_mul3, nat_mul4, nat_mul6, nat_mul15, nat_mul60, nat_cast, nc1, Int.reduceToNat, upE, upN, fill_ne, fill_in, i0, g, z, cmp3_self] <;> omega)))
    | (with_reducible refine cl_go ?_; simp (disch := omega) only [not_false_eq_true, not_true_eq_false, w32_id, tLt, fLt, tLe, fEq, itE, and_true, true_and, and_self, and_false, false_and, ↓reduceIte, nat_add, nat_mul3, nat_mul4, nat_mul6, nat_mul15, nat_mul60, nat_cast, nc1, Int.reduceToNat, upE, upN, fill_ne, fill_in, i0, g, z, cmp3_self])
    | with_reducible exact e1
    | with_reducible exact e2
    | (with_reducible refine rn_go ?_; simp (disch := omega) only [not_false_eq_true, not_true_eq_false, w32_id, tLt, fLt, tLe, fEq, itE, and_true, true_and, and_self, and_false, false_and, ↓reduceIte, nat_add, nat_mul3, nat_mul4, nat_mul6, nat_mul15, nat_mul60, nat_cast, nc1, Int.reduceToNat, upE, upN, fill_ne, fill_in, i0, g, z, cmp3_self])
    | (with_reducible refine lf_go ?_; simp (disch := omega) only [not_false_eq_true, not_true_eq_false, w32_id, tLt, fLt, tLe, fEq, itE, and_true, true_and, and_self, and_false, false_and, ↓reduceIte, nat_add, nat_mul3, nat_mul4, nat_mul6, nat_mul15, nat_mul60, nat_cast, nc1, Int.reduceToNat, upE, upN, fill_ne, fill_in, i0, g, z, cmp3_self])
    | with_reducible exact rfl
theorem lw_sail (hx : ∀ j, i32 (xs j)) (h : Rel xs M A N B P) (hi : i + 6 ≤ L) (hL : L ≤ 3072) : Nx xs L i 1394 M := by
  have g := h.2.1
  obtain ⟨x, M1, M2, A', N', B', P', e1, e2, z, r⟩ := lw_I L (case_sail (xs (i + 1)) (xs (i + 2))) ty_sail ⟨trivial, trivial, trivial⟩ h
  refine ⟨M2, A', N', B', P', ?_, r⟩
  rw [b_Law_1394]
  repeat' first
    | (with_reducible apply bR_go; (simp (disch := omega) only [rM L, rK L, rN L, rNf, rNv, rNp, rNd, rRow, rLeg, rMark, nat_cast, Int.reduceToNat, g, z, cmp3_self]; with_reducible exact rfl))
    | with_reducible apply bI_go
    | with_reducible apply bV_go
    | with_reducible apply bL_go
    | (with_reducible apply it_1; (first | omega | (simp (disch := omega) only [not_false_eq_true, not_true_eq_false, w32_id, tLt, fLt, tLe, fEq, itE, and_true, true_and, and_self, and_false, false_and, ↓reduceIte, nat_add, nat_mul3, nat_mul4, nat_mul6, nat_mul15, nat_mul60, nat_cast, nc1, Int.reduceToNat, upE, upN, fill_ne, fill_in, i0, g, z, cmp3_self] <;> omega)))
    | (with_reducible apply it_2; (first | omega | (simp (disch := omega) only [not_false_eq_true, not_true_eq_false, w32_id, tLt, fLt, tLe, fEq, itE, and_true, true_and, and_self, and_false, false_and, ↓reduceIte, nat_add, nat_mul3, nat_mul4, nat_mul6, nat_mul15, nat_mul60, nat_cast, nc1, Int.reduceToNat, upE, upN, fill_ne, fill_in, i0, g, z, cmp3_self] <;> omega)))
    | (with_reducible refine cl_go ?_; simp (disch := omega) only [not_false_eq_true, not_true_eq_false, w32_id, tLt, fLt, tLe, fEq, itE, and_true, true_and, and_self, and_false, false_and, ↓reduceIte, nat_add, nat_mul3, nat_mul4, nat_mul6, nat_mul15, nat_mul60, nat_cast, nc1, Int.reduceToNat, upE, upN, fill_ne, fill_in, i0, g, z, cmp3_self])
    | with_reducible exact e1
    | with_reducible exact e2
    | (with_reducible refine rn_go ?_; simp (disch := omega) only [not_false_eq_true, not_true_eq_false, w32_id, tLt, fLt, tLe, fEq, itE, and_true, true_and, and_self, and_false, false_and, ↓reduceIte, nat_add, nat_mul3, nat_mul4, nat_mul6, nat_mul15, nat_mul60, nat_cast, nc1, Int.reduceToNat, upE, upN, fill_ne, fill_in, i0, g, z, cmp3_self])
    | (with_reducible refine lf_go ?_; simp (disch := omega) only [not_false_eq_true, not_true_eq_false, w32_id, tLt, fLt, tLe, fEq, itE, and_true, true_and, and_self, and_false, false_and, ↓reduceIte, nat_add, nat_mul3, nat_mul4, nat_mul6, nat_mul15, nat_mul60, nat_cast, nc1, Int.reduceToNat, upE, upN, fill_ne, fill_in, i0, g, z, cmp3_self])
    | with_reducible exact rfl
theorem lw_day (hx : ∀ j, i32 (xs j)) (h : Rel xs M A N B P) (hi : i + 6 ≤ L) (hL : L ≤ 3072) : Nx xs L i 1427 M := by
  have g := h.2.1
  obtain ⟨x, M1, M2, A', N', B', P', e1, e2, z, r⟩ := lw_I L (case_day (xs (i + 1))) ty_day ⟨trivial, trivial⟩ h
  refine ⟨M2, A', N', B', P', ?_, r⟩
  rw [b_Law_1427]
  repeat' first
    | (with_reducible apply bR_go; (simp (disch := omega) only [rM L, rK L, rN L, rNf, rNv, rNp, rNd, rRow, rLeg, rMark, nat_cast, Int.reduceToNat, g, z, cmp3_self]; with_reducible exact rfl))
    | with_reducible apply bI_go
    | with_reducible apply bV_go
    | with_reducible apply bL_go
    | (with_reducible apply it_1; (first | omega | (simp (disch := omega) only [not_false_eq_true, not_true_eq_false, w32_id, tLt, fLt, tLe, fEq, itE, and_true, true_and, and_self, and_false, false_and, ↓reduceIte, nat_add, nat_mul3, nat_mul4, nat_mul6, nat_mul15, nat_mul60, nat_cast, nc1, Int.reduceToNat, upE, upN, fill_ne, fill_in, i0, g, z, cmp3_self] <;> omega)))
    | (with_reducible apply it_2; (first | omega | (simp (disch := omega) only [not_false_eq_true, not_true_eq_false, w32_id, tLt, fLt, tLe, fEq, itE, and_true, true_and, and_self, and_false, false_and, ↓reduceIte, nat_add, nat_mul3, nat_mul4, nat_mul6, nat_mul15, nat_mul60, nat_cast, nc1, Int.reduceToNat, upE, upN, fill_ne, fill_in, i0, g, z, cmp3_self] <;> omega)))
    | (with_reducible refine cl_go ?_; simp (disch := omega) only [not_false_eq_true, not_true_eq_false, w32_id, tLt, fLt, tLe, fEq, itE, and_true, true_and, and_self, and_false, false_and, ↓reduceIte, nat_add, nat_mul3, nat_mul4, nat_mul6, nat_mul15, nat_mul60, nat_cast, nc1, Int.reduceToNat, upE, upN, fill_ne, fill_in, i0, g, z, cmp3_self])
    | with_reducible exact e1
    | with_reducible exact e2
    | (with_reducible refine rn_go ?_; simp (disch := omega) only [not_false_eq_true, not_true_eq_false, w32_id, tLt, fLt, tLe, fEq, itE, and_true, true_and, and_self, and_false, false_and, ↓reduceIte, nat_add, nat_mul3, nat_mul4, nat_mul6, nat_mul15, nat_mul60, nat_cast, nc1, Int.reduceToNat, upE, upN, fill_ne, fill_in, i0, g, z, cmp3_self])
    | (with_reducible refine lf_go ?_; simp (disch := omega) only [not_false_eq_true, not_true_eq_false, w32_id, tLt, fLt, tLe, fEq, itE, and_true, true_and, and_self, and_false, false_and, ↓reduceIte, nat_add, nat_mul3, nat_mul4, nat_mul6, nat_mul15, nat_mul60, nat_cast, nc1, Int.reduceToNat, upE, upN, fill_ne, fill_in, i0, g, z, cmp3_self])
    | with_reducible exact rfl
theorem lw_pass (hx : ∀ j, i32 (xs j)) (h : Rel xs M A N B P) (hi : i + 6 ≤ L) (hL : L ≤ 3072) : Nx xs L i 1450 M := by
  have g := h.2.1
  obtain ⟨x, M1, M2, A', N', B', P', e1, e2, z, r⟩ := lw_I L (case_pass (xs (i + 1)) (xs (i + 2)) (xs (i + 3)) (xs (i + 4))) ty_pass ⟨trivial, trivial, trivial, trivial, trivial⟩ h
  refine ⟨M2, A', N', B', P', ?_, r⟩
  rw [b_Law_1450]
  repeat' first
    | (with_reducible apply bR_go; (simp (disch := omega) only [rM L, rK L, rN L, rNf, rNv, rNp, rNd, rRow, rLeg, rMark, nat_cast, Int.reduceToNat, g, z, cmp3_self]; with_reducible exact rfl))
    | with_reducible apply bI_go
    | with_reducible apply bV_go
    | with_reducible apply bL_go
    | (with_reducible apply it_1; (first | omega | (simp (disch := omega) only [not_false_eq_true, not_true_eq_false, w32_id, tLt, fLt, tLe, fEq, itE, and_true, true_and, and_self, and_false, false_and, ↓reduceIte, nat_add, nat_mul3, nat_mul4, nat_mul6, nat_mul15, nat_mul60, nat_cast, nc1, Int.reduceToNat, upE, upN, fill_ne, fill_in, i0, g, z, cmp3_self] <;> omega)))
    | (with_reducible apply it_2; (first | omega | (simp (disch := omega) only [not_false_eq_true, not_true_eq_false, w32_id, tLt, fLt, tLe, fEq, itE, and_true, true_and, and_self, and_false, false_and, ↓reduceIte, nat_add, nat_mul3, nat_mul4, nat_mul6, nat_mul15, nat_mul60, nat_cast, nc1, Int.reduceToNat, upE, upN, fill_ne, fill_in, i0, g, z, cmp3_self] <;> omega)))
    | (with_reducible refine cl_go ?_; simp (disch := omega) only [not_false_eq_true, not_true_eq_false, w32_id, tLt, fLt, tLe, fEq, itE, and_true, true_and, and_self, and_false, false_and, ↓reduceIte, nat_add, nat_mul3, nat_mul4, nat_mul6, nat_mul15, nat_mul60, nat_cast, nc1, Int.reduceToNat, upE, upN, fill_ne, fill_in, i0, g, z, cmp3_self])
    | with_reducible exact e1
    | with_reducible exact e2
    | (with_reducible refine rn_go ?_; simp (disch := omega) only [not_false_eq_true, not_true_eq_false, w32_id, tLt, fLt, tLe, fEq, itE, and_true, true_and, and_self, and_false, false_and, ↓reduceIte, nat_add, nat_mul3, nat_mul4, nat_mul6, nat_mul15, nat_mul60, nat_cast, nc1, Int.reduceToNat, upE, upN, fill_ne, fill_in, i0, g, z, cmp3_self])
    | (with_reducible refine lf_go ?_; simp (disch := omega) only [not_false_eq_true, not_true_eq_false, w32_id, tLt, fLt, tLe, fEq, itE, and_true, true_and, and_self, and_false, false_and, ↓reduceIte, nat_add, nat_mul3, nat_mul4, nat_mul6, nat_mul15, nat_mul60, nat_cast, nc1, Int.reduceToNat, upE, upN, fill_ne, fill_in, i0, g, z, cmp3_self])
    | with_reducible exact rfl
theorem lw_rule (hx : ∀ j, i32 (xs j)) (h : Rel xs M A N B P) (hi : i + 6 ≤ L) (hL : L ≤ 3072) : Nx xs L i 1503 M := by
  have g := h.2.1
  obtain ⟨x, M1, M2, A', N', B', P', e1, e2, z, r⟩ := lw_I L (case_rule (xs (i + 1))) ty_rule ⟨trivial, trivial⟩ h
  refine ⟨M2, A', N', B', P', ?_, r⟩
  rw [b_Law_1503]
  repeat' first
    | (with_reducible apply bR_go; (simp (disch := omega) only [rM L, rK L, rN L, rNf, rNv, rNp, rNd, rRow, rLeg, rMark, nat_cast, Int.reduceToNat, g, z, cmp3_self]; with_reducible exact rfl))
    | with_reducible apply bI_go
    | with_reducible apply bV_go
    | with_reducible apply bL_go
    | (with_reducible apply it_1; (first | omega | (simp (disch := omega) only [not_false_eq_true, not_true_eq_false, w32_id, tLt, fLt, tLe, fEq, itE, and_true, true_and, and_self, and_false, false_and, ↓reduceIte, nat_add, nat_mul3, nat_mul4, nat_mul6, nat_mul15, nat_mul60, nat_cast, nc1, Int.reduceToNat, upE, upN, fill_ne, fill_in, i0, g, z, cmp3_self] <;> omega)))
    | (with_reducible apply it_2; (first | omega | (simp (disch := omega) only [not_false_eq_true, not_true_eq_false, w32_id, tLt, fLt, tLe, fEq, itE, and_true, true_and, and_self, and_false, false_and, ↓reduceIte, nat_add, nat_mul3, nat_mul4, nat_mul6, nat_mul15, nat_mul60, nat_cast, nc1, Int.reduceToNat, upE, upN, fill_ne, fill_in, i0, g, z, cmp3_self] <;> omega)))
    | (with_reducible refine cl_go ?_; simp (disch := omega) only [not_false_eq_true, not_true_eq_false, w32_id, tLt, fLt, tLe, fEq, itE, and_true, true_and, and_self, and_false, false_and, ↓reduceIte, nat_add, nat_mul3, nat_mul4, nat_mul6, nat_mul15, nat_mul60, nat_cast, nc1, Int.reduceToNat, upE, upN, fill_ne, fill_in, i0, g, z, cmp3_self])
    | with_reducible exact e1
    | with_reducible exact e2
    | (with_reducible refine rn_go ?_; simp (disch := omega) only [not_false_eq_true, not_true_eq_false, w32_id, tLt, fLt, tLe, fEq, itE, and_true, true_and, and_self, and_false, false_and, ↓reduceIte, nat_add, nat_mul3, nat_mul4, nat_mul6, nat_mul15, nat_mul60, nat_cast, nc1, Int.reduceToNat, upE, upN, fill_ne, fill_in, i0, g, z, cmp3_self])
    | (with_reducible refine lf_go ?_; simp (disch := omega) only [not_false_eq_true, not_true_eq_false, w32_id, tLt, fLt, tLe, fEq, itE, and_true, true_and, and_self, and_false, false_and, ↓reduceIte, nat_add, nat_mul3, nat_mul4, nat_mul6, nat_mul15, nat_mul60, nat_cast, nc1, Int.reduceToNat, upE, upN, fill_ne, fill_in, i0, g, z, cmp3_self])
    | with_reducible exact rfl
theorem lw_war (hx : ∀ j, i32 (xs j)) (h : Rel xs M A N B P) (hi : i + 6 ≤ L) (hL : L ≤ 3072) : Nx xs L i 1526 M := by
  have g := h.2.1
  by_cases y : xs (i + 3) = 0
  · obtain ⟨x, M1, M2, A', N', B', P', e1, e2, z, r⟩ := lw_I L (case_war (xs (i + 1)) (xs (i + 2)) 0 (Or.inl rfl)) ty_war ⟨trivial, trivial, trivial, trivial⟩ h
    refine ⟨M2, A', N', B', P', ?_, r⟩
    rw [b_Law_1526]
    repeat' first
      | (with_reducible apply bR_go; (simp (disch := omega) only [rM L, rK L, rN L, rNf, rNv, rNp, rNd, rRow, rLeg, rMark, nat_cast, Int.reduceToNat, g, z, cmp3_self, y]; with_reducible exact rfl))
      | with_reducible apply bI_go
      | with_reducible apply bV_go
      | with_reducible apply bL_go
      | (with_reducible apply it_1; (first | omega | (simp (disch := omega) only [not_false_eq_true, not_true_eq_false, w32_id, tLt, fLt, tLe, fEq, itE, and_true, true_and, and_self, and_false, false_and, ↓reduceIte, nat_add, nat_mul3, nat_mul4, nat_mul6, nat_mul15, nat_mul60, nat_cast, nc1, Int.reduceToNat, upE, upN, fill_ne, fill_in, i0, g, z, cmp3_self, y] <;> omega)))
      | (with_reducible apply it_2; (first | omega | (simp (disch := omega) only [not_false_eq_true, not_true_eq_false, w32_id, tLt, fLt, tLe, fEq, itE, and_true, true_and, and_self, and_false, false_and, ↓reduceIte, nat_add, nat_mul3, nat_mul4, nat_mul6, nat_mul15, nat_mul60, nat_cast, nc1, Int.reduceToNat, upE, upN, fill_ne, fill_in, i0, g, z, cmp3_self, y] <;> omega)))
      | (with_reducible refine cl_go ?_; simp (disch := omega) only [not_false_eq_true, not_true_eq_false, w32_id, tLt, fLt, tLe, fEq, itE, and_true, true_and, and_self, and_false, false_and, ↓reduceIte, nat_add, nat_mul3, nat_mul4, nat_mul6, nat_mul15, nat_mul60, nat_cast, nc1, Int.reduceToNat, upE, upN, fill_ne, fill_in, i0, g, z, cmp3_self, y])
      | with_reducible exact e1
      | with_reducible exact e2
      | (with_reducible refine rn_go ?_; simp (disch := omega) only [not_false_eq_true, not_true_eq_false, w32_id, tLt, fLt, tLe, fEq, itE, and_true, true_and, and_self, and_false, false_and, ↓reduceIte, nat_add, nat_mul3, nat_mul4, nat_mul6, nat_mul15, nat_mul60, nat_cast, nc1, Int.reduceToNat, upE, upN, fill_ne, fill_in, i0, g, z, cmp3_self, y])
      | (with_reducible refine lf_go ?_; simp (disch := omega) only [not_false_eq_true, not_true_eq_false, w32_id, tLt, fLt, tLe, fEq, itE, and_true, true_and, and_self, and_false, false_and, ↓reduceIte, nat_add, nat_mul3, nat_mul4, nat_mul6, nat_mul15, nat_mul60, nat_cast, nc1, Int.reduceToNat, upE, upN, fill_ne, fill_in, i0, g, z, cmp3_self, y])
      | with_reducible exact rfl
  · obtain ⟨x, M1, M2, A', N', B', P', e1, e2, z, r⟩ := lw_I L (case_war (xs (i + 1)) (xs (i + 2)) 1 (Or.inr rfl)) ty_war ⟨trivial, trivial, trivial, trivial⟩ h
    refine ⟨M2, A', N', B', P', ?_, r⟩
    rw [b_Law_1526]
    repeat' first
      | (with_reducible apply bR_go; (simp (disch := omega) only [rM L, rK L, rN L, rNf, rNv, rNp, rNd, rRow, rLeg, rMark, nat_cast, Int.reduceToNat, g, z, cmp3_self]; with_reducible exact rfl))
      | with_reducible apply bI_go
      | with_reducible apply bV_go
      | with_reducible apply bL_go
      | (with_reducible apply it_1; (first | omega | (simp (disch := omega) only [not_false_eq_true, not_true_eq_false, w32_id, tLt, fLt, tLe, fEq, itE, and_true, true_and, and_self, and_false, false_and, ↓reduceIte, nat_add, nat_mul3, nat_mul4, nat_mul6, nat_mul15, nat_mul60, nat_cast, nc1, Int.reduceToNat, upE, upN, fill_ne, fill_in, i0, g, z, cmp3_self] <;> omega)))
      | (with_reducible apply it_2; (first | omega | (simp (disch := omega) only [not_false_eq_true, not_true_eq_false, w32_id, tLt, fLt, tLe, fEq, itE, and_true, true_and, and_self, and_false, false_and, ↓reduceIte, nat_add, nat_mul3, nat_mul4, nat_mul6, nat_mul15, nat_mul60, nat_cast, nc1, Int.reduceToNat, upE, upN, fill_ne, fill_in, i0, g, z, cmp3_self] <;> omega)))
      | (with_reducible refine cl_go ?_; simp (disch := omega) only [not_false_eq_true, not_true_eq_false, w32_id, tLt, fLt, tLe, fEq, itE, and_true, true_and, and_self, and_false, false_and, ↓reduceIte, nat_add, nat_mul3, nat_mul4, nat_mul6, nat_mul15, nat_mul60, nat_cast, nc1, Int.reduceToNat, upE, upN, fill_ne, fill_in, i0, g, z, cmp3_self])
      | with_reducible exact e1
      | with_reducible exact e2
      | (with_reducible refine rn_go ?_; simp (disch := omega) only [not_false_eq_true, not_true_eq_false, w32_id, tLt, fLt, tLe, fEq, itE, and_true, true_and, and_self, and_false, false_and, ↓reduceIte, nat_add, nat_mul3, nat_mul4, nat_mul6, nat_mul15, nat_mul60, nat_cast, nc1, Int.reduceToNat, upE, upN, fill_ne, fill_in, i0, g, z, cmp3_self])
      | (with_reducible refine lf_go ?_; simp (disch := omega) only [not_false_eq_true, not_true_eq_false, w32_id, tLt, fLt, tLe, fEq, itE, and_true, true_and, and_self, and_false, false_and, ↓reduceIte, nat_add, nat_mul3, nat_mul4, nat_mul6, nat_mul15, nat_mul60, nat_cast, nc1, Int.reduceToNat, upE, upN, fill_ne, fill_in, i0, g, z, cmp3_self])
      | with_reducible exact rfl
theorem lw_trade (hx : ∀ j, i32 (xs j)) (h : Rel xs M A N B P) (hi : i + 6 ≤ L) (hL : L ≤ 3072) : Nx xs L i 1585 M := by
  have g := h.2.1
  obtain ⟨x, M1, M2, A', N', B', P', e1, e2, z, r⟩ := lw_I L (case_trade (xs (i + 1)) (xs (i + 2)) (xs (i + 3))) ty_trade ⟨trivial, trivial, trivial, trivial⟩ h
  refine ⟨M2, A', N', B', P', ?_, r⟩
  rw [b_Law_1585]
  repeat' first
    | (with_reducible apply bR_go; (simp (disch := omega) only [rM L, rK L, rN L, rNf, rNv, rNp, rNd, rRow, rLeg, rMark, nat_cast, Int.reduceToNat, g, z, cmp3_self]; with_reducible exact rfl))
    | with_reducible apply bI_go
    | with_reducible apply bV_go
    | with_reducible apply bL_go
    | (with_reducible apply it_1; (first | omega | (simp (disch := omega) only [not_false_eq_true, not_true_eq_false, w32_id, tLt, fLt, tLe, fEq, itE, and_true, true_and, and_self, and_false, false_and, ↓reduceIte, nat_add, nat_mul3, nat_mul4, nat_mul6, nat_mul15, nat_mul60, nat_cast, nc1, Int.reduceToNat, upE, upN, fill_ne, fill_in, i0, g, z, cmp3_self] <;> omega)))
    | (with_reducible apply it_2; (first | omega | (simp (disch := omega) only [not_false_eq_true, not_true_eq_false, w32_id, tLt, fLt, tLe, fEq, itE, and_true, true_and, and_self, and_false, false_and, ↓reduceIte, nat_add, nat_mul3, nat_mul4, nat_mul6, nat_mul15, nat_mul60, nat_cast, nc1, Int.reduceToNat, upE, upN, fill_ne, fill_in, i0, g, z, cmp3_self] <;> omega)))
    | (with_reducible refine cl_go ?_; simp (disch := omega) only [not_false_eq_true, not_true_eq_false, w32_id, tLt, fLt, tLe, fEq, itE, and_true, true_and, and_self, and_false, false_and, ↓reduceIte, nat_add, nat_mul3, nat_mul4, nat_mul6, nat_mul15, nat_mul60, nat_cast, nc1, Int.reduceToNat, upE, upN, fill_ne, fill_in, i0, g, z, cmp3_self])
    | with_reducible exact e1
    | with_reducible exact e2
    | (with_reducible refine rn_go ?_; simp (disch := omega) only [not_false_eq_true, not_true_eq_false, w32_id, tLt, fLt, tLe, fEq, itE, and_true, true_and, and_self, and_false, false_and, ↓reduceIte, nat_add, nat_mul3, nat_mul4, nat_mul6, nat_mul15, nat_mul60, nat_cast, nc1, Int.reduceToNat, upE, upN, fill_ne, fill_in, i0, g, z, cmp3_self])
    | (with_reducible refine lf_go ?_; simp (disch := omega) only [not_false_eq_true, not_true_eq_false, w32_id, tLt, fLt, tLe, fEq, itE, and_true, true_and, and_self, and_false, false_and, ↓reduceIte, nat_add, nat_mul3, nat_mul4, nat_mul6, nat_mul15, nat_mul60, nat_cast, nc1, Int.reduceToNat, upE, upN, fill_ne, fill_in, i0, g, z, cmp3_self])
    | with_reducible exact rfl
theorem lw_pay (hx : ∀ j, i32 (xs j)) (h : Rel xs M A N B P) (hi : i + 6 ≤ L) (hL : L ≤ 3072) : Nx xs L i 1628 M := by
  have g := h.2.1
  obtain ⟨x, M1, M2, A', N', B', P', e1, e2, z, r⟩ := lw_I L (case_pay (xs (i + 1)) (xs (i + 2))) ty_pay ⟨trivial, trivial, trivial⟩ h
  refine ⟨M2, A', N', B', P', ?_, r⟩
  rw [b_Law_1628]
  repeat' first
    | (with_reducible apply bR_go; (simp (disch := omega) only [rM L, rK L, rN L, rNf, rNv, rNp, rNd, rRow, rLeg, rMark, nat_cast, Int.reduceToNat, g, z, cmp3_self]; with_reducible exact rfl))
    | with_reducible apply bI_go
    | with_reducible apply bV_go
    | with_reducible apply bL_go
    | (with_reducible apply it_1; (first | omega | (simp (disch := omega) only [not_false_eq_true, not_true_eq_false, w32_id, tLt, fLt, tLe, fEq, itE, and_true, true_and, and_self, and_false, false_and, ↓reduceIte, nat_add, nat_mul3, nat_mul4, nat_mul6, nat_mul15, nat_mul60, nat_cast, nc1, Int.reduceToNat, upE, upN, fill_ne, fill_in, i0, g, z, cmp3_self] <;> omega)))
    | (with_reducible apply it_2; (first | omega | (simp (disch := omega) only [not_false_eq_true, not_true_eq_false, w32_id, tLt, fLt, tLe, fEq, itE, and_true, true_and, and_self, and_false, false_and, ↓reduceIte, nat_add, nat_mul3, nat_mul4, nat_mul6, nat_mul15, nat_mul60, nat_cast, nc1, Int.reduceToNat, upE, upN, fill_ne, fill_in, i0, g, z, cmp3_self] <;> omega)))
    | (with_reducible refine cl_go ?_; simp (disch := omega) only [not_false_eq_true, not_true_eq_false, w32_id, tLt, fLt, tLe, fEq, itE, and_true, true_and, and_self, and_false, false_and, ↓reduceIte, nat_add, nat_mul3, nat_mul4, nat_mul6, nat_mul15, nat_mul60, nat_cast, nc1, Int.reduceToNat, upE, upN, fill_ne, fill_in, i0, g, z, cmp3_self])
    | with_reducible exact e1
    | with_reducible exact e2
    | (with_reducible refine rn_go ?_; simp (disch := omega) only [not_false_eq_true, not_true_eq_false, w32_id, tLt, fLt, tLe, fEq, itE, and_true, true_and, and_self, and_false, false_and, ↓reduceIte, nat_add, nat_mul3, nat_mul4, nat_mul6, nat_mul15, nat_mul60, nat_cast, nc1, Int.reduceToNat, upE, upN, fill_ne, fill_in, i0, g, z, cmp3_self])
    | (with_reducible refine lf_go ?_; simp (disch := omega) only [not_false_eq_true, not_true_eq_false, w32_id, tLt, fLt, tLe, fEq, itE, and_true, true_and, and_self, and_false, false_and, ↓reduceIte, nat_add, nat_mul3, nat_mul4, nat_mul6, nat_mul15, nat_mul60, nat_cast, nc1, Int.reduceToNat, upE, upN, fill_ne, fill_in, i0, g, z, cmp3_self])
    | with_reducible exact rfl
theorem lw_flagIn (hx : ∀ j, i32 (xs j)) (h : Rel xs M A N B P) (hi : i + 6 ≤ L) (hL : L ≤ 3072) : Nx xs L i 1661 M := by
  have g := h.2.1
  obtain ⟨x, M1, M2, A', N', B', P', e1, e2, z, r⟩ := lw_I L (case_flagIn (xs (i + 1)) (xs (i + 2))) ty_flagIn ⟨trivial, trivial, trivial⟩ h
  refine ⟨M2, A', N', B', P', ?_, r⟩
  rw [b_Law_1661]
  repeat' first
    | (with_reducible apply bR_go; (simp (disch := omega) only [rM L, rK L, rN L, rNf, rNv, rNp, rNd, rRow, rLeg, rMark, nat_cast, Int.reduceToNat, g, z, cmp3_self]; with_reducible exact rfl))
    | with_reducible apply bI_go
    | with_reducible apply bV_go
    | with_reducible apply bL_go
    | (with_reducible apply it_1; (first | omega | (simp (disch := omega) only [not_false_eq_true, not_true_eq_false, w32_id, tLt, fLt, tLe, fEq, itE, and_true, true_and, and_self, and_false, false_and, ↓reduceIte, nat_add, nat_mul3, nat_mul4, nat_mul6, nat_mul15, nat_mul60, nat_cast, nc1, Int.reduceToNat, upE, upN, fill_ne, fill_in, i0, g, z, cmp3_self] <;> omega)))
    | (with_reducible apply it_2; (first | omega | (simp (disch := omega) only [not_false_eq_true, not_true_eq_false, w32_id, tLt, fLt, tLe, fEq, itE, and_true, true_and, and_self, and_false, false_and, ↓reduceIte, nat_add, nat_mul3, nat_mul4, nat_mul6, nat_mul15, nat_mul60, nat_cast, nc1, Int.reduceToNat, upE, upN, fill_ne, fill_in, i0, g, z, cmp3_self] <;> omega)))
    | (with_reducible refine cl_go ?_; simp (disch := omega) only [not_false_eq_true, not_true_eq_false, w32_id, tLt, fLt, tLe, fEq, itE, and_true, true_and, and_self, and_false, false_and, ↓reduceIte, nat_add, nat_mul3, nat_mul4, nat_mul6, nat_mul15, nat_mul60, nat_cast, nc1, Int.reduceToNat, upE, upN, fill_ne, fill_in, i0, g, z, cmp3_self])
    | with_reducible exact e1
    | with_reducible exact e2
    | (with_reducible refine rn_go ?_; simp (disch := omega) only [not_false_eq_true, not_true_eq_false, w32_id, tLt, fLt, tLe, fEq, itE, and_true, true_and, and_self, and_false, false_and, ↓reduceIte, nat_add, nat_mul3, nat_mul4, nat_mul6, nat_mul15, nat_mul60, nat_cast, nc1, Int.reduceToNat, upE, upN, fill_ne, fill_in, i0, g, z, cmp3_self])
    | (with_reducible refine lf_go ?_; simp (disch := omega) only [not_false_eq_true, not_true_eq_false, w32_id, tLt, fLt, tLe, fEq, itE, and_true, true_and, and_self, and_false, false_and, ↓reduceIte, nat_add, nat_mul3, nat_mul4, nat_mul6, nat_mul15, nat_mul60, nat_cast, nc1, Int.reduceToNat, upE, upN, fill_ne, fill_in, i0, g, z, cmp3_self])
    | with_reducible exact rfl
theorem lw_tonsIn (hx : ∀ j, i32 (xs j)) (h : Rel xs M A N B P) (hi : i + 6 ≤ L) (hL : L ≤ 3072) : Nx xs L i 1694 M := by
  have g := h.2.1
  obtain ⟨x, M1, M2, A', N', B', P', e1, e2, z, r⟩ := lw_I L (case_tonsIn (xs (i + 1)) (xs (i + 2))) ty_tonsIn ⟨trivial, trivial, trivial⟩ h
  refine ⟨M2, A', N', B', P', ?_, r⟩
  rw [b_Law_1694]
  repeat' first
    | (with_reducible apply bR_go; (simp (disch := omega) only [rM L, rK L, rN L, rNf, rNv, rNp, rNd, rRow, rLeg, rMark, nat_cast, Int.reduceToNat, g, z, cmp3_self]; with_reducible exact rfl))
    | with_reducible apply bI_go
    | with_reducible apply bV_go
    | with_reducible apply bL_go
    | (with_reducible apply it_1; (first | omega | (simp (disch := omega) only [not_false_eq_true, not_true_eq_false, w32_id, tLt, fLt, tLe, fEq, itE, and_true, true_and, and_self, and_false, false_and, ↓reduceIte, nat_add, nat_mul3, nat_mul4, nat_mul6, nat_mul15, nat_mul60, nat_cast, nc1, Int.reduceToNat, upE, upN, fill_ne, fill_in, i0, g, z, cmp3_self] <;> omega)))
    | (with_reducible apply it_2; (first | omega | (simp (disch := omega) only [not_false_eq_true, not_true_eq_false, w32_id, tLt, fLt, tLe, fEq, itE, and_true, true_and, and_self, and_false, false_and, ↓reduceIte, nat_add, nat_mul3, nat_mul4, nat_mul6, nat_mul15, nat_mul60, nat_cast, nc1, Int.reduceToNat, upE, upN, fill_ne, fill_in, i0, g, z, cmp3_self] <;> omega)))
    | (with_reducible refine cl_go ?_; simp (disch := omega) only [not_false_eq_true, not_true_eq_false, w32_id, tLt, fLt, tLe, fEq, itE, and_true, true_and, and_self, and_false, false_and, ↓reduceIte, nat_add, nat_mul3, nat_mul4, nat_mul6, nat_mul15, nat_mul60, nat_cast, nc1, Int.reduceToNat, upE, upN, fill_ne, fill_in, i0, g, z, cmp3_self])
    | with_reducible exact e1
    | with_reducible exact e2
    | (with_reducible refine rn_go ?_; simp (disch := omega) only [not_false_eq_true, not_true_eq_false, w32_id, tLt, fLt, tLe, fEq, itE, and_true, true_and, and_self, and_false, false_and, ↓reduceIte, nat_add, nat_mul3, nat_mul4, nat_mul6, nat_mul15, nat_mul60, nat_cast, nc1, Int.reduceToNat, upE, upN, fill_ne, fill_in, i0, g, z, cmp3_self])
    | (with_reducible refine lf_go ?_; simp (disch := omega) only [not_false_eq_true, not_true_eq_false, w32_id, tLt, fLt, tLe, fEq, itE, and_true, true_and, and_self, and_false, false_and, ↓reduceIte, nat_add, nat_mul3, nat_mul4, nat_mul6, nat_mul15, nat_mul60, nat_cast, nc1, Int.reduceToNat, upE, upN, fill_ne, fill_in, i0, g, z, cmp3_self])
    | with_reducible exact rfl
theorem lw_turns (hx : ∀ j, i32 (xs j)) (h : Rel xs M A N B P) (hi : i + 6 ≤ L) (hL : L ≤ 3072) : Nx xs L i 1727 M := by
  have g := h.2.1
  obtain ⟨x, M1, M2, A', N', B', P', e1, e2, z, r⟩ := lw_I L (case_turns (xs (i + 1))) ty_turns ⟨trivial, trivial⟩ h
  refine ⟨M2, A', N', B', P', ?_, r⟩
  rw [b_Law_1727]
  repeat' first
    | (with_reducible apply bR_go; (simp (disch := omega) only [rM L, rK L, rN L, rNf, rNv, rNp, rNd, rRow, rLeg, rMark, nat_cast, Int.reduceToNat, g, z, cmp3_self]; with_reducible exact rfl))
    | with_reducible apply bI_go
    | with_reducible apply bV_go
    | with_reducible apply bL_go
    | (with_reducible apply it_1; (first | omega | (simp (disch := omega) only [not_false_eq_true, not_true_eq_false, w32_id, tLt, fLt, tLe, fEq, itE, and_true, true_and, and_self, and_false, false_and, ↓reduceIte, nat_add, nat_mul3, nat_mul4, nat_mul6, nat_mul15, nat_mul60, nat_cast, nc1, Int.reduceToNat, upE, upN, fill_ne, fill_in, i0, g, z, cmp3_self] <;> omega)))
    | (with_reducible apply it_2; (first | omega | (simp (disch := omega) only [not_false_eq_true, not_true_eq_false, w32_id, tLt, fLt, tLe, fEq, itE, and_true, true_and, and_self, and_false, false_and, ↓reduceIte, nat_add, nat_mul3, nat_mul4, nat_mul6, nat_mul15, nat_mul60, nat_cast, nc1, Int.reduceToNat, upE, upN, fill_ne, fill_in, i0, g, z, cmp3_self] <;> omega)))
    | (with_reducible refine cl_go ?_; simp (disch := omega) only [not_false_eq_true, not_true_eq_false, w32_id, tLt, fLt, tLe, fEq, itE, and_true, true_and, and_self, and_false, false_and, ↓reduceIte, nat_add, nat_mul3, nat_mul4, nat_mul6, nat_mul15, nat_mul60, nat_cast, nc1, Int.reduceToNat, upE, upN, fill_ne, fill_in, i0, g, z, cmp3_self])
    | with_reducible exact e1
    | with_reducible exact e2
    | (with_reducible refine rn_go ?_; simp (disch := omega) only [not_false_eq_true, not_true_eq_false, w32_id, tLt, fLt, tLe, fEq, itE, and_true, true_and, and_self, and_false, false_and, ↓reduceIte, nat_add, nat_mul3, nat_mul4, nat_mul6, nat_mul15, nat_mul60, nat_cast, nc1, Int.reduceToNat, upE, upN, fill_ne, fill_in, i0, g, z, cmp3_self])
    | (with_reducible refine lf_go ?_; simp (disch := omega) only [not_false_eq_true, not_true_eq_false, w32_id, tLt, fLt, tLe, fEq, itE, and_true, true_and, and_self, and_false, false_and, ↓reduceIte, nat_add, nat_mul3, nat_mul4, nat_mul6, nat_mul15, nat_mul60, nat_cast, nc1, Int.reduceToNat, upE, upN, fill_ne, fill_in, i0, g, z, cmp3_self])
    | with_reducible exact rfl
theorem lw_flags (hx : ∀ j, i32 (xs j)) (h : Rel xs M A N B P) (hi : i + 6 ≤ L) (hL : L ≤ 3072) : Nx xs L i 1750 M := by
  have g := h.2.1
  obtain ⟨x, M1, M2, A', N', B', P', e1, e2, z, r⟩ := lw_I L (case_flags (xs (i + 1)) (xs (i + 2))) ty_flags ⟨trivial, trivial, trivial⟩ h
  refine ⟨M2, A', N', B', P', ?_, r⟩
  rw [b_Law_1750]
  repeat' first
    | (with_reducible apply bR_go; (simp (disch := omega) only [rM L, rK L, rN L, rNf, rNv, rNp, rNd, rRow, rLeg, rMark, nat_cast, Int.reduceToNat, g, z, cmp3_self]; with_reducible exact rfl))
    | with_reducible apply bI_go
    | with_reducible apply bV_go
    | with_reducible apply bL_go
    | (with_reducible apply it_1; (first | omega | (simp (disch := omega) only [not_false_eq_true, not_true_eq_false, w32_id, tLt, fLt, tLe, fEq, itE, and_true, true_and, and_self, and_false, false_and, ↓reduceIte, nat_add, nat_mul3, nat_mul4, nat_mul6, nat_mul15, nat_mul60, nat_cast, nc1, Int.reduceToNat, upE, upN, fill_ne, fill_in, i0, g, z, cmp3_self] <;> omega)))
    | (with_reducible apply it_2; (first | omega | (simp (disch := omega) only [not_false_eq_true, not_true_eq_false, w32_id, tLt, fLt, tLe, fEq, itE, and_true, true_and, and_self, and_false, false_and, ↓reduceIte, nat_add, nat_mul3, nat_mul4, nat_mul6, nat_mul15, nat_mul60, nat_cast, nc1, Int.reduceToNat, upE, upN, fill_ne, fill_in, i0, g, z, cmp3_self] <;> omega)))
    | (with_reducible refine cl_go ?_; simp (disch := omega) only [not_false_eq_true, not_true_eq_false, w32_id, tLt, fLt, tLe, fEq, itE, and_true, true_and, and_self, and_false, false_and, ↓reduceIte, nat_add, nat_mul3, nat_mul4, nat_mul6, nat_mul15, nat_mul60, nat_cast, nc1, Int.reduceToNat, upE, upN, fill_ne, fill_in, i0, g, z, cmp3_self])
    | with_reducible exact e1
    | with_reducible exact e2
    | (with_reducible refine rn_go ?_; simp (disch := omega) only [not_false_eq_true, not_true_eq_false, w32_id, tLt, fLt, tLe, fEq, itE, and_true, true_and, and_self, and_false, false_and, ↓reduceIte, nat_add, nat_mul3, nat_mul4, nat_mul6, nat_mul15, nat_mul60, nat_cast, nc1, Int.reduceToNat, upE, upN, fill_ne, fill_in, i0, g, z, cmp3_self])
    | (with_reducible refine lf_go ?_; simp (disch := omega) only [not_false_eq_true, not_true_eq_false, w32_id, tLt, fLt, tLe, fEq, itE, and_true, true_and, and_self, and_false, false_and, ↓reduceIte, nat_add, nat_mul3, nat_mul4, nat_mul6, nat_mul15, nat_mul60, nat_cast, nc1, Int.reduceToNat, upE, upN, fill_ne, fill_in, i0, g, z, cmp3_self])
    | with_reducible exact rfl
theorem lw_wages (hx : ∀ j, i32 (xs j)) (h : Rel xs M A N B P) (hi : i + 6 ≤ L) (hL : L ≤ 3072) : Nx xs L i 1783 M := by
  have g := h.2.1
  obtain ⟨x, M1, M2, A', N', B', P', e1, e2, z, r⟩ := lw_I L (case_wages (xs (i + 1)) (xs (i + 2))) ty_wages ⟨trivial, trivial, trivial⟩ h
  refine ⟨M2, A', N', B', P', ?_, r⟩
  rw [b_Law_1783]
  repeat' first
    | (with_reducible apply bR_go; (simp (disch := omega) only [rM L, rK L, rN L, rNf, rNv, rNp, rNd, rRow, rLeg, rMark, nat_cast, Int.reduceToNat, g, z, cmp3_self]; with_reducible exact rfl))
    | with_reducible apply bI_go
    | with_reducible apply bV_go
    | with_reducible apply bL_go
    | (with_reducible apply it_1; (first | omega | (simp (disch := omega) only [not_false_eq_true, not_true_eq_false, w32_id, tLt, fLt, tLe, fEq, itE, and_true, true_and, and_self, and_false, false_and, ↓reduceIte, nat_add, nat_mul3, nat_mul4, nat_mul6, nat_mul15, nat_mul60, nat_cast, nc1, Int.reduceToNat, upE, upN, fill_ne, fill_in, i0, g, z, cmp3_self] <;> omega)))
    | (with_reducible apply it_2; (first | omega | (simp (disch := omega) only [not_false_eq_true, not_true_eq_false, w32_id, tLt, fLt, tLe, fEq, itE, and_true, true_and, and_self, and_false, false_and, ↓reduceIte, nat_add, nat_mul3, nat_mul4, nat_mul6, nat_mul15, nat_mul60, nat_cast, nc1, Int.reduceToNat, upE, upN, fill_ne, fill_in, i0, g, z, cmp3_self] <;> omega)))
    | (with_reducible refine cl_go ?_; simp (disch := omega) only [not_false_eq_true, not_true_eq_false, w32_id, tLt, fLt, tLe, fEq, itE, and_true, true_and, and_self, and_false, false_and, ↓reduceIte, nat_add, nat_mul3, nat_mul4, nat_mul6, nat_mul15, nat_mul60, nat_cast, nc1, Int.reduceToNat, upE, upN, fill_ne, fill_in, i0, g, z, cmp3_self])
    | with_reducible exact e1
    | with_reducible exact e2
    | (with_reducible refine rn_go ?_; simp (disch := omega) only [not_false_eq_true, not_true_eq_false, w32_id, tLt, fLt, tLe, fEq, itE, and_true, true_and, and_self, and_false, false_and, ↓reduceIte, nat_add, nat_mul3, nat_mul4, nat_mul6, nat_mul15, nat_mul60, nat_cast, nc1, Int.reduceToNat, upE, upN, fill_ne, fill_in, i0, g, z, cmp3_self])
    | (with_reducible refine lf_go ?_; simp (disch := omega) only [not_false_eq_true, not_true_eq_false, w32_id, tLt, fLt, tLe, fEq, itE, and_true, true_and, and_self, and_false, false_and, ↓reduceIte, nat_add, nat_mul3, nat_mul4, nat_mul6, nat_mul15, nat_mul60, nat_cast, nc1, Int.reduceToNat, upE, upN, fill_ne, fill_in, i0, g, z, cmp3_self])
    | with_reducible exact rfl
theorem lw_stowaway (hx : ∀ j, i32 (xs j)) (h : Rel xs M A N B P) (hi : i + 6 ≤ L) (hL : L ≤ 3072) : Nx xs L i 1816 M := by
  have g := h.2.1
  obtain ⟨x, M1, M2, A', N', B', P', e1, e2, z, r⟩ := lw_I L (case_stowaway (xs (i + 1))) ty_stowaway ⟨trivial, trivial⟩ h
  refine ⟨M2, A', N', B', P', ?_, r⟩
  rw [b_Law_1816]
  repeat' first
    | (with_reducible apply bR_go; (simp (disch := omega) only [rM L, rK L, rN L, rNf, rNv, rNp, rNd, rRow, rLeg, rMark, nat_cast, Int.reduceToNat, g, z, cmp3_self]; with_reducible exact rfl))
    | with_reducible apply bI_go
    | with_reducible apply bV_go
    | with_reducible apply bL_go
    | (with_reducible apply it_1; (first | omega | (simp (disch := omega) only [not_false_eq_true, not_true_eq_false, w32_id, tLt, fLt, tLe, fEq, itE, and_true, true_and, and_self, and_false, false_and, ↓reduceIte, nat_add, nat_mul3, nat_mul4, nat_mul6, nat_mul15, nat_mul60, nat_cast, nc1, Int.reduceToNat, upE, upN, fill_ne, fill_in, i0, g, z, cmp3_self] <;> omega)))
    | (with_reducible apply it_2; (first | omega | (simp (disch := omega) only [not_false_eq_true, not_true_eq_false, w32_id, tLt, fLt, tLe, fEq, itE, and_true, true_and, and_self, and_false, false_and, ↓reduceIte, nat_add, nat_mul3, nat_mul4, nat_mul6, nat_mul15, nat_mul60, nat_cast, nc1, Int.reduceToNat, upE, upN, fill_ne, fill_in, i0, g, z, cmp3_self] <;> omega)))
    | (with_reducible refine cl_go ?_; simp (disch := omega) only [not_false_eq_true, not_true_eq_false, w32_id, tLt, fLt, tLe, fEq, itE, and_true, true_and, and_self, and_false, false_and, ↓reduceIte, nat_add, nat_mul3, nat_mul4, nat_mul6, nat_mul15, nat_mul60, nat_cast, nc1, Int.reduceToNat, upE, upN, fill_ne, fill_in, i0, g, z, cmp3_self])
    | with_reducible exact e1
    | with_reducible exact e2
    | (with_reducible refine rn_go ?_; simp (disch := omega) only [not_false_eq_true, not_true_eq_false, w32_id, tLt, fLt, tLe, fEq, itE, and_true, true_and, and_self, and_false, false_and, ↓reduceIte, nat_add, nat_mul3, nat_mul4, nat_mul6, nat_mul15, nat_mul60, nat_cast, nc1, Int.reduceToNat, upE, upN, fill_ne, fill_in, i0, g, z, cmp3_self])
    | (with_reducible refine lf_go ?_; simp (disch := omega) only [not_false_eq_true, not_true_eq_false, w32_id, tLt, fLt, tLe, fEq, itE, and_true, true_and, and_self, and_false, false_and, ↓reduceIte, nat_add, nat_mul3, nat_mul4, nat_mul6, nat_mul15, nat_mul60, nat_cast, nc1, Int.reduceToNat, upE, upN, fill_ne, fill_in, i0, g, z, cmp3_self])
    | with_reducible exact rfl
theorem lw_stowawayGood (hx : ∀ j, i32 (xs j)) (h : Rel xs M A N B P) (hi : i + 6 ≤ L) (hL : L ≤ 3072) : Nx xs L i 1839 M := by
  have g := h.2.1
  obtain ⟨x, M1, M2, A', N', B', P', e1, e2, z, r⟩ := lw_I L (case_stowawayGood (xs (i + 1))) ty_stowawayGood ⟨trivial, trivial⟩ h
  refine ⟨M2, A', N', B', P', ?_, r⟩
  rw [b_Law_1839]
  repeat' first
    | (with_reducible apply bR_go; (simp (disch := omega) only [rM L, rK L, rN L, rNf, rNv, rNp, rNd, rRow, rLeg, rMark, nat_cast, Int.reduceToNat, g, z, cmp3_self]; with_reducible exact rfl))
    | with_reducible apply bI_go
    | with_reducible apply bV_go
    | with_reducible apply bL_go
    | (with_reducible apply it_1; (first | omega | (simp (disch := omega) only [not_false_eq_true, not_true_eq_false, w32_id, tLt, fLt, tLe, fEq, itE, and_true, true_and, and_self, and_false, false_and, ↓reduceIte, nat_add, nat_mul3, nat_mul4, nat_mul6, nat_mul15, nat_mul60, nat_cast, nc1, Int.reduceToNat, upE, upN, fill_ne, fill_in, i0, g, z, cmp3_self] <;> omega)))
    | (with_reducible apply it_2; (first | omega | (simp (disch := omega) only [not_false_eq_true, not_true_eq_false, w32_id, tLt, fLt, tLe, fEq, itE, and_true, true_and, and_self, and_false, false_and, ↓reduceIte, nat_add, nat_mul3, nat_mul4, nat_mul6, nat_mul15, nat_mul60, nat_cast, nc1, Int.reduceToNat, upE, upN, fill_ne, fill_in, i0, g, z, cmp3_self] <;> omega)))
    | (with_reducible refine cl_go ?_; simp (disch := omega) only [not_false_eq_true, not_true_eq_false, w32_id, tLt, fLt, tLe, fEq, itE, and_true, true_and, and_self, and_false, false_and, ↓reduceIte, nat_add, nat_mul3, nat_mul4, nat_mul6, nat_mul15, nat_mul60, nat_cast, nc1, Int.reduceToNat, upE, upN, fill_ne, fill_in, i0, g, z, cmp3_self])
    | with_reducible exact e1
    | with_reducible exact e2
    | (with_reducible refine rn_go ?_; simp (disch := omega) only [not_false_eq_true, not_true_eq_false, w32_id, tLt, fLt, tLe, fEq, itE, and_true, true_and, and_self, and_false, false_and, ↓reduceIte, nat_add, nat_mul3, nat_mul4, nat_mul6, nat_mul15, nat_mul60, nat_cast, nc1, Int.reduceToNat, upE, upN, fill_ne, fill_in, i0, g, z, cmp3_self])
    | (with_reducible refine lf_go ?_; simp (disch := omega) only [not_false_eq_true, not_true_eq_false, w32_id, tLt, fLt, tLe, fEq, itE, and_true, true_and, and_self, and_false, false_and, ↓reduceIte, nat_add, nat_mul3, nat_mul4, nat_mul6, nat_mul15, nat_mul60, nat_cast, nc1, Int.reduceToNat, upE, upN, fill_ne, fill_in, i0, g, z, cmp3_self])
    | with_reducible exact rfl
theorem lw_guard (hx : ∀ j, i32 (xs j)) (h : Rel xs M A N B P) (hi : i + 6 ≤ L) (hL : L ≤ 3072) : Nx xs L i 1862 M := by
  have g := h.2.1
  obtain ⟨x, M1, M2, A', N', B', P', e1, e2, z, r⟩ := lw_I L (case_guard (xs (i + 1)) (xs (i + 2))) ty_guard ⟨trivial, trivial, trivial⟩ h
  refine ⟨M2, A', N', B', P', ?_, r⟩
  rw [b_Law_1862]
  repeat' first
    | (with_reducible apply bR_go; (simp (disch := omega) only [rM L, rK L, rN L, rNf, rNv, rNp, rNd, rRow, rLeg, rMark, nat_cast, Int.reduceToNat, g, z, cmp3_self]; with_reducible exact rfl))
    | with_reducible apply bI_go
    | with_reducible apply bV_go
    | with_reducible apply bL_go
    | (with_reducible apply it_1; (first | omega | (simp (disch := omega) only [not_false_eq_true, not_true_eq_false, w32_id, tLt, fLt, tLe, fEq, itE, and_true, true_and, and_self, and_false, false_and, ↓reduceIte, nat_add, nat_mul3, nat_mul4, nat_mul6, nat_mul15, nat_mul60, nat_cast, nc1, Int.reduceToNat, upE, upN, fill_ne, fill_in, i0, g, z, cmp3_self] <;> omega)))
    | (with_reducible apply it_2; (first | omega | (simp (disch := omega) only [not_false_eq_true, not_true_eq_false, w32_id, tLt, fLt, tLe, fEq, itE, and_true, true_and, and_self, and_false, false_and, ↓reduceIte, nat_add, nat_mul3, nat_mul4, nat_mul6, nat_mul15, nat_mul60, nat_cast, nc1, Int.reduceToNat, upE, upN, fill_ne, fill_in, i0, g, z, cmp3_self] <;> omega)))
    | (with_reducible refine cl_go ?_; simp (disch := omega) only [not_false_eq_true, not_true_eq_false, w32_id, tLt, fLt, tLe, fEq, itE, and_true, true_and, and_self, and_false, false_and, ↓reduceIte, nat_add, nat_mul3, nat_mul4, nat_mul6, nat_mul15, nat_mul60, nat_cast, nc1, Int.reduceToNat, upE, upN, fill_ne, fill_in, i0, g, z, cmp3_self])
    | with_reducible exact e1
    | with_reducible exact e2
    | (with_reducible refine rn_go ?_; simp (disch := omega) only [not_false_eq_true, not_true_eq_false, w32_id, tLt, fLt, tLe, fEq, itE, and_true, true_and, and_self, and_false, false_and, ↓reduceIte, nat_add, nat_mul3, nat_mul4, nat_mul6, nat_mul15, nat_mul60, nat_cast, nc1, Int.reduceToNat, upE, upN, fill_ne, fill_in, i0, g, z, cmp3_self])
    | (with_reducible refine lf_go ?_; simp (disch := omega) only [not_false_eq_true, not_true_eq_false, w32_id, tLt, fLt, tLe, fEq, itE, and_true, true_and, and_self, and_false, false_and, ↓reduceIte, nat_add, nat_mul3, nat_mul4, nat_mul6, nat_mul15, nat_mul60, nat_cast, nc1, Int.reduceToNat, upE, upN, fill_ne, fill_in, i0, g, z, cmp3_self])
    | with_reducible exact rfl
theorem lw_passFor (hx : ∀ j, i32 (xs j)) (h : Rel xs M A N B P) (hi : i + 6 ≤ L) (hL : L ≤ 3072) : Nx xs L i 1895 M := by
  have g := h.2.1
  obtain ⟨x, M1, M2, A', N', B', P', e1, e2, z, r⟩ := lw_I L (case_passFor (xs (i + 1)) (xs (i + 2))) ty_passFor ⟨trivial, trivial, trivial⟩ h
  refine ⟨M2, A', N', B', P', ?_, r⟩
  rw [b_Law_1895]
  repeat' first
    | (with_reducible apply bR_go; (simp (disch := omega) only [rM L, rK L, rN L, rNf, rNv, rNp, rNd, rRow, rLeg, rMark, nat_cast, Int.reduceToNat, g, z, cmp3_self]; with_reducible exact rfl))
    | with_reducible apply bI_go
    | with_reducible apply bV_go
    | with_reducible apply bL_go
    | (with_reducible apply it_1; (first | omega | (simp (disch := omega) only [not_false_eq_true, not_true_eq_false, w32_id, tLt, fLt, tLe, fEq, itE, and_true, true_and, and_self, and_false, false_and, ↓reduceIte, nat_add, nat_mul3, nat_mul4, nat_mul6, nat_mul15, nat_mul60, nat_cast, nc1, Int.reduceToNat, upE, upN, fill_ne, fill_in, i0, g, z, cmp3_self] <;> omega)))
    | (with_reducible apply it_2; (first | omega | (simp (disch := omega) only [not_false_eq_true, not_true_eq_false, w32_id, tLt, fLt, tLe, fEq, itE, and_true, true_and, and_self, and_false, false_and, ↓reduceIte, nat_add, nat_mul3, nat_mul4, nat_mul6, nat_mul15, nat_mul60, nat_cast, nc1, Int.reduceToNat, upE, upN, fill_ne, fill_in, i0, g, z, cmp3_self] <;> omega)))
    | (with_reducible refine cl_go ?_; simp (disch := omega) only [not_false_eq_true, not_true_eq_false, w32_id, tLt, fLt, tLe, fEq, itE, and_true, true_and, and_self, and_false, false_and, ↓reduceIte, nat_add, nat_mul3, nat_mul4, nat_mul6, nat_mul15, nat_mul60, nat_cast, nc1, Int.reduceToNat, upE, upN, fill_ne, fill_in, i0, g, z, cmp3_self])
    | with_reducible exact e1
    | with_reducible exact e2
    | (with_reducible refine rn_go ?_; simp (disch := omega) only [not_false_eq_true, not_true_eq_false, w32_id, tLt, fLt, tLe, fEq, itE, and_true, true_and, and_self, and_false, false_and, ↓reduceIte, nat_add, nat_mul3, nat_mul4, nat_mul6, nat_mul15, nat_mul60, nat_cast, nc1, Int.reduceToNat, upE, upN, fill_ne, fill_in, i0, g, z, cmp3_self])
    | (with_reducible refine lf_go ?_; simp (disch := omega) only [not_false_eq_true, not_true_eq_false, w32_id, tLt, fLt, tLe, fEq, itE, and_true, true_and, and_self, and_false, false_and, ↓reduceIte, nat_add, nat_mul3, nat_mul4, nat_mul6, nat_mul15, nat_mul60, nat_cast, nc1, Int.reduceToNat, upE, upN, fill_ne, fill_in, i0, g, z, cmp3_self])
    | with_reducible exact rfl
theorem lw_passGood (hx : ∀ j, i32 (xs j)) (h : Rel xs M A N B P) (hi : i + 6 ≤ L) (hL : L ≤ 3072) : Nx xs L i 1928 M := by
  have g := h.2.1
  obtain ⟨x, M1, M2, A', N', B', P', e1, e2, z, r⟩ := lw_I L (case_passGood (xs (i + 1)) (xs (i + 2))) ty_passGood ⟨trivial, trivial, trivial⟩ h
  refine ⟨M2, A', N', B', P', ?_, r⟩
  rw [b_Law_1928]
  repeat' first
    | (with_reducible apply bR_go; (simp (disch := omega) only [rM L, rK L, rN L, rNf, rNv, rNp, rNd, rRow, rLeg, rMark, nat_cast, Int.reduceToNat, g, z, cmp3_self]; with_reducible exact rfl))
    | with_reducible apply bI_go
    | with_reducible apply bV_go
    | with_reducible apply bL_go
    | (with_reducible apply it_1; (first | omega | (simp (disch := omega) only [not_false_eq_true, not_true_eq_false, w32_id, tLt, fLt, tLe, fEq, itE, and_true, true_and, and_self, and_false, false_and, ↓reduceIte, nat_add, nat_mul3, nat_mul4, nat_mul6, nat_mul15, nat_mul60, nat_cast, nc1, Int.reduceToNat, upE, upN, fill_ne, fill_in, i0, g, z, cmp3_self] <;> omega)))
    | (with_reducible apply it_2; (first | omega | (simp (disch := omega) only [not_false_eq_true, not_true_eq_false, w32_id, tLt, fLt, tLe, fEq, itE, and_true, true_and, and_self, and_false, false_and, ↓reduceIte, nat_add, nat_mul3, nat_mul4, nat_mul6, nat_mul15, nat_mul60, nat_cast, nc1, Int.reduceToNat, upE, upN, fill_ne, fill_in, i0, g, z, cmp3_self] <;> omega)))
    | (with_reducible refine cl_go ?_; simp (disch := omega) only [not_false_eq_true, not_true_eq_false, w32_id, tLt, fLt, tLe, fEq, itE, and_true, true_and, and_self, and_false, false_and, ↓reduceIte, nat_add, nat_mul3, nat_mul4, nat_mul6, nat_mul15, nat_mul60, nat_cast, nc1, Int.reduceToNat, upE, upN, fill_ne, fill_in, i0, g, z, cmp3_self])
    | with_reducible exact e1
    | with_reducible exact e2
    | (with_reducible refine rn_go ?_; simp (disch := omega) only [not_false_eq_true, not_true_eq_false, w32_id, tLt, fLt, tLe, fEq, itE, and_true, true_and, and_self, and_false, false_and, ↓reduceIte, nat_add, nat_mul3, nat_mul4, nat_mul6, nat_mul15, nat_mul60, nat_cast, nc1, Int.reduceToNat, upE, upN, fill_ne, fill_in, i0, g, z, cmp3_self])
    | (with_reducible refine lf_go ?_; simp (disch := omega) only [not_false_eq_true, not_true_eq_false, w32_id, tLt, fLt, tLe, fEq, itE, and_true, true_and, and_self, and_false, false_and, ↓reduceIte, nat_add, nat_mul3, nat_mul4, nat_mul6, nat_mul15, nat_mul60, nat_cast, nc1, Int.reduceToNat, upE, upN, fill_ne, fill_in, i0, g, z, cmp3_self])
    | with_reducible exact rfl
theorem lw_peace (hx : ∀ j, i32 (xs j)) (h : Rel xs M A N B P) (hi : i + 6 ≤ L) (hL : L ≤ 3072) : Nx xs L i 1961 M := by
  have g := h.2.1
  obtain ⟨x, M1, M2, A', N', B', P', e1, e2, z, r⟩ := lw_I L (case_peace (xs (i + 1))) ty_peace ⟨trivial, trivial⟩ h
  refine ⟨M2, A', N', B', P', ?_, r⟩
  rw [b_Law_1961]
  repeat' first
    | (with_reducible apply bR_go; (simp (disch := omega) only [rM L, rK L, rN L, rNf, rNv, rNp, rNd, rRow, rLeg, rMark, nat_cast, Int.reduceToNat, g, z, cmp3_self]; with_reducible exact rfl))
    | with_reducible apply bI_go
    | with_reducible apply bV_go
    | with_reducible apply bL_go
    | (with_reducible apply it_1; (first | omega | (simp (disch := omega) only [not_false_eq_true, not_true_eq_false, w32_id, tLt, fLt, tLe, fEq, itE, and_true, true_and, and_self, and_false, false_and, ↓reduceIte, nat_add, nat_mul3, nat_mul4, nat_mul6, nat_mul15, nat_mul60, nat_cast, nc1, Int.reduceToNat, upE, upN, fill_ne, fill_in, i0, g, z, cmp3_self] <;> omega)))
    | (with_reducible apply it_2; (first | omega | (simp (disch := omega) only [not_false_eq_true, not_true_eq_false, w32_id, tLt, fLt, tLe, fEq, itE, and_true, true_and, and_self, and_false, false_and, ↓reduceIte, nat_add, nat_mul3, nat_mul4, nat_mul6, nat_mul15, nat_mul60, nat_cast, nc1, Int.reduceToNat, upE, upN, fill_ne, fill_in, i0, g, z, cmp3_self] <;> omega)))
    | (with_reducible refine cl_go ?_; simp (disch := omega) only [not_false_eq_true, not_true_eq_false, w32_id, tLt, fLt, tLe, fEq, itE, and_true, true_and, and_self, and_false, false_and, ↓reduceIte, nat_add, nat_mul3, nat_mul4, nat_mul6, nat_mul15, nat_mul60, nat_cast, nc1, Int.reduceToNat, upE, upN, fill_ne, fill_in, i0, g, z, cmp3_self])
    | with_reducible exact e1
    | with_reducible exact e2
    | (with_reducible refine rn_go ?_; simp (disch := omega) only [not_false_eq_true, not_true_eq_false, w32_id, tLt, fLt, tLe, fEq, itE, and_true, true_and, and_self, and_false, false_and, ↓reduceIte, nat_add, nat_mul3, nat_mul4, nat_mul6, nat_mul15, nat_mul60, nat_cast, nc1, Int.reduceToNat, upE, upN, fill_ne, fill_in, i0, g, z, cmp3_self])
    | (with_reducible refine lf_go ?_; simp (disch := omega) only [not_false_eq_true, not_true_eq_false, w32_id, tLt, fLt, tLe, fEq, itE, and_true, true_and, and_self, and_false, false_and, ↓reduceIte, nat_add, nat_mul3, nat_mul4, nat_mul6, nat_mul15, nat_mul60, nat_cast, nc1, Int.reduceToNat, upE, upN, fill_ne, fill_in, i0, g, z, cmp3_self])
    | with_reducible exact rfl
theorem lw_peaceCost (hx : ∀ j, i32 (xs j)) (h : Rel xs M A N B P) (hi : i + 6 ≤ L) (hL : L ≤ 3072) : Nx xs L i 1984 M := by
  have g := h.2.1
  obtain ⟨x, M1, M2, A', N', B', P', e1, e2, z, r⟩ := lw_I L (case_peaceCost (xs (i + 1))) ty_peaceCost ⟨trivial, trivial⟩ h
  refine ⟨M2, A', N', B', P', ?_, r⟩
  rw [b_Law_1984]
  repeat' first
    | (with_reducible apply bR_go; (simp (disch := omega) only [rM L, rK L, rN L, rNf, rNv, rNp, rNd, rRow, rLeg, rMark, nat_cast, Int.reduceToNat, g, z, cmp3_self]; with_reducible exact rfl))
    | with_reducible apply bI_go
    | with_reducible apply bV_go
    | with_reducible apply bL_go
    | (with_reducible apply it_1; (first | omega | (simp (disch := omega) only [not_false_eq_true, not_true_eq_false, w32_id, tLt, fLt, tLe, fEq, itE, and_true, true_and, and_self, and_false, false_and, ↓reduceIte, nat_add, nat_mul3, nat_mul4, nat_mul6, nat_mul15, nat_mul60, nat_cast, nc1, Int.reduceToNat, upE, upN, fill_ne, fill_in, i0, g, z, cmp3_self] <;> omega)))
    | (with_reducible apply it_2; (first | omega | (simp (disch := omega) only [not_false_eq_true, not_true_eq_false, w32_id, tLt, fLt, tLe, fEq, itE, and_true, true_and, and_self, and_false, false_and, ↓reduceIte, nat_add, nat_mul3, nat_mul4, nat_mul6, nat_mul15, nat_mul60, nat_cast, nc1, Int.reduceToNat, upE, upN, fill_ne, fill_in, i0, g, z, cmp3_self] <;> omega)))
    | (with_reducible refine cl_go ?_; simp (disch := omega) only [not_false_eq_true, not_true_eq_false, w32_id, tLt, fLt, tLe, fEq, itE, and_true, true_and, and_self, and_false, false_and, ↓reduceIte, nat_add, nat_mul3, nat_mul4, nat_mul6, nat_mul15, nat_mul60, nat_cast, nc1, Int.reduceToNat, upE, upN, fill_ne, fill_in, i0, g, z, cmp3_self])
    | with_reducible exact e1
    | with_reducible exact e2
    | (with_reducible refine rn_go ?_; simp (disch := omega) only [not_false_eq_true, not_true_eq_false, w32_id, tLt, fLt, tLe, fEq, itE, and_true, true_and, and_self, and_false, false_and, ↓reduceIte, nat_add, nat_mul3, nat_mul4, nat_mul6, nat_mul15, nat_mul60, nat_cast, nc1, Int.reduceToNat, upE, upN, fill_ne, fill_in, i0, g, z, cmp3_self])
    | (with_reducible refine lf_go ?_; simp (disch := omega) only [not_false_eq_true, not_true_eq_false, w32_id, tLt, fLt, tLe, fEq, itE, and_true, true_and, and_self, and_false, false_and, ↓reduceIte, nat_add, nat_mul3, nat_mul4, nat_mul6, nat_mul15, nat_mul60, nat_cast, nc1, Int.reduceToNat, upE, upN, fill_ne, fill_in, i0, g, z, cmp3_self])
    | with_reducible exact rfl
theorem lw_voyage (hx : ∀ j, i32 (xs j)) (h : Rel xs M A N B P) (hi : i + 6 ≤ L) (hL : L ≤ 3072) : Nx xs L i 2007 M := by
  have g := h.2.1
  obtain ⟨x, M1, M2, A', N', B', P', e1, e2, z, r⟩ := lw_I L (case_voyage (xs (i + 1)) (xs (i + 2))) ty_voyage ⟨trivial, trivial, trivial⟩ h
  refine ⟨M2, A', N', B', P', ?_, r⟩
  rw [b_Law_2007]
  repeat' first
    | (with_reducible apply bR_go; (simp (disch := omega) only [rM L, rK L, rN L, rNf, rNv, rNp, rNd, rRow, rLeg, rMark, nat_cast, Int.reduceToNat, g, z, cmp3_self]; with_reducible exact rfl))
    | with_reducible apply bI_go
    | with_reducible apply bV_go
    | with_reducible apply bL_go
    | (with_reducible apply it_1; (first | omega | (simp (disch := omega) only [not_false_eq_true, not_true_eq_false, w32_id, tLt, fLt, tLe, fEq, itE, and_true, true_and, and_self, and_false, false_and, ↓reduceIte, nat_add, nat_mul3, nat_mul4, nat_mul6, nat_mul15, nat_mul60, nat_cast, nc1, Int.reduceToNat, upE, upN, fill_ne, fill_in, i0, g, z, cmp3_self] <;> omega)))
    | (with_reducible apply it_2; (first | omega | (simp (disch := omega) only [not_false_eq_true, not_true_eq_false, w32_id, tLt, fLt, tLe, fEq, itE, and_true, true_and, and_self, and_false, false_and, ↓reduceIte, nat_add, nat_mul3, nat_mul4, nat_mul6, nat_mul15, nat_mul60, nat_cast, nc1, Int.reduceToNat, upE, upN, fill_ne, fill_in, i0, g, z, cmp3_self] <;> omega)))
    | (with_reducible refine cl_go ?_; simp (disch := omega) only [not_false_eq_true, not_true_eq_false, w32_id, tLt, fLt, tLe, fEq, itE, and_true, true_and, and_self, and_false, false_and, ↓reduceIte, nat_add, nat_mul3, nat_mul4, nat_mul6, nat_mul15, nat_mul60, nat_cast, nc1, Int.reduceToNat, upE, upN, fill_ne, fill_in, i0, g, z, cmp3_self])
    | with_reducible exact e1
    | with_reducible exact e2
    | (with_reducible refine rn_go ?_; simp (disch := omega) only [not_false_eq_true, not_true_eq_false, w32_id, tLt, fLt, tLe, fEq, itE, and_true, true_and, and_self, and_false, false_and, ↓reduceIte, nat_add, nat_mul3, nat_mul4, nat_mul6, nat_mul15, nat_mul60, nat_cast, nc1, Int.reduceToNat, upE, upN, fill_ne, fill_in, i0, g, z, cmp3_self])
    | (with_reducible refine lf_go ?_; simp (disch := omega) only [not_false_eq_true, not_true_eq_false, w32_id, tLt, fLt, tLe, fEq, itE, and_true, true_and, and_self, and_false, false_and, ↓reduceIte, nat_add, nat_mul3, nat_mul4, nat_mul6, nat_mul15, nat_mul60, nat_cast, nc1, Int.reduceToNat, upE, upN, fill_ne, fill_in, i0, g, z, cmp3_self])
    | with_reducible exact rfl
theorem lw_voyageAt (hx : ∀ j, i32 (xs j)) (h : Rel xs M A N B P) (hi : i + 6 ≤ L) (hL : L ≤ 3072) : Nx xs L i 2040 M := by
  have g := h.2.1
  obtain ⟨x, M1, M2, A', N', B', P', e1, e2, z, r⟩ := lw_I L (case_voyageAt (xs (i + 1)) (xs (i + 2)) (xs (i + 3))) ty_voyageAt ⟨trivial, trivial, trivial, trivial⟩ h
  refine ⟨M2, A', N', B', P', ?_, r⟩
  rw [b_Law_2040]
  repeat' first
    | (with_reducible apply bR_go; (simp (disch := omega) only [rM L, rK L, rN L, rNf, rNv, rNp, rNd, rRow, rLeg, rMark, nat_cast, Int.reduceToNat, g, z, cmp3_self]; with_reducible exact rfl))
    | with_reducible apply bI_go
    | with_reducible apply bV_go
    | with_reducible apply bL_go
    | (with_reducible apply it_1; (first | omega | (simp (disch := omega) only [not_false_eq_true, not_true_eq_false, w32_id, tLt, fLt, tLe, fEq, itE, and_true, true_and, and_self, and_false, false_and, ↓reduceIte, nat_add, nat_mul3, nat_mul4, nat_mul6, nat_mul15, nat_mul60, nat_cast, nc1, Int.reduceToNat, upE, upN, fill_ne, fill_in, i0, g, z, cmp3_self] <;> omega)))
    | (with_reducible apply it_2; (first | omega | (simp (disch := omega) only [not_false_eq_true, not_true_eq_false, w32_id, tLt, fLt, tLe, fEq, itE, and_true, true_and, and_self, and_false, false_and, ↓reduceIte, nat_add, nat_mul3, nat_mul4, nat_mul6, nat_mul15, nat_mul60, nat_cast, nc1, Int.reduceToNat, upE, upN, fill_ne, fill_in, i0, g, z, cmp3_self] <;> omega)))
    | (with_reducible refine cl_go ?_; simp (disch := omega) only [not_false_eq_true, not_true_eq_false, w32_id, tLt, fLt, tLe, fEq, itE, and_true, true_and, and_self, and_false, false_and, ↓reduceIte, nat_add, nat_mul3, nat_mul4, nat_mul6, nat_mul15, nat_mul60, nat_cast, nc1, Int.reduceToNat, upE, upN, fill_ne, fill_in, i0, g, z, cmp3_self])
    | with_reducible exact e1
    | with_reducible exact e2
    | (with_reducible refine rn_go ?_; simp (disch := omega) only [not_false_eq_true, not_true_eq_false, w32_id, tLt, fLt, tLe, fEq, itE, and_true, true_and, and_self, and_false, false_and, ↓reduceIte, nat_add, nat_mul3, nat_mul4, nat_mul6, nat_mul15, nat_mul60, nat_cast, nc1, Int.reduceToNat, upE, upN, fill_ne, fill_in, i0, g, z, cmp3_self])
    | (with_reducible refine lf_go ?_; simp (disch := omega) only [not_false_eq_true, not_true_eq_false, w32_id, tLt, fLt, tLe, fEq, itE, and_true, true_and, and_self, and_false, false_and, ↓reduceIte, nat_add, nat_mul3, nat_mul4, nat_mul6, nat_mul15, nat_mul60, nat_cast, nc1, Int.reduceToNat, upE, upN, fill_ne, fill_in, i0, g, z, cmp3_self])
    | with_reducible exact rfl
theorem lw_soonest (hx : ∀ j, i32 (xs j)) (h : Rel xs M A N B P) (hi : i + 6 ≤ L) (hL : L ≤ 3072) : Nx xs L i 2083 M := by
  have g := h.2.1
  obtain ⟨x, M1, M2, A', N', B', P', e1, e2, z, r⟩ := lw_I L (case_soonest (xs (i + 1)) (xs (i + 2))) ty_soonest ⟨trivial, trivial, trivial⟩ h
  refine ⟨M2, A', N', B', P', ?_, r⟩
  rw [b_Law_2083]
  repeat' first
    | (with_reducible apply bR_go; (simp (disch := omega) only [rM L, rK L, rN L, rNf, rNv, rNp, rNd, rRow, rLeg, rMark, nat_cast, Int.reduceToNat, g, z, cmp3_self]; with_reducible exact rfl))
    | with_reducible apply bI_go
    | with_reducible apply bV_go
    | with_reducible apply bL_go
    | (with_reducible apply it_1; (first | omega | (simp (disch := omega) only [not_false_eq_true, not_true_eq_false, w32_id, tLt, fLt, tLe, fEq, itE, and_true, true_and, and_self, and_false, false_and, ↓reduceIte, nat_add, nat_mul3, nat_mul4, nat_mul6, nat_mul15, nat_mul60, nat_cast, nc1, Int.reduceToNat, upE, upN, fill_ne, fill_in, i0, g, z, cmp3_self] <;> omega)))
    | (with_reducible apply it_2; (first | omega | (simp (disch := omega) only [not_false_eq_true, not_true_eq_false, w32_id, tLt, fLt, tLe, fEq, itE, and_true, true_and, and_self, and_false, false_and, ↓reduceIte, nat_add, nat_mul3, nat_mul4, nat_mul6, nat_mul15, nat_mul60, nat_cast, nc1, Int.reduceToNat, upE, upN, fill_ne, fill_in, i0, g, z, cmp3_self] <;> omega)))
    | (with_reducible refine cl_go ?_; simp (disch := omega) only [not_false_eq_true, not_true_eq_false, w32_id, tLt, fLt, tLe, fEq, itE, and_true, true_and, and_self, and_false, false_and, ↓reduceIte, nat_add, nat_mul3, nat_mul4, nat_mul6, nat_mul15, nat_mul60, nat_cast, nc1, Int.reduceToNat, upE, upN, fill_ne, fill_in, i0, g, z, cmp3_self])
    | with_reducible exact e1
    | with_reducible exact e2
    | (with_reducible refine rn_go ?_; simp (disch := omega) only [not_false_eq_true, not_true_eq_false, w32_id, tLt, fLt, tLe, fEq, itE, and_true, true_and, and_self, and_false, false_and, ↓reduceIte, nat_add, nat_mul3, nat_mul4, nat_mul6, nat_mul15, nat_mul60, nat_cast, nc1, Int.reduceToNat, upE, upN, fill_ne, fill_in, i0, g, z, cmp3_self])
    | (with_reducible refine lf_go ?_; simp (disch := omega) only [not_false_eq_true, not_true_eq_false, w32_id, tLt, fLt, tLe, fEq, itE, and_true, true_and, and_self, and_false, false_and, ↓reduceIte, nat_add, nat_mul3, nat_mul4, nat_mul6, nat_mul15, nat_mul60, nat_cast, nc1, Int.reduceToNat, upE, upN, fill_ne, fill_in, i0, g, z, cmp3_self])
    | with_reducible exact rfl
theorem lw_next (hx : ∀ j, i32 (xs j)) (h : Rel xs M A N B P) (hi : i + 6 ≤ L) (hL : L ≤ 3072) : Nx xs L i 2116 M := by
  have g := h.2.1
  obtain ⟨x, M1, M2, A', N', B', P', e1, e2, z, r⟩ := lw_I L (case_next (xs (i + 1)) (xs (i + 2))) ty_next ⟨trivial, trivial, trivial⟩ h
  refine ⟨M2, A', N', B', P', ?_, r⟩
  rw [b_Law_2116]
  repeat' first
    | (with_reducible apply bR_go; (simp (disch := omega) only [rM L, rK L, rN L, rNf, rNv, rNp, rNd, rRow, rLeg, rMark, nat_cast, Int.reduceToNat, g, z, cmp3_self]; with_reducible exact rfl))
    | with_reducible apply bI_go
    | with_reducible apply bV_go
    | with_reducible apply bL_go
    | (with_reducible apply it_1; (first | omega | (simp (disch := omega) only [not_false_eq_true, not_true_eq_false, w32_id, tLt, fLt, tLe, fEq, itE, and_true, true_and, and_self, and_false, false_and, ↓reduceIte, nat_add, nat_mul3, nat_mul4, nat_mul6, nat_mul15, nat_mul60, nat_cast, nc1, Int.reduceToNat, upE, upN, fill_ne, fill_in, i0, g, z, cmp3_self] <;> omega)))
    | (with_reducible apply it_2; (first | omega | (simp (disch := omega) only [not_false_eq_true, not_true_eq_false, w32_id, tLt, fLt, tLe, fEq, itE, and_true, true_and, and_self, and_false, false_and, ↓reduceIte, nat_add, nat_mul3, nat_mul4, nat_mul6, nat_mul15, nat_mul60, nat_cast, nc1, Int.reduceToNat, upE, upN, fill_ne, fill_in, i0, g, z, cmp3_self] <;> omega)))
    | (with_reducible refine cl_go ?_; simp (disch := omega) only [not_false_eq_true, not_true_eq_false, w32_id, tLt, fLt, tLe, fEq, itE, and_true, true_and, and_self, and_false, false_and, ↓reduceIte, nat_add, nat_mul3, nat_mul4, nat_mul6, nat_mul15, nat_mul60, nat_cast, nc1, Int.reduceToNat, upE, upN, fill_ne, fill_in, i0, g, z, cmp3_self])
    | with_reducible exact e1
    | with_reducible exact e2
    | (with_reducible refine rn_go ?_; simp (disch := omega) only [not_false_eq_true, not_true_eq_false, w32_id, tLt, fLt, tLe, fEq, itE, and_true, true_and, and_self, and_false, false_and, ↓reduceIte, nat_add, nat_mul3, nat_mul4, nat_mul6, nat_mul15, nat_mul60, nat_cast, nc1, Int.reduceToNat, upE, upN, fill_ne, fill_in, i0, g, z, cmp3_self])
    | (with_reducible refine lf_go ?_; simp (disch := omega) only [not_false_eq_true, not_true_eq_false, w32_id, tLt, fLt, tLe, fEq, itE, and_true, true_and, and_self, and_false, false_and, ↓reduceIte, nat_add, nat_mul3, nat_mul4, nat_mul6, nat_mul15, nat_mul60, nat_cast, nc1, Int.reduceToNat, upE, upN, fill_ne, fill_in, i0, g, z, cmp3_self])
    | with_reducible exact rfl
theorem lw_reach (hx : ∀ j, i32 (xs j)) (h : Rel xs M A N B P) (hi : i + 6 ≤ L) (hL : L ≤ 3072) : Nx xs L i 2149 M := by
  have g := h.2.1
  obtain ⟨x, M1, M2, A', N', B', P', e1, e2, z, r⟩ := lw_I L (case_reach (xs (i + 1))) ty_reach ⟨trivial, trivial⟩ h
  refine ⟨M2, A', N', B', P', ?_, r⟩
  rw [b_Law_2149]
  repeat' first
    | (with_reducible apply bR_go; (simp (disch := omega) only [rM L, rK L, rN L, rNf, rNv, rNp, rNd, rRow, rLeg, rMark, nat_cast, Int.reduceToNat, g, z, cmp3_self]; with_reducible exact rfl))
    | with_reducible apply bI_go
    | with_reducible apply bV_go
    | with_reducible apply bL_go
    | (with_reducible apply it_1; (first | omega | (simp (disch := omega) only [not_false_eq_true, not_true_eq_false, w32_id, tLt, fLt, tLe, fEq, itE, and_true, true_and, and_self, and_false, false_and, ↓reduceIte, nat_add, nat_mul3, nat_mul4, nat_mul6, nat_mul15, nat_mul60, nat_cast, nc1, Int.reduceToNat, upE, upN, fill_ne, fill_in, i0, g, z, cmp3_self] <;> omega)))
    | (with_reducible apply it_2; (first | omega | (simp (disch := omega) only [not_false_eq_true, not_true_eq_false, w32_id, tLt, fLt, tLe, fEq, itE, and_true, true_and, and_self, and_false, false_and, ↓reduceIte, nat_add, nat_mul3, nat_mul4, nat_mul6, nat_mul15, nat_mul60, nat_cast, nc1, Int.reduceToNat, upE, upN, fill_ne, fill_in, i0, g, z, cmp3_self] <;> omega)))
    | (with_reducible refine cl_go ?_; simp (disch := omega) only [not_false_eq_true, not_true_eq_false, w32_id, tLt, fLt, tLe, fEq, itE, and_true, true_and, and_self, and_false, false_and, ↓reduceIte, nat_add, nat_mul3, nat_mul4, nat_mul6, nat_mul15, nat_mul60, nat_cast, nc1, Int.reduceToNat, upE, upN, fill_ne, fill_in, i0, g, z, cmp3_self])
    | with_reducible exact e1
    | with_reducible exact e2
    | (with_reducible refine rn_go ?_; simp (disch := omega) only [not_false_eq_true, not_true_eq_false, w32_id, tLt, fLt, tLe, fEq, itE, and_true, true_and, and_self, and_false, false_and, ↓reduceIte, nat_add, nat_mul3, nat_mul4, nat_mul6, nat_mul15, nat_mul60, nat_cast, nc1, Int.reduceToNat, upE, upN, fill_ne, fill_in, i0, g, z, cmp3_self])
    | (with_reducible refine lf_go ?_; simp (disch := omega) only [not_false_eq_true, not_true_eq_false, w32_id, tLt, fLt, tLe, fEq, itE, and_true, true_and, and_self, and_false, false_and, ↓reduceIte, nat_add, nat_mul3, nat_mul4, nat_mul6, nat_mul15, nat_mul60, nat_cast, nc1, Int.reduceToNat, upE, upN, fill_ne, fill_in, i0, g, z, cmp3_self])
    | with_reducible exact rfl
theorem lw_best (hx : ∀ j, i32 (xs j)) (h : Rel xs M A N B P) (hi : i + 6 ≤ L) (hL : L ≤ 3072) : Nx xs L i 2172 M := by
  have g := h.2.1
  obtain ⟨x, M1, M2, A', N', B', P', e1, e2, z, r⟩ := lw_I L (case_best (xs (i + 1)) (xs (i + 2))) ty_best ⟨trivial, trivial, trivial⟩ h
  refine ⟨M2, A', N', B', P', ?_, r⟩
  rw [b_Law_2172]
  repeat' first
    | (with_reducible apply bR_go; (simp (disch := omega) only [rM L, rK L, rN L, rNf, rNv, rNp, rNd, rRow, rLeg, rMark, nat_cast, Int.reduceToNat, g, z, cmp3_self]; with_reducible exact rfl))
    | with_reducible apply bI_go
    | with_reducible apply bV_go
    | with_reducible apply bL_go
    | (with_reducible apply it_1; (first | omega | (simp (disch := omega) only [not_false_eq_true, not_true_eq_false, w32_id, tLt, fLt, tLe, fEq, itE, and_true, true_and, and_self, and_false, false_and, ↓reduceIte, nat_add, nat_mul3, nat_mul4, nat_mul6, nat_mul15, nat_mul60, nat_cast, nc1, Int.reduceToNat, upE, upN, fill_ne, fill_in, i0, g, z, cmp3_self] <;> omega)))
    | (with_reducible apply it_2; (first | omega | (simp (disch := omega) only [not_false_eq_true, not_true_eq_false, w32_id, tLt, fLt, tLe, fEq, itE, and_true, true_and, and_self, and_false, false_and, ↓reduceIte, nat_add, nat_mul3, nat_mul4, nat_mul6, nat_mul15, nat_mul60, nat_cast, nc1, Int.reduceToNat, upE, upN, fill_ne, fill_in, i0, g, z, cmp3_self] <;> omega)))
    | (with_reducible refine cl_go ?_; simp (disch := omega) only [not_false_eq_true, not_true_eq_false, w32_id, tLt, fLt, tLe, fEq, itE, and_true, true_and, and_self, and_false, false_and, ↓reduceIte, nat_add, nat_mul3, nat_mul4, nat_mul6, nat_mul15, nat_mul60, nat_cast, nc1, Int.reduceToNat, upE, upN, fill_ne, fill_in, i0, g, z, cmp3_self])
    | with_reducible exact e1
    | with_reducible exact e2
    | (with_reducible refine rn_go ?_; simp (disch := omega) only [not_false_eq_true, not_true_eq_false, w32_id, tLt, fLt, tLe, fEq, itE, and_true, true_and, and_self, and_false, false_and, ↓reduceIte, nat_add, nat_mul3, nat_mul4, nat_mul6, nat_mul15, nat_mul60, nat_cast, nc1, Int.reduceToNat, upE, upN, fill_ne, fill_in, i0, g, z, cmp3_self])
    | (with_reducible refine lf_go ?_; simp (disch := omega) only [not_false_eq_true, not_true_eq_false, w32_id, tLt, fLt, tLe, fEq, itE, and_true, true_and, and_self, and_false, false_and, ↓reduceIte, nat_add, nat_mul3, nat_mul4, nat_mul6, nat_mul15, nat_mul60, nat_cast, nc1, Int.reduceToNat, upE, upN, fill_ne, fill_in, i0, g, z, cmp3_self])
    | with_reducible exact rfl
theorem lw_log (hx : ∀ j, i32 (xs j)) (h : Rel xs M A N B P) (hi : i + 6 ≤ L) (hL : L ≤ 3072) : Nx xs L i 2205 M := by
  have g := h.2.1
  obtain ⟨x, M1, M2, A', N', B', P', e1, e2, z, r⟩ := lw_I L (case_log (xs (i + 1)) (xs (i + 2)) (xs (i + 3))) ty_log ⟨trivial, trivial, trivial, trivial⟩ h
  refine ⟨M2, A', N', B', P', ?_, r⟩
  rw [b_Law_2205]
  repeat' first
    | (with_reducible apply bR_go; (simp (disch := omega) only [rM L, rK L, rN L, rNf, rNv, rNp, rNd, rRow, rLeg, rMark, nat_cast, Int.reduceToNat, g, z, cmp3_self]; with_reducible exact rfl))
    | with_reducible apply bI_go
    | with_reducible apply bV_go
    | with_reducible apply bL_go
    | (with_reducible apply it_1; (first | omega | (simp (disch := omega) only [not_false_eq_true, not_true_eq_false, w32_id, tLt, fLt, tLe, fEq, itE, and_true, true_and, and_self, and_false, false_and, ↓reduceIte, nat_add, nat_mul3, nat_mul4, nat_mul6, nat_mul15, nat_mul60, nat_cast, nc1, Int.reduceToNat, upE, upN, fill_ne, fill_in, i0, g, z, cmp3_self] <;> omega)))
    | (with_reducible apply it_2; (first | omega | (simp (disch := omega) only [not_false_eq_true, not_true_eq_false, w32_id, tLt, fLt, tLe, fEq, itE, and_true, true_and, and_self, and_false, false_and, ↓reduceIte, nat_add, nat_mul3, nat_mul4, nat_mul6, nat_mul15, nat_mul60, nat_cast, nc1, Int.reduceToNat, upE, upN, fill_ne, fill_in, i0, g, z, cmp3_self] <;> omega)))
    | (with_reducible refine cl_go ?_; simp (disch := omega) only [not_false_eq_true, not_true_eq_false, w32_id, tLt, fLt, tLe, fEq, itE, and_true, true_and, and_self, and_false, false_and, ↓reduceIte, nat_add, nat_mul3, nat_mul4, nat_mul6, nat_mul15, nat_mul60, nat_cast, nc1, Int.reduceToNat, upE, upN, fill_ne, fill_in, i0, g, z, cmp3_self])
    | with_reducible exact e1
    | with_reducible exact e2
    | (with_reducible refine rn_go ?_; simp (disch := omega) only [not_false_eq_true, not_true_eq_false, w32_id, tLt, fLt, tLe, fEq, itE, and_true, true_and, and_self, and_false, false_and, ↓reduceIte, nat_add, nat_mul3, nat_mul4, nat_mul6, nat_mul15, nat_mul60, nat_cast, nc1, Int.reduceToNat, upE, upN, fill_ne, fill_in, i0, g, z, cmp3_self])
    | (with_reducible refine lf_go ?_; simp (disch := omega) only [not_false_eq_true, not_true_eq_false, w32_id, tLt, fLt, tLe, fEq, itE, and_true, true_and, and_self, and_false, false_and, ↓reduceIte, nat_add, nat_mul3, nat_mul4, nat_mul6, nat_mul15, nat_mul60, nat_cast, nc1, Int.reduceToNat, upE, upN, fill_ne, fill_in, i0, g, z, cmp3_self])
    | with_reducible exact rfl
theorem lw_sure (hx : ∀ j, i32 (xs j)) (h : Rel xs M A N B P) (hi : i + 6 ≤ L) (hL : L ≤ 3072) : Nx xs L i 2248 M := by
  have g := h.2.1
  obtain ⟨x, M1, M2, A', N', B', P', e1, e2, z, r⟩ := lw_I L (case_sure (xs (i + 1)) (xs (i + 2)) (xs (i + 3))) ty_sure ⟨trivial, trivial, trivial, trivial⟩ h
  refine ⟨M2, A', N', B', P', ?_, r⟩
  rw [b_Law_2248]
  repeat' first
    | (with_reducible apply bR_go; (simp (disch := omega) only [rM L, rK L, rN L, rNf, rNv, rNp, rNd, rRow, rLeg, rMark, nat_cast, Int.reduceToNat, g, z, cmp3_self]; with_reducible exact rfl))
    | with_reducible apply bI_go
    | with_reducible apply bV_go
    | with_reducible apply bL_go
    | (with_reducible apply it_1; (first | omega | (simp (disch := omega) only [not_false_eq_true, not_true_eq_false, w32_id, tLt, fLt, tLe, fEq, itE, and_true, true_and, and_self, and_false, false_and, ↓reduceIte, nat_add, nat_mul3, nat_mul4, nat_mul6, nat_mul15, nat_mul60, nat_cast, nc1, Int.reduceToNat, upE, upN, fill_ne, fill_in, i0, g, z, cmp3_self] <;> omega)))
    | (with_reducible apply it_2; (first | omega | (simp (disch := omega) only [not_false_eq_true, not_true_eq_false, w32_id, tLt, fLt, tLe, fEq, itE, and_true, true_and, and_self, and_false, false_and, ↓reduceIte, nat_add, nat_mul3, nat_mul4, nat_mul6, nat_mul15, nat_mul60, nat_cast, nc1, Int.reduceToNat, upE, upN, fill_ne, fill_in, i0, g, z, cmp3_self] <;> omega)))
    | (with_reducible refine cl_go ?_; simp (disch := omega) only [not_false_eq_true, not_true_eq_false, w32_id, tLt, fLt, tLe, fEq, itE, and_true, true_and, and_self, and_false, false_and, ↓reduceIte, nat_add, nat_mul3, nat_mul4, nat_mul6, nat_mul15, nat_mul60, nat_cast, nc1, Int.reduceToNat, upE, upN, fill_ne, fill_in, i0, g, z, cmp3_self])
    | with_reducible exact e1
    | with_reducible exact e2
    | (with_reducible refine rn_go ?_; simp (disch := omega) only [not_false_eq_true, not_true_eq_false, w32_id, tLt, fLt, tLe, fEq, itE, and_true, true_and, and_self, and_false, false_and, ↓reduceIte, nat_add, nat_mul3, nat_mul4, nat_mul6, nat_mul15, nat_mul60, nat_cast, nc1, Int.reduceToNat, upE, upN, fill_ne, fill_in, i0, g, z, cmp3_self])
    | (with_reducible refine lf_go ?_; simp (disch := omega) only [not_false_eq_true, not_true_eq_false, w32_id, tLt, fLt, tLe, fEq, itE, and_true, true_and, and_self, and_false, false_and, ↓reduceIte, nat_add, nat_mul3, nat_mul4, nat_mul6, nat_mul15, nat_mul60, nat_cast, nc1, Int.reduceToNat, upE, upN, fill_ne, fill_in, i0, g, z, cmp3_self])
    | with_reducible exact rfl
theorem lw_copyLog (hx : ∀ j, i32 (xs j)) (h : Rel xs M A N B P) (hi : i + 6 ≤ L) (hL : L ≤ 3072) : Nx xs L i 2291 M := by
  have g := h.2.1
  obtain ⟨x, M1, M2, A', N', B', P', e1, e2, z, r⟩ := lw_I L (case_copyLog (xs (i + 1)) (xs (i + 2)) (xs (i + 3))) ty_copyLog ⟨trivial, trivial, trivial, trivial⟩ h
  refine ⟨M2, A', N', B', P', ?_, r⟩
  rw [b_Law_2291]
  repeat' first
    | (with_reducible apply bR_go; (simp (disch := omega) only [rM L, rK L, rN L, rNf, rNv, rNp, rNd, rRow, rLeg, rMark, nat_cast, Int.reduceToNat, g, z, cmp3_self]; with_reducible exact rfl))
    | with_reducible apply bI_go
    | with_reducible apply bV_go
    | with_reducible apply bL_go
    | (with_reducible apply it_1; (first | omega | (simp (disch := omega) only [not_false_eq_true, not_true_eq_false, w32_id, tLt, fLt, tLe, fEq, itE, and_true, true_and, and_self, and_false, false_and, ↓reduceIte, nat_add, nat_mul3, nat_mul4, nat_mul6, nat_mul15, nat_mul60, nat_cast, nc1, Int.reduceToNat, upE, upN, fill_ne, fill_in, i0, g, z, cmp3_self] <;> omega)))
    | (with_reducible apply it_2; (first | omega | (simp (disch := omega) only [not_false_eq_true, not_true_eq_false, w32_id, tLt, fLt, tLe, fEq, itE, and_true, true_and, and_self, and_false, false_and, ↓reduceIte, nat_add, nat_mul3, nat_mul4, nat_mul6, nat_mul15, nat_mul60, nat_cast, nc1, Int.reduceToNat, upE, upN, fill_ne, fill_in, i0, g, z, cmp3_self] <;> omega)))
    | (with_reducible refine cl_go ?_; simp (disch := omega) only [not_false_eq_true, not_true_eq_false, w32_id, tLt, fLt, tLe, fEq, itE, and_true, true_and, and_self, and_false, false_and, ↓reduceIte, nat_add, nat_mul3, nat_mul4, nat_mul6, nat_mul15, nat_mul60, nat_cast, nc1, Int.reduceToNat, upE, upN, fill_ne, fill_in, i0, g, z, cmp3_self])
    | with_reducible exact e1
    | with_reducible exact e2
    | (with_reducible refine rn_go ?_; simp (disch := omega) only [not_false_eq_true, not_true_eq_false, w32_id, tLt, fLt, tLe, fEq, itE, and_true, true_and, and_self, and_false, false_and, ↓reduceIte, nat_add, nat_mul3, nat_mul4, nat_mul6, nat_mul15, nat_mul60, nat_cast, nc1, Int.reduceToNat, upE, upN, fill_ne, fill_in, i0, g, z, cmp3_self])
    | (with_reducible refine lf_go ?_; simp (disch := omega) only [not_false_eq_true, not_true_eq_false, w32_id, tLt, fLt, tLe, fEq, itE, and_true, true_and, and_self, and_false, false_and, ↓reduceIte, nat_add, nat_mul3, nat_mul4, nat_mul6, nat_mul15, nat_mul60, nat_cast, nc1, Int.reduceToNat, upE, upN, fill_ne, fill_in, i0, g, z, cmp3_self])
    | with_reducible exact rfl
theorem lw_live (hx : ∀ j, i32 (xs j)) (h : Rel xs M A N B P) (hi : i + 6 ≤ L) (hL : L ≤ 3072) : Nx xs L i 2334 M := by
  have g := h.2.1
  obtain ⟨x, M1, M2, A', N', B', P', e1, e2, z, r⟩ := lw_I L (case_live (xs (i + 1))) ty_live ⟨trivial, trivial⟩ h
  refine ⟨M2, A', N', B', P', ?_, r⟩
  rw [b_Law_2334]
  repeat' first
    | (with_reducible apply bR_go; (simp (disch := omega) only [rM L, rK L, rN L, rNf, rNv, rNp, rNd, rRow, rLeg, rMark, nat_cast, Int.reduceToNat, g, z, cmp3_self]; with_reducible exact rfl))
    | with_reducible apply bI_go
    | with_reducible apply bV_go
    | with_reducible apply bL_go
    | (with_reducible apply it_1; (first | omega | (simp (disch := omega) only [not_false_eq_true, not_true_eq_false, w32_id, tLt, fLt, tLe, fEq, itE, and_true, true_and, and_self, and_false, false_and, ↓reduceIte, nat_add, nat_mul3, nat_mul4, nat_mul6, nat_mul15, nat_mul60, nat_cast, nc1, Int.reduceToNat, upE, upN, fill_ne, fill_in, i0, g, z, cmp3_self] <;> omega)))
    | (with_reducible apply it_2; (first | omega | (simp (disch := omega) only [not_false_eq_true, not_true_eq_false, w32_id, tLt, fLt, tLe, fEq, itE, and_true, true_and, and_self, and_false, false_and, ↓reduceIte, nat_add, nat_mul3, nat_mul4, nat_mul6, nat_mul15, nat_mul60, nat_cast, nc1, Int.reduceToNat, upE, upN, fill_ne, fill_in, i0, g, z, cmp3_self] <;> omega)))
    | (with_reducible refine cl_go ?_; simp (disch := omega) only [not_false_eq_true, not_true_eq_false, w32_id, tLt, fLt, tLe, fEq, itE, and_true, true_and, and_self, and_false, false_and, ↓reduceIte, nat_add, nat_mul3, nat_mul4, nat_mul6, nat_mul15, nat_mul60, nat_cast, nc1, Int.reduceToNat, upE, upN, fill_ne, fill_in, i0, g, z, cmp3_self])
    | with_reducible exact e1
    | with_reducible exact e2
    | (with_reducible refine rn_go ?_; simp (disch := omega) only [not_false_eq_true, not_true_eq_false, w32_id, tLt, fLt, tLe, fEq, itE, and_true, true_and, and_self, and_false, false_and, ↓reduceIte, nat_add, nat_mul3, nat_mul4, nat_mul6, nat_mul15, nat_mul60, nat_cast, nc1, Int.reduceToNat, upE, upN, fill_ne, fill_in, i0, g, z, cmp3_self])
    | (with_reducible refine lf_go ?_; simp (disch := omega) only [not_false_eq_true, not_true_eq_false, w32_id, tLt, fLt, tLe, fEq, itE, and_true, true_and, and_self, and_false, false_and, ↓reduceIte, nat_add, nat_mul3, nat_mul4, nat_mul6, nat_mul15, nat_mul60, nat_cast, nc1, Int.reduceToNat, upE, upN, fill_ne, fill_in, i0, g, z, cmp3_self])
    | with_reducible exact rfl
theorem lw_lived (hx : ∀ j, i32 (xs j)) (h : Rel xs M A N B P) (hi : i + 6 ≤ L) (hL : L ≤ 3072) : Nx xs L i 2357 M := by
  have g := h.2.1
  obtain ⟨x, M1, M2, A', N', B', P', e1, e2, z, r⟩ := lw_I L (case_lived (xs (i + 1))) ty_lived ⟨trivial, trivial⟩ h
  refine ⟨M2, A', N', B', P', ?_, r⟩
  rw [b_Law_2357]
  repeat' first
    | (with_reducible apply bR_go; (simp (disch := omega) only [rM L, rK L, rN L, rNf, rNv, rNp, rNd, rRow, rLeg, rMark, nat_cast, Int.reduceToNat, g, z, cmp3_self]; with_reducible exact rfl))
    | with_reducible apply bI_go
    | with_reducible apply bV_go
    | with_reducible apply bL_go
    | (with_reducible apply it_1; (first | omega | (simp (disch := omega) only [not_false_eq_true, not_true_eq_false, w32_id, tLt, fLt, tLe, fEq, itE, and_true, true_and, and_self, and_false, false_and, ↓reduceIte, nat_add, nat_mul3, nat_mul4, nat_mul6, nat_mul15, nat_mul60, nat_cast, nc1, Int.reduceToNat, upE, upN, fill_ne, fill_in, i0, g, z, cmp3_self] <;> omega)))
    | (with_reducible apply it_2; (first | omega | (simp (disch := omega) only [not_false_eq_true, not_true_eq_false, w32_id, tLt, fLt, tLe, fEq, itE, and_true, true_and, and_self, and_false, false_and, ↓reduceIte, nat_add, nat_mul3, nat_mul4, nat_mul6, nat_mul15, nat_mul60, nat_cast, nc1, Int.reduceToNat, upE, upN, fill_ne, fill_in, i0, g, z, cmp3_self] <;> omega)))
    | (with_reducible refine cl_go ?_; simp (disch := omega) only [not_false_eq_true, not_true_eq_false, w32_id, tLt, fLt, tLe, fEq, itE, and_true, true_and, and_self, and_false, false_and, ↓reduceIte, nat_add, nat_mul3, nat_mul4, nat_mul6, nat_mul15, nat_mul60, nat_cast, nc1, Int.reduceToNat, upE, upN, fill_ne, fill_in, i0, g, z, cmp3_self])
    | with_reducible exact e1
    | with_reducible exact e2
    | (with_reducible refine rn_go ?_; simp (disch := omega) only [not_false_eq_true, not_true_eq_false, w32_id, tLt, fLt, tLe, fEq, itE, and_true, true_and, and_self, and_false, false_and, ↓reduceIte, nat_add, nat_mul3, nat_mul4, nat_mul6, nat_mul15, nat_mul60, nat_cast, nc1, Int.reduceToNat, upE, upN, fill_ne, fill_in, i0, g, z, cmp3_self])
    | (with_reducible refine lf_go ?_; simp (disch := omega) only [not_false_eq_true, not_true_eq_false, w32_id, tLt, fLt, tLe, fEq, itE, and_true, true_and, and_self, and_false, false_and, ↓reduceIte, nat_add, nat_mul3, nat_mul4, nat_mul6, nat_mul15, nat_mul60, nat_cast, nc1, Int.reduceToNat, upE, upN, fill_ne, fill_in, i0, g, z, cmp3_self])
    | with_reducible exact rfl
theorem lw_mean (hx : ∀ j, i32 (xs j)) (h : Rel xs M A N B P) (hi : i + 6 ≤ L) (hL : L ≤ 3072) : Nx xs L i 2380 M := by
  have g := h.2.1
  obtain ⟨x, M1, M2, A', N', B', P', e1, e2, z, r⟩ := lw_I L (case_mean (xs (i + 1)) (xs (i + 2))) ty_mean ⟨trivial, trivial, trivial⟩ h
  refine ⟨M2, A', N', B', P', ?_, r⟩
  rw [b_Law_2380]
  repeat' first
    | (with_reducible apply bR_go; (simp (disch := omega) only [rM L, rK L, rN L, rNf, rNv, rNp, rNd, rRow, rLeg, rMark, nat_cast, Int.reduceToNat, g, z, cmp3_self]; with_reducible exact rfl))
    | with_reducible apply bI_go
    | with_reducible apply bV_go
    | with_reducible apply bL_go
    | (with_reducible apply it_1; (first | omega | (simp (disch := omega) only [not_false_eq_true, not_true_eq_false, w32_id, tLt, fLt, tLe, fEq, itE, and_true, true_and, and_self, and_false, false_and, ↓reduceIte, nat_add, nat_mul3, nat_mul4, nat_mul6, nat_mul15, nat_mul60, nat_cast, nc1, Int.reduceToNat, upE, upN, fill_ne, fill_in, i0, g, z, cmp3_self] <;> omega)))
    | (with_reducible apply it_2; (first | omega | (simp (disch := omega) only [not_false_eq_true, not_true_eq_false, w32_id, tLt, fLt, tLe, fEq, itE, and_true, true_and, and_self, and_false, false_and, ↓reduceIte, nat_add, nat_mul3, nat_mul4, nat_mul6, nat_mul15, nat_mul60, nat_cast, nc1, Int.reduceToNat, upE, upN, fill_ne, fill_in, i0, g, z, cmp3_self] <;> omega)))
    | (with_reducible refine cl_go ?_; simp (disch := omega) only [not_false_eq_true, not_true_eq_false, w32_id, tLt, fLt, tLe, fEq, itE, and_true, true_and, and_self, and_false, false_and, ↓reduceIte, nat_add, nat_mul3, nat_mul4, nat_mul6, nat_mul15, nat_mul60, nat_cast, nc1, Int.reduceToNat, upE, upN, fill_ne, fill_in, i0, g, z, cmp3_self])
    | with_reducible exact e1
    | with_reducible exact e2
    | (with_reducible refine rn_go ?_; simp (disch := omega) only [not_false_eq_true, not_true_eq_false, w32_id, tLt, fLt, tLe, fEq, itE, and_true, true_and, and_self, and_false, false_and, ↓reduceIte, nat_add, nat_mul3, nat_mul4, nat_mul6, nat_mul15, nat_mul60, nat_cast, nc1, Int.reduceToNat, upE, upN, fill_ne, fill_in, i0, g, z, cmp3_self])
    | (with_reducible refine lf_go ?_; simp (disch := omega) only [not_false_eq_true, not_true_eq_false, w32_id, tLt, fLt, tLe, fEq, itE, and_true, true_and, and_self, and_false, false_and, ↓reduceIte, nat_add, nat_mul3, nat_mul4, nat_mul6, nat_mul15, nat_mul60, nat_cast, nc1, Int.reduceToNat, upE, upN, fill_ne, fill_in, i0, g, z, cmp3_self])
    | with_reducible exact rfl
theorem lw_mark (hx : ∀ j, i32 (xs j)) (h : Rel xs M A N B P) (hi : i + 6 ≤ L) (hL : L ≤ 3072) : Nx xs L i 2413 M := by
  have g := h.2.1
  obtain ⟨x, M1, M2, A', N', B', P', e1, e2, z, r⟩ := lw_I L (case_mark) ty_mark trivial h
  refine ⟨M2, A', N', B', P', ?_, r⟩
  rw [b_Law_2413]
  repeat' first
    | (with_reducible apply bR_go; (simp (disch := omega) only [rM L, rK L, rN L, rNf, rNv, rNp, rNd, rRow, rLeg, rMark, nat_cast, Int.reduceToNat, g, z, cmp3_self]; with_reducible exact rfl))
    | with_reducible apply bI_go
    | with_reducible apply bV_go
    | with_reducible apply bL_go
    | (with_reducible apply it_1; (first | omega | (simp (disch := omega) only [not_false_eq_true, not_true_eq_false, w32_id, tLt, fLt, tLe, fEq, itE, and_true, true_and, and_self, and_false, false_and, ↓reduceIte, nat_add, nat_mul3, nat_mul4, nat_mul6, nat_mul15, nat_mul60, nat_cast, nc1, Int.reduceToNat, upE, upN, fill_ne, fill_in, i0, g, z, cmp3_self] <;> omega)))
    | (with_reducible apply it_2; (first | omega | (simp (disch := omega) only [not_false_eq_true, not_true_eq_false, w32_id, tLt, fLt, tLe, fEq, itE, and_true, true_and, and_self, and_false, false_and, ↓reduceIte, nat_add, nat_mul3, nat_mul4, nat_mul6, nat_mul15, nat_mul60, nat_cast, nc1, Int.reduceToNat, upE, upN, fill_ne, fill_in, i0, g, z, cmp3_self] <;> omega)))
    | (with_reducible refine cl_go ?_; simp (disch := omega) only [not_false_eq_true, not_true_eq_false, w32_id, tLt, fLt, tLe, fEq, itE, and_true, true_and, and_self, and_false, false_and, ↓reduceIte, nat_add, nat_mul3, nat_mul4, nat_mul6, nat_mul15, nat_mul60, nat_cast, nc1, Int.reduceToNat, upE, upN, fill_ne, fill_in, i0, g, z, cmp3_self])
    | with_reducible exact e1
    | with_reducible exact e2
    | (with_reducible refine rn_go ?_; simp (disch := omega) only [not_false_eq_true, not_true_eq_false, w32_id, tLt, fLt, tLe, fEq, itE, and_true, true_and, and_self, and_false, false_and, ↓reduceIte, nat_add, nat_mul3, nat_mul4, nat_mul6, nat_mul15, nat_mul60, nat_cast, nc1, Int.reduceToNat, upE, upN, fill_ne, fill_in, i0, g, z, cmp3_self])
    | (with_reducible refine lf_go ?_; simp (disch := omega) only [not_false_eq_true, not_true_eq_false, w32_id, tLt, fLt, tLe, fEq, itE, and_true, true_and, and_self, and_false, false_and, ↓reduceIte, nat_add, nat_mul3, nat_mul4, nat_mul6, nat_mul15, nat_mul60, nat_cast, nc1, Int.reduceToNat, upE, upN, fill_ne, fill_in, i0, g, z, cmp3_self])
    | with_reducible exact rfl
theorem lw_undo (hx : ∀ j, i32 (xs j)) (h : Rel xs M A N B P) (hi : i + 6 ≤ L) (hL : L ≤ 3072) : Nx xs L i 2426 M := by
  have g := h.2.1
  obtain ⟨x, M1, M2, A', N', B', P', e1, e2, z, r⟩ := lw_I L (case_undo) ty_undo trivial h
  refine ⟨M2, A', N', B', P', ?_, r⟩
  rw [b_Law_2426]
  repeat' first
    | (with_reducible apply bR_go; (simp (disch := omega) only [rM L, rK L, rN L, rNf, rNv, rNp, rNd, rRow, rLeg, rMark, nat_cast, Int.reduceToNat, g, z, cmp3_self]; with_reducible exact rfl))
    | with_reducible apply bI_go
    | with_reducible apply bV_go
    | with_reducible apply bL_go
    | (with_reducible apply it_1; (first | omega | (simp (disch := omega) only [not_false_eq_true, not_true_eq_false, w32_id, tLt, fLt, tLe, fEq, itE, and_true, true_and, and_self, and_false, false_and, ↓reduceIte, nat_add, nat_mul3, nat_mul4, nat_mul6, nat_mul15, nat_mul60, nat_cast, nc1, Int.reduceToNat, upE, upN, fill_ne, fill_in, i0, g, z, cmp3_self] <;> omega)))
    | (with_reducible apply it_2; (first | omega | (simp (disch := omega) only [not_false_eq_true, not_true_eq_false, w32_id, tLt, fLt, tLe, fEq, itE, and_true, true_and, and_self, and_false, false_and, ↓reduceIte, nat_add, nat_mul3, nat_mul4, nat_mul6, nat_mul15, nat_mul60, nat_cast, nc1, Int.reduceToNat, upE, upN, fill_ne, fill_in, i0, g, z, cmp3_self] <;> omega)))
    | (with_reducible refine cl_go ?_; simp (disch := omega) only [not_false_eq_true, not_true_eq_false, w32_id, tLt, fLt, tLe, fEq, itE, and_true, true_and, and_self, and_false, false_and, ↓reduceIte, nat_add, nat_mul3, nat_mul4, nat_mul6, nat_mul15, nat_mul60, nat_cast, nc1, Int.reduceToNat, upE, upN, fill_ne, fill_in, i0, g, z, cmp3_self])
    | with_reducible exact e1
    | with_reducible exact e2
    | (with_reducible refine rn_go ?_; simp (disch := omega) only [not_false_eq_true, not_true_eq_false, w32_id, tLt, fLt, tLe, fEq, itE, and_true, true_and, and_self, and_false, false_and, ↓reduceIte, nat_add, nat_mul3, nat_mul4, nat_mul6, nat_mul15, nat_mul60, nat_cast, nc1, Int.reduceToNat, upE, upN, fill_ne, fill_in, i0, g, z, cmp3_self])
    | (with_reducible refine lf_go ?_; simp (disch := omega) only [not_false_eq_true, not_true_eq_false, w32_id, tLt, fLt, tLe, fEq, itE, and_true, true_and, and_self, and_false, false_and, ↓reduceIte, nat_add, nat_mul3, nat_mul4, nat_mul6, nat_mul15, nat_mul60, nat_cast, nc1, Int.reduceToNat, upE, upN, fill_ne, fill_in, i0, g, z, cmp3_self])
    | with_reducible exact rfl
end
/-! THE LOOP -/
theorem it_l {c : Prop} [Decidable c] {a b : Option Rs} {L : Nat} (h1 : ∃ M', a = some (some (vI 1), SH L, M')) (h2 : ∃ M', b = some (some (vI 1), SH L, M')) : ∃ M', (if c then a else b) = some (some (vI 1), SH L, M') := by
  by_cases h : c
  · rw [if_pos h]; exact h1
  · rw [if_neg h]; exact h2
theorem lw_out {L i : Nat} {M : Mm} (hL : L ≤ 3072) (hi : L < i + 6) (hi' : i ≤ 4000) : Run (callD 100) tb_Law_law 18 [vR 29 (L : Int) 0, vR 11 0 3, vR 12 0 271, vI (i : Int)] [] (SH L) M = some (some (vI 1), SH L, M) := by
  rw [b_Law_18, if_pos (by rw [w32_id (by omega) (by omega)]; omega)]
set_option maxHeartbeats 4000000 in
set_option maxRecDepth 16384 in
theorem lw_loop {xs : Nat → Int} {L : Nat} (hx : ∀ j, i32 (xs j)) (hL : L ≤ 3072) : ∀ (f i : Nat) (M : Mm) (A N : Nat → Int) (B P : Nat → Nat → Int), L < i + 6 * f + 6 → i ≤ 3080 → Rel xs M A N B P → ∃ M', Run (callD 100) tb_Law_law 18 [vR 29 (L : Int) 0, vR 11 0 3, vR 12 0 271, vI (i : Int)] [] (SH L) M = some (some (vI 1), SH L, M') := by
  intro f
  induction f with
  | zero =>
    intro i M A N B P hf hi h
    exact ⟨M, lw_out hL (by omega) (by omega)⟩
  | succ f ih =>
    intro i M A N B P hf hi h
    by_cases y : L < i + 6
    · exact ⟨M, lw_out hL y (by omega)⟩
    have hi6 : i + 6 ≤ L := by omega
    have go : ∀ pc, Nx xs L i pc M → ∃ M', Run (callD 100) tb_Law_law pc [vR 29 (L : Int) 0, vR 11 0 3, vR 12 0 271, vI (i : Int)] [] (SH L) M = some (some (vI 1), SH L, M') := fun pc ⟨M', A', N', B', P', e, r⟩ => by
      rw [e, b_Law_2439, w32_id (by omega) (by omega)]
      exact ih (i + 6) M' A' N' B' P' (by omega) (by omega) r
    rw [b_Law_18, if_neg (by rw [w32_id (by omega) (by omega)]; omega), if_pos (by omega)]
    refine it_l (go 312 (lw_status hx h hi6 hL)) ?_
    refine it_l (go 325 (lw_top hx h hi6 hL)) ?_
    refine it_l (go 339 (lw_bottom hx h hi6 hL)) ?_
    refine it_l (go 353 (lw_tray hx h hi6 hL)) ?_
    refine it_l (go 396 (lw_write hx h hi6 hL)) ?_
    refine it_l (go 469 (lw_read hx h hi6 hL)) ?_
    refine it_l (go 503 (lw_pour hx h hi6 hL)) ?_
    refine it_l (go 566 (lw_feed hx h hi6 hL)) ?_
    refine it_l (go 629 (lw_world hx h hi6 hL)) ?_
    refine it_l (go 652 (lw_voyages hx h hi6 hL)) ?_
    refine it_l (go 675 (lw_fault hx h hi6 hL)) ?_
    refine it_l (go 698 (lw_told hx h hi6 hL)) ?_
    refine it_l (go 721 (lw_nation hx h hi6 hL)) ?_
    refine it_l (go 754 (lw_good hx h hi6 hL)) ?_
    refine it_l (go 787 (lw_portOf hx h hi6 hL)) ?_
    refine it_l (go 810 (lw_price hx h hi6 hL)) ?_
    refine it_l (go 843 (lw_way hx h hi6 hL)) ?_
    refine it_l (go 876 (lw_ship hx h hi6 hL)) ?_
    refine it_l (go 909 (lw_aboard hx h hi6 hL)) ?_
    refine it_l (go 942 (lw_weight hx h hi6 hL)) ?_
    refine it_l (go 975 (lw_weightBy hx h hi6 hL)) ?_
    refine it_l (go 1018 (lw_captains hx h hi6 hL)) ?_
    refine it_l (go 1041 (lw_ruled hx h hi6 hL)) ?_
    refine it_l (go 1064 (lw_ruledBy hx h hi6 hL)) ?_
    refine it_l (go 1097 (lw_share hx h hi6 hL)) ?_
    refine it_l (go 1130 (lw_lawful hx h hi6 hL)) ?_
    refine it_l (go 1163 (lw_deeds hx h hi6 hL)) ?_
    refine it_l (go 1186 (lw_board hx h hi6 hL)) ?_
    refine it_l (go 1219 (lw_boarders hx h hi6 hL)) ?_
    refine it_l (go 1242 (lw_greatest hx h hi6 hL)) ?_
    refine it_l (go 1265 (lw_buy hx h hi6 hL)) ?_
    refine it_l (go 1308 (lw_sell hx h hi6 hL)) ?_
    refine it_l (go 1351 (lw_dump hx h hi6 hL)) ?_
    refine it_l (go 1394 (lw_sail hx h hi6 hL)) ?_
    refine it_l (go 1427 (lw_day hx h hi6 hL)) ?_
    refine it_l (go 1450 (lw_pass hx h hi6 hL)) ?_
    refine it_l (go 1503 (lw_rule hx h hi6 hL)) ?_
    refine it_l (go 1526 (lw_war hx h hi6 hL)) ?_
    refine it_l (go 1585 (lw_trade hx h hi6 hL)) ?_
    refine it_l (go 1628 (lw_pay hx h hi6 hL)) ?_
    refine it_l (go 1661 (lw_flagIn hx h hi6 hL)) ?_
    refine it_l (go 1694 (lw_tonsIn hx h hi6 hL)) ?_
    refine it_l (go 1727 (lw_turns hx h hi6 hL)) ?_
    refine it_l (go 1750 (lw_flags hx h hi6 hL)) ?_
    refine it_l (go 1783 (lw_wages hx h hi6 hL)) ?_
    refine it_l (go 1816 (lw_stowaway hx h hi6 hL)) ?_
    refine it_l (go 1839 (lw_stowawayGood hx h hi6 hL)) ?_
    refine it_l (go 1862 (lw_guard hx h hi6 hL)) ?_
    refine it_l (go 1895 (lw_passFor hx h hi6 hL)) ?_
    refine it_l (go 1928 (lw_passGood hx h hi6 hL)) ?_
    refine it_l (go 1961 (lw_peace hx h hi6 hL)) ?_
    refine it_l (go 1984 (lw_peaceCost hx h hi6 hL)) ?_
    refine it_l (go 2007 (lw_voyage hx h hi6 hL)) ?_
    refine it_l (go 2040 (lw_voyageAt hx h hi6 hL)) ?_
    refine it_l (go 2083 (lw_soonest hx h hi6 hL)) ?_
    refine it_l (go 2116 (lw_next hx h hi6 hL)) ?_
    refine it_l (go 2149 (lw_reach hx h hi6 hL)) ?_
    refine it_l (go 2172 (lw_best hx h hi6 hL)) ?_
    refine it_l (go 2205 (lw_log hx h hi6 hL)) ?_
    refine it_l (go 2248 (lw_sure hx h hi6 hL)) ?_
    refine it_l (go 2291 (lw_copyLog hx h hi6 hL)) ?_
    refine it_l (go 2334 (lw_live hx h hi6 hL)) ?_
    refine it_l (go 2357 (lw_lived hx h hi6 hL)) ?_
    refine it_l (go 2380 (lw_mean hx h hi6 hL)) ?_
    refine it_l (go 2413 (lw_mark hx h hi6 hL)) ?_
    refine it_l (go 2426 (lw_undo hx h hi6 hL)) ?_
    exact go 2439 ⟨M, A, N, B, P, rfl, h⟩

/-! WHAT WOULD BE: loads that leak -/
def lkF (A ld : Nat → Int) (days : Int) (g : Nat) : Int := if (g : Int) < A 1 then max 0 (ld g - days * A (34 + 3 * g)) else ld g
theorem fill_fill {M : Mm} {a : Nat} {f f' h : Nat → Int} {n m : Nat} (hn : n ≤ m) (h1 : ∀ g, g < n → h g = f' g) (h2 : ∀ g, n ≤ g → g < m → h g = f g) : fillP (fillP M a f m) a f' n = fillP M a h m := by
  funext b j
  unfold fillP
  by_cases e : b = a ∧ j < n
  · rw [if_pos e, if_pos (by omega), h1 j e.2]
  · rw [if_neg e]
    by_cases e2 : b = a ∧ j < m
    · rw [if_pos e2, if_pos e2, h2 j (by omega) e2.2]
    · rw [if_neg e2, if_neg e2]
theorem sm_congr {f g : Nat → Int} : ∀ {n : Nat}, (∀ k, k < n → f k = g k) → sm f n = sm g n
  | 0, _ => rfl
  | n + 1, h => by rw [sm_s, sm_s, sm_congr fun k hk => h k (by omega), h n (by omega)]
theorem sm_tail {f : Nat → Int} {n : Nat} : ∀ j, (∀ k, n ≤ k → k < n + j → f k = 0) → sm f (n + j) = sm f n
  | 0, _ => rfl
  | j + 1, h => by
    rw [← Nat.add_assoc, sm_s, sm_tail j fun k h1 h2 => h k h1 (by omega), h (n + j) (by omega) (by omega), Int.add_zero]
section
variable {xs : Nat → Int} {M : Mm} {A N : Nat → Int} {B P : Nat → Nat → Int} {L d : Nat}
theorem RelS.dy (h : RelS xs M A N B P) {days : Int} (h0 : 0 ≤ days) (h1 : days ≤ 99) {g : Nat} (hg : (g : Int) < A 1) : 0 ≤ days * A (34 + 3 * g) ∧ days * A (34 + 3 * g) ≤ 891 := by
  have a := h.gd g hg
  exact mul_bd h0 h1 a.2.2.2.2.1 a.2.2.2.2.2
theorem lk_bd (h : RelS xs M A N B P) {i : Nat} (hi : (i : Int) < A 3) {days : Int} (h0 : 0 ≤ days) (h1 : days ≤ 99) : ∀ g, g < 8 → 0 ≤ lkF A (ldF A i) days g ∧ lkF A (ldF A i) days g ≤ 60 := fun g hg => by
  have a := ld_nw h hi g hg
  unfold lkF
  split
  · next e =>
    have := h.dy h0 h1 e
    omega
  · exact a
theorem lk_ld (h : RelS xs M A N B P) {i : Nat} (hi : (i : Int) < A 3) {days : Int} (h0 : 0 ≤ days) (h1 : days ≤ 99) : Ld (lkF A (ldF A i) days) := fun g hg => by
  have := lk_bd h hi h0 h1 g hg
  omega
theorem ld_zero (h : RelS xs M A N B P) {i : Nat} (hi : (i : Int) < A 3) {g : Nat} (hg : A 1 ≤ (g : Int)) (h8 : g < 8) : ldF A i g = 0 := by
  have := (h.inv.2.2.2.2.2.2.1 i hi).2.2.2 g hg h8
  unfold shp at this
  unfold ldF
  rw [show 153 + 15 * i + g = 146 + 15 * i + (7 + g) by omega]
  exact this
/-- the flag of a ship after days of leaks alone -/
def flIn (A : Nat → Int) (i : Nat) (days : Int) : Int := flg (fun n => wts A (lkF A (ldF A i) days) (A 4) n) (A 0).toNat
def cpIn (A : Nat → Int) (i : Nat) (days : Int) : Int := cap (fun n => wts A (lkF A (ldF A i) days) (A 4) n) (A 0).toNat
def thn (M : Mm) (A : Nat → Int) (i : Nat) (days : Int) : Mm := fillP M 114 (fun g => max 0 (ldF A i g - days * A (34 + 3 * g))) (A 1).toNat
theorem n_leakFor (hd : 2 ≤ d) (h : RelS xs M A N B P) {i : Nat} {days : Int} (hi : (i : Int) < A 3) (h0 : 0 ≤ days) (h1 : days ≤ 99) : callD d m_Outlook_leakFor [vR 2 0 113, vR 0 0 19, vR 8 0 (57 + 2 * i), vI days] (SH L) M = some (none, SH L, thn M A i days) := by
  have hC := h.cn
  unfold Cn at hC
  have hct := h.cnt
  have hg := h.good
  have ht := h.ldf hi
  have st : ∀ k : Nat, k < (A 1).toNat → Run (callD (d - 1)) tb_Outlook_leakFor 3 [vR 2 0 113, vR 0 0 19, vR 8 0 (57 + 2 * i), vI days, vI (k : Int)] [] (SH L) (fillP M 114 (fun g => max 0 (ldF A i g - days * A (34 + 3 * g))) k) = Run (callD (d - 1)) tb_Outlook_leakFor 3 [vR 2 0 113, vR 0 0 19, vR 8 0 (57 + 2 * i), vI days, vI ((k + 1 : Nat) : Int)] [] (SH L) (fillP M 114 (fun g => max 0 (ldF A i g - days * A (34 + 3 * g))) (k + 1)) := by
    intro k hk
    have e1 := ld_nw h hi k (by omega)
    have e2 := h.dy h0 h1 (g := k) (by omega)
    rw [b_Outlook_leakFor_3, ← fill_s M 114 (fun g => max 0 (ldF A i g - days * A (34 + 3 * g))) k rfl]
    repeat' first
      | (with_reducible apply bR_go; (simp (disch := omega) only [rM L, rK L, rN L, rNf, rNv, rNp, rNd, rRow, rLeg, rMark, nat_cast, Int.reduceToNat, hct, hg, ht]; with_reducible exact rfl))
      | with_reducible apply bI_go
      | with_reducible apply bV_go
      | with_reducible apply bL_go
      | (with_reducible apply it_1; (first | omega | (simp (disch := omega) only [not_false_eq_true, not_true_eq_false, w32_id, tLt, fLt, tLe, fEq, itE, and_true, true_and, and_self, and_false, false_and, ↓reduceIte, nat_add, nat_mul3, nat_mul4, nat_mul6, nat_mul15, nat_mul60, nat_cast, nc1, Int.reduceToNat, upE, upN, fill_ne, fill_in, i0, hct, hg, ht] <;> omega)))
      | (with_reducible apply it_2; (first | omega | (simp (disch := omega) only [not_false_eq_true, not_true_eq_false, w32_id, tLt, fLt, tLe, fEq, itE, and_true, true_and, and_self, and_false, false_and, ↓reduceIte, nat_add, nat_mul3, nat_mul4, nat_mul6, nat_mul15, nat_mul60, nat_cast, nc1, Int.reduceToNat, upE, upN, fill_ne, fill_in, i0, hct, hg, ht] <;> omega)))
      | (with_reducible refine cl_go ?_; simp (disch := omega) only [not_false_eq_true, not_true_eq_false, w32_id, tLt, fLt, tLe, fEq, itE, and_true, true_and, and_self, and_false, false_and, ↓reduceIte, nat_add, nat_mul3, nat_mul4, nat_mul6, nat_mul15, nat_mul60, nat_cast, nc1, Int.reduceToNat, upE, upN, fill_ne, fill_in, i0, hct, hg, ht])
      | rw [c_Outlook_leaked (by omega), b_Outlook_leaked_0]
      | (with_reducible refine rn_go ?_; simp (disch := omega) only [not_false_eq_true, not_true_eq_false, w32_id, tLt, fLt, tLe, fEq, itE, and_true, true_and, and_self, and_false, false_and, ↓reduceIte, nat_add, nat_mul3, nat_mul4, nat_mul6, nat_mul15, nat_mul60, nat_cast, nc1, Int.reduceToNat, upE, upN, fill_ne, fill_in, i0, hct, hg, ht])
      | (with_reducible refine lf_go ?_; simp (disch := omega) only [not_false_eq_true, not_true_eq_false, w32_id, tLt, fLt, tLe, fEq, itE, and_true, true_and, and_self, and_false, false_and, ↓reduceIte, nat_add, nat_mul3, nat_mul4, nat_mul6, nat_mul15, nat_mul60, nat_cast, nc1, Int.reduceToNat, upE, upN, fill_ne, fill_in, i0, hct, hg, ht])
      | with_reducible exact rfl
  rw [c_Outlook_leakFor (by omega), b_Outlook_leakFor_0]
  have e := loop_up (fun k => Run (callD (d - 1)) tb_Outlook_leakFor 3 [vR 2 0 113, vR 0 0 19, vR 8 0 (57 + 2 * i), vI days, vI (k : Int)] [] (SH L) (fillP M 114 (fun g => max 0 (ldF A i g - days * A (34 + 3 * g))) k)) (A 1).toNat st 0 (by omega)
  rw [fill_0] at e
  refine e.trans ?_
  rw [b_Outlook_leakFor_3]
  unfold thn
  repeat' first
    | (with_reducible apply bR_go; (simp (disch := omega) only [rM L, rK L, rN L, rNf, rNv, rNp, rNd, rRow, rLeg, rMark, nat_cast, Int.reduceToNat, hct]; with_reducible exact rfl))
    | with_reducible apply bI_go
    | with_reducible apply bV_go
    | with_reducible apply bL_go
    | (with_reducible apply it_1; (first | omega | (simp (disch := omega) only [not_false_eq_true, not_true_eq_false, w32_id, tLt, fLt, tLe, fEq, itE, and_true, true_and, and_self, and_false, false_and, ↓reduceIte, nat_add, nat_mul3, nat_mul4, nat_mul6, nat_mul15, nat_mul60, nat_cast, nc1, Int.reduceToNat, upE, upN, fill_ne, fill_in, i0, hct] <;> omega)))
    | (with_reducible apply it_2; (first | omega | (simp (disch := omega) only [not_false_eq_true, not_true_eq_false, w32_id, tLt, fLt, tLe, fEq, itE, and_true, true_and, and_self, and_false, false_and, ↓reduceIte, nat_add, nat_mul3, nat_mul4, nat_mul6, nat_mul15, nat_mul60, nat_cast, nc1, Int.reduceToNat, upE, upN, fill_ne, fill_in, i0, hct] <;> omega)))
    | (with_reducible refine cl_go ?_; simp (disch := omega) only [not_false_eq_true, not_true_eq_false, w32_id, tLt, fLt, tLe, fEq, itE, and_true, true_and, and_self, and_false, false_and, ↓reduceIte, nat_add, nat_mul3, nat_mul4, nat_mul6, nat_mul15, nat_mul60, nat_cast, nc1, Int.reduceToNat, upE, upN, fill_ne, fill_in, i0, hct])
    | (with_reducible refine rn_go ?_; simp (disch := omega) only [not_false_eq_true, not_true_eq_false, w32_id, tLt, fLt, tLe, fEq, itE, and_true, true_and, and_self, and_false, false_and, ↓reduceIte, nat_add, nat_mul3, nat_mul4, nat_mul6, nat_mul15, nat_mul60, nat_cast, nc1, Int.reduceToNat, upE, upN, fill_ne, fill_in, i0, hct])
    | (with_reducible refine lf_go ?_; simp (disch := omega) only [not_false_eq_true, not_true_eq_false, w32_id, tLt, fLt, tLe, fEq, itE, and_true, true_and, and_self, and_false, false_and, ↓reduceIte, nat_add, nat_mul3, nat_mul4, nat_mul6, nat_mul15, nat_mul60, nat_cast, nc1, Int.reduceToNat, upE, upN, fill_ne, fill_in, i0, hct])
    | with_reducible exact rfl
theorem thn_rel (h : RelS xs M A N B P) (i : Nat) (days : Int) : RelS xs (thn M A i days) A N B P := by
  unfold thn
  exact (by repeat' first | assumption | apply RelS.up | apply RelS.fill | (intros; unfold core k1 kTr kTp kLv kLp kMk kNw; omega))
theorem thn_ld {i : Nat} {days : Int} : ∀ g : Nat, (g : Int) < A 1 → thn M A i days 114 g = lkF A (ldF A i) days g := fun g hg => by
  unfold thn lkF
  rw [fill_in rfl (by omega), if_pos hg]
theorem thn_st {i : Nat} {days : Int} : thn M A i days 3 15 = M 3 15 ∧ thn M A i days 271 2 = M 271 2 := by
  unfold thn
  exact ⟨fill_ne (by omega), fill_ne (by omega)⟩
theorem thn_rd {i : Nat} {days : Int} {b j : Nat} (hb : b ≠ 114) : thn M A i days b j = M b j := by
  unfold thn
  exact fill_ne (by omega)
theorem n_flagAfter (hd : 3 ≤ d) (h : RelS xs M A N B P) {i : Nat} {days : Int} (hi : (i : Int) < A 3) (h0 : 0 ≤ days) (h1 : days ≤ 99) : callD d m_Outlook_flagAfter [vR 2 0 113, vR 0 0 19, vR 8 0 (57 + 2 * i), vI days] (SH L) M = some (some (vI (flIn A i days)), SH L, fillP (thn M A i days) 48 (fun n => wts A (lkF A (ldF A i) days) (A 4) n) (A 0).toNat) := by
  have h' := thn_rel h i days
  have hlw := h'.law
  have e := n_leakFor (L := L) (d := d - 1) (by omega) h hi h0 h1
  unfold flIn
  repeat' first
    | (with_reducible apply bR_go; (simp (disch := omega) only [rM L, rK L, rN L, rNf, rNv, rNp, rNd, rRow, rLeg, rMark, nat_cast, Int.reduceToNat, hlw]; with_reducible exact rfl))
    | with_reducible apply bI_go
    | with_reducible apply bV_go
    | with_reducible apply bL_go
    | (with_reducible apply it_1; (first | omega | (simp (disch := omega) only [not_false_eq_true, not_true_eq_false, w32_id, tLt, fLt, tLe, fEq, itE, and_true, true_and, and_self, and_false, false_and, ↓reduceIte, nat_add, nat_mul3, nat_mul4, nat_mul6, nat_mul15, nat_mul60, nat_cast, nc1, Int.reduceToNat, upE, upN, fill_ne, fill_in, i0, hlw] <;> omega)))
    | (with_reducible apply it_2; (first | omega | (simp (disch := omega) only [not_false_eq_true, not_true_eq_false, w32_id, tLt, fLt, tLe, fEq, itE, and_true, true_and, and_self, and_false, false_and, ↓reduceIte, nat_add, nat_mul3, nat_mul4, nat_mul6, nat_mul15, nat_mul60, nat_cast, nc1, Int.reduceToNat, upE, upN, fill_ne, fill_in, i0, hlw] <;> omega)))
    | (with_reducible refine cl_go ?_; simp (disch := omega) only [not_false_eq_true, not_true_eq_false, w32_id, tLt, fLt, tLe, fEq, itE, and_true, true_and, and_self, and_false, false_and, ↓reduceIte, nat_add, nat_mul3, nat_mul4, nat_mul6, nat_mul15, nat_mul60, nat_cast, nc1, Int.reduceToNat, upE, upN, fill_ne, fill_in, i0, hlw])
    | rw [c_Outlook_flagAfter (by omega), b_Outlook_flagAfter_0]
    | with_reducible exact e
    | with_reducible exact s_Chart_ruler (by omega) ch19 h'.ch h.cn h.gd thn_ld (lk_ld h hi h0 h1) (by omega)
    | (with_reducible refine rn_go ?_; simp (disch := omega) only [not_false_eq_true, not_true_eq_false, w32_id, tLt, fLt, tLe, fEq, itE, and_true, true_and, and_self, and_false, false_and, ↓reduceIte, nat_add, nat_mul3, nat_mul4, nat_mul6, nat_mul15, nat_mul60, nat_cast, nc1, Int.reduceToNat, upE, upN, fill_ne, fill_in, i0, hlw])
    | (with_reducible refine lf_go ?_; simp (disch := omega) only [not_false_eq_true, not_true_eq_false, w32_id, tLt, fLt, tLe, fEq, itE, and_true, true_and, and_self, and_false, false_and, ↓reduceIte, nat_add, nat_mul3, nat_mul4, nat_mul6, nat_mul15, nat_mul60, nat_cast, nc1, Int.reduceToNat, upE, upN, fill_ne, fill_in, i0, hlw])
    | with_reducible exact rfl
theorem n_capAfter (hd : 2 ≤ d) (h : RelS xs M A N B P) {i : Nat} {days : Int} (hi : (i : Int) < A 3) (h0 : 0 ≤ days) (h1 : days ≤ 99) : callD d m_Chart_captainSet [vR 0 0 19, vR 20 8 114, vI (A 4)] (SH L) (thn M A i days) = some (some (vI (cpIn A i days)), SH L, fillP (thn M A i days) 48 (fun n => wts A (lkF A (ldF A i) days) (A 4) n) (A 0).toNat) :=
  s_Chart_captainSet hd ch19 (thn_rel h i days).ch h.cn h.gd thn_ld (lk_ld h hi h0 h1) (by omega)
theorem n_leaks (hd : 2 ≤ d) (h : RelS xs M A N B P) {days : Int} {ld : Nat → Int} (hl : ∀ g, g < 8 → M 280 g = ld g) (hL : Ld ld) (h0 : 0 ≤ days) (h1 : days ≤ 99) : callD d m_Mo_leaks [vR 12 0 271, vI days] (SH L) M = some (none, SH L, fillP M 280 (fun g => max 0 (ld g - days * A (34 + 3 * g))) (A 1).toNat) := by
  have hC := h.cn
  unfold Cn at hC
  have hA := h.hA
  have st : ∀ k : Nat, k < (A 1).toNat → Run (callD (d - 1)) tb_Mo_leaks 2 [vR 12 0 271, vI days, vI (k : Int)] [] (SH L) (fillP M 280 (fun g => max 0 (ld g - days * A (34 + 3 * g))) k) = Run (callD (d - 1)) tb_Mo_leaks 2 [vR 12 0 271, vI days, vI ((k + 1 : Nat) : Int)] [] (SH L) (fillP M 280 (fun g => max 0 (ld g - days * A (34 + 3 * g))) (k + 1)) := by
    intro k hk
    have e1 := hL k (by omega)
    have e2 := h.dy h0 h1 (g := k) (by omega)
    rw [b_Mo_leaks_2, ← fill_s M 280 (fun g => max 0 (ld g - days * A (34 + 3 * g))) k rfl]
    repeat' first
      | (with_reducible apply bR_go; (simp (disch := omega) only [rM L, rK L, rN L, rNf, rNv, rNp, rNd, rRow, rLeg, rMark, nat_cast, Int.reduceToNat, hA, hl, i33]; with_reducible exact rfl))
      | with_reducible apply bI_go
      | with_reducible apply bV_go
      | with_reducible apply bL_go
      | (with_reducible apply it_1; (first | omega | (simp (disch := omega) only [not_false_eq_true, not_true_eq_false, w32_id, tLt, fLt, tLe, fEq, itE, and_true, true_and, and_self, and_false, false_and, ↓reduceIte, nat_add, nat_mul3, nat_mul4, nat_mul6, nat_mul15, nat_mul60, nat_cast, nc1, Int.reduceToNat, upE, upN, fill_ne, fill_in, i0, hA, hl, i33] <;> omega)))
      | (with_reducible apply it_2; (first | omega | (simp (disch := omega) only [not_false_eq_true, not_true_eq_false, w32_id, tLt, fLt, tLe, fEq, itE, and_true, true_and, and_self, and_false, false_and, ↓reduceIte, nat_add, nat_mul3, nat_mul4, nat_mul6, nat_mul15, nat_mul60, nat_cast, nc1, Int.reduceToNat, upE, upN, fill_ne, fill_in, i0, hA, hl, i33] <;> omega)))
      | (with_reducible refine cl_go ?_; simp (disch := omega) only [not_false_eq_true, not_true_eq_false, w32_id, tLt, fLt, tLe, fEq, itE, and_true, true_and, and_self, and_false, false_and, ↓reduceIte, nat_add, nat_mul3, nat_mul4, nat_mul6, nat_mul15, nat_mul60, nat_cast, nc1, Int.reduceToNat, upE, upN, fill_ne, fill_in, i0, hA, hl, i33])
      | rw [c_Mo_goodRow (by omega), b_Mo_goodRow_0]
      | (with_reducible refine rn_go ?_; simp (disch := omega) only [not_false_eq_true, not_true_eq_false, w32_id, tLt, fLt, tLe, fEq, itE, and_true, true_and, and_self, and_false, false_and, ↓reduceIte, nat_add, nat_mul3, nat_mul4, nat_mul6, nat_mul15, nat_mul60, nat_cast, nc1, Int.reduceToNat, upE, upN, fill_ne, fill_in, i0, hA, hl, i33])
      | (with_reducible refine lf_go ?_; simp (disch := omega) only [not_false_eq_true, not_true_eq_false, w32_id, tLt, fLt, tLe, fEq, itE, and_true, true_and, and_self, and_false, false_and, ↓reduceIte, nat_add, nat_mul3, nat_mul4, nat_mul6, nat_mul15, nat_mul60, nat_cast, nc1, Int.reduceToNat, upE, upN, fill_ne, fill_in, i0, hA, hl, i33])
      | with_reducible exact rfl
  rw [c_Mo_leaks (by omega), b_Mo_leaks_0]
  have e := loop_up (fun k => Run (callD (d - 1)) tb_Mo_leaks 2 [vR 12 0 271, vI days, vI (k : Int)] [] (SH L) (fillP M 280 (fun g => max 0 (ld g - days * A (34 + 3 * g))) k)) (A 1).toNat st 0 (by omega)
  rw [fill_0] at e
  refine e.trans ?_
  rw [b_Mo_leaks_2]
  repeat' first
    | (with_reducible apply bR_go; (simp (disch := omega) only [rM L, rK L, rN L, rNf, rNv, rNp, rNd, rRow, rLeg, rMark, nat_cast, Int.reduceToNat, hA]; with_reducible exact rfl))
    | with_reducible apply bI_go
    | with_reducible apply bV_go
    | with_reducible apply bL_go
    | (with_reducible apply it_1; (first | omega | (simp (disch := omega) only [not_false_eq_true, not_true_eq_false, w32_id, tLt, fLt, tLe, fEq, itE, and_true, true_and, and_self, and_false, false_and, ↓reduceIte, nat_add, nat_mul3, nat_mul4, nat_mul6, nat_mul15, nat_mul60, nat_cast, nc1, Int.reduceToNat, upE, upN, fill_ne, fill_in, i0, hA] <;> omega)))
    | (with_reducible apply it_2; (first | omega | (simp (disch := omega) only [not_false_eq_true, not_true_eq_false, w32_id, tLt, fLt, tLe, fEq, itE, and_true, true_and, and_self, and_false, false_and, ↓reduceIte, nat_add, nat_mul3, nat_mul4, nat_mul6, nat_mul15, nat_mul60, nat_cast, nc1, Int.reduceToNat, upE, upN, fill_ne, fill_in, i0, hA] <;> omega)))
    | (with_reducible refine cl_go ?_; simp (disch := omega) only [not_false_eq_true, not_true_eq_false, w32_id, tLt, fLt, tLe, fEq, itE, and_true, true_and, and_self, and_false, false_and, ↓reduceIte, nat_add, nat_mul3, nat_mul4, nat_mul6, nat_mul15, nat_mul60, nat_cast, nc1, Int.reduceToNat, upE, upN, fill_ne, fill_in, i0, hA])
    | (with_reducible refine rn_go ?_; simp (disch := omega) only [not_false_eq_true, not_true_eq_false, w32_id, tLt, fLt, tLe, fEq, itE, and_true, true_and, and_self, and_false, false_and, ↓reduceIte, nat_add, nat_mul3, nat_mul4, nat_mul6, nat_mul15, nat_mul60, nat_cast, nc1, Int.reduceToNat, upE, upN, fill_ne, fill_in, i0, hA])
    | (with_reducible refine lf_go ?_; simp (disch := omega) only [not_false_eq_true, not_true_eq_false, w32_id, tLt, fLt, tLe, fEq, itE, and_true, true_and, and_self, and_false, false_and, ↓reduceIte, nat_add, nat_mul3, nat_mul4, nat_mul6, nat_mul15, nat_mul60, nat_cast, nc1, Int.reduceToNat, upE, upN, fill_ne, fill_in, i0, hA])
    | with_reducible exact rfl
theorem n_loadsIn (hd : 4 ≤ d) (h : RelS xs M A N B P) {s days : Int} (hs : 0 ≤ s) (hs' : s < A 3) (h0 : 0 ≤ days) (h1 : days ≤ 99) : callD d m_Mo_loadsIn [vR 12 0 271, vI s, vI days] (SH L) M = some (none, SH L, fillP M 280 (lkF A (ldF A s.toNat) days) 8) := by
  have hC := h.cn
  unfold Cn at hC
  rw [← fill_fill (M := M) (a := 280) (f := ldF A s.toNat) (f' := fun g => max 0 (ldF A s.toNat g - days * A (34 + 3 * g))) (h := lkF A (ldF A s.toNat) days) (n := (A 1).toNat) (m := 8) (by omega) (fun g hg => by unfold lkF; rw [if_pos (by omega)]) (fun g hg _ => by unfold lkF; rw [if_neg (by omega)])]
  repeat' first
    | (with_reducible apply bR_go; (simp (disch := omega) only [rM L, rK L, rN L, rNf, rNv, rNp, rNd, rRow, rLeg, rMark, nat_cast, Int.reduceToNat]; with_reducible exact rfl))
    | with_reducible apply bI_go
    | with_reducible apply bV_go
    | with_reducible apply bL_go
    | (with_reducible apply it_1; (first | omega | (simp (disch := omega) only [not_false_eq_true, not_true_eq_false, w32_id, tLt, fLt, tLe, fEq, itE, and_true, true_and, and_self, and_false, false_and, ↓reduceIte, nat_add, nat_mul3, nat_mul4, nat_mul6, nat_mul15, nat_mul60, nat_cast, nc1, Int.reduceToNat, upE, upN, fill_ne, fill_in, i0] <;> omega)))
    | (with_reducible apply it_2; (first | omega | (simp (disch := omega) only [not_false_eq_true, not_true_eq_false, w32_id, tLt, fLt, tLe, fEq, itE, and_true, true_and, and_self, and_false, false_and, ↓reduceIte, nat_add, nat_mul3, nat_mul4, nat_mul6, nat_mul15, nat_mul60, nat_cast, nc1, Int.reduceToNat, upE, upN, fill_ne, fill_in, i0] <;> omega)))
    | (with_reducible refine cl_go ?_; simp (disch := omega) only [not_false_eq_true, not_true_eq_false, w32_id, tLt, fLt, tLe, fEq, itE, and_true, true_and, and_self, and_false, false_and, ↓reduceIte, nat_add, nat_mul3, nat_mul4, nat_mul6, nat_mul15, nat_mul60, nat_cast, nc1, Int.reduceToNat, upE, upN, fill_ne, fill_in, i0])
    | rw [c_Mo_loadsIn (by omega), b_Mo_loadsIn_0]
    | with_reducible exact n_loads (by omega) h (by omega) (by omega)
    | with_reducible exact n_leaks (by omega) (by repeat' first | assumption | apply RelS.up | apply RelS.fill | (intros; unfold core k1 kTr kTp kLv kLp kMk kNw; omega)) (ld := ldF A s.toNat) (by intro g hg; simp (disch := omega) only [upN, fill_in, fill_ne]) (h.ld (by omega)) (by omega) (by omega)
    | (with_reducible refine rn_go ?_; simp (disch := omega) only [not_false_eq_true, not_true_eq_false, w32_id, tLt, fLt, tLe, fEq, itE, and_true, true_and, and_self, and_false, false_and, ↓reduceIte, nat_add, nat_mul3, nat_mul4, nat_mul6, nat_mul15, nat_mul60, nat_cast, nc1, Int.reduceToNat, upE, upN, fill_ne, fill_in, i0])
    | (with_reducible refine lf_go ?_; simp (disch := omega) only [not_false_eq_true, not_true_eq_false, w32_id, tLt, fLt, tLe, fEq, itE, and_true, true_and, and_self, and_false, false_and, ↓reduceIte, nat_add, nat_mul3, nat_mul4, nat_mul6, nat_mul15, nat_mul60, nat_cast, nc1, Int.reduceToNat, upE, upN, fill_ne, fill_in, i0])
    | with_reducible exact rfl
theorem n_flagBy (hd : 6 ≤ d) (h : RelS xs M A N B P) {s days : Int} (hs : 0 ≤ s) (hs' : s < A 3) (h0 : 0 ≤ days) (h1 : days ≤ 99) : callD d m_Mo_flagBy [vR 12 0 271, vI s, vI days] (SH L) M = some (some (vI (flIn A s.toNat days)), SH L, fillP M 280 (lkF A (ldF A s.toNat) days) 8) := by
  unfold flIn
  have hL := lk_ld h (i := s.toNat) (by omega) h0 h1
  repeat' first
    | (with_reducible apply bR_go; (simp (disch := omega) only [rM L, rK L, rN L, rNf, rNv, rNp, rNd, rRow, rLeg, rMark, nat_cast, Int.reduceToNat]; with_reducible exact rfl))
    | with_reducible apply bI_go
    | with_reducible apply bV_go
    | with_reducible apply bL_go
    | (with_reducible apply it_1; (first | omega | (simp (disch := omega) only [not_false_eq_true, not_true_eq_false, w32_id, tLt, fLt, tLe, fEq, itE, and_true, true_and, and_self, and_false, false_and, ↓reduceIte, nat_add, nat_mul3, nat_mul4, nat_mul6, nat_mul15, nat_mul60, nat_cast, nc1, Int.reduceToNat, upE, upN, fill_ne, fill_in, i0] <;> omega)))
    | (with_reducible apply it_2; (first | omega | (simp (disch := omega) only [not_false_eq_true, not_true_eq_false, w32_id, tLt, fLt, tLe, fEq, itE, and_true, true_and, and_self, and_false, false_and, ↓reduceIte, nat_add, nat_mul3, nat_mul4, nat_mul6, nat_mul15, nat_mul60, nat_cast, nc1, Int.reduceToNat, upE, upN, fill_ne, fill_in, i0] <;> omega)))
    | (with_reducible refine cl_go ?_; simp (disch := omega) only [not_false_eq_true, not_true_eq_false, w32_id, tLt, fLt, tLe, fEq, itE, and_true, true_and, and_self, and_false, false_and, ↓reduceIte, nat_add, nat_mul3, nat_mul4, nat_mul6, nat_mul15, nat_mul60, nat_cast, nc1, Int.reduceToNat, upE, upN, fill_ne, fill_in, i0])
    | rw [c_Mo_flagBy (by omega), b_Mo_flagBy_0]
    | with_reducible exact n_loadsIn (by omega) h (by omega) (by omega) (by omega) (by omega)
    | with_reducible exact n_flag (by omega) (by repeat' first | assumption | apply RelS.up | apply RelS.fill | (intros; unfold core k1 kTr kTp kLv kLp kMk kNw; omega)) (ld := lkF A (ldF A s.toNat) days) (by intro g hg; simp (disch := omega) only [upN, fill_in, fill_ne]) hL
    | (with_reducible refine rn_go ?_; simp (disch := omega) only [not_false_eq_true, not_true_eq_false, w32_id, tLt, fLt, tLe, fEq, itE, and_true, true_and, and_self, and_false, false_and, ↓reduceIte, nat_add, nat_mul3, nat_mul4, nat_mul6, nat_mul15, nat_mul60, nat_cast, nc1, Int.reduceToNat, upE, upN, fill_ne, fill_in, i0])
    | (with_reducible refine lf_go ?_; simp (disch := omega) only [not_false_eq_true, not_true_eq_false, w32_id, tLt, fLt, tLe, fEq, itE, and_true, true_and, and_self, and_false, false_and, ↓reduceIte, nat_add, nat_mul3, nat_mul4, nat_mul6, nat_mul15, nat_mul60, nat_cast, nc1, Int.reduceToNat, upE, upN, fill_ne, fill_in, i0])
    | with_reducible exact rfl
end
theorem case_flagIn (x1 x2 : Int) : Case m_Ca_flagIn m_Mo_flagIn [vI x1, vI x2] := by
  intro L xs M A N B P ⟨hs0, h⟩
  have hC := h.cn
  unfold Cn at hC
  have hA := h.hA
  have hct := h.cnt
  have hlw := h.law
  repeat' first
    | (with_reducible apply wp_bR; (simp (disch := omega) only [rM L, rK L, rN L, rNf, rNv, rNp, rNd, rRow, rLeg, rMark, nat_cast, Int.reduceToNat, hA, hct, thn_rd, cmp_neg, cmp_pos]; with_reducible exact rfl))
    | with_reducible apply wp_bI
    | with_reducible apply wp_bV
    | with_reducible apply wp_bL
    | with_reducible apply wp_rI
    | with_reducible apply wp_rV
    | with_reducible apply wp_rL
    | (with_reducible apply wp_1; (first | omega | (simp (disch := omega) only [not_false_eq_true, not_true_eq_false, w32_id, tLt, fLt, tLe, fEq, itE, and_true, true_and, and_self, and_false, false_and, ↓reduceIte, nat_add, nat_mul3, nat_mul4, nat_mul6, nat_mul15, nat_mul60, nat_cast, nc1, Int.reduceToNat, upE, upN, fill_ne, fill_in, i0, hA, hct, thn_rd, cmp_neg, cmp_pos] <;> omega)))
    | (with_reducible apply wp_2; (first | omega | (simp (disch := omega) only [not_false_eq_true, not_true_eq_false, w32_id, tLt, fLt, tLe, fEq, itE, and_true, true_and, and_self, and_false, false_and, ↓reduceIte, nat_add, nat_mul3, nat_mul4, nat_mul6, nat_mul15, nat_mul60, nat_cast, nc1, Int.reduceToNat, upE, upN, fill_ne, fill_in, i0, hA, hct, thn_rd, cmp_neg, cmp_pos] <;> omega)))
    | (with_reducible apply wp_s; (first | (simp (disch := omega) only [not_false_eq_true, not_true_eq_false, w32_id, tLt, fLt, tLe, fEq, itE, and_true, true_and, and_self, and_false, false_and, ↓reduceIte, nat_add, nat_mul3, nat_mul4, nat_mul6, nat_mul15, nat_mul60, nat_cast, nc1, Int.reduceToNat, upE, upN, fill_ne, fill_in, i0, hA, hct, thn_rd, cmp_neg, cmp_pos]; with_reducible exact Iff.rfl) | with_reducible exact Iff.rfl); intro hc__; (try subst hc__); rotate_left; intro hc__; rotate_left)
    | (with_reducible apply wp_eq; (with_reducible apply cl_go; simp (disch := omega) only [not_false_eq_true, not_true_eq_false, w32_id, tLt, fLt, tLe, fEq, itE, and_true, true_and, and_self, and_false, false_and, ↓reduceIte, nat_add, nat_mul3, nat_mul4, nat_mul6, nat_mul15, nat_mul60, nat_cast, nc1, Int.reduceToNat, upE, upN, fill_ne, fill_in, i0, hA, hct, thn_rd, cmp_neg, cmp_pos]; with_reducible exact rfl))
    | (with_reducible refine wp_eq (c_Ca_flagIn (by omega) _ _ _ _ _) ?_; with_reducible refine wp_eq (b_Ca_flagIn_0 _ _ _ _ _ _) ?_)
    | (with_reducible refine wp_eq (c_Ca_isOutlook (by omega) _ _ _ _ _) ?_; with_reducible refine wp_eq (b_Ca_isOutlook_0 _ _ _ _ _ _) ?_)
    | (with_reducible refine wp_eq (c_Ca_within (by omega) _ _ _ _ _) ?_; with_reducible refine wp_eq (b_Ca_within_0 _ _ _ _ _ _) ?_)
    | (with_reducible refine wp_eq (c_Ca_isShip (by omega) _ _ _ _) ?_; with_reducible refine wp_eq (b_Ca_isShip_0 _ _ _ _ _) ?_)
    | (with_reducible refine wp_eq (c_Ca_isNation (by omega) _ _ _ _) ?_; with_reducible refine wp_eq (b_Ca_isNation_0 _ _ _ _ _) ?_)
    | (with_reducible refine wp_eq (c_Ca_isGood (by omega) _ _ _ _) ?_; with_reducible refine wp_eq (b_Ca_isGood_0 _ _ _ _ _) ?_)
    | (with_reducible refine wp_eq (c_Ca_isPort (by omega) _ _ _ _) ?_; with_reducible refine wp_eq (b_Ca_isPort_0 _ _ _ _ _) ?_)
    | (with_reducible refine wp_eq (c_Ca_areTwo (by omega) _ _ _ _ _ _) ?_; with_reducible refine wp_eq (b_Ca_areTwo_0 _ _ _ _ _ _ _) ?_)
    | (with_reducible refine wp_eq (c_Ca_answer (by omega) _ _ _ _) ?_; with_reducible refine wp_eq (b_Ca_answer_0 _ _ _ _ _) ?_)
    | (with_reducible refine wp_eq (c_Ca_refuse (by omega) _ _ _ _) ?_; with_reducible refine wp_eq (b_Ca_refuse_0 _ _ _ _ _) ?_)
    | (with_reducible refine wp_eq (c_Ca_answerOr (by omega) _ _ _ _ _) ?_; with_reducible refine wp_eq (b_Ca_answerOr_0 _ _ _ _ _ _) ?_)
    | (with_reducible refine wp_eq (c_Ca_agree (by omega) _ _ _) ?_; with_reducible refine wp_eq (b_Ca_agree_0 _ _ _ _) ?_)
    | (with_reducible refine wp_eq (c_Ca_deny (by omega) _ _ _ _) ?_; with_reducible refine wp_eq (b_Ca_deny_0 _ _ _ _ _) ?_)
    | (with_reducible refine wp_eq (c_Mo_flagIn (by omega) _ _ _ _ _) ?_; with_reducible refine wp_eq (b_Mo_flagIn_0 _ _ _ _ _ _) ?_)
    | (with_reducible refine wp_eq (c_Mo_isSpan (by omega) _ _ _ _ _) ?_; with_reducible refine wp_eq (b_Mo_isSpan_0 _ _ _ _ _ _) ?_)
    | (with_reducible refine wp_eq (c_Mo_isShip (by omega) _ _ _ _) ?_; with_reducible refine wp_eq (b_Mo_isShip_0 _ _ _ _ _) ?_)
    | (with_reducible refine wp_eq (c_Mo_isNation (by omega) _ _ _ _) ?_; with_reducible refine wp_eq (b_Mo_isNation_0 _ _ _ _ _) ?_)
    | (with_reducible refine wp_eq (c_Mo_isGood (by omega) _ _ _ _) ?_; with_reducible refine wp_eq (b_Mo_isGood_0 _ _ _ _ _) ?_)
    | (with_reducible refine wp_eq (c_Mo_isPort (by omega) _ _ _ _) ?_; with_reducible refine wp_eq (b_Mo_isPort_0 _ _ _ _ _) ?_)
    | (with_reducible refine wp_eq (c_Mo_areTwo (by omega) _ _ _ _ _) ?_; with_reducible refine wp_eq (b_Mo_areTwo_0 _ _ _ _ _ _) ?_)
    | (with_reducible refine wp_eq (c_Mo_gives (by omega) _ _ _ _) ?_; with_reducible refine wp_eq (b_Mo_gives_0 _ _ _ _ _) ?_)
    | (with_reducible refine wp_eq (c_Mo_refuse (by omega) _ _ _ _) ?_; with_reducible refine wp_eq (b_Mo_refuse_0 _ _ _ _ _) ?_)
    | (with_reducible refine wp_eq (c_Mo_orNone (by omega) _ _ _ _) ?_; with_reducible refine wp_eq (b_Mo_orNone_0 _ _ _ _ _) ?_)
    | (with_reducible refine wp_eq (c_Mo_orNothing (by omega) _ _ _ _) ?_; with_reducible refine wp_eq (b_Mo_orNothing_0 _ _ _ _ _) ?_)
    | (with_reducible refine wp_eq (c_Mo_is (by omega) _ _ _ _) ?_; with_reducible refine wp_eq (b_Mo_is_0 _ _ _ _ _) ?_)
    | (with_reducible refine wp_eq (c_Mo_isRule (by omega) _ _ _) ?_; with_reducible refine wp_eq (b_Mo_isRule_0 _ _ _ _) ?_)
    | (with_reducible refine wp_eq (c_Mo_isTons (by omega) _ _ _) ?_; with_reducible refine wp_eq (b_Mo_isTons_0 _ _ _ _) ?_)
    | (with_reducible refine wp_eq (c_Mo_isFrom (by omega) _ _ _ _ _) ?_; with_reducible refine wp_eq (b_Mo_isFrom_0 _ _ _ _ _ _) ?_)
    | (with_reducible refine wp_eq (c_Mo_isTray (by omega) _ _ _) ?_; with_reducible refine wp_eq (b_Mo_isTray_0 _ _ _ _) ?_)
    | with_reducible refine wp_eq (n_flagAfter (by omega) (by repeat' first | assumption | apply RelS.up | apply RelS.fill | (intros; unfold core k1 kTr kTp kLv kLp kMk kNw; omega)) (by omega) (by omega) (by omega)) ?_
    | with_reducible refine wp_eq (n_flagBy (by omega) (by repeat' first | assumption | apply RelS.up | apply RelS.fill | apply thn_rel | (intros; unfold core k1 kTr kTp kLv kLp kMk kNw; omega)) (by omega) (by omega) (by omega) (by omega)) ?_
    | (with_reducible apply wp_eq; (with_reducible apply lf_go; simp (disch := omega) only [not_false_eq_true, not_true_eq_false, w32_id, tLt, fLt, tLe, fEq, itE, and_true, true_and, and_self, and_false, false_and, ↓reduceIte, nat_add, nat_mul3, nat_mul4, nat_mul6, nat_mul15, nat_mul60, nat_cast, nc1, Int.reduceToNat, upE, upN, fill_ne, fill_in, i0, hA, hct, thn_rd, cmp_neg, cmp_pos]; with_reducible exact rfl))
    | with_reducible apply wp_q1
  all_goals exact wp_ask (by first | rfl | exact congrArg (fun z => some (vI z)) (by omega)) (by repeat' first | assumption | apply RelS.up | apply RelS.fill | apply thn_rel | (intros; unfold core k1 kTr kTp kLv kLp kMk kNw; omega)) (by simp (disch := omega) only [not_false_eq_true, not_true_eq_false, w32_id, tLt, fLt, tLe, fEq, itE, and_true, true_and, and_self, and_false, false_and, ↓reduceIte, nat_add, nat_mul3, nat_mul4, nat_mul6, nat_mul15, nat_mul60, nat_cast, nc1, Int.reduceToNat, upE, upN, fill_ne, fill_in, i0])

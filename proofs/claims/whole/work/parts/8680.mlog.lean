/-! whether a load of two goods fits a log, in the model -/
def twF (a : Nat) (x : Int) (b : Nat) (y : Int) (g : Nat) : Int := if g = a then x else if g = b then y else 0
section
variable {M : Mm} {A : Nat → Int} {L d : Nat}
theorem flg_day (hC : Cn A) (hG : Gd A) {a b : Nat} {x y : Int} (hab : a < b) (hb : (b : Int) < A 1) (k : Nat) (hx : 0 ≤ x ∧ x ≤ 60) (hy : 0 ≤ y ∧ y ≤ 60) : flg (fun n => wts A (lkF A (twF a x b y) k) (A 4) n) (A 0).toNat = f2d A a x b y k := by
  have hCn := hC
  unfold Cn at hCn
  have lb : ∀ g, g < 8 → 0 ≤ lkF A (twF a x b y) k g := fun g hg => by
    unfold lkF
    split
    · omega
    · unfold twF; split
      · omega
      · split <;> omega
  rw [flg_two hC hG hab hb lb ?_]
  · unfold f2d lkF
    rw [if_pos (by omega), if_pos (by omega), show twF a x b y a = x by unfold twF; rw [if_pos rfl], show twF a x b y b = y by unfold twF; rw [if_neg (by omega), if_pos rfl]]
  · intro g hg g1 g2
    have z : twF a x b y g = 0 := by unfold twF; rw [if_neg g1, if_neg g2]
    unfold lkF
    rw [z]
    split
    · next e =>
      have := hG g e
      have := mul_bd (show (0 : Int) ≤ k by omega) (Int.le_refl (k : Int)) this.2.2.2.2.1 this.2.2.2.2.2
      omega
    · rfl
theorem q_logged (hd : 7 ≤ d) (h : RelM M A) {t n a b : Nat} {x y : Int} {q : Nat → Int} (ht : t < 4) (hn : n ≤ 20) (hab : a < b) (hb : (b : Int) < A 1) (hx : 0 ≤ x ∧ x ≤ 60) (hy : 0 ≤ y ∧ y ≤ 60) (hq : ∀ k, k < n → M 276 (60 * t + k) = q k) : Wp (callD d m_Mo_isLogged [vR 12 0 271, vI (t : Int), vI (n : Int), vI (a : Int), vI x, vI (b : Int), vI y] (SH L) M) (fun r S M' => r = some (vI (fitI (f2d A a x b y) q n)) ∧ S = SH L ∧ ∀ b j, b ≠ 280 → M' b j = M b j) := by
  have hC := h.cn
  unfold Cn at hC
  have hLt : Ld (twF a x b y) := fun g _ => by
    unfold twF
    split
    · omega
    · split <;> omega
  repeat' first
    | (with_reducible apply wp_bR; (simp (disch := omega) only [rM L, rK L, rN L, rNf, rNv, rNp, rNd, rRow, rLeg, rMark, nat_cast, Int.reduceToNat]; with_reducible exact rfl))
    | with_reducible apply wp_bI
    | with_reducible apply wp_bV
    | with_reducible apply wp_bL
    | with_reducible apply wp_rI
    | with_reducible apply wp_rV
    | with_reducible apply wp_rL
    | (with_reducible apply wp_1; (first | omega | (simp (disch := omega) only [not_false_eq_true, not_true_eq_false, w32_id, tLt, fLt, tLe, fEq, itE, and_true, true_and, and_self, and_false, false_and, ↓reduceIte, nat_add, nat_mul3, nat_mul4, nat_mul6, nat_mul15, nat_mul60, nat_cast, nc1, Int.reduceToNat, upE, upN, fill_ne, fill_in, i0] <;> omega)))
    | (with_reducible apply wp_2; (first | omega | (simp (disch := omega) only [not_false_eq_true, not_true_eq_false, w32_id, tLt, fLt, tLe, fEq, itE, and_true, true_and, and_self, and_false, false_and, ↓reduceIte, nat_add, nat_mul3, nat_mul4, nat_mul6, nat_mul15, nat_mul60, nat_cast, nc1, Int.reduceToNat, upE, upN, fill_ne, fill_in, i0] <;> omega)))
    | (with_reducible apply wp_s; (first | (simp (disch := omega) only [not_false_eq_true, not_true_eq_false, w32_id, tLt, fLt, tLe, fEq, itE, and_true, true_and, and_self, and_false, false_and, ↓reduceIte, nat_add, nat_mul3, nat_mul4, nat_mul6, nat_mul15, nat_mul60, nat_cast, nc1, Int.reduceToNat, upE, upN, fill_ne, fill_in, i0]; with_reducible exact Iff.rfl) | with_reducible exact Iff.rfl); intro hc__; (try subst hc__); rotate_left; intro hc__; rotate_left)
    | (with_reducible apply wp_eq; (with_reducible apply cl_go; simp (disch := omega) only [not_false_eq_true, not_true_eq_false, w32_id, tLt, fLt, tLe, fEq, itE, and_true, true_and, and_self, and_false, false_and, ↓reduceIte, nat_add, nat_mul3, nat_mul4, nat_mul6, nat_mul15, nat_mul60, nat_cast, nc1, Int.reduceToNat, upE, upN, fill_ne, fill_in, i0]; with_reducible exact rfl))
    | (with_reducible refine wp_eq (c_Mo_isLogged (by omega) _ _ _ _ _ _ _ _ _) ?_; with_reducible refine wp_eq (b_Mo_isLogged_0 _ _ _ _ _ _ _ _ _ _) ?_)
    | (with_reducible apply wp_eq; (with_reducible apply lf_go; simp (disch := omega) only [not_false_eq_true, not_true_eq_false, w32_id, tLt, fLt, tLe, fEq, itE, and_true, true_and, and_self, and_false, false_and, ↓reduceIte, nat_add, nat_mul3, nat_mul4, nat_mul6, nat_mul15, nat_mul60, nat_cast, nc1, Int.reduceToNat, upE, upN, fill_ne, fill_in, i0]; with_reducible exact rfl))
    | with_reducible apply wp_q1
  refine wp_loop (α := Mm × AV) (G := fun k m => Run (callD (d - 1)) tb_Mo_isLogged 3 [vR 12 0 271, vI (t : Int), vI (n : Int), vI (a : Int), vI x, vI (b : Int), vI y, vI (k : Int), m.2] [] (SH L) m.1) (I := fun k m => (∀ b j, b ≠ 280 → m.1 b j = M b j) ∧ fitI (f2d A a x b y) q k = 1) n ?_ ?_ 0 (M, vU) (by omega) ⟨fun _ _ _ => rfl, rfl⟩
  · intro k ⟨M1, z⟩ hk ⟨f1, hf⟩ ih
    have f1 : ∀ b j, b ≠ 280 → M1 b j = M b j := f1
    have h1 : RelM M1 A := ⟨fun j hj => by rw [f1 _ _ (by omega)]; exact h.1 j hj, h.2⟩
    have st : ∀ g : Nat, g < 8 → Run (callD (d - 1)) tb_Mo_isLogged 12 [vR 12 0 271, vI (t : Int), vI (n : Int), vI (a : Int), vI x, vI (b : Int), vI y, vI (k : Int), vI (g : Int)] [] (SH L) (fillP M1 280 (twF a x b y) g) = Run (callD (d - 1)) tb_Mo_isLogged 12 [vR 12 0 271, vI (t : Int), vI (n : Int), vI (a : Int), vI x, vI (b : Int), vI y, vI (k : Int), vI ((g + 1 : Nat) : Int)] [] (SH L) (fillP M1 280 (twF a x b y) (g + 1)) := by
      intro g hg
      rw [b_Mo_isLogged_12, ← fill_s M1 280 (twF a x b y) g rfl]
      by_cases e1 : g = a
      · rw [show twF a x b y g = x by unfold twF; rw [if_pos e1]]
        repeat' first
          | (with_reducible apply bR_go; (simp (disch := omega) only [rM L, rK L, rN L, rNf, rNv, rNp, rNd, rRow, rLeg, rMark, nat_cast, Int.reduceToNat]; with_reducible exact rfl))
          | with_reducible apply bI_go
          | with_reducible apply bV_go
          | with_reducible apply bL_go
          | (with_reducible apply it_1; (first | omega | (simp (disch := omega) only [not_false_eq_true, not_true_eq_false, w32_id, tLt, fLt, tLe, fEq, itE, and_true, true_and, and_self, and_false, false_and, ↓reduceIte, nat_add, nat_mul3, nat_mul4, nat_mul6, nat_mul15, nat_mul60, nat_cast, nc1, Int.reduceToNat, upE, upN, fill_ne, fill_in, i0] <;> omega)))
          | (with_reducible apply it_2; (first | omega | (simp (disch := omega) only [not_false_eq_true, not_true_eq_false, w32_id, tLt, fLt, tLe, fEq, itE, and_true, true_and, and_self, and_false, false_and, ↓reduceIte, nat_add, nat_mul3, nat_mul4, nat_mul6, nat_mul15, nat_mul60, nat_cast, nc1, Int.reduceToNat, upE, upN, fill_ne, fill_in, i0] <;> omega)))
          | (with_reducible refine cl_go ?_; simp (disch := omega) only [not_false_eq_true, not_true_eq_false, w32_id, tLt, fLt, tLe, fEq, itE, and_true, true_and, and_self, and_false, false_and, ↓reduceIte, nat_add, nat_mul3, nat_mul4, nat_mul6, nat_mul15, nat_mul60, nat_cast, nc1, Int.reduceToNat, upE, upN, fill_ne, fill_in, i0])
          | (with_reducible refine rn_go ?_; simp (disch := omega) only [not_false_eq_true, not_true_eq_false, w32_id, tLt, fLt, tLe, fEq, itE, and_true, true_and, and_self, and_false, false_and, ↓reduceIte, nat_add, nat_mul3, nat_mul4, nat_mul6, nat_mul15, nat_mul60, nat_cast, nc1, Int.reduceToNat, upE, upN, fill_ne, fill_in, i0])
          | (with_reducible refine lf_go ?_; simp (disch := omega) only [not_false_eq_true, not_true_eq_false, w32_id, tLt, fLt, tLe, fEq, itE, and_true, true_and, and_self, and_false, false_and, ↓reduceIte, nat_add, nat_mul3, nat_mul4, nat_mul6, nat_mul15, nat_mul60, nat_cast, nc1, Int.reduceToNat, upE, upN, fill_ne, fill_in, i0])
          | with_reducible exact rfl
      · by_cases e2 : g = b
        · rw [show twF a x b y g = y by unfold twF; rw [if_neg e1, if_pos e2]]
          repeat' first
            | (with_reducible apply bR_go; (simp (disch := omega) only [rM L, rK L, rN L, rNf, rNv, rNp, rNd, rRow, rLeg, rMark, nat_cast, Int.reduceToNat]; with_reducible exact rfl))
            | with_reducible apply bI_go
            | with_reducible apply bV_go
            | with_reducible apply bL_go
            | (with_reducible apply it_1; (first | omega | (simp (disch := omega) only [not_false_eq_true, not_true_eq_false, w32_id, tLt, fLt, tLe, fEq, itE, and_true, true_and, and_self, and_false, false_and, ↓reduceIte, nat_add, nat_mul3, nat_mul4, nat_mul6, nat_mul15, nat_mul60, nat_cast, nc1, Int.reduceToNat, upE, upN, fill_ne, fill_in, i0] <;> omega)))
            | (with_reducible apply it_2; (first | omega | (simp (disch := omega) only [not_false_eq_true, not_true_eq_false, w32_id, tLt, fLt, tLe, fEq, itE, and_true, true_and, and_self, and_false, false_and, ↓reduceIte, nat_add, nat_mul3, nat_mul4, nat_mul6, nat_mul15, nat_mul60, nat_cast, nc1, Int.reduceToNat, upE, upN, fill_ne, fill_in, i0] <;> omega)))
            | (with_reducible refine cl_go ?_; simp (disch := omega) only [not_false_eq_true, not_true_eq_false, w32_id, tLt, fLt, tLe, fEq, itE, and_true, true_and, and_self, and_false, false_and, ↓reduceIte, nat_add, nat_mul3, nat_mul4, nat_mul6, nat_mul15, nat_mul60, nat_cast, nc1, Int.reduceToNat, upE, upN, fill_ne, fill_in, i0])
            | (with_reducible refine rn_go ?_; simp (disch := omega) only [not_false_eq_true, not_true_eq_false, w32_id, tLt, fLt, tLe, fEq, itE, and_true, true_and, and_self, and_false, false_and, ↓reduceIte, nat_add, nat_mul3, nat_mul4, nat_mul6, nat_mul15, nat_mul60, nat_cast, nc1, Int.reduceToNat, upE, upN, fill_ne, fill_in, i0])
            | (with_reducible refine lf_go ?_; simp (disch := omega) only [not_false_eq_true, not_true_eq_false, w32_id, tLt, fLt, tLe, fEq, itE, and_true, true_and, and_self, and_false, false_and, ↓reduceIte, nat_add, nat_mul3, nat_mul4, nat_mul6, nat_mul15, nat_mul60, nat_cast, nc1, Int.reduceToNat, upE, upN, fill_ne, fill_in, i0])
            | with_reducible exact rfl
        · rw [show twF a x b y g = 0 by unfold twF; rw [if_neg e1, if_neg e2]]
          repeat' first
            | (with_reducible apply bR_go; (simp (disch := omega) only [rM L, rK L, rN L, rNf, rNv, rNp, rNd, rRow, rLeg, rMark, nat_cast, Int.reduceToNat]; with_reducible exact rfl))
            | with_reducible apply bI_go
            | with_reducible apply bV_go
            | with_reducible apply bL_go
            | (with_reducible apply it_1; (first | omega | (simp (disch := omega) only [not_false_eq_true, not_true_eq_false, w32_id, tLt, fLt, tLe, fEq, itE, and_true, true_and, and_self, and_false, false_and, ↓reduceIte, nat_add, nat_mul3, nat_mul4, nat_mul6, nat_mul15, nat_mul60, nat_cast, nc1, Int.reduceToNat, upE, upN, fill_ne, fill_in, i0] <;> omega)))
            | (with_reducible apply it_2; (first | omega | (simp (disch := omega) only [not_false_eq_true, not_true_eq_false, w32_id, tLt, fLt, tLe, fEq, itE, and_true, true_and, and_self, and_false, false_and, ↓reduceIte, nat_add, nat_mul3, nat_mul4, nat_mul6, nat_mul15, nat_mul60, nat_cast, nc1, Int.reduceToNat, upE, upN, fill_ne, fill_in, i0] <;> omega)))
            | (with_reducible refine cl_go ?_; simp (disch := omega) only [not_false_eq_true, not_true_eq_false, w32_id, tLt, fLt, tLe, fEq, itE, and_true, true_and, and_self, and_false, false_and, ↓reduceIte, nat_add, nat_mul3, nat_mul4, nat_mul6, nat_mul15, nat_mul60, nat_cast, nc1, Int.reduceToNat, upE, upN, fill_ne, fill_in, i0])
            | (with_reducible refine rn_go ?_; simp (disch := omega) only [not_false_eq_true, not_true_eq_false, w32_id, tLt, fLt, tLe, fEq, itE, and_true, true_and, and_self, and_false, false_and, ↓reduceIte, nat_add, nat_mul3, nat_mul4, nat_mul6, nat_mul15, nat_mul60, nat_cast, nc1, Int.reduceToNat, upE, upN, fill_ne, fill_in, i0])
            | (with_reducible refine lf_go ?_; simp (disch := omega) only [not_false_eq_true, not_true_eq_false, w32_id, tLt, fLt, tLe, fEq, itE, and_true, true_and, and_self, and_false, false_and, ↓reduceIte, nat_add, nat_mul3, nat_mul4, nat_mul6, nat_mul15, nat_mul60, nat_cast, nc1, Int.reduceToNat, upE, upN, fill_ne, fill_in, i0])
            | with_reducible exact rfl
    have el := loop_up (fun g => Run (callD (d - 1)) tb_Mo_isLogged 12 [vR 12 0 271, vI (t : Int), vI (n : Int), vI (a : Int), vI x, vI (b : Int), vI y, vI (k : Int), vI (g : Int)] [] (SH L) (fillP M1 280 (twF a x b y) g)) 8 st 0 (by omega)
    rw [fill_0] at el
    have e1 := q_leaks (L := L) (d := d - 1) (by omega) (h1.fill (a := 280) (f := twF a x b y) (n := 8) (by omega)) (days := (k : Int)) (ld := twF a x b y) (by intro g hg; simp (disch := omega) only [upN, fill_in, fill_ne]) hLt (by omega) (by omega)
    rw [fill_fill (M := M1) (a := 280) (f := twF a x b y) (f' := fun g => max 0 (twF a x b y g - k * A (34 + 3 * g))) (h := lkF A (twF a x b y) k) (n := (A 1).toNat) (m := 8) (by omega) (fun g hg => by unfold lkF; rw [if_pos (by omega)]) (fun g hg _ => by unfold lkF; rw [if_neg (by omega)])] at e1
    have hLk : Ld (lkF A (twF a x b y) k) := fun g hg => by
      have a := hLt g hg
      unfold lkF
      split
      · next e =>
        have := h.2.dy1 (days := (k : Int)) (by omega) (by omega) e
        omega
      · omega
    have e2 := q_flag (L := L) (d := d - 1) (by omega) (h1.fill (a := 280) (f := lkF A (twF a x b y) k) (n := 8) (by omega)) (ld := lkF A (twF a x b y) k) (by intro g hg; simp (disch := omega) only [upN, fill_in, fill_ne]) hLk
    rw [flg_day h.cn h.2.2.1 hab hb k hx hy] at e2
    have hqk : M1 276 (60 * t + k) = q k := by rw [f1 _ _ (by omega)]; exact hq k hk
    generalize hM2 : fillP M1 280 (lkF A (twF a x b y) k) 8 = M2 at e1 e2
    have f2 : ∀ b j, b ≠ 280 → M2 b j = M1 b j := fun b j hb => by rw [← hM2, fill_ne (by omega)]
    have hqk2 : M2 276 (60 * t + k) = q k := by rw [f2 _ _ (by omega)]; exact hqk
    by_cases c : f2d A a x b y k = q k
    · refine wp_eq (b_Mo_isLogged_3 _ _ _ _ _ _ _ _ _ _ _ _) ?_
      repeat' first
        | (with_reducible apply wp_bR; (simp (disch := omega) only [rM L, rK L, rN L, rNf, rNv, rNp, rNd, rRow, rLeg, rMark, nat_cast, Int.reduceToNat]; with_reducible exact rfl))
        | with_reducible apply wp_bI
        | with_reducible apply wp_bV
        | with_reducible apply wp_bL
        | with_reducible apply wp_rI
        | with_reducible apply wp_rV
        | with_reducible apply wp_rL
        | (with_reducible apply wp_1; (first | omega | (simp (disch := omega) only [not_false_eq_true, not_true_eq_false, w32_id, tLt, fLt, tLe, fEq, itE, and_true, true_and, and_self, and_false, false_and, ↓reduceIte, nat_add, nat_mul3, nat_mul4, nat_mul6, nat_mul15, nat_mul60, nat_cast, nc1, Int.reduceToNat, upE, upN, fill_ne, fill_in, i0] <;> omega)))
        | (with_reducible apply wp_2; (first | omega | (simp (disch := omega) only [not_false_eq_true, not_true_eq_false, w32_id, tLt, fLt, tLe, fEq, itE, and_true, true_and, and_self, and_false, false_and, ↓reduceIte, nat_add, nat_mul3, nat_mul4, nat_mul6, nat_mul15, nat_mul60, nat_cast, nc1, Int.reduceToNat, upE, upN, fill_ne, fill_in, i0] <;> omega)))
        | (with_reducible apply wp_s; (first | (simp (disch := omega) only [not_false_eq_true, not_true_eq_false, w32_id, tLt, fLt, tLe, fEq, itE, and_true, true_and, and_self, and_false, false_and, ↓reduceIte, nat_add, nat_mul3, nat_mul4, nat_mul6, nat_mul15, nat_mul60, nat_cast, nc1, Int.reduceToNat, upE, upN, fill_ne, fill_in, i0]; with_reducible exact Iff.rfl) | with_reducible exact Iff.rfl); intro hc__; (try subst hc__); rotate_left; intro hc__; rotate_left)
        | (with_reducible apply wp_eq; (with_reducible apply cl_go; simp (disch := omega) only [not_false_eq_true, not_true_eq_false, w32_id, tLt, fLt, tLe, fEq, itE, and_true, true_and, and_self, and_false, false_and, ↓reduceIte, nat_add, nat_mul3, nat_mul4, nat_mul6, nat_mul15, nat_mul60, nat_cast, nc1, Int.reduceToNat, upE, upN, fill_ne, fill_in, i0]; with_reducible exact rfl))
        | (with_reducible apply wp_eq; (with_reducible apply lf_go; simp (disch := omega) only [not_false_eq_true, not_true_eq_false, w32_id, tLt, fLt, tLe, fEq, itE, and_true, true_and, and_self, and_false, false_and, ↓reduceIte, nat_add, nat_mul3, nat_mul4, nat_mul6, nat_mul15, nat_mul60, nat_cast, nc1, Int.reduceToNat, upE, upN, fill_ne, fill_in, i0]; with_reducible exact rfl))
        | with_reducible apply wp_q1
      refine wp_eq el ?_
      refine wp_eq (b_Mo_isLogged_12 _ _ _ _ _ _ _ _ _ _ _ _) ?_
      repeat' first
        | (with_reducible apply wp_bR; (simp (disch := omega) only [rM L, rK L, rN L, rNf, rNv, rNp, rNd, rRow, rLeg, rMark, nat_cast, Int.reduceToNat, hqk2, cmp_zero]; with_reducible exact rfl))
        | with_reducible apply wp_bI
        | with_reducible apply wp_bV
        | with_reducible apply wp_bL
        | with_reducible apply wp_rI
        | with_reducible apply wp_rV
        | with_reducible apply wp_rL
        | (with_reducible apply wp_1; (first | omega | (simp (disch := omega) only [not_false_eq_true, not_true_eq_false, w32_id, tLt, fLt, tLe, fEq, itE, and_true, true_and, and_self, and_false, false_and, ↓reduceIte, nat_add, nat_mul3, nat_mul4, nat_mul6, nat_mul15, nat_mul60, nat_cast, nc1, Int.reduceToNat, upE, upN, fill_ne, fill_in, i0, hqk2, cmp_zero] <;> omega)))
        | (with_reducible apply wp_2; (first | omega | (simp (disch := omega) only [not_false_eq_true, not_true_eq_false, w32_id, tLt, fLt, tLe, fEq, itE, and_true, true_and, and_self, and_false, false_and, ↓reduceIte, nat_add, nat_mul3, nat_mul4, nat_mul6, nat_mul15, nat_mul60, nat_cast, nc1, Int.reduceToNat, upE, upN, fill_ne, fill_in, i0, hqk2, cmp_zero] <;> omega)))
        | (with_reducible apply wp_s; (first | (simp (disch := omega) only [not_false_eq_true, not_true_eq_false, w32_id, tLt, fLt, tLe, fEq, itE, and_true, true_and, and_self, and_false, false_and, ↓reduceIte, nat_add, nat_mul3, nat_mul4, nat_mul6, nat_mul15, nat_mul60, nat_cast, nc1, Int.reduceToNat, upE, upN, fill_ne, fill_in, i0, hqk2, cmp_zero]; with_reducible exact Iff.rfl) | with_reducible exact Iff.rfl); intro hc__; (try subst hc__); rotate_left; intro hc__; rotate_left)
        | (with_reducible apply wp_eq; (with_reducible apply cl_go; simp (disch := omega) only [not_false_eq_true, not_true_eq_false, w32_id, tLt, fLt, tLe, fEq, itE, and_true, true_and, and_self, and_false, false_and, ↓reduceIte, nat_add, nat_mul3, nat_mul4, nat_mul6, nat_mul15, nat_mul60, nat_cast, nc1, Int.reduceToNat, upE, upN, fill_ne, fill_in, i0, hqk2, cmp_zero]; with_reducible exact rfl))
        | with_reducible refine wp_eq (e1) ?_
        | with_reducible refine wp_eq (e2) ?_
        | (with_reducible apply wp_eq; (with_reducible apply lf_go; simp (disch := omega) only [not_false_eq_true, not_true_eq_false, w32_id, tLt, fLt, tLe, fEq, itE, and_true, true_and, and_self, and_false, false_and, ↓reduceIte, nat_add, nat_mul3, nat_mul4, nat_mul6, nat_mul15, nat_mul60, nat_cast, nc1, Int.reduceToNat, upE, upN, fill_ne, fill_in, i0, hqk2, cmp_zero]; with_reducible exact rfl))
        | with_reducible apply wp_q1
      apply wp_nx2 ih
      · simp (disch := omega) only [not_false_eq_true, not_true_eq_false, w32_id, tLt, fLt, tLe, fEq, itE, and_true, true_and, and_self, and_false, false_and, ↓reduceIte, nat_add, nat_mul3, nat_mul4, nat_mul6, nat_mul15, nat_mul60, nat_cast, nc1, Int.reduceToNat, upE, upN, fill_ne, fill_in, i0]
        with_reducible rfl
      · exact ⟨fun b j hb => by dsimp only; rw [f2 b j hb, f1 b j hb], by rw [fitI_s, if_pos c]; exact hf⟩
    · refine wp_eq (b_Mo_isLogged_3 _ _ _ _ _ _ _ _ _ _ _ _) ?_
      repeat' first
        | (with_reducible apply wp_bR; (simp (disch := omega) only [rM L, rK L, rN L, rNf, rNv, rNp, rNd, rRow, rLeg, rMark, nat_cast, Int.reduceToNat]; with_reducible exact rfl))
        | with_reducible apply wp_bI
        | with_reducible apply wp_bV
        | with_reducible apply wp_bL
        | with_reducible apply wp_rI
        | with_reducible apply wp_rV
        | with_reducible apply wp_rL
        | (with_reducible apply wp_1; (first | omega | (simp (disch := omega) only [not_false_eq_true, not_true_eq_false, w32_id, tLt, fLt, tLe, fEq, itE, and_true, true_and, and_self, and_false, false_and, ↓reduceIte, nat_add, nat_mul3, nat_mul4, nat_mul6, nat_mul15, nat_mul60, nat_cast, nc1, Int.reduceToNat, upE, upN, fill_ne, fill_in, i0] <;> omega)))
        | (with_reducible apply wp_2; (first | omega | (simp (disch := omega) only [not_false_eq_true, not_true_eq_false, w32_id, tLt, fLt, tLe, fEq, itE, and_true, true_and, and_self, and_false, false_and, ↓reduceIte, nat_add, nat_mul3, nat_mul4, nat_mul6, nat_mul15, nat_mul60, nat_cast, nc1, Int.reduceToNat, upE, upN, fill_ne, fill_in, i0] <;> omega)))
        | (with_reducible apply wp_s; (first | (simp (disch := omega) only [not_false_eq_true, not_true_eq_false, w32_id, tLt, fLt, tLe, fEq, itE, and_true, true_and, and_self, and_false, false_and, ↓reduceIte, nat_add, nat_mul3, nat_mul4, nat_mul6, nat_mul15, nat_mul60, nat_cast, nc1, Int.reduceToNat, upE, upN, fill_ne, fill_in, i0]; with_reducible exact Iff.rfl) | with_reducible exact Iff.rfl); intro hc__; (try subst hc__); rotate_left; intro hc__; rotate_left)
        | (with_reducible apply wp_eq; (with_reducible apply cl_go; simp (disch := omega) only [not_false_eq_true, not_true_eq_false, w32_id, tLt, fLt, tLe, fEq, itE, and_true, true_and, and_self, and_false, false_and, ↓reduceIte, nat_add, nat_mul3, nat_mul4, nat_mul6, nat_mul15, nat_mul60, nat_cast, nc1, Int.reduceToNat, upE, upN, fill_ne, fill_in, i0]; with_reducible exact rfl))
        | (with_reducible apply wp_eq; (with_reducible apply lf_go; simp (disch := omega) only [not_false_eq_true, not_true_eq_false, w32_id, tLt, fLt, tLe, fEq, itE, and_true, true_and, and_self, and_false, false_and, ↓reduceIte, nat_add, nat_mul3, nat_mul4, nat_mul6, nat_mul15, nat_mul60, nat_cast, nc1, Int.reduceToNat, upE, upN, fill_ne, fill_in, i0]; with_reducible exact rfl))
        | with_reducible apply wp_q1
      refine wp_eq el ?_
      refine wp_eq (b_Mo_isLogged_12 _ _ _ _ _ _ _ _ _ _ _ _) ?_
      repeat' first
        | (with_reducible apply wp_bR; (simp (disch := omega) only [rM L, rK L, rN L, rNf, rNv, rNp, rNd, rRow, rLeg, rMark, nat_cast, Int.reduceToNat, hqk2, cmp_zero]; with_reducible exact rfl))
        | with_reducible apply wp_bI
        | with_reducible apply wp_bV
        | with_reducible apply wp_bL
        | with_reducible apply wp_rI
        | with_reducible apply wp_rV
        | with_reducible apply wp_rL
        | (with_reducible apply wp_1; (first | omega | (simp (disch := omega) only [not_false_eq_true, not_true_eq_false, w32_id, tLt, fLt, tLe, fEq, itE, and_true, true_and, and_self, and_false, false_and, ↓reduceIte, nat_add, nat_mul3, nat_mul4, nat_mul6, nat_mul15, nat_mul60, nat_cast, nc1, Int.reduceToNat, upE, upN, fill_ne, fill_in, i0, hqk2, cmp_zero] <;> omega)))
        | (with_reducible apply wp_2; (first | omega | (simp (disch := omega) only [not_false_eq_true, not_true_eq_false, w32_id, tLt, fLt, tLe, fEq, itE, and_true, true_and, and_self, and_false, false_and, ↓reduceIte, nat_add, nat_mul3, nat_mul4, nat_mul6, nat_mul15, nat_mul60, nat_cast, nc1, Int.reduceToNat, upE, upN, fill_ne, fill_in, i0, hqk2, cmp_zero] <;> omega)))
        | (with_reducible apply wp_s; (first | (simp (disch := omega) only [not_false_eq_true, not_true_eq_false, w32_id, tLt, fLt, tLe, fEq, itE, and_true, true_and, and_self, and_false, false_and, ↓reduceIte, nat_add, nat_mul3, nat_mul4, nat_mul6, nat_mul15, nat_mul60, nat_cast, nc1, Int.reduceToNat, upE, upN, fill_ne, fill_in, i0, hqk2, cmp_zero]; with_reducible exact Iff.rfl) | with_reducible exact Iff.rfl); intro hc__; (try subst hc__); rotate_left; intro hc__; rotate_left)
        | (with_reducible apply wp_eq; (with_reducible apply cl_go; simp (disch := omega) only [not_false_eq_true, not_true_eq_false, w32_id, tLt, fLt, tLe, fEq, itE, and_true, true_and, and_self, and_false, false_and, ↓reduceIte, nat_add, nat_mul3, nat_mul4, nat_mul6, nat_mul15, nat_mul60, nat_cast, nc1, Int.reduceToNat, upE, upN, fill_ne, fill_in, i0, hqk2, cmp_zero]; with_reducible exact rfl))
        | with_reducible refine wp_eq (e1) ?_
        | with_reducible refine wp_eq (e2) ?_
        | (with_reducible apply wp_eq; (with_reducible apply lf_go; simp (disch := omega) only [not_false_eq_true, not_true_eq_false, w32_id, tLt, fLt, tLe, fEq, itE, and_true, true_and, and_self, and_false, false_and, ↓reduceIte, nat_add, nat_mul3, nat_mul4, nat_mul6, nat_mul15, nat_mul60, nat_cast, nc1, Int.reduceToNat, upE, upN, fill_ne, fill_in, i0, hqk2, cmp_zero]; with_reducible exact rfl))
        | with_reducible apply wp_q1
      exact ⟨_, _, _, rfl, by rw [fitI_no c hk], rfl, fun b j hb => by rw [f2 b j hb, f1 b j hb]⟩
  · intro ⟨M1, z⟩ ⟨f1, hf⟩
    have f1 : ∀ b j, b ≠ 280 → M1 b j = M b j := f1
    refine wp_eq (b_Mo_isLogged_3 _ _ _ _ _ _ _ _ _ _ _ _) ?_
    repeat' first
      | (with_reducible apply wp_bR; (simp (disch := omega) only [rM L, rK L, rN L, rNf, rNv, rNp, rNd, rRow, rLeg, rMark, nat_cast, Int.reduceToNat]; with_reducible exact rfl))
      | with_reducible apply wp_bI
      | with_reducible apply wp_bV
      | with_reducible apply wp_bL
      | with_reducible apply wp_rI
      | with_reducible apply wp_rV
      | with_reducible apply wp_rL
      | (with_reducible apply wp_1; (first | omega | (simp (disch := omega) only [not_false_eq_true, not_true_eq_false, w32_id, tLt, fLt, tLe, fEq, itE, and_true, true_and, and_self, and_false, false_and, ↓reduceIte, nat_add, nat_mul3, nat_mul4, nat_mul6, nat_mul15, nat_mul60, nat_cast, nc1, Int.reduceToNat, upE, upN, fill_ne, fill_in, i0] <;> omega)))
      | (with_reducible apply wp_2; (first | omega | (simp (disch := omega) only [not_false_eq_true, not_true_eq_false, w32_id, tLt, fLt, tLe, fEq, itE, and_true, true_and, and_self, and_false, false_and, ↓reduceIte, nat_add, nat_mul3, nat_mul4, nat_mul6, nat_mul15, nat_mul60, nat_cast, nc1, Int.reduceToNat, upE, upN, fill_ne, fill_in, i0] <;> omega)))
      | (with_reducible apply wp_s; (first | (simp (disch := omega) only [not_false_eq_true, not_true_eq_false, w32_id, tLt, fLt, tLe, fEq, itE, and_true, true_and, and_self, and_false, false_and, ↓reduceIte, nat_add, nat_mul3, nat_mul4, nat_mul6, nat_mul15, nat_mul60, nat_cast, nc1, Int.reduceToNat, upE, upN, fill_ne, fill_in, i0]; with_reducible exact Iff.rfl) | with_reducible exact Iff.rfl); intro hc__; (try subst hc__); rotate_left; intro hc__; rotate_left)
      | (with_reducible apply wp_eq; (with_reducible apply cl_go; simp (disch := omega) only [not_false_eq_true, not_true_eq_false, w32_id, tLt, fLt, tLe, fEq, itE, and_true, true_and, and_self, and_false, false_and, ↓reduceIte, nat_add, nat_mul3, nat_mul4, nat_mul6, nat_mul15, nat_mul60, nat_cast, nc1, Int.reduceToNat, upE, upN, fill_ne, fill_in, i0]; with_reducible exact rfl))
      | (with_reducible apply wp_eq; (with_reducible apply lf_go; simp (disch := omega) only [not_false_eq_true, not_true_eq_false, w32_id, tLt, fLt, tLe, fEq, itE, and_true, true_and, and_self, and_false, false_and, ↓reduceIte, nat_add, nat_mul3, nat_mul4, nat_mul6, nat_mul15, nat_mul60, nat_cast, nc1, Int.reduceToNat, upE, upN, fill_ne, fill_in, i0]; with_reducible exact rfl))
      | with_reducible apply wp_q1
    exact ⟨_, _, _, rfl, by rw [hf], rfl, f1⟩
end

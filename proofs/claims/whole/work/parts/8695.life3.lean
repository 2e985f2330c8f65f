/-! A LIFE: the class, step by step -/
def PlC (M : Mm) (A : Nat → Int) : Prop := M 51 5 = A 6 ∧ (0 ≤ A 6 ∧ A 6 ≤ 60) ∧ ∀ k : Nat, (k : Int) < A 6 → StR M 51 A k
def LC (M : Mm) (A r : Nat → Int) (k : Nat) (dr : Int) (T : Nat → Int) : Prop := RelC M A ∧ PlC M A ∧ (∀ o, o < 60 → M 128 o = r o) ∧ M 126 3 = (k : Int) ∧ M 126 2 = dr ∧ ∀ w, w < 5 → M 127 w = T w
def FrL (M M' : Mm) : Prop := ∀ b j, ¬(57 ≤ b ∧ b ≤ 64) → b ≠ 48 → ¬(b = 18 ∧ j = 3) → ¬(126 ≤ b ∧ b ≤ 128) → M' b j = M b j
theorem FrL.trans {M M1 M2 : Mm} (h1 : FrL M M1) (h2 : FrL M1 M2) : FrL M M2 := fun b j q1 q2 q3 q4 => (h2 b j q1 q2 q3 q4).trans (h1 b j q1 q2 q3 q4)
theorem FrL.refl (M : Mm) : FrL M M := fun _ _ _ _ _ _ => rfl
theorem FrC.l {M M' : Mm} (h : FrC M M') : FrL M M' := fun b j q1 q2 q3 _ => h b j q1 q2 q3
section
variable {M M' : Mm} {A r : Nat → Int} {k s : Nat} {dr : Int} {T : Nat → Int} {L d : Nat}
theorem RelC.fr (h : RelC M A) (e : ∀ b j, 18 ≤ b → b ≤ 64 → b ≠ 48 → M' b j = M b j) : RelC M' A := by
  obtain ⟨r1, r2, r3, r4⟩ := h
  have hC := r4.1
  unfold Cn at hC
  refine ⟨r1.frame r4.1 fun b j p1 p2 => e b j (by omega) (by omega) (by omega), by rw [e 18 3 (by omega) (by omega) (by omega)]; exact r2, fun i hi => ?_, r4⟩
  exact ⟨fun w hw => by rw [e _ _ (by omega) (by omega) (by omega)]; exact (r3 i hi).1 w hw, fun g hg => by rw [e _ _ (by omega) (by omega) (by omega)]; exact (r3 i hi).2 g hg⟩
theorem PlC.fr {A' : Nat → Int} (h : PlC M A) (e : ∀ b j, 51 ≤ b → b ≤ 56 → M' b j = M b j) (a : Ag A A') : PlC M' A' := by
  have a6 := a 6 (by omega)
  refine ⟨by rw [e 51 5 (by omega) (by omega), a6]; exact h.1, by rw [a6]; exact h.2.1, fun k hk => ?_⟩
  rw [a6] at hk
  exact ((h.2.2 k hk).frame fun b hb hb' => e b k (by omega) (by omega)).ag a
theorem Ag.refl (A : Nat → Int) : Ag A A := fun _ _ => rfl
/-- scratch, tallies and draws alone have changed -/
theorem LC.fr {dr' : Int} {T' r' : Nat → Int} {k' : Nat} (h : LC M A r k dr T) (e : ∀ b j, 18 ≤ b → b ≤ 64 → b ≠ 48 → M' b j = M b j) (hr : ∀ o, o < 60 → M' 128 o = r' o) (hk : M' 126 3 = (k' : Int)) (hd : M' 126 2 = dr') (hT : ∀ w, w < 5 → M' 127 w = T' w) : LC M' A r' k' dr' T' :=
  ⟨h.1.fr e, h.2.1.fr (fun b j q1 q2 => e b j (by omega) (by omega) (by omega)) (Ag.refl A), hr, hk, hd, hT⟩
theorem LC.put {dr' : Int} {T' : Nat → Int} (h : LC M A r k dr T) (hs : (s : Int) < A 3) {B' : Nat → Int} (hB : Sh1 A B') (hV : VsW M' (57 + 2 * s) B') (hf : ∀ b j, b ≠ 57 + 2 * s → b ≠ 58 + 2 * s → b ≠ 48 → b ≠ 127 → ¬(b = 126 ∧ j = 2) → M' b j = M b j) (hd : M' 126 2 = dr') (hT : ∀ w, w < 5 → M' 127 w = T' w) : LC M' (putS A s B') r k dr' T' ∧ FrL M M' := by
  obtain ⟨h1, h2, h3, h4, h5, h6⟩ := h
  have hC := h1.2.2.2.1
  unfold Cn at hC
  refine ⟨⟨?_, h2.fr (fun b j q1 q2 => hf b j (by omega) (by omega) (by omega) (by omega) (by omega)) (Ag.put (by omega)), fun o ho => ?_, ?_, hd, hT⟩, fun b j q1 q2 q3 q4 => hf b j (by omega) (by omega) q2 (by omega) (by omega)⟩
  · -- the other cells of the class stand
    have hx : RelC (fun b j => if b = 57 + 2 * s ∨ b = 58 + 2 * s ∨ b = 48 then M' b j else M b j) (putS A s B') := by
      refine h1.put (by omega) hB ⟨fun w hw => ?_, fun g hg => ?_⟩ fun b j q1 q2 q3 => ?_
      · dsimp only
        rw [if_pos (Or.inl rfl)]
        exact hV.1 w hw
      · dsimp only
        rw [if_pos (by omega)]
        exact hV.2 g hg
      · rw [if_neg (by omega)]
    refine hx.fr fun b j q1 q2 q3 => ?_
    split
    · rfl
    · exact hf b j (by omega) (by omega) q3 (by omega) (by omega)
  · rw [hf _ _ (by omega) (by omega) (by omega) (by omega) (by omega)]; exact h3 o ho
  · rw [hf _ _ (by omega) (by omega) (by omega) (by omega) (by omega)]; exact h4
theorem LC.day (h : LC M A r k dr T) (h5 : A 5 + 1 ≤ 9999) (hc : RelC M' (dyD A)) (hf : FrC M M') : LC M' (dyD A) r k dr T := by
  obtain ⟨h1, h2, h3, h4, h5', h6⟩ := h
  have hI := h1.2.2.2
  refine ⟨hc, h2.fr (fun b j q1 q2 => hf b j (by omega) (by omega) (by omega)) fun j hj => dyD_lo hI.1 (by omega) (by omega), fun o ho => ?_, ?_, ?_, fun w hw => ?_⟩
  · rw [hf _ _ (by omega) (by omega) (by omega)]; exact h3 o ho
  · rw [hf _ _ (by omega) (by omega) (by omega)]; exact h4
  · rw [hf _ _ (by omega) (by omega) (by omega)]; exact h5'
  · rw [hf _ _ (by omega) (by omega) (by omega)]; exact h6 w hw
def QL (L : Nat) (M : Mm) (r : Nat → Int) (k : Nat) (q : Do4) : Option AV → Sp → Mm → Prop := fun x S M' => x = some (vI q.1) ∧ S = SH L ∧ LC M' q.2.1 r k q.2.2.1 q.2.2.2 ∧ FrL M M'
theorem wp_l {q : Do4} {x : Int} (hx : x = q.1) (h : LC M' q.2.1 r k q.2.2.1 q.2.2.2) (hf : FrL M M') : Wp (some (some (vI x), SH L, M')) (QL L M r k q) := ⟨_, _, _, rfl, by rw [hx], rfl, h, hf⟩
theorem wp_ql {q : Do4} {o : Option Rs} {Q : Option AV → Sp → Mm → Prop} (h : Wp o (QL L M r k q)) (h' : ∀ M', LC M' q.2.1 r k q.2.2.1 q.2.2.2 → FrL M M' → Wp (some (some (vI q.1), SH L, M')) Q) : Wp o Q := by
  obtain ⟨_, _, M', e, rfl, rfl, h1, h2⟩ := h
  rw [e]
  exact h' M' h1 h2
theorem l_days (hd : 9 ≤ d) (h : LC M A r k dr T) {n : Nat} (hn : n ≤ 20) : Wp (callD d m_Life_passesDays [vR 1 0 126, vR 5 0 18, vI (n : Int)] (SH L) M) (QL L M r k (doY A n dr T)) := by
  have hI := h.1.2.2.2
  have hC := hI.1
  unfold Cn at hC
  have hdt : M 18 3 = A 5 := h.1.2.1
  have i8 := hI.2.2.2.2.2.2.2.1
  unfold doY
  by_cases ok : A 5 + (n : Int) ≤ 9999
  · rw [iteP_1 ok]
    obtain ⟨j1', j2, j3⟩ := dyN_all hI n ok
    repeat' first
      | (with_reducible apply wp_bR; (simp (disch := omega) only [rM L, rK L, rN L, rNf, rNv, rNp, rNd, rRow, rLeg, rMark, nat_cast, Int.reduceToNat, hdt]; with_reducible exact rfl))
      | with_reducible apply wp_bI
      | with_reducible apply wp_bV
      | with_reducible apply wp_bL
      | with_reducible apply wp_rI
      | with_reducible apply wp_rV
      | with_reducible apply wp_rL
      | (with_reducible apply wp_1; (first | omega | (simp (disch := omega) only [not_false_eq_true, not_true_eq_false, w32_id, tLt, fLt, tLe, fEq, itE, and_true, true_and, and_self, and_false, false_and, ↓reduceIte, nat_add, nat_mul3, nat_mul4, nat_mul6, nat_mul15, nat_mul60, nat_cast, nc1, Int.reduceToNat, upE, upN, fill_ne, fill_in, i0, hdt] <;> omega)))
      | (with_reducible apply wp_2; (first | omega | (simp (disch := omega) only [not_false_eq_true, not_true_eq_false, w32_id, tLt, fLt, tLe, fEq, itE, and_true, true_and, and_self, and_false, false_and, ↓reduceIte, nat_add, nat_mul3, nat_mul4, nat_mul6, nat_mul15, nat_mul60, nat_cast, nc1, Int.reduceToNat, upE, upN, fill_ne, fill_in, i0, hdt] <;> omega)))
      | (with_reducible apply wp_s; (first | (simp (disch := omega) only [not_false_eq_true, not_true_eq_false, w32_id, tLt, fLt, tLe, fEq, itE, and_true, true_and, and_self, and_false, false_and, ↓reduceIte, nat_add, nat_mul3, nat_mul4, nat_mul6, nat_mul15, nat_mul60, nat_cast, nc1, Int.reduceToNat, upE, upN, fill_ne, fill_in, i0, hdt]; with_reducible exact Iff.rfl) | with_reducible exact Iff.rfl); intro hc__; (try subst hc__); rotate_left; intro hc__; rotate_left)
      | (with_reducible apply wp_eq; (with_reducible apply cl_go; simp (disch := omega) only [not_false_eq_true, not_true_eq_false, w32_id, tLt, fLt, tLe, fEq, itE, and_true, true_and, and_self, and_false, false_and, ↓reduceIte, nat_add, nat_mul3, nat_mul4, nat_mul6, nat_mul15, nat_mul60, nat_cast, nc1, Int.reduceToNat, upE, upN, fill_ne, fill_in, i0, hdt]; with_reducible exact rfl))
      | (with_reducible refine wp_eq (c_Life_passesDays (by omega) _ _ _ _ _) ?_; with_reducible refine wp_eq (b_Life_passesDays_0 _ _ _ _ _ _) ?_)
      | (with_reducible apply wp_eq; (with_reducible apply lf_go; simp (disch := omega) only [not_false_eq_true, not_true_eq_false, w32_id, tLt, fLt, tLe, fEq, itE, and_true, true_and, and_self, and_false, false_and, ↓reduceIte, nat_add, nat_mul3, nat_mul4, nat_mul6, nat_mul15, nat_mul60, nat_cast, nc1, Int.reduceToNat, upE, upN, fill_ne, fill_in, i0, hdt]; with_reducible exact rfl))
      | with_reducible apply wp_q1
    refine wp_loop (α := Mm) (G := fun i a => Run (callD (d - 1)) tb_Life_passesDays 16 [vR 1 0 126, vR 5 0 18, vI (n : Int), vI (i : Int)] [] (SH L) a) (I := fun i a => LC a (dyN A i) r k dr (wU T 3 (bdN A (T 3) i)) ∧ FrL M a) n ?_ ?_ 0 M (by omega) ⟨h.fr (fun _ _ _ _ _ => rfl) h.2.2.1 h.2.2.2.1 h.2.2.2.2.1 (fun w hw => by
      by_cases e : w = 3
      · subst e; rw [wUE rfl]; exact h.2.2.2.2.2 3 hw
      · rw [wUN e]; exact h.2.2.2.2.2 w hw), FrL.refl M⟩
    · intro i M1 hi ⟨h1, hf⟩ ih
      obtain ⟨k1, k2, k3⟩ := dyN_all hI i (by omega)
      have cd := c_day (L := L) (d := d - 1) (by omega) h1.1 (by omega)
      have ob := orV_bd (dl (dyN A i)) (A 3).toNat (by omega)
      have pw : (2 ^ (A 3).toNat : Nat) ≤ 2 ^ 4 := pow_le (by omega)
      rw [k3 3 (by omega) (by omega)] at cd
      have t3 : M1 127 3 = bdN A (T 3) i := by rw [h1.2.2.2.2.2 3 (by omega), wUE rfl]
      refine wp_eq (b_Life_passesDays_16 _ _ _ _ _ _ _) ?_
      repeat' first
        | (with_reducible apply wp_bR; (simp (disch := omega) only [rM L, rK L, rN L, rNf, rNv, rNp, rNd, rRow, rLeg, rMark, nat_cast, Int.reduceToNat]; with_reducible exact rfl))
        | with_reducible apply wp_bI
        | with_reducible apply wp_bV
        | with_reducible apply wp_bL
        | with_reducible apply wp_rI
        | with_reducible apply wp_rV
        | with_reducible apply wp_rL
        | (with_reducible apply wp_1; (first | omega | (simp (disch := omega) only [not_false_eq_true, not_true_eq_false, w32_id, tLt, fLt, tLe, fEq, itE, and_true, true_and, and_self, and_false, false_and, ↓reduceIte, nat_add, nat_mul3, nat_mul4, nat_mul6, nat_mul15, nat_mul60, nat_cast, nc1, Int.reduceToNat, upE, upN, fill_ne, fill_in, i0] <;> omega)))
        | (with_reducible apply wp_2; (first | omega | (simp (disch := omega) only [not_false_eq_true, not_true_eq_false, w32_id, tLt, fLt, tLe, fEq, itE, and_true, true_and, and_self, and_false, false_and, ↓reduceIte, nat_add, nat_mul3, nat_mul4, nat_mul6, nat_mul15, nat_mul60, nat_cast, nc1, Int.reduceToNat, upE, upN, fill_ne, fill_in, i0] <;> omega)))
        | (with_reducible apply wp_s; (first | (simp (disch := omega) only [not_false_eq_true, not_true_eq_false, w32_id, tLt, fLt, tLe, fEq, itE, and_true, true_and, and_self, and_false, false_and, ↓reduceIte, nat_add, nat_mul3, nat_mul4, nat_mul6, nat_mul15, nat_mul60, nat_cast, nc1, Int.reduceToNat, upE, upN, fill_ne, fill_in, i0]; with_reducible exact Iff.rfl) | with_reducible exact Iff.rfl); intro hc__; (try subst hc__); rotate_left; intro hc__; rotate_left)
        | (with_reducible apply wp_eq; (with_reducible apply cl_go; simp (disch := omega) only [not_false_eq_true, not_true_eq_false, w32_id, tLt, fLt, tLe, fEq, itE, and_true, true_and, and_self, and_false, false_and, ↓reduceIte, nat_add, nat_mul3, nat_mul4, nat_mul6, nat_mul15, nat_mul60, nat_cast, nc1, Int.reduceToNat, upE, upN, fill_ne, fill_in, i0]; with_reducible exact rfl))
        | (with_reducible apply wp_eq; (with_reducible apply lf_go; simp (disch := omega) only [not_false_eq_true, not_true_eq_false, w32_id, tLt, fLt, tLe, fEq, itE, and_true, true_and, and_self, and_false, false_and, ↓reduceIte, nat_add, nat_mul3, nat_mul4, nat_mul6, nat_mul15, nat_mul60, nat_cast, nc1, Int.reduceToNat, upE, upN, fill_ne, fill_in, i0]; with_reducible exact rfl))
        | with_reducible apply wp_q1
      refine wp_qd cd fun M2 ⟨q1, q2⟩ => ?_
      have h2 := h1.day (by omega) q1 q2
      have bc := s_bitCount (d := d - 1) (S := SH L) (M := M2) (x := orV (dl (dyN A i)) (A 3).toNat) (by omega) (by omega) (by omega)
      repeat' first
        | (with_reducible apply wp_bR; (simp (disch := omega) only [rM L, rK L, rN L, rNf, rNv, rNp, rNd, rRow, rLeg, rMark, nat_cast, Int.reduceToNat, t3]; with_reducible exact rfl))
        | with_reducible apply wp_bI
        | with_reducible apply wp_bV
        | with_reducible apply wp_bL
        | with_reducible apply wp_rI
        | with_reducible apply wp_rV
        | with_reducible apply wp_rL
        | (with_reducible apply wp_1; (first | omega | (simp (disch := omega) only [not_false_eq_true, not_true_eq_false, w32_id, tLt, fLt, tLe, fEq, itE, and_true, true_and, and_self, and_false, false_and, ↓reduceIte, nat_add, nat_mul3, nat_mul4, nat_mul6, nat_mul15, nat_mul60, nat_cast, nc1, Int.reduceToNat, upE, upN, fill_ne, fill_in, i0, t3] <;> omega)))
        | (with_reducible apply wp_2; (first | omega | (simp (disch := omega) only [not_false_eq_true, not_true_eq_false, w32_id, tLt, fLt, tLe, fEq, itE, and_true, true_and, and_self, and_false, false_and, ↓reduceIte, nat_add, nat_mul3, nat_mul4, nat_mul6, nat_mul15, nat_mul60, nat_cast, nc1, Int.reduceToNat, upE, upN, fill_ne, fill_in, i0, t3] <;> omega)))
        | (with_reducible apply wp_s; (first | (simp (disch := omega) only [not_false_eq_true, not_true_eq_false, w32_id, tLt, fLt, tLe, fEq, itE, and_true, true_and, and_self, and_false, false_and, ↓reduceIte, nat_add, nat_mul3, nat_mul4, nat_mul6, nat_mul15, nat_mul60, nat_cast, nc1, Int.reduceToNat, upE, upN, fill_ne, fill_in, i0, t3]; with_reducible exact Iff.rfl) | with_reducible exact Iff.rfl); intro hc__; (try subst hc__); rotate_left; intro hc__; rotate_left)
        | (with_reducible apply wp_eq; (with_reducible apply cl_go; simp (disch := omega) only [not_false_eq_true, not_true_eq_false, w32_id, tLt, fLt, tLe, fEq, itE, and_true, true_and, and_self, and_false, false_and, ↓reduceIte, nat_add, nat_mul3, nat_mul4, nat_mul6, nat_mul15, nat_mul60, nat_cast, nc1, Int.reduceToNat, upE, upN, fill_ne, fill_in, i0, t3]; with_reducible exact rfl))
        | with_reducible refine wp_eq (bc) ?_
        | (with_reducible apply wp_eq; (with_reducible apply lf_go; simp (disch := omega) only [not_false_eq_true, not_true_eq_false, w32_id, tLt, fLt, tLe, fEq, itE, and_true, true_and, and_self, and_false, false_and, ↓reduceIte, nat_add, nat_mul3, nat_mul4, nat_mul6, nat_mul15, nat_mul60, nat_cast, nc1, Int.reduceToNat, upE, upN, fill_ne, fill_in, i0, t3]; with_reducible exact rfl))
        | with_reducible apply wp_q1
      apply wp_nx ih
      · simp (disch := omega) only [not_false_eq_true, not_true_eq_false, w32_id, tLt, fLt, tLe, fEq, itE, and_true, true_and, and_self, and_false, false_and, ↓reduceIte, nat_add, nat_mul3, nat_mul4, nat_mul6, nat_mul15, nat_mul60, nat_cast, nc1, Int.reduceToNat, upE, upN, fill_ne, fill_in, i0]
        with_reducible rfl
      · refine ⟨h2.fr (fun b j q1 q2 q3 => upN (by omega)) (fun o ho => by rw [upN (by omega)]; exact h2.2.2.1 o ho) (by rw [upN (by omega)]; exact h2.2.2.2.1) (by rw [upN (by omega)]; exact h2.2.2.2.2.1) fun w hw => ?_, hf.trans (q2.l.trans fun b j q1 q2 q3 q4 => upN (by omega))⟩
        by_cases e : w = 3
        · subst e; rw [upE rfl rfl, wUE rfl, bdN_s, t3]
        · have := h2.2.2.2.2.2 w hw
          rw [wUN e] at this
          rw [upN (by omega), wUN e]; exact this
    · intro M1 ⟨h1, hf⟩
      have t1 : M1 127 1 = T 1 := by rw [h1.2.2.2.2.2 1 (by omega), wUN (by omega)]
      refine wp_eq (b_Life_passesDays_16 _ _ _ _ _ _ _) ?_
      repeat' first
        | (with_reducible apply wp_bR; (simp (disch := omega) only [rM L, rK L, rN L, rNf, rNv, rNp, rNd, rRow, rLeg, rMark, nat_cast, Int.reduceToNat, t1]; with_reducible exact rfl))
        | with_reducible apply wp_bI
        | with_reducible apply wp_bV
        | with_reducible apply wp_bL
        | with_reducible apply wp_rI
        | with_reducible apply wp_rV
        | with_reducible apply wp_rL
        | (with_reducible apply wp_1; (first | omega | (simp (disch := omega) only [not_false_eq_true, not_true_eq_false, w32_id, tLt, fLt, tLe, fEq, itE, and_true, true_and, and_self, and_false, false_and, ↓reduceIte, nat_add, nat_mul3, nat_mul4, nat_mul6, nat_mul15, nat_mul60, nat_cast, nc1, Int.reduceToNat, upE, upN, fill_ne, fill_in, i0, t1] <;> omega)))
        | (with_reducible apply wp_2; (first | omega | (simp (disch := omega) only [not_false_eq_true, not_true_eq_false, w32_id, tLt, fLt, tLe, fEq, itE, and_true, true_and, and_self, and_false, false_and, ↓reduceIte, nat_add, nat_mul3, nat_mul4, nat_mul6, nat_mul15, nat_mul60, nat_cast, nc1, Int.reduceToNat, upE, upN, fill_ne, fill_in, i0, t1] <;> omega)))
        | (with_reducible apply wp_s; (first | (simp (disch := omega) only [not_false_eq_true, not_true_eq_false, w32_id, tLt, fLt, tLe, fEq, itE, and_true, true_and, and_self, and_false, false_and, ↓reduceIte, nat_add, nat_mul3, nat_mul4, nat_mul6, nat_mul15, nat_mul60, nat_cast, nc1, Int.reduceToNat, upE, upN, fill_ne, fill_in, i0, t1]; with_reducible exact Iff.rfl) | with_reducible exact Iff.rfl); intro hc__; (try subst hc__); rotate_left; intro hc__; rotate_left)
        | (with_reducible apply wp_eq; (with_reducible apply cl_go; simp (disch := omega) only [not_false_eq_true, not_true_eq_false, w32_id, tLt, fLt, tLe, fEq, itE, and_true, true_and, and_self, and_false, false_and, ↓reduceIte, nat_add, nat_mul3, nat_mul4, nat_mul6, nat_mul15, nat_mul60, nat_cast, nc1, Int.reduceToNat, upE, upN, fill_ne, fill_in, i0, t1]; with_reducible exact rfl))
        | (with_reducible apply wp_eq; (with_reducible apply lf_go; simp (disch := omega) only [not_false_eq_true, not_true_eq_false, w32_id, tLt, fLt, tLe, fEq, itE, and_true, true_and, and_self, and_false, false_and, ↓reduceIte, nat_add, nat_mul3, nat_mul4, nat_mul6, nat_mul15, nat_mul60, nat_cast, nc1, Int.reduceToNat, upE, upN, fill_ne, fill_in, i0, t1]; with_reducible exact rfl))
        | with_reducible apply wp_q1
      refine wp_l rfl (h1.fr (fun b j q1 q2 q3 => upN (by omega)) (fun o ho => by rw [upN (by omega)]; exact h1.2.2.1 o ho) (by rw [upN (by omega)]; exact h1.2.2.2.1) (by rw [upN (by omega)]; exact h1.2.2.2.2.1) fun w hw => ?_) (hf.trans fun b j q1 q2 q3 q4 => upN (by omega))
      dsimp only
      by_cases e : w = 1
      · subst e; rw [upE rfl rfl, wUE rfl]
      · rw [upN (by omega), wUN e]; exact h1.2.2.2.2.2 w hw
  · rw [iteP_0 ok]
    repeat' first
      | (with_reducible apply wp_bR; (simp (disch := omega) only [rM L, rK L, rN L, rNf, rNv, rNp, rNd, rRow, rLeg, rMark, nat_cast, Int.reduceToNat, hdt]; with_reducible exact rfl))
      | with_reducible apply wp_bI
      | with_reducible apply wp_bV
      | with_reducible apply wp_bL
      | with_reducible apply wp_rI
      | with_reducible apply wp_rV
      | with_reducible apply wp_rL
      | (with_reducible apply wp_1; (first | omega | (simp (disch := omega) only [not_false_eq_true, not_true_eq_false, w32_id, tLt, fLt, tLe, fEq, itE, and_true, true_and, and_self, and_false, false_and, ↓reduceIte, nat_add, nat_mul3, nat_mul4, nat_mul6, nat_mul15, nat_mul60, nat_cast, nc1, Int.reduceToNat, upE, upN, fill_ne, fill_in, i0, hdt] <;> omega)))
      | (with_reducible apply wp_2; (first | omega | (simp (disch := omega) only [not_false_eq_true, not_true_eq_false, w32_id, tLt, fLt, tLe, fEq, itE, and_true, true_and, and_self, and_false, false_and, ↓reduceIte, nat_add, nat_mul3, nat_mul4, nat_mul6, nat_mul15, nat_mul60, nat_cast, nc1, Int.reduceToNat, upE, upN, fill_ne, fill_in, i0, hdt] <;> omega)))
      | (with_reducible apply wp_s; (first | (simp (disch := omega) only [not_false_eq_true, not_true_eq_false, w32_id, tLt, fLt, tLe, fEq, itE, and_true, true_and, and_self, and_false, false_and, ↓reduceIte, nat_add, nat_mul3, nat_mul4, nat_mul6, nat_mul15, nat_mul60, nat_cast, nc1, Int.reduceToNat, upE, upN, fill_ne, fill_in, i0, hdt]; with_reducible exact Iff.rfl) | with_reducible exact Iff.rfl); intro hc__; (try subst hc__); rotate_left; intro hc__; rotate_left)
      | (with_reducible apply wp_eq; (with_reducible apply cl_go; simp (disch := omega) only [not_false_eq_true, not_true_eq_false, w32_id, tLt, fLt, tLe, fEq, itE, and_true, true_and, and_self, and_false, false_and, ↓reduceIte, nat_add, nat_mul3, nat_mul4, nat_mul6, nat_mul15, nat_mul60, nat_cast, nc1, Int.reduceToNat, upE, upN, fill_ne, fill_in, i0, hdt]; with_reducible exact rfl))
      | (with_reducible refine wp_eq (c_Life_passesDays (by omega) _ _ _ _ _) ?_; with_reducible refine wp_eq (b_Life_passesDays_0 _ _ _ _ _ _) ?_)
      | (with_reducible apply wp_eq; (with_reducible apply lf_go; simp (disch := omega) only [not_false_eq_true, not_true_eq_false, w32_id, tLt, fLt, tLe, fEq, itE, and_true, true_and, and_self, and_false, false_and, ↓reduceIte, nat_add, nat_mul3, nat_mul4, nat_mul6, nat_mul15, nat_mul60, nat_cast, nc1, Int.reduceToNat, upE, upN, fill_ne, fill_in, i0, hdt]; with_reducible exact rfl))
      | with_reducible apply wp_q1
    exact wp_l rfl h (FrL.refl M)
theorem l_buy (hd : 5 ≤ d) (h : LC M A r k dr T) {g n : Nat} (hs : (s : Int) < A 3) (hg : (g : Int) < A 1) (hn : 1 ≤ n) (hn' : n ≤ 60) : Wp (callD d m_Life_buysTons [vR 1 0 126, vR 0 0 19, vR 8 0 (57 + 2 * s), vI (g : Int), vI (n : Int)] (SH L) M) (QL L M r k (doB A s g n dr T)) := by
  have hI := h.1.2.2.2
  have hC := hI.1
  unfold Cn at hC
  have hB := hI.2.2.2.2.2.2.1 s hs
  have hV := h.1.vs hs
  unfold doB
  by_cases ok : okBuy A (shp A s) g n
  · rw [iteP_1 ok]
    have ev := v_buys1 (L := L) (d := d - 1) (by omega) ch19 (isV_now (k := s) (by omega)) h.1.1 hI.1 hI.2.2.2.2.1 hV hB (g := g) (n := (n : Int)) (by omega) (by omega) (by omega) ok
    have t2 : M 127 2 = T 2 := h.2.2.2.2.2 2 (by omega)
    repeat' first
      | (with_reducible apply wp_bR; (simp (disch := omega) only [rM L, rK L, rN L, rNf, rNv, rNp, rNd, rRow, rLeg, rMark, nat_cast, Int.reduceToNat, t2]; with_reducible exact rfl))
      | with_reducible apply wp_bI
      | with_reducible apply wp_bV
      | with_reducible apply wp_bL
      | with_reducible apply wp_rI
      | with_reducible apply wp_rV
      | with_reducible apply wp_rL
      | (with_reducible apply wp_1; (first | omega | (simp (disch := omega) only [not_false_eq_true, not_true_eq_false, w32_id, tLt, fLt, tLe, fEq, itE, and_true, true_and, and_self, and_false, false_and, ↓reduceIte, nat_add, nat_mul3, nat_mul4, nat_mul6, nat_mul15, nat_mul60, nat_cast, nc1, Int.reduceToNat, upE, upN, fill_ne, fill_in, i0, t2] <;> omega)))
      | (with_reducible apply wp_2; (first | omega | (simp (disch := omega) only [not_false_eq_true, not_true_eq_false, w32_id, tLt, fLt, tLe, fEq, itE, and_true, true_and, and_self, and_false, false_and, ↓reduceIte, nat_add, nat_mul3, nat_mul4, nat_mul6, nat_mul15, nat_mul60, nat_cast, nc1, Int.reduceToNat, upE, upN, fill_ne, fill_in, i0, t2] <;> omega)))
      | (with_reducible apply wp_s; (first | (simp (disch := omega) only [not_false_eq_true, not_true_eq_false, w32_id, tLt, fLt, tLe, fEq, itE, and_true, true_and, and_self, and_false, false_and, ↓reduceIte, nat_add, nat_mul3, nat_mul4, nat_mul6, nat_mul15, nat_mul60, nat_cast, nc1, Int.reduceToNat, upE, upN, fill_ne, fill_in, i0, t2]; with_reducible exact Iff.rfl) | with_reducible exact Iff.rfl); intro hc__; (try subst hc__); rotate_left; intro hc__; rotate_left)
      | (with_reducible apply wp_eq; (with_reducible apply cl_go; simp (disch := omega) only [not_false_eq_true, not_true_eq_false, w32_id, tLt, fLt, tLe, fEq, itE, and_true, true_and, and_self, and_false, false_and, ↓reduceIte, nat_add, nat_mul3, nat_mul4, nat_mul6, nat_mul15, nat_mul60, nat_cast, nc1, Int.reduceToNat, upE, upN, fill_ne, fill_in, i0, t2]; with_reducible exact rfl))
      | (with_reducible refine wp_eq (c_Life_buysTons (by omega) _ _ _ _ _ _ _) ?_; with_reducible refine wp_eq (b_Life_buysTons_0 _ _ _ _ _ _ _ _) ?_)
      | with_reducible refine wp_eq (ev) ?_
      | (with_reducible apply wp_eq; (with_reducible apply lf_go; simp (disch := omega) only [not_false_eq_true, not_true_eq_false, w32_id, tLt, fLt, tLe, fEq, itE, and_true, true_and, and_self, and_false, false_and, ↓reduceIte, nat_add, nat_mul3, nat_mul4, nat_mul6, nat_mul15, nat_mul60, nat_cast, nc1, Int.reduceToNat, upE, upN, fill_ne, fill_in, i0, t2]; with_reducible exact rfl))
      | with_reducible apply wp_q1
    have q := h.put (M' := up (up (up M (57 + 2 * s) 4 (shp A s 4 - prc A (shp A s) g * n)) (57 + 2 * s + 1) g (shp A s (7 + g) + n)) 127 2 (w32 (T 2 + n))) (dr' := dr) (T' := wU T 2 (w32 (T 2 + n))) hs (buy_sh hI hs hg (by omega) (by omega) ok) ⟨fun w hw => ?_, fun g' hg' => ?_⟩ (fun b j q1 q2 q3 q4 q5 => by rw [upN (by omega), upN (by omega), upN (by omega)]) (by rw [upN (by omega), upN (by omega), upN (by omega)]; exact h.2.2.2.2.1) fun w hw => ?_
    · exact wp_l rfl q.1 q.2
    · unfold buyR
      rw [upN (by omega), upN (by omega)]
      by_cases e : w = 4
      · subst e; rw [upE rfl rfl, wUN (by omega), wUE rfl]
      · rw [upN (by omega), wUN (by omega), wUN e]; exact hV.1 w hw
    · unfold buyR
      rw [upN (by omega)]
      by_cases e : g' = g
      · subst e; rw [upE rfl rfl, wUE rfl]
      · rw [upN (by omega), upN (by omega), wUN (by omega), wUN (by omega)]; exact hV.2 g' hg'
    · by_cases e : w = 2
      · subst e; rw [upE rfl rfl, wUE rfl]
      · rw [upN (by omega), upN (by omega), upN (by omega), wUN e]; exact h.2.2.2.2.2 w hw
  · rw [iteP_0 ok]
    have ev := v_buys0 (L := L) (d := d - 1) (by omega) ch19 (isV_now (k := s) (by omega)) h.1.1 hI.1 hI.2.2.2.2.1 hV hB (g := g) (n := (n : Int)) (by omega) (by omega) (by omega) ok
    repeat' first
      | (with_reducible apply wp_bR; (simp (disch := omega) only [rM L, rK L, rN L, rNf, rNv, rNp, rNd, rRow, rLeg, rMark, nat_cast, Int.reduceToNat]; with_reducible exact rfl))
      | with_reducible apply wp_bI
      | with_reducible apply wp_bV
      | with_reducible apply wp_bL
      | with_reducible apply wp_rI
      | with_reducible apply wp_rV
      | with_reducible apply wp_rL
      | (with_reducible apply wp_1; (first | omega | (simp (disch := omega) only [not_false_eq_true, not_true_eq_false, w32_id, tLt, fLt, tLe, fEq, itE, and_true, true_and, and_self, and_false, false_and, ↓reduceIte, nat_add, nat_mul3, nat_mul4, nat_mul6, nat_mul15, nat_mul60, nat_cast, nc1, Int.reduceToNat, upE, upN, fill_ne, fill_in, i0] <;> omega)))
      | (with_reducible apply wp_2; (first | omega | (simp (disch := omega) only [not_false_eq_true, not_true_eq_false, w32_id, tLt, fLt, tLe, fEq, itE, and_true, true_and, and_self, and_false, false_and, ↓reduceIte, nat_add, nat_mul3, nat_mul4, nat_mul6, nat_mul15, nat_mul60, nat_cast, nc1, Int.reduceToNat, upE, upN, fill_ne, fill_in, i0] <;> omega)))
      | (with_reducible apply wp_s; (first | (simp (disch := omega) only [not_false_eq_true, not_true_eq_false, w32_id, tLt, fLt, tLe, fEq, itE, and_true, true_and, and_self, and_false, false_and, ↓reduceIte, nat_add, nat_mul3, nat_mul4, nat_mul6, nat_mul15, nat_mul60, nat_cast, nc1, Int.reduceToNat, upE, upN, fill_ne, fill_in, i0]; with_reducible exact Iff.rfl) | with_reducible exact Iff.rfl); intro hc__; (try subst hc__); rotate_left; intro hc__; rotate_left)
      | (with_reducible apply wp_eq; (with_reducible apply cl_go; simp (disch := omega) only [not_false_eq_true, not_true_eq_false, w32_id, tLt, fLt, tLe, fEq, itE, and_true, true_and, and_self, and_false, false_and, ↓reduceIte, nat_add, nat_mul3, nat_mul4, nat_mul6, nat_mul15, nat_mul60, nat_cast, nc1, Int.reduceToNat, upE, upN, fill_ne, fill_in, i0]; with_reducible exact rfl))
      | (with_reducible refine wp_eq (c_Life_buysTons (by omega) _ _ _ _ _ _ _) ?_; with_reducible refine wp_eq (b_Life_buysTons_0 _ _ _ _ _ _ _ _) ?_)
      | with_reducible refine wp_eq (ev) ?_
      | (with_reducible apply wp_eq; (with_reducible apply lf_go; simp (disch := omega) only [not_false_eq_true, not_true_eq_false, w32_id, tLt, fLt, tLe, fEq, itE, and_true, true_and, and_self, and_false, false_and, ↓reduceIte, nat_add, nat_mul3, nat_mul4, nat_mul6, nat_mul15, nat_mul60, nat_cast, nc1, Int.reduceToNat, upE, upN, fill_ne, fill_in, i0]; with_reducible exact rfl))
      | with_reducible apply wp_q1
    exact wp_l rfl h (FrL.refl M)
theorem l_sell (hd : 5 ≤ d) (h : LC M A r k dr T) {g n : Nat} (hs : (s : Int) < A 3) (hg : (g : Int) < A 1) (hn : 1 ≤ n) (hn' : n ≤ 60) : Wp (callD d m_Vessel_sells [vR 8 0 (57 + 2 * s), vR 0 0 19, vI (g : Int), vI (n : Int)] (SH L) M) (QL L M r k (doS A s g n dr T)) := by
  have hI := h.1.2.2.2
  have hC := hI.1
  unfold Cn at hC
  have hB := hI.2.2.2.2.2.2.1 s hs
  have hV := h.1.vs hs
  unfold doS
  by_cases ok : okSell A (shp A s) g n
  · rw [iteP_1 ok]
    have ev := v_sells1 (L := L) (d := d) (by omega) ch19 (isV_now (k := s) (by omega)) h.1.1 hI.1 hI.2.2.2.2.1 hV hB (g := g) (n := (n : Int)) (by omega) (by omega) (by omega) ok
    rw [ev]
    have q := h.put (M' := up (up M (57 + 2 * s) 4 (min 9999 (shp A s 4 + prc A (shp A s) g * n))) (57 + 2 * s + 1) g (shp A s (7 + g) - n)) (dr' := dr) (T' := T) hs (sell_sh hI hs hg (by omega) (by omega) ok) ⟨fun w hw => ?_, fun g' hg' => ?_⟩ (fun b j q1 q2 q3 q4 q5 => by rw [upN (by omega), upN (by omega)]) (by rw [upN (by omega), upN (by omega)]; exact h.2.2.2.2.1) fun w hw => ?_
    · exact wp_l rfl q.1 q.2
    · unfold sellR
      rw [upN (by omega)]
      by_cases e : w = 4
      · subst e; rw [upE rfl rfl, wUN (by omega), wUE rfl]
      · rw [upN (by omega), wUN (by omega), wUN e]; exact hV.1 w hw
    · unfold sellR
      by_cases e : g' = g
      · subst e; rw [upE rfl rfl, wUE rfl]
      · rw [upN (by omega), upN (by omega), wUN (by omega), wUN (by omega)]; exact hV.2 g' hg'
    · rw [upN (by omega), upN (by omega)]; exact h.2.2.2.2.2 w hw
  · rw [iteP_0 ok, v_sells0 (L := L) (d := d) (by omega) ch19 (isV_now (k := s) (by omega)) h.1.1 hI.1 hI.2.2.2.2.1 hV hB (g := g) (n := (n : Int)) (by omega) ok]
    exact wp_l rfl h (FrL.refl M)
theorem l_dump (hd : 5 ≤ d) (h : LC M A r k dr T) {g n : Nat} (hs : (s : Int) < A 3) (hg : (g : Int) < A 1) (hn : 1 ≤ n) (hn' : n ≤ 60) : Wp (callD d m_Vessel_dumps [vR 8 0 (57 + 2 * s), vI (g : Int), vI (n : Int)] (SH L) M) (QL L M r k (doD A s g n dr T)) := by
  have hI := h.1.2.2.2
  have hC := hI.1
  unfold Cn at hC
  have hB := hI.2.2.2.2.2.2.1 s hs
  have hV := h.1.vs hs
  rw [v_dumps (L := L) (d := d) (by omega) (isV_now (k := s) (by omega)) hV hB (g := g) (n := (n : Int)) (by omega) (by omega) (by omega)]
  unfold doD
  by_cases ok : (n : Int) ≤ shp A s (7 + g)
  · rw [iteP_1 ok, if_pos ok]
    have q := h.put (M' := up M (57 + 2 * s + 1) g (shp A s (7 + g) - n)) (dr' := dr) (T' := T) hs (dump_sh hI hs hg (by omega) ok) ⟨fun w hw => ?_, fun g' hg' => ?_⟩ (fun b j q1 q2 q3 q4 q5 => by rw [upN (by omega)]) (by rw [upN (by omega)]; exact h.2.2.2.2.1) fun w hw => ?_
    · exact wp_l rfl q.1 q.2
    · unfold dumpR
      rw [upN (by omega), wUN (by omega)]; exact hV.1 w hw
    · unfold dumpR
      by_cases e : g' = g
      · subst e; rw [upE rfl rfl, wUE rfl]
      · rw [upN (by omega), wUN (by omega)]; exact hV.2 g' hg'
    · rw [upN (by omega)]; exact h.2.2.2.2.2 w hw
  · rw [iteP_0 ok, if_neg ok]
    exact wp_l rfl h (FrL.refl M)
theorem l_sail (hd : 5 ≤ d) (h : LC M A r k dr T) {p : Nat} (hs : (s : Int) < A 3) (hp : (p : Int) < A 2) : Wp (callD d m_Vessel_sails [vR 8 0 (57 + 2 * s), vR 0 0 19, vI (p : Int)] (SH L) M) (QL L M r k (doW A s p dr T)) := by
  have hI := h.1.2.2.2
  have hC := hI.1
  unfold Cn at hC
  have hB := hI.2.2.2.2.2.2.1 s hs
  have hV := h.1.vs hs
  unfold doW
  by_cases ok : okSail A (shp A s) p
  · rw [iteP_1 ok, v_sails1 (L := L) (d := d) (by omega) ch19 h.1.1 hI.1 hI.2.2.2.2.2.1 hV hB (by omega) (p := p) (by omega) ok]
    have q := h.put (M' := up (up (up M (57 + 2 * s) 2 (way A (shp A s) p)) (57 + 2 * s) 1 p) (57 + 2 * s) 0 (-1)) (dr' := dr) (T' := T) hs (sail_sh hI hs hp ok) ⟨fun w hw => ?_, fun g' hg' => ?_⟩ (fun b j q1 q2 q3 q4 q5 => by rw [upN (by omega), upN (by omega), upN (by omega)]) (by rw [upN (by omega), upN (by omega), upN (by omega)]; exact h.2.2.2.2.1) fun w hw => ?_
    · exact wp_l rfl q.1 q.2
    · unfold sailR
      by_cases e0 : w = 0
      · subst e0; rw [upE rfl rfl, wUN (by omega), wUN (by omega), wUE rfl]
      · by_cases e1 : w = 1
        · subst e1; rw [upN (by omega), upE rfl rfl, wUN (by omega), wUE rfl]
        · by_cases e2 : w = 2
          · subst e2; rw [upN (by omega), upN (by omega), upE rfl rfl, wUE rfl]
          · rw [upN (by omega), upN (by omega), upN (by omega), wUN e2, wUN e1, wUN e0]; exact hV.1 w hw
    · unfold sailR
      rw [upN (by omega), upN (by omega), upN (by omega), wUN (by omega), wUN (by omega), wUN (by omega)]; exact hV.2 g' hg'
    · rw [upN (by omega), upN (by omega), upN (by omega)]; exact h.2.2.2.2.2 w hw
  · rw [iteP_0 ok, v_sails0 (L := L) (d := d) (by omega) ch19 h.1.1 hI.1 hV hB (p := p) (by omega) ok]
    exact wp_l rfl h (FrL.refl M)
end

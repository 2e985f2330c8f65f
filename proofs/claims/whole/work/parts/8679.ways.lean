/-! the pairs of goods of which a load fits a log -/
def wAB (a b : Nat) : Int := or32 (shl32 1 (a : Int)) (shl32 1 (b : Int))
theorem and_idem (m w : Int) : and32 (and32 m w) w = and32 m w := by
  unfold and32
  rw [Int32.ofInt_toInt, Int32.and_assoc, Int32.and_self]
theorem and_first : ∀ (G : Fin 9) (a b : Fin 8), a.val < G.val → b.val < G.val → and32 (w32 (shl32 1 (G.val : Int) - 1)) (wAB a.val b.val) = and32 255 (wAB a.val b.val) := by decide +kernel
def pB (C : Nat → Nat → Int) (a : Nat) (s : Int × Int) : Nat → Int × Int
  | 0 => s
  | k + 1 => if a < k then ((pB C a s k).1 + C a k, if 0 < C a k then and32 (pB C a s k).2 (wAB a k) else (pB C a s k).2) else pB C a s k
def pA (C : Nat → Nat → Int) (G : Nat) (s : Int × Int) : Nat → Int × Int
  | 0 => s
  | k + 1 => pB C k (pA C G s k) G
theorem pB_s (C : Nat → Nat → Int) (a : Nat) (s : Int × Int) (k : Nat) : pB C a s (k + 1) = if a < k then ((pB C a s k).1 + C a k, if 0 < C a k then and32 (pB C a s k).2 (wAB a k) else (pB C a s k).2) else pB C a s k := rfl
theorem pA_s (C : Nat → Nat → Int) (G : Nat) (s : Int × Int) (k : Nat) : pA C G s (k + 1) = pB C k (pA C G s k) G := rfl
theorem pB_0 (C : Nat → Nat → Int) (a : Nat) (s : Int × Int) : ∀ k, k ≤ a + 1 → pB C a s k = s
  | 0, _ => rfl
  | k + 1, h => by rw [pB_s, if_neg (by omega)]; exact pB_0 C a s k (by omega)
theorem pB_bd {C : Nat → Nat → Int} (hC : ∀ a b, 0 ≤ C a b ∧ C a b ≤ 3600) (a : Nat) (s : Int × Int) : ∀ k : Nat, s.1 ≤ (pB C a s k).1 ∧ (pB C a s k).1 ≤ s.1 + 3600 * k
  | 0 => by show s.1 ≤ s.1 ∧ s.1 ≤ s.1 + _; omega
  | k + 1 => by
    have i := pB_bd hC a s k
    have := hC a k
    rw [pB_s]
    split
    · dsimp only; omega
    · omega
theorem pA_bd {C : Nat → Nat → Int} {G : Nat} (hG : G ≤ 8) (hC : ∀ a b, 0 ≤ C a b ∧ C a b ≤ 3600) (s : Int × Int) : ∀ k : Nat, s.1 ≤ (pA C G s k).1 ∧ (pA C G s k).1 ≤ s.1 + 28800 * k
  | 0 => by show s.1 ≤ s.1 ∧ s.1 ≤ s.1 + _; omega
  | k + 1 => by
    have i := pA_bd hG hC s k
    have := pB_bd hC k (pA C G s k) G
    rw [pA_s]
    omega
/-- the class's count and set, and the model's -/
def pR (m0 : Int) (r r' : Int × Int) : Prop := r.1 = r'.1 ∧ 0 ≤ r.1 ∧ (r.1 = 0 ∧ r.2 = m0 ∧ r'.2 = 255 ∨ 0 < r.1 ∧ r.2 = r'.2)
theorem pB_R {C : Nat → Nat → Int} {G : Nat} {s s' : Int × Int} (hG : G ≤ 8) (hC : ∀ a b, 0 ≤ C a b ∧ C a b ≤ 3600) {a : Nat} (ha : a < G) (h : pR (w32 (shl32 1 (G : Int) - 1)) s s') : ∀ k : Nat, k ≤ G → pR (w32 (shl32 1 (G : Int) - 1)) (pB C a s k) (pB C a s' k)
  | 0, _ => h
  | k + 1, hk => by
    have i := pB_R hG hC ha h k (by omega)
    have c := hC a k
    rw [pB_s, pB_s]
    split
    · next e =>
      obtain ⟨i1, i2, i3⟩ := i
      refine ⟨by dsimp only; rw [i1], by dsimp only; omega, ?_⟩
      dsimp only
      by_cases z : 0 < C a k
      · rw [if_pos z, if_pos z]
        refine Or.inr ⟨by omega, ?_⟩
        rcases i3 with ⟨-, i4, i5⟩ | ⟨-, i4⟩
        · rw [i4, i5]; exact and_first ⟨G, by omega⟩ ⟨a, by omega⟩ ⟨k, by omega⟩ ha (by show k < G; omega)
        · rw [i4]
      · rw [if_neg z, if_neg z, show C a k = 0 by omega, Int.add_zero]
        exact i3
    · exact i
theorem pA_R {C : Nat → Nat → Int} {G : Nat} (hG : G ≤ 8) (hC : ∀ a b, 0 ≤ C a b ∧ C a b ≤ 3600) : ∀ k : Nat, k ≤ G → pR (w32 (shl32 1 (G : Int) - 1)) (pA C G (0, w32 (shl32 1 (G : Int) - 1)) k) (pA C G (0, 255) k)
  | 0, _ => ⟨rfl, by show (0 : Int) ≤ 0; omega, Or.inl ⟨rfl, rfl, rfl⟩⟩
  | k + 1, hk => pB_R hG hC (by omega) (pA_R hG hC k (by omega)) G (by omega)
section
variable {M : Mm} {A : Nat → Int} {L d : Nat}
theorem o_ways (hd : 4 ≤ d) (hW : ChW M 19 A) (hC' : Cn A) (hG : Gd A) {n : Nat} {h : Int} {q : Nat → Int} (hh : 2 ≤ h ∧ h ≤ 60) (hn : n ≤ 20) (hq : ∀ k, k < n → M 115 k = q k) : Wp (callD d m_Outlook_countWays [vR 2 0 113, vR 0 0 19, vI (n : Int), vI h] (SH L) M) (fun r S M' => r = none ∧ S = SH L ∧ (∀ b j, b ≠ 113 → M' b j = M b j) ∧ (M' 113 4, M' 113 5) = pA (cL A q n h) (A 1).toNat (0, w32 (shl32 1 (A 1) - 1)) (A 1).toNat) := by
  have hC := hC'
  unfold Cn at hC
  have cb : ∀ a b, 0 ≤ cL A q n h a b ∧ cL A q n h a b ≤ 3600 := fun a b => cL_bd hh.1 hh.2 a b
  generalize hC2 : cL A q n h = C at cb
  generalize hm0 : w32 (shl32 1 (A 1) - 1) = m0
  have hct : ∀ k, k < 4 → M 20 k = A k := hW.1
  repeat' first
    | (with_reducible apply wp_bR; (simp (disch := omega) only [rM L, rK L, rN L, rNf, rNv, rNp, rNd, rRow, rLeg, rMark, nat_cast, Int.reduceToNat, hct, hm0]; with_reducible exact rfl))
    | with_reducible apply wp_bI
    | with_reducible apply wp_bV
    | with_reducible apply wp_bL
    | with_reducible apply wp_rI
    | with_reducible apply wp_rV
    | with_reducible apply wp_rL
    | (with_reducible apply wp_1; (first | omega | (simp (disch := omega) only [not_false_eq_true, not_true_eq_false, w32_id, tLt, fLt, tLe, fEq, itE, and_true, true_and, and_self, and_false, false_and, ↓reduceIte, nat_add, nat_mul3, nat_mul4, nat_mul6, nat_mul15, nat_mul60, nat_cast, nc1, Int.reduceToNat, upE, upN, fill_ne, fill_in, i0, hct, hm0] <;> omega)))
    | (with_reducible apply wp_2; (first | omega | (simp (disch := omega) only [not_false_eq_true, not_true_eq_false, w32_id, tLt, fLt, tLe, fEq, itE, and_true, true_and, and_self, and_false, false_and, ↓reduceIte, nat_add, nat_mul3, nat_mul4, nat_mul6, nat_mul15, nat_mul60, nat_cast, nc1, Int.reduceToNat, upE, upN, fill_ne, fill_in, i0, hct, hm0] <;> omega)))
    | (with_reducible apply wp_s; (first | (simp (disch := omega) only [not_false_eq_true, not_true_eq_false, w32_id, tLt, fLt, tLe, fEq, itE, and_true, true_and, and_self, and_false, false_and, ↓reduceIte, nat_add, nat_mul3, nat_mul4, nat_mul6, nat_mul15, nat_mul60, nat_cast, nc1, Int.reduceToNat, upE, upN, fill_ne, fill_in, i0, hct, hm0]; with_reducible exact Iff.rfl) | with_reducible exact Iff.rfl); intro hc__; (try subst hc__); rotate_left; intro hc__; rotate_left)
    | (with_reducible apply wp_eq; (with_reducible apply cl_go; simp (disch := omega) only [not_false_eq_true, not_true_eq_false, w32_id, tLt, fLt, tLe, fEq, itE, and_true, true_and, and_self, and_false, false_and, ↓reduceIte, nat_add, nat_mul3, nat_mul4, nat_mul6, nat_mul15, nat_mul60, nat_cast, nc1, Int.reduceToNat, upE, upN, fill_ne, fill_in, i0, hct, hm0]; with_reducible exact rfl))
    | (with_reducible refine wp_eq (c_Outlook_countWays (by omega) _ _ _ _ _ _) ?_; with_reducible refine wp_eq (b_Outlook_countWays_0 _ _ _ _ _ _ _) ?_)
    | (with_reducible apply wp_eq; (with_reducible apply lf_go; simp (disch := omega) only [not_false_eq_true, not_true_eq_false, w32_id, tLt, fLt, tLe, fEq, itE, and_true, true_and, and_self, and_false, false_and, ↓reduceIte, nat_add, nat_mul3, nat_mul4, nat_mul6, nat_mul15, nat_mul60, nat_cast, nc1, Int.reduceToNat, upE, upN, fill_ne, fill_in, i0, hct, hm0]; with_reducible exact rfl))
    | with_reducible apply wp_q1
  rw [show up M 113 4 0 20 1 = A 1 from (upN (by omega)).trans (hct 1 (by omega)), hm0]
  generalize hM0 : up (up M 113 4 0) 113 5 m0 = M0
  have f0 : ∀ b j, b ≠ 113 → M0 b j = M b j := fun b j hb => by rw [← hM0, upN (by omega), upN (by omega)]
  have s0 : M0 113 4 = 0 := by rw [← hM0, upN (by omega), upE rfl rfl]
  have t0 : M0 113 5 = m0 := by rw [← hM0, upE rfl rfl]
  refine wp_loop (α := Mm × AV × AV) (G := fun k m => Run (callD (d - 1)) tb_Outlook_countWays 22 [vR 2 0 113, vR 0 0 19, vI (n : Int), vI h, vI (k : Int), m.2.1, m.2.2] [] (SH L) m.1) (I := fun k m => (∀ b j, b ≠ 113 → m.1 b j = M b j) ∧ m.1 113 4 = (pA C (A 1).toNat (0, m0) k).1 ∧ m.1 113 5 = (pA C (A 1).toNat (0, m0) k).2) (A 1).toNat ?_ ?_ 0 (M0, vU, vU) (by omega) ⟨f0, s0, t0⟩
  · intro k ⟨M1, z1, z2⟩ hk ⟨f1, s1, t1⟩ ih
    have f1 : ∀ b j, b ≠ 113 → M1 b j = M b j := f1
    have s1 : M1 113 4 = (pA C (A 1).toNat (0, m0) k).1 := s1
    have t1 : M1 113 5 = (pA C (A 1).toNat (0, m0) k).2 := t1
    have ab := pA_bd (C := C) (G := (A 1).toNat) (by omega) cb (0, m0) k
    have ab : 0 ≤ (pA C (A 1).toNat (0, m0) k).1 ∧ (pA C (A 1).toNat (0, m0) k).1 ≤ 0 + 28800 * k := ab
    generalize hs : pA C (A 1).toNat (0, m0) k = s at s1 t1 ab
    have hct1 : ∀ k, k < 4 → M1 20 k = A k := fun k hk => by rw [f1 _ _ (by omega)]; exact hct k hk
    refine wp_eq (b_Outlook_countWays_22 _ _ _ _ _ _ _ _ _ _) ?_
    repeat' first
      | (with_reducible apply wp_bR; (simp (disch := omega) only [rM L, rK L, rN L, rNf, rNv, rNp, rNd, rRow, rLeg, rMark, nat_cast, Int.reduceToNat, hct1]; with_reducible exact rfl))
      | with_reducible apply wp_bI
      | with_reducible apply wp_bV
      | with_reducible apply wp_bL
      | with_reducible apply wp_rI
      | with_reducible apply wp_rV
      | with_reducible apply wp_rL
      | (with_reducible apply wp_1; (first | omega | (simp (disch := omega) only [not_false_eq_true, not_true_eq_false, w32_id, tLt, fLt, tLe, fEq, itE, and_true, true_and, and_self, and_false, false_and, ↓reduceIte, nat_add, nat_mul3, nat_mul4, nat_mul6, nat_mul15, nat_mul60, nat_cast, nc1, Int.reduceToNat, upE, upN, fill_ne, fill_in, i0, hct1] <;> omega)))
      | (with_reducible apply wp_2; (first | omega | (simp (disch := omega) only [not_false_eq_true, not_true_eq_false, w32_id, tLt, fLt, tLe, fEq, itE, and_true, true_and, and_self, and_false, false_and, ↓reduceIte, nat_add, nat_mul3, nat_mul4, nat_mul6, nat_mul15, nat_mul60, nat_cast, nc1, Int.reduceToNat, upE, upN, fill_ne, fill_in, i0, hct1] <;> omega)))
      | (with_reducible apply wp_s; (first | (simp (disch := omega) only [not_false_eq_true, not_true_eq_false, w32_id, tLt, fLt, tLe, fEq, itE, and_true, true_and, and_self, and_false, false_and, ↓reduceIte, nat_add, nat_mul3, nat_mul4, nat_mul6, nat_mul15, nat_mul60, nat_cast, nc1, Int.reduceToNat, upE, upN, fill_ne, fill_in, i0, hct1]; with_reducible exact Iff.rfl) | with_reducible exact Iff.rfl); intro hc__; (try subst hc__); rotate_left; intro hc__; rotate_left)
      | (with_reducible apply wp_eq; (with_reducible apply cl_go; simp (disch := omega) only [not_false_eq_true, not_true_eq_false, w32_id, tLt, fLt, tLe, fEq, itE, and_true, true_and, and_self, and_false, false_and, ↓reduceIte, nat_add, nat_mul3, nat_mul4, nat_mul6, nat_mul15, nat_mul60, nat_cast, nc1, Int.reduceToNat, upE, upN, fill_ne, fill_in, i0, hct1]; with_reducible exact rfl))
      | (with_reducible apply wp_eq; (with_reducible apply lf_go; simp (disch := omega) only [not_false_eq_true, not_true_eq_false, w32_id, tLt, fLt, tLe, fEq, itE, and_true, true_and, and_self, and_false, false_and, ↓reduceIte, nat_add, nat_mul3, nat_mul4, nat_mul6, nat_mul15, nat_mul60, nat_cast, nc1, Int.reduceToNat, upE, upN, fill_ne, fill_in, i0, hct1]; with_reducible exact rfl))
      | with_reducible apply wp_q1
    simp (disch := omega) only [not_false_eq_true, not_true_eq_false, w32_id, tLt, fLt, tLe, fEq, itE, and_true, true_and, and_self, and_false, false_and, ↓reduceIte, nat_add, nat_mul3, nat_mul4, nat_mul6, nat_mul15, nat_mul60, nat_cast, nc1, Int.reduceToNat, upE, upN, fill_ne, fill_in, i0]
    refine wp_loop (α := Mm × AV) (G := fun j m => Run (callD (d - 1)) tb_Outlook_countWays 39 [vR 2 0 113, vR 0 0 19, vI (n : Int), vI h, vI (k : Int), vI (j : Int), m.2] [] (SH L) m.1) (I := fun j m => (∀ b j, b ≠ 113 → m.1 b j = M b j) ∧ m.1 113 4 = (pB C k s j).1 ∧ m.1 113 5 = (pB C k s j).2 ∧ k < j) (A 1).toNat ?_ ?_ (k + 1) (M1, z2) (by omega) ⟨f1, by rw [pB_0 _ _ _ _ (by omega)]; exact s1, by rw [pB_0 _ _ _ _ (by omega)]; exact t1, by omega⟩
    · intro j ⟨M2, z⟩ hj ⟨f2, s2, t2, hkj⟩ ih
      have f2 : ∀ b j, b ≠ 113 → M2 b j = M b j := f2
      have s2 : M2 113 4 = (pB C k s j).1 := s2
      have t2 : M2 113 5 = (pB C k s j).2 := t2
      have bb := pB_bd (C := C) cb k s j
      have ckj := cb k j
      have hct2 : ∀ k, k < 4 → M2 20 k = A k := fun k hk => by rw [f2 _ _ (by omega)]; exact hct k hk
      refine wp_eq (b_Outlook_countWays_39 _ _ _ _ _ _ _ _ _ _) ?_
      repeat' first
        | (with_reducible apply wp_bR; (simp (disch := omega) only [rM L, rK L, rN L, rNf, rNv, rNp, rNd, rRow, rLeg, rMark, nat_cast, Int.reduceToNat, hct2]; with_reducible exact rfl))
        | with_reducible apply wp_bI
        | with_reducible apply wp_bV
        | with_reducible apply wp_bL
        | with_reducible apply wp_rI
        | with_reducible apply wp_rV
        | with_reducible apply wp_rL
        | (with_reducible apply wp_1; (first | omega | (simp (disch := omega) only [not_false_eq_true, not_true_eq_false, w32_id, tLt, fLt, tLe, fEq, itE, and_true, true_and, and_self, and_false, false_and, ↓reduceIte, nat_add, nat_mul3, nat_mul4, nat_mul6, nat_mul15, nat_mul60, nat_cast, nc1, Int.reduceToNat, upE, upN, fill_ne, fill_in, i0, hct2] <;> omega)))
        | (with_reducible apply wp_2; (first | omega | (simp (disch := omega) only [not_false_eq_true, not_true_eq_false, w32_id, tLt, fLt, tLe, fEq, itE, and_true, true_and, and_self, and_false, false_and, ↓reduceIte, nat_add, nat_mul3, nat_mul4, nat_mul6, nat_mul15, nat_mul60, nat_cast, nc1, Int.reduceToNat, upE, upN, fill_ne, fill_in, i0, hct2] <;> omega)))
        | (with_reducible apply wp_s; (first | (simp (disch := omega) only [not_false_eq_true, not_true_eq_false, w32_id, tLt, fLt, tLe, fEq, itE, and_true, true_and, and_self, and_false, false_and, ↓reduceIte, nat_add, nat_mul3, nat_mul4, nat_mul6, nat_mul15, nat_mul60, nat_cast, nc1, Int.reduceToNat, upE, upN, fill_ne, fill_in, i0, hct2]; with_reducible exact Iff.rfl) | with_reducible exact Iff.rfl); intro hc__; (try subst hc__); rotate_left; intro hc__; rotate_left)
        | (with_reducible apply wp_eq; (with_reducible apply cl_go; simp (disch := omega) only [not_false_eq_true, not_true_eq_false, w32_id, tLt, fLt, tLe, fEq, itE, and_true, true_and, and_self, and_false, false_and, ↓reduceIte, nat_add, nat_mul3, nat_mul4, nat_mul6, nat_mul15, nat_mul60, nat_cast, nc1, Int.reduceToNat, upE, upN, fill_ne, fill_in, i0, hct2]; with_reducible exact rfl))
        | (with_reducible apply wp_eq; (with_reducible apply lf_go; simp (disch := omega) only [not_false_eq_true, not_true_eq_false, w32_id, tLt, fLt, tLe, fEq, itE, and_true, true_and, and_self, and_false, false_and, ↓reduceIte, nat_add, nat_mul3, nat_mul4, nat_mul6, nat_mul15, nat_mul60, nat_cast, nc1, Int.reduceToNat, upE, upN, fill_ne, fill_in, i0, hct2]; with_reducible exact rfl))
        | with_reducible apply wp_q1
      refine wp_mono (o_loads (by omega) (hW.sm hC' fun b j hb => f2 b j (by omega)) hC' hG (a := k) (b := j) (n := n) (h := h) (q := q) (by omega) (by omega) hh hn (fun k hk => by rw [f2 _ _ (by omega)]; exact hq k hk) (by omega)) ?_
      rintro r S M3 ⟨rfl, rfl, f3, s3⟩
      refine ⟨rfl, ?_⟩
      rw [hC2] at s3
      by_cases c : 0 < C k j
      · repeat' first
          | (with_reducible apply wp_bR; (simp (disch := omega) only [rM L, rK L, rN L, rNf, rNv, rNp, rNd, rRow, rLeg, rMark, nat_cast, Int.reduceToNat, s3]; with_reducible exact rfl))
          | with_reducible apply wp_bI
          | with_reducible apply wp_bV
          | with_reducible apply wp_bL
          | with_reducible apply wp_rI
          | with_reducible apply wp_rV
          | with_reducible apply wp_rL
          | (with_reducible apply wp_1; (first | omega | (simp (disch := omega) only [not_false_eq_true, not_true_eq_false, w32_id, tLt, fLt, tLe, fEq, itE, and_true, true_and, and_self, and_false, false_and, ↓reduceIte, nat_add, nat_mul3, nat_mul4, nat_mul6, nat_mul15, nat_mul60, nat_cast, nc1, Int.reduceToNat, upE, upN, fill_ne, fill_in, i0, s3] <;> omega)))
          | (with_reducible apply wp_2; (first | omega | (simp (disch := omega) only [not_false_eq_true, not_true_eq_false, w32_id, tLt, fLt, tLe, fEq, itE, and_true, true_and, and_self, and_false, false_and, ↓reduceIte, nat_add, nat_mul3, nat_mul4, nat_mul6, nat_mul15, nat_mul60, nat_cast, nc1, Int.reduceToNat, upE, upN, fill_ne, fill_in, i0, s3] <;> omega)))
          | (with_reducible apply wp_s; (first | (simp (disch := omega) only [not_false_eq_true, not_true_eq_false, w32_id, tLt, fLt, tLe, fEq, itE, and_true, true_and, and_self, and_false, false_and, ↓reduceIte, nat_add, nat_mul3, nat_mul4, nat_mul6, nat_mul15, nat_mul60, nat_cast, nc1, Int.reduceToNat, upE, upN, fill_ne, fill_in, i0, s3]; with_reducible exact Iff.rfl) | with_reducible exact Iff.rfl); intro hc__; (try subst hc__); rotate_left; intro hc__; rotate_left)
          | (with_reducible apply wp_eq; (with_reducible apply cl_go; simp (disch := omega) only [not_false_eq_true, not_true_eq_false, w32_id, tLt, fLt, tLe, fEq, itE, and_true, true_and, and_self, and_false, false_and, ↓reduceIte, nat_add, nat_mul3, nat_mul4, nat_mul6, nat_mul15, nat_mul60, nat_cast, nc1, Int.reduceToNat, upE, upN, fill_ne, fill_in, i0, s3]; with_reducible exact rfl))
          | (with_reducible apply wp_eq; (with_reducible apply lf_go; simp (disch := omega) only [not_false_eq_true, not_true_eq_false, w32_id, tLt, fLt, tLe, fEq, itE, and_true, true_and, and_self, and_false, false_and, ↓reduceIte, nat_add, nat_mul3, nat_mul4, nat_mul6, nat_mul15, nat_mul60, nat_cast, nc1, Int.reduceToNat, upE, upN, fill_ne, fill_in, i0, s3]; with_reducible exact rfl))
          | with_reducible apply wp_q1
        apply wp_nx2 ih
        · simp (disch := omega) only [not_false_eq_true, not_true_eq_false, w32_id, tLt, fLt, tLe, fEq, itE, and_true, true_and, and_self, and_false, false_and, ↓reduceIte, nat_add, nat_mul3, nat_mul4, nat_mul6, nat_mul15, nat_mul60, nat_cast, nc1, Int.reduceToNat, upE, upN, fill_ne, fill_in, i0]
          with_reducible rfl
        · exact ⟨fun b j hb => by dsimp only; rw [upN (by omega), f3 _ _ (by omega)]; exact f2 b j hb, by dsimp only; rw [upN (by omega), s3, s2, pB_s, if_pos hkj], by dsimp only; rw [upE rfl rfl, f3 _ _ (by omega), t2, pB_s, if_pos hkj, if_pos c]; rfl, by omega⟩
      · repeat' first
          | (with_reducible apply wp_bR; (simp (disch := omega) only [rM L, rK L, rN L, rNf, rNv, rNp, rNd, rRow, rLeg, rMark, nat_cast, Int.reduceToNat, s3]; with_reducible exact rfl))
          | with_reducible apply wp_bI
          | with_reducible apply wp_bV
          | with_reducible apply wp_bL
          | with_reducible apply wp_rI
          | with_reducible apply wp_rV
          | with_reducible apply wp_rL
          | (with_reducible apply wp_1; (first | omega | (simp (disch := omega) only [not_false_eq_true, not_true_eq_false, w32_id, tLt, fLt, tLe, fEq, itE, and_true, true_and, and_self, and_false, false_and, ↓reduceIte, nat_add, nat_mul3, nat_mul4, nat_mul6, nat_mul15, nat_mul60, nat_cast, nc1, Int.reduceToNat, upE, upN, fill_ne, fill_in, i0, s3] <;> omega)))
          | (with_reducible apply wp_2; (first | omega | (simp (disch := omega) only [not_false_eq_true, not_true_eq_false, w32_id, tLt, fLt, tLe, fEq, itE, and_true, true_and, and_self, and_false, false_and, ↓reduceIte, nat_add, nat_mul3, nat_mul4, nat_mul6, nat_mul15, nat_mul60, nat_cast, nc1, Int.reduceToNat, upE, upN, fill_ne, fill_in, i0, s3] <;> omega)))
          | (with_reducible apply wp_s; (first | (simp (disch := omega) only [not_false_eq_true, not_true_eq_false, w32_id, tLt, fLt, tLe, fEq, itE, and_true, true_and, and_self, and_false, false_and, ↓reduceIte, nat_add, nat_mul3, nat_mul4, nat_mul6, nat_mul15, nat_mul60, nat_cast, nc1, Int.reduceToNat, upE, upN, fill_ne, fill_in, i0, s3]; with_reducible exact Iff.rfl) | with_reducible exact Iff.rfl); intro hc__; (try subst hc__); rotate_left; intro hc__; rotate_left)
          | (with_reducible apply wp_eq; (with_reducible apply cl_go; simp (disch := omega) only [not_false_eq_true, not_true_eq_false, w32_id, tLt, fLt, tLe, fEq, itE, and_true, true_and, and_self, and_false, false_and, ↓reduceIte, nat_add, nat_mul3, nat_mul4, nat_mul6, nat_mul15, nat_mul60, nat_cast, nc1, Int.reduceToNat, upE, upN, fill_ne, fill_in, i0, s3]; with_reducible exact rfl))
          | (with_reducible apply wp_eq; (with_reducible apply lf_go; simp (disch := omega) only [not_false_eq_true, not_true_eq_false, w32_id, tLt, fLt, tLe, fEq, itE, and_true, true_and, and_self, and_false, false_and, ↓reduceIte, nat_add, nat_mul3, nat_mul4, nat_mul6, nat_mul15, nat_mul60, nat_cast, nc1, Int.reduceToNat, upE, upN, fill_ne, fill_in, i0, s3]; with_reducible exact rfl))
          | with_reducible apply wp_q1
        apply wp_nx2 ih
        · simp (disch := omega) only [not_false_eq_true, not_true_eq_false, w32_id, tLt, fLt, tLe, fEq, itE, and_true, true_and, and_self, and_false, false_and, ↓reduceIte, nat_add, nat_mul3, nat_mul4, nat_mul6, nat_mul15, nat_mul60, nat_cast, nc1, Int.reduceToNat, upE, upN, fill_ne, fill_in, i0]
          with_reducible rfl
        · exact ⟨fun b j hb => by dsimp only; rw [f3 _ _ (by omega)]; exact f2 b j hb, by dsimp only; rw [s3, s2, pB_s, if_pos hkj], by dsimp only; rw [f3 _ _ (by omega), t2, pB_s, if_pos hkj, if_neg c], by omega⟩
    · intro ⟨M2, z⟩ ⟨f2, s2, t2, hkj⟩
      have f2 : ∀ b j, b ≠ 113 → M2 b j = M b j := f2
      have hct2 : ∀ k, k < 4 → M2 20 k = A k := fun k hk => by rw [f2 _ _ (by omega)]; exact hct k hk
      refine wp_eq (b_Outlook_countWays_39 _ _ _ _ _ _ _ _ _ _) ?_
      repeat' first
        | (with_reducible apply wp_bR; (simp (disch := omega) only [rM L, rK L, rN L, rNf, rNv, rNp, rNd, rRow, rLeg, rMark, nat_cast, Int.reduceToNat, hct2]; with_reducible exact rfl))
        | with_reducible apply wp_bI
        | with_reducible apply wp_bV
        | with_reducible apply wp_bL
        | with_reducible apply wp_rI
        | with_reducible apply wp_rV
        | with_reducible apply wp_rL
        | (with_reducible apply wp_1; (first | omega | (simp (disch := omega) only [not_false_eq_true, not_true_eq_false, w32_id, tLt, fLt, tLe, fEq, itE, and_true, true_and, and_self, and_false, false_and, ↓reduceIte, nat_add, nat_mul3, nat_mul4, nat_mul6, nat_mul15, nat_mul60, nat_cast, nc1, Int.reduceToNat, upE, upN, fill_ne, fill_in, i0, hct2] <;> omega)))
        | (with_reducible apply wp_2; (first | omega | (simp (disch := omega) only [not_false_eq_true, not_true_eq_false, w32_id, tLt, fLt, tLe, fEq, itE, and_true, true_and, and_self, and_false, false_and, ↓reduceIte, nat_add, nat_mul3, nat_mul4, nat_mul6, nat_mul15, nat_mul60, nat_cast, nc1, Int.reduceToNat, upE, upN, fill_ne, fill_in, i0, hct2] <;> omega)))
        | (with_reducible apply wp_s; (first | (simp (disch := omega) only [not_false_eq_true, not_true_eq_false, w32_id, tLt, fLt, tLe, fEq, itE, and_true, true_and, and_self, and_false, false_and, ↓reduceIte, nat_add, nat_mul3, nat_mul4, nat_mul6, nat_mul15, nat_mul60, nat_cast, nc1, Int.reduceToNat, upE, upN, fill_ne, fill_in, i0, hct2]; with_reducible exact Iff.rfl) | with_reducible exact Iff.rfl); intro hc__; (try subst hc__); rotate_left; intro hc__; rotate_left)
        | (with_reducible apply wp_eq; (with_reducible apply cl_go; simp (disch := omega) only [not_false_eq_true, not_true_eq_false, w32_id, tLt, fLt, tLe, fEq, itE, and_true, true_and, and_self, and_false, false_and, ↓reduceIte, nat_add, nat_mul3, nat_mul4, nat_mul6, nat_mul15, nat_mul60, nat_cast, nc1, Int.reduceToNat, upE, upN, fill_ne, fill_in, i0, hct2]; with_reducible exact rfl))
        | (with_reducible apply wp_eq; (with_reducible apply lf_go; simp (disch := omega) only [not_false_eq_true, not_true_eq_false, w32_id, tLt, fLt, tLe, fEq, itE, and_true, true_and, and_self, and_false, false_and, ↓reduceIte, nat_add, nat_mul3, nat_mul4, nat_mul6, nat_mul15, nat_mul60, nat_cast, nc1, Int.reduceToNat, upE, upN, fill_ne, fill_in, i0, hct2]; with_reducible exact rfl))
        | with_reducible apply wp_q1
      apply wp_nx3 ih
      · simp (disch := omega) only [not_false_eq_true, not_true_eq_false, w32_id, tLt, fLt, tLe, fEq, itE, and_true, true_and, and_self, and_false, false_and, ↓reduceIte, nat_add, nat_mul3, nat_mul4, nat_mul6, nat_mul15, nat_mul60, nat_cast, nc1, Int.reduceToNat, upE, upN, fill_ne, fill_in, i0]
        with_reducible rfl
      · exact ⟨f2, by rw [pA_s, hs]; exact s2, by rw [pA_s, hs]; exact t2⟩
  · intro ⟨M1, z1, z2⟩ ⟨f1, s1, t1⟩
    have f1 : ∀ b j, b ≠ 113 → M1 b j = M b j := f1
    have s1 : M1 113 4 = _ := s1
    have t1 : M1 113 5 = _ := t1
    have hct1 : ∀ k, k < 4 → M1 20 k = A k := fun k hk => by rw [f1 _ _ (by omega)]; exact hct k hk
    refine wp_eq (b_Outlook_countWays_22 _ _ _ _ _ _ _ _ _ _) ?_
    repeat' first
      | (with_reducible apply wp_bR; (simp (disch := omega) only [rM L, rK L, rN L, rNf, rNv, rNp, rNd, rRow, rLeg, rMark, nat_cast, Int.reduceToNat, hct1]; with_reducible exact rfl))
      | with_reducible apply wp_bI
      | with_reducible apply wp_bV
      | with_reducible apply wp_bL
      | with_reducible apply wp_rI
      | with_reducible apply wp_rV
      | with_reducible apply wp_rL
      | (with_reducible apply wp_1; (first | omega | (simp (disch := omega) only [not_false_eq_true, not_true_eq_false, w32_id, tLt, fLt, tLe, fEq, itE, and_true, true_and, and_self, and_false, false_and, ↓reduceIte, nat_add, nat_mul3, nat_mul4, nat_mul6, nat_mul15, nat_mul60, nat_cast, nc1, Int.reduceToNat, upE, upN, fill_ne, fill_in, i0, hct1] <;> omega)))
      | (with_reducible apply wp_2; (first | omega | (simp (disch := omega) only [not_false_eq_true, not_true_eq_false, w32_id, tLt, fLt, tLe, fEq, itE, and_true, true_and, and_self, and_false, false_and, ↓reduceIte, nat_add, nat_mul3, nat_mul4, nat_mul6, nat_mul15, nat_mul60, nat_cast, nc1, Int.reduceToNat, upE, upN, fill_ne, fill_in, i0, hct1] <;> omega)))
      | (with_reducible apply wp_s; (first | (simp (disch := omega) only [not_false_eq_true, not_true_eq_false, w32_id, tLt, fLt, tLe, fEq, itE, and_true, true_and, and_self, and_false, false_and, ↓reduceIte, nat_add, nat_mul3, nat_mul4, nat_mul6, nat_mul15, nat_mul60, nat_cast, nc1, Int.reduceToNat, upE, upN, fill_ne, fill_in, i0, hct1]; with_reducible exact Iff.rfl) | with_reducible exact Iff.rfl); intro hc__; (try subst hc__); rotate_left; intro hc__; rotate_left)
      | (with_reducible apply wp_eq; (with_reducible apply cl_go; simp (disch := omega) only [not_false_eq_true, not_true_eq_false, w32_id, tLt, fLt, tLe, fEq, itE, and_true, true_and, and_self, and_false, false_and, ↓reduceIte, nat_add, nat_mul3, nat_mul4, nat_mul6, nat_mul15, nat_mul60, nat_cast, nc1, Int.reduceToNat, upE, upN, fill_ne, fill_in, i0, hct1]; with_reducible exact rfl))
      | (with_reducible apply wp_eq; (with_reducible apply lf_go; simp (disch := omega) only [not_false_eq_true, not_true_eq_false, w32_id, tLt, fLt, tLe, fEq, itE, and_true, true_and, and_self, and_false, false_and, ↓reduceIte, nat_add, nat_mul3, nat_mul4, nat_mul6, nat_mul15, nat_mul60, nat_cast, nc1, Int.reduceToNat, upE, upN, fill_ne, fill_in, i0, hct1]; with_reducible exact rfl))
      | with_reducible apply wp_q1
    exact ⟨_, _, _, rfl, rfl, rfl, f1, by rw [s1, t1]⟩
/-- a value of a log that no flag is -/
def okLog (A q : Nat → Int) (n : Nat) : Prop := ∀ k, k < n → -1 ≤ q k ∧ q k < A 0
theorem c_seekLog (hd : 6 ≤ d) (hW : ChW M 19 A) (hC' : Cn A) (hG : Gd A) {t n : Nat} {h : Int} {q : Nat → Int} (ht : t < 4) (hn : 1 ≤ n) (hn' : n ≤ 20) (hh : 2 ≤ h ∧ h ≤ 60) (hl : (n : Int) ≤ M 11 t) (hl' : M 11 t ≤ 60) (hq : ∀ k, k < n → M (6 + t) k = q k) : Wp (callD d m_Ca_seekLog [vR 11 0 3, vI (t : Int), vI (n : Int), vI h] (SH L) M) (fun r S M' => S = SH L ∧ (∀ b j, b ≠ 113 → b ≠ 115 → ¬(b = 3 ∧ j = 15) → M' b j = M b j) ∧ (¬okLog A q n ∧ r = some (vI 0) ∧ M' 3 15 = 5 ∨ okLog A q n ∧ r = some (vI 1) ∧ M' 3 15 = 0 ∧ (M' 113 4, M' 113 5) = pA (cL A q n h) (A 1).toNat (0, w32 (shl32 1 (A 1) - 1)) (A 1).toNat)) := by
  have hC := hC'
  unfold Cn at hC
  have hct : ∀ k, k < 4 → M 20 k = A k := hW.1
  repeat' first
    | (with_reducible apply wp_bR; (simp (disch := omega) only [rM L, rK L, rN L, rNf, rNv, rNp, rNd, rRow, rLeg, rMark, nat_cast, Int.reduceToNat, hct]; with_reducible exact rfl))
    | with_reducible apply wp_bI
    | with_reducible apply wp_bV
    | with_reducible apply wp_bL
    | with_reducible apply wp_rI
    | with_reducible apply wp_rV
    | with_reducible apply wp_rL
    | (with_reducible apply wp_1; (first | omega | (simp (disch := omega) only [not_false_eq_true, not_true_eq_false, w32_id, tLt, fLt, tLe, fEq, itE, and_true, true_and, and_self, and_false, false_and, ↓reduceIte, nat_add, nat_mul3, nat_mul4, nat_mul6, nat_mul15, nat_mul60, nat_cast, nc1, Int.reduceToNat, upE, upN, fill_ne, fill_in, i0, hct] <;> omega)))
    | (with_reducible apply wp_2; (first | omega | (simp (disch := omega) only [not_false_eq_true, not_true_eq_false, w32_id, tLt, fLt, tLe, fEq, itE, and_true, true_and, and_self, and_false, false_and, ↓reduceIte, nat_add, nat_mul3, nat_mul4, nat_mul6, nat_mul15, nat_mul60, nat_cast, nc1, Int.reduceToNat, upE, upN, fill_ne, fill_in, i0, hct] <;> omega)))
    | (with_reducible apply wp_s; (first | (simp (disch := omega) only [not_false_eq_true, not_true_eq_false, w32_id, tLt, fLt, tLe, fEq, itE, and_true, true_and, and_self, and_false, false_and, ↓reduceIte, nat_add, nat_mul3, nat_mul4, nat_mul6, nat_mul15, nat_mul60, nat_cast, nc1, Int.reduceToNat, upE, upN, fill_ne, fill_in, i0, hct]; with_reducible exact Iff.rfl) | with_reducible exact Iff.rfl); intro hc__; (try subst hc__); rotate_left; intro hc__; rotate_left)
    | (with_reducible apply wp_eq; (with_reducible apply cl_go; simp (disch := omega) only [not_false_eq_true, not_true_eq_false, w32_id, tLt, fLt, tLe, fEq, itE, and_true, true_and, and_self, and_false, false_and, ↓reduceIte, nat_add, nat_mul3, nat_mul4, nat_mul6, nat_mul15, nat_mul60, nat_cast, nc1, Int.reduceToNat, upE, upN, fill_ne, fill_in, i0, hct]; with_reducible exact rfl))
    | (with_reducible refine wp_eq (c_Ca_seekLog (by omega) _ _ _ _ _ _) ?_; with_reducible refine wp_eq (b_Ca_seekLog_0 _ _ _ _ _ _ _) ?_)
    | (with_reducible refine wp_eq (c_Trays_isTray (by omega) _ _ _) ?_; with_reducible refine wp_eq (b_Trays_isTray_0 _ _ _ _) ?_)
    | (with_reducible refine wp_eq (c_Trays_troubleFirst (by omega) _ _ _ _ _) ?_; with_reducible refine wp_eq (b_Trays_troubleFirst_0 _ _ _ _ _ _) ?_)
    | (with_reducible refine wp_eq (c_Trays_troubleAt (by omega) _ _ _ _ _) ?_; with_reducible refine wp_eq (b_Trays_troubleAt_0 _ _ _ _ _ _) ?_)
    | (with_reducible refine wp_eq (c_Trays_isMissing (by omega) _ _ _ _) ?_; with_reducible refine wp_eq (b_Trays_isMissing_0 _ _ _ _ _) ?_)
    | (with_reducible refine wp_eq (c_Ca_within (by omega) _ _ _ _ _) ?_; with_reducible refine wp_eq (b_Ca_within_0 _ _ _ _ _ _) ?_)
    | (with_reducible refine wp_eq (c_Ca_isShip (by omega) _ _ _ _) ?_; with_reducible refine wp_eq (b_Ca_isShip_0 _ _ _ _ _) ?_)
    | (with_reducible refine wp_eq (c_Ca_isNation (by omega) _ _ _ _) ?_; with_reducible refine wp_eq (b_Ca_isNation_0 _ _ _ _ _) ?_)
    | (with_reducible refine wp_eq (c_Ca_isGood (by omega) _ _ _ _) ?_; with_reducible refine wp_eq (b_Ca_isGood_0 _ _ _ _ _) ?_)
    | (with_reducible refine wp_eq (c_Ca_isPort (by omega) _ _ _ _) ?_; with_reducible refine wp_eq (b_Ca_isPort_0 _ _ _ _ _) ?_)
    | (with_reducible refine wp_eq (c_Ca_areTwo (by omega) _ _ _ _ _ _) ?_; with_reducible refine wp_eq (b_Ca_areTwo_0 _ _ _ _ _ _ _) ?_)
    | (with_reducible refine wp_eq (c_Ca_answer (by omega) _ _ _ _) ?_; with_reducible refine wp_eq (b_Ca_answer_0 _ _ _ _ _) ?_)
    | (with_reducible refine wp_eq (c_Ca_refuse (by omega) _ _ _ _) ?_; with_reducible refine wp_eq (b_Ca_refuse_0 _ _ _ _ _) ?_)
    | (with_reducible refine wp_eq (c_Ca_answerOr (by omega) _ _ _ _ _) ?_; with_reducible refine wp_eq (b_Ca_answerOr_0 _ _ _ _ _ _) ?_)
    | (with_reducible refine wp_eq (c_Ca_agree (by omega) _ _ _) ?_; with_reducible refine wp_eq (b_Ca_agree_0 _ _ _ _) ?_)
    | (with_reducible refine wp_eq (c_Ca_deny (by omega) _ _ _ _) ?_; with_reducible refine wp_eq (b_Ca_deny_0 _ _ _ _ _) ?_)
    | (with_reducible apply wp_eq; (with_reducible apply lf_go; simp (disch := omega) only [not_false_eq_true, not_true_eq_false, w32_id, tLt, fLt, tLe, fEq, itE, and_true, true_and, and_self, and_false, false_and, ↓reduceIte, nat_add, nat_mul3, nat_mul4, nat_mul6, nat_mul15, nat_mul60, nat_cast, nc1, Int.reduceToNat, upE, upN, fill_ne, fill_in, i0, hct]; with_reducible exact rfl))
    | with_reducible apply wp_q1
  refine wp_loop (α := Mm × AV × AV) (G := fun k m => Run (callD (d - 1)) tb_Ca_seekLog 59 [vR 11 0 3, vI (t : Int), vI (n : Int), vI h, vI 0, vI (k : Int), m.2.1, m.2.2] [] (SH L) m.1) (I := fun k m => (∀ b j, b ≠ 115 → m.1 b j = M b j) ∧ (∀ j, j < k → m.1 115 j = q j) ∧ okLog A q k) n ?_ ?_ 0 (M, vU, vU) (by omega) ⟨fun _ _ _ => rfl, fun _ hj => by omega, fun _ hj => by omega⟩
  · intro k ⟨M1, z1, z2⟩ hk ⟨f1, s1, o1⟩ ih
    have f1 : ∀ b j, b ≠ 115 → M1 b j = M b j := f1
    have s1 : ∀ j, j < k → M1 115 j = q j := s1
    have hct1 : ∀ k, k < 4 → M1 20 k = A k := fun k hk => by rw [f1 _ _ (by omega)]; exact hct k hk
    have v1 : M1 (6 + t) k = q k := by rw [f1 _ _ (by omega)]; exact hq k hk
    by_cases c : -1 ≤ q k ∧ q k < A 0
    · refine wp_eq (b_Ca_seekLog_59 _ _ _ _ _ _ _ _ _ _ _) ?_
      repeat' first
        | (with_reducible apply wp_bR; (simp (disch := omega) only [rM L, rK L, rN L, rNf, rNv, rNp, rNd, rRow, rLeg, rMark, nat_cast, Int.reduceToNat, hct1, v1, cmp_neg]; with_reducible exact rfl))
        | with_reducible apply wp_bI
        | with_reducible apply wp_bV
        | with_reducible apply wp_bL
        | with_reducible apply wp_rI
        | with_reducible apply wp_rV
        | with_reducible apply wp_rL
        | (with_reducible apply wp_1; (first | omega | (simp (disch := omega) only [not_false_eq_true, not_true_eq_false, w32_id, tLt, fLt, tLe, fEq, itE, and_true, true_and, and_self, and_false, false_and, ↓reduceIte, nat_add, nat_mul3, nat_mul4, nat_mul6, nat_mul15, nat_mul60, nat_cast, nc1, Int.reduceToNat, upE, upN, fill_ne, fill_in, i0, hct1, v1, cmp_neg] <;> omega)))
        | (with_reducible apply wp_2; (first | omega | (simp (disch := omega) only [not_false_eq_true, not_true_eq_false, w32_id, tLt, fLt, tLe, fEq, itE, and_true, true_and, and_self, and_false, false_and, ↓reduceIte, nat_add, nat_mul3, nat_mul4, nat_mul6, nat_mul15, nat_mul60, nat_cast, nc1, Int.reduceToNat, upE, upN, fill_ne, fill_in, i0, hct1, v1, cmp_neg] <;> omega)))
        | (with_reducible apply wp_s; (first | (simp (disch := omega) only [not_false_eq_true, not_true_eq_false, w32_id, tLt, fLt, tLe, fEq, itE, and_true, true_and, and_self, and_false, false_and, ↓reduceIte, nat_add, nat_mul3, nat_mul4, nat_mul6, nat_mul15, nat_mul60, nat_cast, nc1, Int.reduceToNat, upE, upN, fill_ne, fill_in, i0, hct1, v1, cmp_neg]; with_reducible exact Iff.rfl) | with_reducible exact Iff.rfl); intro hc__; (try subst hc__); rotate_left; intro hc__; rotate_left)
        | (with_reducible apply wp_eq; (with_reducible apply cl_go; simp (disch := omega) only [not_false_eq_true, not_true_eq_false, w32_id, tLt, fLt, tLe, fEq, itE, and_true, true_and, and_self, and_false, false_and, ↓reduceIte, nat_add, nat_mul3, nat_mul4, nat_mul6, nat_mul15, nat_mul60, nat_cast, nc1, Int.reduceToNat, upE, upN, fill_ne, fill_in, i0, hct1, v1, cmp_neg]; with_reducible exact rfl))
        | (with_reducible apply wp_eq; (with_reducible apply lf_go; simp (disch := omega) only [not_false_eq_true, not_true_eq_false, w32_id, tLt, fLt, tLe, fEq, itE, and_true, true_and, and_self, and_false, false_and, ↓reduceIte, nat_add, nat_mul3, nat_mul4, nat_mul6, nat_mul15, nat_mul60, nat_cast, nc1, Int.reduceToNat, upE, upN, fill_ne, fill_in, i0, hct1, v1, cmp_neg]; with_reducible exact rfl))
        | with_reducible apply wp_q1
      apply wp_nx3 ih
      · simp (disch := omega) only [not_false_eq_true, not_true_eq_false, w32_id, tLt, fLt, tLe, fEq, itE, and_true, true_and, and_self, and_false, false_and, ↓reduceIte, nat_add, nat_mul3, nat_mul4, nat_mul6, nat_mul15, nat_mul60, nat_cast, nc1, Int.reduceToNat, upE, upN, fill_ne, fill_in, i0]
        with_reducible rfl
      · exact ⟨fun b j hb => by dsimp only; rw [upN (by omega)]; exact f1 b j hb, fun j hj => by dsimp only; exact if e : j = k then by subst e; rw [upE rfl rfl]; exact v1 else by rw [upN (by omega)]; exact s1 j (by omega), fun j hj => if e : j = k then by subst e; exact c else o1 j (by omega)⟩
    · have no : ¬okLog A q n := fun o => c (o k hk)
      refine wp_eq (b_Ca_seekLog_59 _ _ _ _ _ _ _ _ _ _ _) ?_
      repeat' first
        | (with_reducible apply wp_bR; (simp (disch := omega) only [rM L, rK L, rN L, rNf, rNv, rNp, rNd, rRow, rLeg, rMark, nat_cast, Int.reduceToNat, hct1, v1, cmp_neg]; with_reducible exact rfl))
        | with_reducible apply wp_bI
        | with_reducible apply wp_bV
        | with_reducible apply wp_bL
        | with_reducible apply wp_rI
        | with_reducible apply wp_rV
        | with_reducible apply wp_rL
        | (with_reducible apply wp_1; (first | omega | (simp (disch := omega) only [not_false_eq_true, not_true_eq_false, w32_id, tLt, fLt, tLe, fEq, itE, and_true, true_and, and_self, and_false, false_and, ↓reduceIte, nat_add, nat_mul3, nat_mul4, nat_mul6, nat_mul15, nat_mul60, nat_cast, nc1, Int.reduceToNat, upE, upN, fill_ne, fill_in, i0, hct1, v1, cmp_neg] <;> omega)))
        | (with_reducible apply wp_2; (first | omega | (simp (disch := omega) only [not_false_eq_true, not_true_eq_false, w32_id, tLt, fLt, tLe, fEq, itE, and_true, true_and, and_self, and_false, false_and, ↓reduceIte, nat_add, nat_mul3, nat_mul4, nat_mul6, nat_mul15, nat_mul60, nat_cast, nc1, Int.reduceToNat, upE, upN, fill_ne, fill_in, i0, hct1, v1, cmp_neg] <;> omega)))
        | (with_reducible apply wp_s; (first | (simp (disch := omega) only [not_false_eq_true, not_true_eq_false, w32_id, tLt, fLt, tLe, fEq, itE, and_true, true_and, and_self, and_false, false_and, ↓reduceIte, nat_add, nat_mul3, nat_mul4, nat_mul6, nat_mul15, nat_mul60, nat_cast, nc1, Int.reduceToNat, upE, upN, fill_ne, fill_in, i0, hct1, v1, cmp_neg]; with_reducible exact Iff.rfl) | with_reducible exact Iff.rfl); intro hc__; (try subst hc__); rotate_left; intro hc__; rotate_left)
        | (with_reducible apply wp_eq; (with_reducible apply cl_go; simp (disch := omega) only [not_false_eq_true, not_true_eq_false, w32_id, tLt, fLt, tLe, fEq, itE, and_true, true_and, and_self, and_false, false_and, ↓reduceIte, nat_add, nat_mul3, nat_mul4, nat_mul6, nat_mul15, nat_mul60, nat_cast, nc1, Int.reduceToNat, upE, upN, fill_ne, fill_in, i0, hct1, v1, cmp_neg]; with_reducible exact rfl))
        | (with_reducible refine wp_eq (c_Ca_within (by omega) _ _ _ _ _) ?_; with_reducible refine wp_eq (b_Ca_within_0 _ _ _ _ _ _) ?_)
        | (with_reducible refine wp_eq (c_Ca_isShip (by omega) _ _ _ _) ?_; with_reducible refine wp_eq (b_Ca_isShip_0 _ _ _ _ _) ?_)
        | (with_reducible refine wp_eq (c_Ca_isNation (by omega) _ _ _ _) ?_; with_reducible refine wp_eq (b_Ca_isNation_0 _ _ _ _ _) ?_)
        | (with_reducible refine wp_eq (c_Ca_isGood (by omega) _ _ _ _) ?_; with_reducible refine wp_eq (b_Ca_isGood_0 _ _ _ _ _) ?_)
        | (with_reducible refine wp_eq (c_Ca_isPort (by omega) _ _ _ _) ?_; with_reducible refine wp_eq (b_Ca_isPort_0 _ _ _ _ _) ?_)
        | (with_reducible refine wp_eq (c_Ca_areTwo (by omega) _ _ _ _ _ _) ?_; with_reducible refine wp_eq (b_Ca_areTwo_0 _ _ _ _ _ _ _) ?_)
        | (with_reducible refine wp_eq (c_Ca_answer (by omega) _ _ _ _) ?_; with_reducible refine wp_eq (b_Ca_answer_0 _ _ _ _ _) ?_)
        | (with_reducible refine wp_eq (c_Ca_refuse (by omega) _ _ _ _) ?_; with_reducible refine wp_eq (b_Ca_refuse_0 _ _ _ _ _) ?_)
        | (with_reducible refine wp_eq (c_Ca_answerOr (by omega) _ _ _ _ _) ?_; with_reducible refine wp_eq (b_Ca_answerOr_0 _ _ _ _ _ _) ?_)
        | (with_reducible refine wp_eq (c_Ca_agree (by omega) _ _ _) ?_; with_reducible refine wp_eq (b_Ca_agree_0 _ _ _ _) ?_)
        | (with_reducible refine wp_eq (c_Ca_deny (by omega) _ _ _ _) ?_; with_reducible refine wp_eq (b_Ca_deny_0 _ _ _ _ _) ?_)
        | (with_reducible apply wp_eq; (with_reducible apply lf_go; simp (disch := omega) only [not_false_eq_true, not_true_eq_false, w32_id, tLt, fLt, tLe, fEq, itE, and_true, true_and, and_self, and_false, false_and, ↓reduceIte, nat_add, nat_mul3, nat_mul4, nat_mul6, nat_mul15, nat_mul60, nat_cast, nc1, Int.reduceToNat, upE, upN, fill_ne, fill_in, i0, hct1, v1, cmp_neg]; with_reducible exact rfl))
        | with_reducible apply wp_q1
      all_goals exact ⟨_, _, _, rfl, rfl, fun b j _ hb hc => by rw [upN (by omega)]; exact f1 b j hb, Or.inl ⟨no, rfl, upE rfl rfl⟩⟩
  · intro ⟨M1, z1, z2⟩ ⟨f1, s1, o1⟩
    have f1 : ∀ b j, b ≠ 115 → M1 b j = M b j := f1
    refine wp_eq (b_Ca_seekLog_59 _ _ _ _ _ _ _ _ _ _ _) ?_
    repeat' first
      | (with_reducible apply wp_bR; (simp (disch := omega) only [rM L, rK L, rN L, rNf, rNv, rNp, rNd, rRow, rLeg, rMark, nat_cast, Int.reduceToNat]; with_reducible exact rfl))
      | with_reducible apply wp_bI
      | with_reducible apply wp_bV
      | with_reducible apply wp_bL
      | with_reducible apply wp_rI
      | with_reducible apply wp_rV
      | with_reducible apply wp_rL
      | (with_reducible apply wp_1; (first | omega | (simp (disch := omega) only [not_false_eq_true, not_true_eq_false, w32_id, tLt, fLt, tLe, fEq, itE, and_true, true_and, and_self, and_false, false_and, ↓reduceIte, nat_add, nat_mul3, nat_mul4, nat_mul6, nat_mul15, nat_mul60, nat_cast, nc1, Int.reduceToNat, upE, upN, fill_ne, fill_in, i0] <;> omega)))
      | (with_reducible apply wp_2; (first | omega | (simp (disch := omega) only [not_false_eq_true, not_true_eq_false, w32_id, tLt, fLt, tLe, fEq, itE, and_true, true_and, and_self, and_false, false_and, ↓reduceIte, nat_add, nat_mul3, nat_mul4, nat_mul6, nat_mul15, nat_mul60, nat_cast, nc1, Int.reduceToNat, upE, upN, fill_ne, fill_in, i0] <;> omega)))
      | (with_reducible apply wp_s; (first | (simp (disch := omega) only [not_false_eq_true, not_true_eq_false, w32_id, tLt, fLt, tLe, fEq, itE, and_true, true_and, and_self, and_false, false_and, ↓reduceIte, nat_add, nat_mul3, nat_mul4, nat_mul6, nat_mul15, nat_mul60, nat_cast, nc1, Int.reduceToNat, upE, upN, fill_ne, fill_in, i0]; with_reducible exact Iff.rfl) | with_reducible exact Iff.rfl); intro hc__; (try subst hc__); rotate_left; intro hc__; rotate_left)
      | (with_reducible apply wp_eq; (with_reducible apply cl_go; simp (disch := omega) only [not_false_eq_true, not_true_eq_false, w32_id, tLt, fLt, tLe, fEq, itE, and_true, true_and, and_self, and_false, false_and, ↓reduceIte, nat_add, nat_mul3, nat_mul4, nat_mul6, nat_mul15, nat_mul60, nat_cast, nc1, Int.reduceToNat, upE, upN, fill_ne, fill_in, i0]; with_reducible exact rfl))
      | (with_reducible apply wp_eq; (with_reducible apply lf_go; simp (disch := omega) only [not_false_eq_true, not_true_eq_false, w32_id, tLt, fLt, tLe, fEq, itE, and_true, true_and, and_self, and_false, false_and, ↓reduceIte, nat_add, nat_mul3, nat_mul4, nat_mul6, nat_mul15, nat_mul60, nat_cast, nc1, Int.reduceToNat, upE, upN, fill_ne, fill_in, i0]; with_reducible exact rfl))
      | with_reducible apply wp_q1
    refine wp_mono (o_ways (by omega) (hW.sm hC' fun b j hb => f1 b j (by omega)) hC' hG (n := n) (h := h) (q := q) hh hn' s1) ?_
    rintro r S M3 ⟨rfl, rfl, f3, s3⟩
    refine ⟨rfl, ?_⟩
    repeat' first
      | (with_reducible apply wp_bR; (simp (disch := omega) only [rM L, rK L, rN L, rNf, rNv, rNp, rNd, rRow, rLeg, rMark, nat_cast, Int.reduceToNat]; with_reducible exact rfl))
      | with_reducible apply wp_bI
      | with_reducible apply wp_bV
      | with_reducible apply wp_bL
      | with_reducible apply wp_rI
      | with_reducible apply wp_rV
      | with_reducible apply wp_rL
      | (with_reducible apply wp_1; (first | omega | (simp (disch := omega) only [not_false_eq_true, not_true_eq_false, w32_id, tLt, fLt, tLe, fEq, itE, and_true, true_and, and_self, and_false, false_and, ↓reduceIte, nat_add, nat_mul3, nat_mul4, nat_mul6, nat_mul15, nat_mul60, nat_cast, nc1, Int.reduceToNat, upE, upN, fill_ne, fill_in, i0] <;> omega)))
      | (with_reducible apply wp_2; (first | omega | (simp (disch := omega) only [not_false_eq_true, not_true_eq_false, w32_id, tLt, fLt, tLe, fEq, itE, and_true, true_and, and_self, and_false, false_and, ↓reduceIte, nat_add, nat_mul3, nat_mul4, nat_mul6, nat_mul15, nat_mul60, nat_cast, nc1, Int.reduceToNat, upE, upN, fill_ne, fill_in, i0] <;> omega)))
      | (with_reducible apply wp_s; (first | (simp (disch := omega) only [not_false_eq_true, not_true_eq_false, w32_id, tLt, fLt, tLe, fEq, itE, and_true, true_and, and_self, and_false, false_and, ↓reduceIte, nat_add, nat_mul3, nat_mul4, nat_mul6, nat_mul15, nat_mul60, nat_cast, nc1, Int.reduceToNat, upE, upN, fill_ne, fill_in, i0]; with_reducible exact Iff.rfl) | with_reducible exact Iff.rfl); intro hc__; (try subst hc__); rotate_left; intro hc__; rotate_left)
      | (with_reducible apply wp_eq; (with_reducible apply cl_go; simp (disch := omega) only [not_false_eq_true, not_true_eq_false, w32_id, tLt, fLt, tLe, fEq, itE, and_true, true_and, and_self, and_false, false_and, ↓reduceIte, nat_add, nat_mul3, nat_mul4, nat_mul6, nat_mul15, nat_mul60, nat_cast, nc1, Int.reduceToNat, upE, upN, fill_ne, fill_in, i0]; with_reducible exact rfl))
      | (with_reducible refine wp_eq (c_Ca_within (by omega) _ _ _ _ _) ?_; with_reducible refine wp_eq (b_Ca_within_0 _ _ _ _ _ _) ?_)
      | (with_reducible refine wp_eq (c_Ca_isShip (by omega) _ _ _ _) ?_; with_reducible refine wp_eq (b_Ca_isShip_0 _ _ _ _ _) ?_)
      | (with_reducible refine wp_eq (c_Ca_isNation (by omega) _ _ _ _) ?_; with_reducible refine wp_eq (b_Ca_isNation_0 _ _ _ _ _) ?_)
      | (with_reducible refine wp_eq (c_Ca_isGood (by omega) _ _ _ _) ?_; with_reducible refine wp_eq (b_Ca_isGood_0 _ _ _ _ _) ?_)
      | (with_reducible refine wp_eq (c_Ca_isPort (by omega) _ _ _ _) ?_; with_reducible refine wp_eq (b_Ca_isPort_0 _ _ _ _ _) ?_)
      | (with_reducible refine wp_eq (c_Ca_areTwo (by omega) _ _ _ _ _ _) ?_; with_reducible refine wp_eq (b_Ca_areTwo_0 _ _ _ _ _ _ _) ?_)
      | (with_reducible refine wp_eq (c_Ca_answer (by omega) _ _ _ _) ?_; with_reducible refine wp_eq (b_Ca_answer_0 _ _ _ _ _) ?_)
      | (with_reducible refine wp_eq (c_Ca_refuse (by omega) _ _ _ _) ?_; with_reducible refine wp_eq (b_Ca_refuse_0 _ _ _ _ _) ?_)
      | (with_reducible refine wp_eq (c_Ca_answerOr (by omega) _ _ _ _ _) ?_; with_reducible refine wp_eq (b_Ca_answerOr_0 _ _ _ _ _ _) ?_)
      | (with_reducible refine wp_eq (c_Ca_agree (by omega) _ _ _) ?_; with_reducible refine wp_eq (b_Ca_agree_0 _ _ _ _) ?_)
      | (with_reducible refine wp_eq (c_Ca_deny (by omega) _ _ _ _) ?_; with_reducible refine wp_eq (b_Ca_deny_0 _ _ _ _ _) ?_)
      | (with_reducible apply wp_eq; (with_reducible apply lf_go; simp (disch := omega) only [not_false_eq_true, not_true_eq_false, w32_id, tLt, fLt, tLe, fEq, itE, and_true, true_and, and_self, and_false, false_and, ↓reduceIte, nat_add, nat_mul3, nat_mul4, nat_mul6, nat_mul15, nat_mul60, nat_cast, nc1, Int.reduceToNat, upE, upN, fill_ne, fill_in, i0]; with_reducible exact rfl))
      | with_reducible apply wp_q1
    exact ⟨_, _, _, rfl, rfl, fun b j hb hc hd => by rw [upN (by omega), f3 _ _ (by omega)]; exact f1 b j hc, Or.inr ⟨o1, rfl, upE rfl rfl, by rw [upN (by omega), upN (by omega)]; exact s3⟩⟩
end

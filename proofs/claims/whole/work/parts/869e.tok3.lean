/-! THE NEXT TOKEN, in the model -/
theorem or8 {a b : Nat} (h : a * 256 + b < 9223372036854775808) (hb : b < 256) : or64 (shl64 (a : Int) 8) (b : Int) = ((a * 256 + b : Nat) : Int) := by
  have e8 : (Int32.ofInt 8).toInt64 &&& 63 = (8 : Int64) := by decide +kernel
  unfold or64 shl64
  rw [e8, Int64.ofInt_toInt, ← Int64.toInt_toBitVec]
  have e64 : ((8 : Int64).toBitVec.smod 64) = (8#64) := by decide +kernel
  have e : (Int64.ofInt (a : Int) <<< (8 : Int64) ||| Int64.ofInt (b : Int)).toBitVec = BitVec.ofNat 64 (a * 256 + b) := by
    apply BitVec.eq_of_toNat_eq
    show ((BitVec.ofInt 64 (a : Int) <<< ((8 : Int64).toBitVec.smod 64)) ||| BitVec.ofInt 64 (b : Int)).toNat = _
    rw [e64, BitVec.ofInt_natCast, BitVec.ofInt_natCast, show (BitVec.ofNat 64 a <<< (8#64)) = BitVec.ofNat 64 a <<< (8 : Nat) from rfl, BitVec.toNat_or, BitVec.toNat_shiftLeft, BitVec.toNat_ofNat, BitVec.toNat_ofNat, BitVec.toNat_ofNat, Nat.mod_eq_of_lt (show a < 2 ^ 64 by omega), Nat.mod_eq_of_lt (show b < 2 ^ 64 by omega), Nat.mod_eq_of_lt (show a * 256 + b < 2 ^ 64 by omega)]
    have s : a <<< 8 = a * 256 := by rw [Nat.shiftLeft_eq]
    have s2 : a <<< 8 < 18446744073709551616 := by omega
    have s3 : b < 2 ^ 8 := hb
    have s4 := Nat.shiftLeft_add_eq_or_of_lt s3 a
    have s5 : a <<< 8 % 2 ^ 64 = a <<< 8 := Nat.mod_eq_of_lt s2
    rw [s5, ← s4, s]
  rw [e, BitVec.toInt_eq_toNat_of_lt, BitVec.toNat_ofNat, Nat.mod_eq_of_lt (show a * 256 + b < 2 ^ 64 by omega)]
  rw [BitVec.toNat_ofNat, Nat.mod_eq_of_lt (show a * 256 + b < 2 ^ 64 by omega)]
  omega
def ub (x : Int) : Int := if x < 0 then x + 256 else x
theorem ub_f : ∀ i : Fin 256, and32 ((i.val : Int) - 128) 255 = ub ((i.val : Int) - 128) := by decide +kernel
theorem ub_a {x : Int} (h0 : -128 ≤ x) (h1 : x ≤ 127) : and32 x 255 = ub x := by
  obtain ⟨k, hk⟩ := Int.eq_ofNat_of_zero_le (show 0 ≤ x + 128 by omega)
  have := ub_f ⟨k, by omega⟩
  dsimp only at this
  rw [show (k : Int) - 128 = x by omega] at this
  exact this
theorem ub_pos {x : Int} (h : 0 ≤ x) : ub x = x := by unfold ub; rw [if_neg (by omega)]
theorem ub_cases {x : Int} (h0 : -128 ≤ x) : (0 ≤ x ∧ ub x = x) ∨ (x < 0 ∧ ub x = x + 256 ∧ 128 ≤ ub x) := by unfold ub; split <;> omega
def TBm (bt : Nat → Int) (n : Nat) (M : Mm) : Prop := M 271 11 = (n : Int) ∧ n ≤ 900 ∧ ∀ k, k < n → M 278 k = bt k ∧ -128 ≤ bt k ∧ bt k ≤ 127
theorem TBm.fr {bt : Nat → Int} {n : Nat} {M M' : Mm} (h : TBm bt n M) (e : ∀ b j, b = 271 ∧ j = 11 ∨ b = 278 → M' b j = M b j) : TBm bt n M' := ⟨by rw [e _ _ (by omega)]; exact h.1, h.2.1, fun k hk => by rw [e _ _ (by omega)]; exact h.2.2 k hk⟩
def TM (bt : Nat → Int) (n q e : Nat) (M : Mm) : Prop := M 271 13 = (q : Int) ∧ M 271 14 = (e : Int) ∧
  ((q = n ∧ M 271 12 = 0) ∨
   (q < n ∧ isS (bt q) ∧ M 271 12 = 2) ∨
   (q < n ∧ isD (bt q) ∧ (e - q ≤ 4 ∧ M 271 12 = 3 ∧ M 271 15 = nbs bt q (e - q) ∨ 4 < e - q ∧ M 271 12 = 1)) ∨
   (q < n ∧ ¬isS (bt q) ∧ ¬isD (bt q) ∧ (isG (bt q) ∧ M 271 12 = 4 ∧ M 271 15 = bt q ∨ ¬isG (bt q) ∧ M 271 12 = 1)))
section
variable {bt : Nat → Int} {n q e : Nat} {M : Mm} {L d : Nat}
def QU (L : Nat) (M : Mm) (P : Mm → Prop) : Option AV → Sp → Mm → Prop := fun r S M' => r = none ∧ S = SH L ∧ (∀ b j, ¬(b = 271 ∧ 12 ≤ j ∧ j ≤ 15) → M' b j = M b j) ∧ P M'
theorem s_byte (hd : 1 ≤ d) (hB : TBm bt n M) {p : Nat} (hp : p < n) : callD d m_Mo_byteAt [vR 12 0 271, vI (p : Int)] (SH L) M = some (some (vI (ub (bt p))), SH L, M) := by
  have e1 := hB.1
  have n9 := hB.2.1
  obtain ⟨e2, e3, e4⟩ := hB.2.2 p hp
  have e5 := ub_a e3 e4
  repeat' first
    | (with_reducible apply bR_go; (simp (disch := omega) only [rM L, rK L, rN L, rNf, rNv, rNp, rNd, rRow, rLeg, rMark, nat_cast, Int.reduceToNat, e1, e2, e5]; with_reducible exact rfl))
    | with_reducible apply bI_go
    | with_reducible apply bV_go
    | with_reducible apply bL_go
    | (with_reducible apply it_1; (first | omega | (simp (disch := omega) only [not_false_eq_true, not_true_eq_false, w32_id, tLt, fLt, tLe, fEq, itE, and_true, true_and, and_self, and_false, false_and, ↓reduceIte, nat_add, nat_mul3, nat_mul4, nat_mul6, nat_mul15, nat_mul60, nat_cast, nc1, Int.reduceToNat, upE, upN, fill_ne, fill_in, i0, e1, e2, e5] <;> omega)))
    | (with_reducible apply it_2; (first | omega | (simp (disch := omega) only [not_false_eq_true, not_true_eq_false, w32_id, tLt, fLt, tLe, fEq, itE, and_true, true_and, and_self, and_false, false_and, ↓reduceIte, nat_add, nat_mul3, nat_mul4, nat_mul6, nat_mul15, nat_mul60, nat_cast, nc1, Int.reduceToNat, upE, upN, fill_ne, fill_in, i0, e1, e2, e5] <;> omega)))
    | (with_reducible refine cl_go ?_; simp (disch := omega) only [not_false_eq_true, not_true_eq_false, w32_id, tLt, fLt, tLe, fEq, itE, and_true, true_and, and_self, and_false, false_and, ↓reduceIte, nat_add, nat_mul3, nat_mul4, nat_mul6, nat_mul15, nat_mul60, nat_cast, nc1, Int.reduceToNat, upE, upN, fill_ne, fill_in, i0, e1, e2, e5])
    | rw [c_Mo_byteAt (by omega), b_Mo_byteAt_0]
    | (with_reducible refine rn_go ?_; simp (disch := omega) only [not_false_eq_true, not_true_eq_false, w32_id, tLt, fLt, tLe, fEq, itE, and_true, true_and, and_self, and_false, false_and, ↓reduceIte, nat_add, nat_mul3, nat_mul4, nat_mul6, nat_mul15, nat_mul60, nat_cast, nc1, Int.reduceToNat, upE, upN, fill_ne, fill_in, i0, e1, e2, e5])
    | (with_reducible refine lf_go ?_; simp (disch := omega) only [not_false_eq_true, not_true_eq_false, w32_id, tLt, fLt, tLe, fEq, itE, and_true, true_and, and_self, and_false, false_and, ↓reduceIte, nat_add, nat_mul3, nat_mul4, nat_mul6, nat_mul15, nat_mul60, nat_cast, nc1, Int.reduceToNat, upE, upN, fill_ne, fill_in, i0, e1, e2, e5])
    | with_reducible exact rfl
theorem s_byte0 (hd : 1 ≤ d) (hB : TBm bt n M) {p : Nat} (hp : n ≤ p) : callD d m_Mo_byteAt [vR 12 0 271, vI (p : Int)] (SH L) M = some (some (vI (-1)), SH L, M) := by
  have e1 := hB.1
  repeat' first
    | (with_reducible apply bR_go; (simp (disch := omega) only [rM L, rK L, rN L, rNf, rNv, rNp, rNd, rRow, rLeg, rMark, nat_cast, Int.reduceToNat, e1]; with_reducible exact rfl))
    | with_reducible apply bI_go
    | with_reducible apply bV_go
    | with_reducible apply bL_go
    | (with_reducible apply it_1; (first | omega | (simp (disch := omega) only [not_false_eq_true, not_true_eq_false, w32_id, tLt, fLt, tLe, fEq, itE, and_true, true_and, and_self, and_false, false_and, ↓reduceIte, nat_add, nat_mul3, nat_mul4, nat_mul6, nat_mul15, nat_mul60, nat_cast, nc1, Int.reduceToNat, upE, upN, fill_ne, fill_in, i0, e1] <;> omega)))
    | (with_reducible apply it_2; (first | omega | (simp (disch := omega) only [not_false_eq_true, not_true_eq_false, w32_id, tLt, fLt, tLe, fEq, itE, and_true, true_and, and_self, and_false, false_and, ↓reduceIte, nat_add, nat_mul3, nat_mul4, nat_mul6, nat_mul15, nat_mul60, nat_cast, nc1, Int.reduceToNat, upE, upN, fill_ne, fill_in, i0, e1] <;> omega)))
    | (with_reducible refine cl_go ?_; simp (disch := omega) only [not_false_eq_true, not_true_eq_false, w32_id, tLt, fLt, tLe, fEq, itE, and_true, true_and, and_self, and_false, false_and, ↓reduceIte, nat_add, nat_mul3, nat_mul4, nat_mul6, nat_mul15, nat_mul60, nat_cast, nc1, Int.reduceToNat, upE, upN, fill_ne, fill_in, i0, e1])
    | rw [c_Mo_byteAt (by omega), b_Mo_byteAt_0]
    | (with_reducible refine rn_go ?_; simp (disch := omega) only [not_false_eq_true, not_true_eq_false, w32_id, tLt, fLt, tLe, fEq, itE, and_true, true_and, and_self, and_false, false_and, ↓reduceIte, nat_add, nat_mul3, nat_mul4, nat_mul6, nat_mul15, nat_mul60, nat_cast, nc1, Int.reduceToNat, upE, upN, fill_ne, fill_in, i0, e1])
    | (with_reducible refine lf_go ?_; simp (disch := omega) only [not_false_eq_true, not_true_eq_false, w32_id, tLt, fLt, tLe, fEq, itE, and_true, true_and, and_self, and_false, false_and, ↓reduceIte, nat_add, nat_mul3, nat_mul4, nat_mul6, nat_mul15, nat_mul60, nat_cast, nc1, Int.reduceToNat, upE, upN, fill_ne, fill_in, i0, e1])
    | with_reducible exact rfl
theorem s_small (hd : 1 ≤ d) {S : Sp} {x : Int} (h : isS x) : callD d m_Mo_isSmall [vI x] S M = some (some (vI 1), S, M) := by
  unfold isS at h
  rw [c_Mo_isSmall hd, b_Mo_isSmall_0, if_neg (by omega), if_neg (by omega)]
theorem s_small0 (hd : 1 ≤ d) {S : Sp} {x : Int} (h : ¬isS x) : callD d m_Mo_isSmall [vI x] S M = some (some (vI 0), S, M) := by
  unfold isS at h
  rw [c_Mo_isSmall hd, b_Mo_isSmall_0]
  by_cases e : x < 97
  · rw [if_pos e]
  · rw [if_neg e, if_pos (by omega)]
theorem s_digit (hd : 1 ≤ d) {S : Sp} {x : Int} (h : isD x) : callD d m_Mo_isDigit [vI x] S M = some (some (vI 1), S, M) := by
  unfold isD at h
  rw [c_Mo_isDigit hd, b_Mo_isDigit_0, if_neg (by omega), if_neg (by omega)]
theorem s_digit0 (hd : 1 ≤ d) {S : Sp} {x : Int} (h : ¬isD x) : callD d m_Mo_isDigit [vI x] S M = some (some (vI 0), S, M) := by
  unfold isD at h
  rw [c_Mo_isDigit hd, b_Mo_isDigit_0]
  by_cases e : x < 48
  · rw [if_pos e]
  · rw [if_neg e, if_pos (by omega)]
theorem ub_S {x : Int} (h0 : -128 ≤ x) : (isS (ub x) ↔ isS x) ∧ (isD (ub x) ↔ isD x) ∧ (isB (ub x) ↔ isB x) ∧ (isG (ub x) ↔ isG x) := by
  have := ub_cases h0
  unfold isS isD isB isG
  refine ⟨?_, ?_, ?_, ?_⟩ <;> omega
theorem nb_u {x : Int} (h0 : -128 ≤ x) (h : ¬isB x) : ¬(ub x = 32) ∧ ¬(ub x = 10) := by
  rw [← (ub_S h0).2.2.1] at h
  unfold isB at h
  omega
theorem u_word (hd : 2 ≤ d) (hB : TBm bt n M) (h13 : M 271 13 = (q : Int)) (h14 : M 271 14 = (q : Int)) (hq : q < n) (hs : isS (bt q)) (hr : RN isS bt n q e) (x : Int) : Wp (Run (callD (d - 1)) tb_Mo_ahead 81 [vR 12 0 271, vI x] [] (SH L) M) (QU L M (TM bt n q e)) := by
  obtain ⟨r1, r2, r3, r4⟩ := hr
  have n900 := hB.2.1
  refine wp_loop (α := Mm) (G := fun i a => Run (callD (d - 1)) tb_Mo_ahead 81 [vR 12 0 271, vI x] [] (SH L) a) (I := fun i a => a 271 14 = ((q + i : Nat) : Int) ∧ ∀ b j, ¬(b = 271 ∧ j = 14) → a b j = M b j) (e - q) ?_ ?_ 0 M (by omega) ⟨h14, fun _ _ _ => rfl⟩
  · intro i M1 hi ⟨i1, i4⟩ ih
    have hB1 := hB.fr (M' := M1) fun b j hb => i4 b j (by omega)
    have b1 := s_byte (L := L) (d := d - 1) (by omega) hB1 (p := q + i) (by omega)
    have s1 := s_small (M := M1) (d := d - 1) (S := SH L) (by omega) ((ub_S (hB.2.2 (q + i) (by omega)).2.1).1.2 (r3 (q + i) (by omega) (by omega)))
    refine wp_eq (b_Mo_ahead_81 _ _ _ _ _) ?_
    repeat' first
      | (with_reducible apply wp_bR; (simp (disch := omega) only [rM L, rK L, rN L, rNf, rNv, rNp, rNd, rRow, rLeg, rMark, nat_cast, Int.reduceToNat, i1]; with_reducible exact rfl))
      | with_reducible apply wp_bI
      | with_reducible apply wp_bV
      | with_reducible apply wp_bL
      | with_reducible apply wp_rI
      | with_reducible apply wp_rV
      | with_reducible apply wp_rL
      | (with_reducible apply wp_1; (first | omega | (simp (disch := omega) only [not_false_eq_true, not_true_eq_false, w32_id, tLt, fLt, tLe, fEq, itE, and_true, true_and, and_self, and_false, false_and, ↓reduceIte, nat_add, nat_mul3, nat_mul4, nat_mul6, nat_mul15, nat_mul60, nat_cast, nc1, Int.reduceToNat, upE, upN, fill_ne, fill_in, i0, i1] <;> omega)))
      | (with_reducible apply wp_2; (first | omega | (simp (disch := omega) only [not_false_eq_true, not_true_eq_false, w32_id, tLt, fLt, tLe, fEq, itE, and_true, true_and, and_self, and_false, false_and, ↓reduceIte, nat_add, nat_mul3, nat_mul4, nat_mul6, nat_mul15, nat_mul60, nat_cast, nc1, Int.reduceToNat, upE, upN, fill_ne, fill_in, i0, i1] <;> omega)))
      | (with_reducible apply wp_s; (first | (simp (disch := omega) only [not_false_eq_true, not_true_eq_false, w32_id, tLt, fLt, tLe, fEq, itE, and_true, true_and, and_self, and_false, false_and, ↓reduceIte, nat_add, nat_mul3, nat_mul4, nat_mul6, nat_mul15, nat_mul60, nat_cast, nc1, Int.reduceToNat, upE, upN, fill_ne, fill_in, i0, i1]; with_reducible exact Iff.rfl) | with_reducible exact Iff.rfl); intro hc__; (try subst hc__); rotate_left; intro hc__; rotate_left)
      | (with_reducible apply wp_eq; (with_reducible apply cl_go; simp (disch := omega) only [not_false_eq_true, not_true_eq_false, w32_id, tLt, fLt, tLe, fEq, itE, and_true, true_and, and_self, and_false, false_and, ↓reduceIte, nat_add, nat_mul3, nat_mul4, nat_mul6, nat_mul15, nat_mul60, nat_cast, nc1, Int.reduceToNat, upE, upN, fill_ne, fill_in, i0, i1]; with_reducible exact rfl))
      | with_reducible refine wp_eq (b1) ?_
      | with_reducible refine wp_eq (s1) ?_
      | (with_reducible apply wp_eq; (with_reducible apply lf_go; simp (disch := omega) only [not_false_eq_true, not_true_eq_false, w32_id, tLt, fLt, tLe, fEq, itE, and_true, true_and, and_self, and_false, false_and, ↓reduceIte, nat_add, nat_mul3, nat_mul4, nat_mul6, nat_mul15, nat_mul60, nat_cast, nc1, Int.reduceToNat, upE, upN, fill_ne, fill_in, i0, i1]; with_reducible exact rfl))
      | with_reducible apply wp_q1
    refine wp_eq (o' := Run (callD (d - 1)) tb_Mo_ahead 81 [vR 12 0 271, vI x] [] (SH L) (up M1 271 14 ((q + (i + 1) : Nat) : Int))) ?_ (ih _ ⟨upE rfl rfl, fun b j z => by rw [upN (by omega)]; exact i4 b j z⟩)
    rw [i1, w32_id (by omega) (by omega)]
    rfl
  · intro M1 ⟨i1, i4⟩
    have hB1 := hB.fr (M' := M1) fun b j hb => i4 b j (by omega)
    rw [show q + (e - q) = e by omega] at i1
    have fin : Wp (some (none, SH L, up M1 271 12 2)) (QU L M (TM bt n q e)) := ⟨_, _, _, rfl, rfl, rfl, fun b j z => by rw [upN (by omega)]; exact i4 b j (by omega), by rw [upN (by omega), i4 _ _ (by omega)]; exact h13, by rw [upN (by omega)]; exact i1, Or.inr (Or.inl ⟨hq, hs, upE rfl rfl⟩)⟩
    by_cases en : e < n
    · have b1 := s_byte (L := L) (d := d - 1) (by omega) hB1 (p := e) en
      have s1 := s_small0 (M := M1) (d := d - 1) (S := SH L) (by omega) (x := ub (bt e)) fun z => r4 en ((ub_S (hB.2.2 e en).2.1).1.1 z)
      refine wp_eq (b_Mo_ahead_81 _ _ _ _ _) ?_
      repeat' first
        | (with_reducible apply wp_bR; (simp (disch := omega) only [rM L, rK L, rN L, rNf, rNv, rNp, rNd, rRow, rLeg, rMark, nat_cast, Int.reduceToNat, i1]; with_reducible exact rfl))
        | with_reducible apply wp_bI
        | with_reducible apply wp_bV
        | with_reducible apply wp_bL
        | with_reducible apply wp_rI
        | with_reducible apply wp_rV
        | with_reducible apply wp_rL
        | (with_reducible apply wp_1; (first | omega | (simp (disch := omega) only [not_false_eq_true, not_true_eq_false, w32_id, tLt, fLt, tLe, fEq, itE, and_true, true_and, and_self, and_false, false_and, ↓reduceIte, nat_add, nat_mul3, nat_mul4, nat_mul6, nat_mul15, nat_mul60, nat_cast, nc1, Int.reduceToNat, upE, upN, fill_ne, fill_in, i0, i1] <;> omega)))
        | (with_reducible apply wp_2; (first | omega | (simp (disch := omega) only [not_false_eq_true, not_true_eq_false, w32_id, tLt, fLt, tLe, fEq, itE, and_true, true_and, and_self, and_false, false_and, ↓reduceIte, nat_add, nat_mul3, nat_mul4, nat_mul6, nat_mul15, nat_mul60, nat_cast, nc1, Int.reduceToNat, upE, upN, fill_ne, fill_in, i0, i1] <;> omega)))
        | (with_reducible apply wp_s; (first | (simp (disch := omega) only [not_false_eq_true, not_true_eq_false, w32_id, tLt, fLt, tLe, fEq, itE, and_true, true_and, and_self, and_false, false_and, ↓reduceIte, nat_add, nat_mul3, nat_mul4, nat_mul6, nat_mul15, nat_mul60, nat_cast, nc1, Int.reduceToNat, upE, upN, fill_ne, fill_in, i0, i1]; with_reducible exact Iff.rfl) | with_reducible exact Iff.rfl); intro hc__; (try subst hc__); rotate_left; intro hc__; rotate_left)
        | (with_reducible apply wp_eq; (with_reducible apply cl_go; simp (disch := omega) only [not_false_eq_true, not_true_eq_false, w32_id, tLt, fLt, tLe, fEq, itE, and_true, true_and, and_self, and_false, false_and, ↓reduceIte, nat_add, nat_mul3, nat_mul4, nat_mul6, nat_mul15, nat_mul60, nat_cast, nc1, Int.reduceToNat, upE, upN, fill_ne, fill_in, i0, i1]; with_reducible exact rfl))
        | with_reducible refine wp_eq (b1) ?_
        | with_reducible refine wp_eq (s1) ?_
        | (with_reducible apply wp_eq; (with_reducible apply lf_go; simp (disch := omega) only [not_false_eq_true, not_true_eq_false, w32_id, tLt, fLt, tLe, fEq, itE, and_true, true_and, and_self, and_false, false_and, ↓reduceIte, nat_add, nat_mul3, nat_mul4, nat_mul6, nat_mul15, nat_mul60, nat_cast, nc1, Int.reduceToNat, upE, upN, fill_ne, fill_in, i0, i1]; with_reducible exact rfl))
        | with_reducible apply wp_q1
      exact fin
    · have b1 := s_byte0 (L := L) (d := d - 1) (by omega) hB1 (p := e) (by omega)
      have s1 := s_small0 (M := M1) (d := d - 1) (S := SH L) (by omega) (x := -1) (by unfold isS; omega)
      refine wp_eq (b_Mo_ahead_81 _ _ _ _ _) ?_
      repeat' first
        | (with_reducible apply wp_bR; (simp (disch := omega) only [rM L, rK L, rN L, rNf, rNv, rNp, rNd, rRow, rLeg, rMark, nat_cast, Int.reduceToNat, i1]; with_reducible exact rfl))
        | with_reducible apply wp_bI
        | with_reducible apply wp_bV
        | with_reducible apply wp_bL
        | with_reducible apply wp_rI
        | with_reducible apply wp_rV
        | with_reducible apply wp_rL
        | (with_reducible apply wp_1; (first | omega | (simp (disch := omega) only [not_false_eq_true, not_true_eq_false, w32_id, tLt, fLt, tLe, fEq, itE, and_true, true_and, and_self, and_false, false_and, ↓reduceIte, nat_add, nat_mul3, nat_mul4, nat_mul6, nat_mul15, nat_mul60, nat_cast, nc1, Int.reduceToNat, upE, upN, fill_ne, fill_in, i0, i1] <;> omega)))
        | (with_reducible apply wp_2; (first | omega | (simp (disch := omega) only [not_false_eq_true, not_true_eq_false, w32_id, tLt, fLt, tLe, fEq, itE, and_true, true_and, and_self, and_false, false_and, ↓reduceIte, nat_add, nat_mul3, nat_mul4, nat_mul6, nat_mul15, nat_mul60, nat_cast, nc1, Int.reduceToNat, upE, upN, fill_ne, fill_in, i0, i1] <;> omega)))
        | (with_reducible apply wp_s; (first | (simp (disch := omega) only [not_false_eq_true, not_true_eq_false, w32_id, tLt, fLt, tLe, fEq, itE, and_true, true_and, and_self, and_false, false_and, ↓reduceIte, nat_add, nat_mul3, nat_mul4, nat_mul6, nat_mul15, nat_mul60, nat_cast, nc1, Int.reduceToNat, upE, upN, fill_ne, fill_in, i0, i1]; with_reducible exact Iff.rfl) | with_reducible exact Iff.rfl); intro hc__; (try subst hc__); rotate_left; intro hc__; rotate_left)
        | (with_reducible apply wp_eq; (with_reducible apply cl_go; simp (disch := omega) only [not_false_eq_true, not_true_eq_false, w32_id, tLt, fLt, tLe, fEq, itE, and_true, true_and, and_self, and_false, false_and, ↓reduceIte, nat_add, nat_mul3, nat_mul4, nat_mul6, nat_mul15, nat_mul60, nat_cast, nc1, Int.reduceToNat, upE, upN, fill_ne, fill_in, i0, i1]; with_reducible exact rfl))
        | with_reducible refine wp_eq (b1) ?_
        | with_reducible refine wp_eq (s1) ?_
        | (with_reducible apply wp_eq; (with_reducible apply lf_go; simp (disch := omega) only [not_false_eq_true, not_true_eq_false, w32_id, tLt, fLt, tLe, fEq, itE, and_true, true_and, and_self, and_false, false_and, ↓reduceIte, nat_add, nat_mul3, nat_mul4, nat_mul6, nat_mul15, nat_mul60, nat_cast, nc1, Int.reduceToNat, upE, upN, fill_ne, fill_in, i0, i1]; with_reducible exact rfl))
        | with_reducible apply wp_q1
      exact fin
theorem u_number (hd : 2 ≤ d) (hB : TBm bt n M) (h13 : M 271 13 = (q : Int)) (h14 : M 271 14 = (q : Int)) (h15 : M 271 15 = 0) (hq : q < n) (hs : isD (bt q)) (hr : RN isD bt n q e) (x : Int) : Wp (Run (callD (d - 1)) tb_Mo_ahead 128 [vR 12 0 271, vI x] [] (SH L) M) (QU L M (TM bt n q e)) := by
  obtain ⟨r1, r2, r3, r4⟩ := hr
  have n900 := hB.2.1
  refine wp_loop (α := Mm) (G := fun i a => Run (callD (d - 1)) tb_Mo_ahead 128 [vR 12 0 271, vI x] [] (SH L) a) (I := fun i a => a 271 14 = ((q + i : Nat) : Int) ∧ (0 ≤ a 271 15 ∧ a 271 15 ≤ 100000) ∧ (i ≤ 4 → a 271 15 = nbs bt q i) ∧ ∀ b j, ¬(b = 271 ∧ (j = 14 ∨ j = 15)) → a b j = M b j) (e - q) ?_ ?_ 0 M (by omega) ⟨h14, by omega, fun _ => h15, fun _ _ _ => rfl⟩
  · intro i M1 hi ⟨i1, i2, i3, i4⟩ ih
    have hB1 := hB.fr (M' := M1) fun b j hb => i4 b j (by omega)
    have b1 := s_byte (L := L) (d := d - 1) (by omega) hB1 (p := q + i) (by omega)
    have dg := r3 (q + i) (by omega) (by omega)
    have s1 := s_digit (M := M1) (d := d - 1) (S := SH L) (by omega) ((ub_S (hB.2.2 (q + i) (by omega)).2.1).2.1.2 dg)
    unfold isD at dg
    have up1 := ub_pos (x := bt (q + i)) (by omega)
    rw [up1] at b1 s1
    refine wp_eq (b_Mo_ahead_128 _ _ _ _ _) ?_
    repeat' first
      | (with_reducible apply wp_bR; (simp (disch := omega) only [rM L, rK L, rN L, rNf, rNv, rNp, rNd, rRow, rLeg, rMark, nat_cast, Int.reduceToNat, i1]; with_reducible exact rfl))
      | with_reducible apply wp_bI
      | with_reducible apply wp_bV
      | with_reducible apply wp_bL
      | with_reducible apply wp_rI
      | with_reducible apply wp_rV
      | with_reducible apply wp_rL
      | (with_reducible apply wp_1; (first | omega | (simp (disch := omega) only [not_false_eq_true, not_true_eq_false, w32_id, tLt, fLt, tLe, fEq, itE, and_true, true_and, and_self, and_false, false_and, ↓reduceIte, nat_add, nat_mul3, nat_mul4, nat_mul6, nat_mul15, nat_mul60, nat_cast, nc1, Int.reduceToNat, upE, upN, fill_ne, fill_in, i0, i1] <;> omega)))
      | (with_reducible apply wp_2; (first | omega | (simp (disch := omega) only [not_false_eq_true, not_true_eq_false, w32_id, tLt, fLt, tLe, fEq, itE, and_true, true_and, and_self, and_false, false_and, ↓reduceIte, nat_add, nat_mul3, nat_mul4, nat_mul6, nat_mul15, nat_mul60, nat_cast, nc1, Int.reduceToNat, upE, upN, fill_ne, fill_in, i0, i1] <;> omega)))
      | (with_reducible apply wp_s; (first | (simp (disch := omega) only [not_false_eq_true, not_true_eq_false, w32_id, tLt, fLt, tLe, fEq, itE, and_true, true_and, and_self, and_false, false_and, ↓reduceIte, nat_add, nat_mul3, nat_mul4, nat_mul6, nat_mul15, nat_mul60, nat_cast, nc1, Int.reduceToNat, upE, upN, fill_ne, fill_in, i0, i1]; with_reducible exact Iff.rfl) | with_reducible exact Iff.rfl); intro hc__; (try subst hc__); rotate_left; intro hc__; rotate_left)
      | (with_reducible apply wp_eq; (with_reducible apply cl_go; simp (disch := omega) only [not_false_eq_true, not_true_eq_false, w32_id, tLt, fLt, tLe, fEq, itE, and_true, true_and, and_self, and_false, false_and, ↓reduceIte, nat_add, nat_mul3, nat_mul4, nat_mul6, nat_mul15, nat_mul60, nat_cast, nc1, Int.reduceToNat, upE, upN, fill_ne, fill_in, i0, i1]; with_reducible exact rfl))
      | with_reducible refine wp_eq (b1) ?_
      | with_reducible refine wp_eq (s1) ?_
      | (with_reducible apply wp_eq; (with_reducible apply lf_go; simp (disch := omega) only [not_false_eq_true, not_true_eq_false, w32_id, tLt, fLt, tLe, fEq, itE, and_true, true_and, and_self, and_false, false_and, ↓reduceIte, nat_add, nat_mul3, nat_mul4, nat_mul6, nat_mul15, nat_mul60, nat_cast, nc1, Int.reduceToNat, upE, upN, fill_ne, fill_in, i0, i1]; with_reducible exact rfl))
      | with_reducible apply wp_q1
    have ev : min 100000 (w32 (w32 (w32 (10 * M1 271 15) + bt (q + i)) - 48)) = min 100000 (M1 271 15 * 10 + (bt (q + i) - 48)) := by
      rw [w32_id (x := 10 * M1 271 15) (by omega) (by omega), w32_id (x := 10 * M1 271 15 + bt (q + i)) (by omega) (by omega), w32_id (by omega) (by omega)]
      omega
    refine wp_eq (o' := Run (callD (d - 1)) tb_Mo_ahead 128 [vR 12 0 271, vI x] [] (SH L) (up (up M1 271 15 (min 100000 (M1 271 15 * 10 + (bt (q + i) - 48)))) 271 14 ((q + (i + 1) : Nat) : Int))) ?_ (ih _ ⟨upE rfl rfl, by rw [upN (by omega), upE rfl rfl]; omega, fun h4 => ?_, fun b j z => by rw [upN (by omega), upN (by omega)]; exact i4 b j (by omega)⟩)
    · rw [ev, upN (by omega), i1, w32_id (by omega) (by omega)]
      rfl
    · have b4 := nbs_4 (bt := bt) (q := q) (k := i + 1) (by omega) fun j h1 h2 => r3 j h1 (by omega)
      rw [nbs_s] at b4
      rw [upN (by omega), upE rfl rfl, nbs_s, i3 (by omega)]
      omega
  · intro M1 ⟨i1, i2, i3, i4⟩
    have hB1 := hB.fr (M' := M1) fun b j hb => i4 b j (by omega)
    rw [show q + (e - q) = e by omega] at i1
    have s13 : M1 271 13 = (q : Int) := by rw [i4 _ _ (by omega)]; exact h13
    have wl : w32 ((e : Int) - q) = ((e - q : Nat) : Int) := by rw [w32_id (by omega) (by omega)]; omega
    have fin : (4 < e - q → Wp (some (none, SH L, up M1 271 12 1)) (QU L M (TM bt n q e))) ∧ (e - q ≤ 4 → Wp (some (none, SH L, up M1 271 12 3)) (QU L M (TM bt n q e))) := ⟨fun l => ⟨_, _, _, rfl, rfl, rfl, fun b j z => by rw [upN (by omega)]; exact i4 b j (by omega), by rw [upN (by omega)]; exact s13, by rw [upN (by omega)]; exact i1, Or.inr (Or.inr (Or.inl ⟨hq, hs, Or.inr ⟨l, upE rfl rfl⟩⟩))⟩, fun l => ⟨_, _, _, rfl, rfl, rfl, fun b j z => by rw [upN (by omega)]; exact i4 b j (by omega), by rw [upN (by omega)]; exact s13, by rw [upN (by omega)]; exact i1, Or.inr (Or.inr (Or.inl ⟨hq, hs, Or.inl ⟨l, upE rfl rfl, by rw [upN (by omega)]; exact i3 l⟩⟩))⟩⟩
    by_cases en : e < n
    · have b1 := s_byte (L := L) (d := d - 1) (by omega) hB1 (p := e) en
      have s1 := s_digit0 (M := M1) (d := d - 1) (S := SH L) (by omega) (x := ub (bt e)) fun z => r4 en ((ub_S (hB.2.2 e en).2.1).2.1.1 z)
      by_cases l : 4 < e - q
      · refine wp_eq (b_Mo_ahead_128 _ _ _ _ _) ?_
        repeat' first
          | (with_reducible apply wp_bR; (simp (disch := omega) only [rM L, rK L, rN L, rNf, rNv, rNp, rNd, rRow, rLeg, rMark, nat_cast, Int.reduceToNat, i1, s13, wl]; with_reducible exact rfl))
          | with_reducible apply wp_bI
          | with_reducible apply wp_bV
          | with_reducible apply wp_bL
          | with_reducible apply wp_rI
          | with_reducible apply wp_rV
          | with_reducible apply wp_rL
          | (with_reducible apply wp_1; (first | omega | (simp (disch := omega) only [not_false_eq_true, not_true_eq_false, w32_id, tLt, fLt, tLe, fEq, itE, and_true, true_and, and_self, and_false, false_and, ↓reduceIte, nat_add, nat_mul3, nat_mul4, nat_mul6, nat_mul15, nat_mul60, nat_cast, nc1, Int.reduceToNat, upE, upN, fill_ne, fill_in, i0, i1, s13, wl] <;> omega)))
          | (with_reducible apply wp_2; (first | omega | (simp (disch := omega) only [not_false_eq_true, not_true_eq_false, w32_id, tLt, fLt, tLe, fEq, itE, and_true, true_and, and_self, and_false, false_and, ↓reduceIte, nat_add, nat_mul3, nat_mul4, nat_mul6, nat_mul15, nat_mul60, nat_cast, nc1, Int.reduceToNat, upE, upN, fill_ne, fill_in, i0, i1, s13, wl] <;> omega)))
          | (with_reducible apply wp_s; (first | (simp (disch := omega) only [not_false_eq_true, not_true_eq_false, w32_id, tLt, fLt, tLe, fEq, itE, and_true, true_and, and_self, and_false, false_and, ↓reduceIte, nat_add, nat_mul3, nat_mul4, nat_mul6, nat_mul15, nat_mul60, nat_cast, nc1, Int.reduceToNat, upE, upN, fill_ne, fill_in, i0, i1, s13, wl]; with_reducible exact Iff.rfl) | with_reducible exact Iff.rfl); intro hc__; (try subst hc__); rotate_left; intro hc__; rotate_left)
          | (with_reducible apply wp_eq; (with_reducible apply cl_go; simp (disch := omega) only [not_false_eq_true, not_true_eq_false, w32_id, tLt, fLt, tLe, fEq, itE, and_true, true_and, and_self, and_false, false_and, ↓reduceIte, nat_add, nat_mul3, nat_mul4, nat_mul6, nat_mul15, nat_mul60, nat_cast, nc1, Int.reduceToNat, upE, upN, fill_ne, fill_in, i0, i1, s13, wl]; with_reducible exact rfl))
          | with_reducible refine wp_eq (b1) ?_
          | with_reducible refine wp_eq (s1) ?_
          | (with_reducible apply wp_eq; (with_reducible apply lf_go; simp (disch := omega) only [not_false_eq_true, not_true_eq_false, w32_id, tLt, fLt, tLe, fEq, itE, and_true, true_and, and_self, and_false, false_and, ↓reduceIte, nat_add, nat_mul3, nat_mul4, nat_mul6, nat_mul15, nat_mul60, nat_cast, nc1, Int.reduceToNat, upE, upN, fill_ne, fill_in, i0, i1, s13, wl]; with_reducible exact rfl))
          | with_reducible apply wp_q1
        exact fin.1 l
      · refine wp_eq (b_Mo_ahead_128 _ _ _ _ _) ?_
        repeat' first
          | (with_reducible apply wp_bR; (simp (disch := omega) only [rM L, rK L, rN L, rNf, rNv, rNp, rNd, rRow, rLeg, rMark, nat_cast, Int.reduceToNat, i1, s13, wl]; with_reducible exact rfl))
          | with_reducible apply wp_bI
          | with_reducible apply wp_bV
          | with_reducible apply wp_bL
          | with_reducible apply wp_rI
          | with_reducible apply wp_rV
          | with_reducible apply wp_rL
          | (with_reducible apply wp_1; (first | omega | (simp (disch := omega) only [not_false_eq_true, not_true_eq_false, w32_id, tLt, fLt, tLe, fEq, itE, and_true, true_and, and_self, and_false, false_and, ↓reduceIte, nat_add, nat_mul3, nat_mul4, nat_mul6, nat_mul15, nat_mul60, nat_cast, nc1, Int.reduceToNat, upE, upN, fill_ne, fill_in, i0, i1, s13, wl] <;> omega)))
          | (with_reducible apply wp_2; (first | omega | (simp (disch := omega) only [not_false_eq_true, not_true_eq_false, w32_id, tLt, fLt, tLe, fEq, itE, and_true, true_and, and_self, and_false, false_and, ↓reduceIte, nat_add, nat_mul3, nat_mul4, nat_mul6, nat_mul15, nat_mul60, nat_cast, nc1, Int.reduceToNat, upE, upN, fill_ne, fill_in, i0, i1, s13, wl] <;> omega)))
          | (with_reducible apply wp_s; (first | (simp (disch := omega) only [not_false_eq_true, not_true_eq_false, w32_id, tLt, fLt, tLe, fEq, itE, and_true, true_and, and_self, and_false, false_and, ↓reduceIte, nat_add, nat_mul3, nat_mul4, nat_mul6, nat_mul15, nat_mul60, nat_cast, nc1, Int.reduceToNat, upE, upN, fill_ne, fill_in, i0, i1, s13, wl]; with_reducible exact Iff.rfl) | with_reducible exact Iff.rfl); intro hc__; (try subst hc__); rotate_left; intro hc__; rotate_left)
          | (with_reducible apply wp_eq; (with_reducible apply cl_go; simp (disch := omega) only [not_false_eq_true, not_true_eq_false, w32_id, tLt, fLt, tLe, fEq, itE, and_true, true_and, and_self, and_false, false_and, ↓reduceIte, nat_add, nat_mul3, nat_mul4, nat_mul6, nat_mul15, nat_mul60, nat_cast, nc1, Int.reduceToNat, upE, upN, fill_ne, fill_in, i0, i1, s13, wl]; with_reducible exact rfl))
          | with_reducible refine wp_eq (b1) ?_
          | with_reducible refine wp_eq (s1) ?_
          | (with_reducible apply wp_eq; (with_reducible apply lf_go; simp (disch := omega) only [not_false_eq_true, not_true_eq_false, w32_id, tLt, fLt, tLe, fEq, itE, and_true, true_and, and_self, and_false, false_and, ↓reduceIte, nat_add, nat_mul3, nat_mul4, nat_mul6, nat_mul15, nat_mul60, nat_cast, nc1, Int.reduceToNat, upE, upN, fill_ne, fill_in, i0, i1, s13, wl]; with_reducible exact rfl))
          | with_reducible apply wp_q1
        exact fin.2 (by omega)
    · have b1 := s_byte0 (L := L) (d := d - 1) (by omega) hB1 (p := e) (by omega)
      have s1 := s_digit0 (M := M1) (d := d - 1) (S := SH L) (by omega) (x := -1) (by unfold isD; omega)
      by_cases l : 4 < e - q
      · refine wp_eq (b_Mo_ahead_128 _ _ _ _ _) ?_
        repeat' first
          | (with_reducible apply wp_bR; (simp (disch := omega) only [rM L, rK L, rN L, rNf, rNv, rNp, rNd, rRow, rLeg, rMark, nat_cast, Int.reduceToNat, i1, s13, wl]; with_reducible exact rfl))
          | with_reducible apply wp_bI
          | with_reducible apply wp_bV
          | with_reducible apply wp_bL
          | with_reducible apply wp_rI
          | with_reducible apply wp_rV
          | with_reducible apply wp_rL
          | (with_reducible apply wp_1; (first | omega | (simp (disch := omega) only [not_false_eq_true, not_true_eq_false, w32_id, tLt, fLt, tLe, fEq, itE, and_true, true_and, and_self, and_false, false_and, ↓reduceIte, nat_add, nat_mul3, nat_mul4, nat_mul6, nat_mul15, nat_mul60, nat_cast, nc1, Int.reduceToNat, upE, upN, fill_ne, fill_in, i0, i1, s13, wl] <;> omega)))
          | (with_reducible apply wp_2; (first | omega | (simp (disch := omega) only [not_false_eq_true, not_true_eq_false, w32_id, tLt, fLt, tLe, fEq, itE, and_true, true_and, and_self, and_false, false_and, ↓reduceIte, nat_add, nat_mul3, nat_mul4, nat_mul6, nat_mul15, nat_mul60, nat_cast, nc1, Int.reduceToNat, upE, upN, fill_ne, fill_in, i0, i1, s13, wl] <;> omega)))
          | (with_reducible apply wp_s; (first | (simp (disch := omega) only [not_false_eq_true, not_true_eq_false, w32_id, tLt, fLt, tLe, fEq, itE, and_true, true_and, and_self, and_false, false_and, ↓reduceIte, nat_add, nat_mul3, nat_mul4, nat_mul6, nat_mul15, nat_mul60, nat_cast, nc1, Int.reduceToNat, upE, upN, fill_ne, fill_in, i0, i1, s13, wl]; with_reducible exact Iff.rfl) | with_reducible exact Iff.rfl); intro hc__; (try subst hc__); rotate_left; intro hc__; rotate_left)
          | (with_reducible apply wp_eq; (with_reducible apply cl_go; simp (disch := omega) only [not_false_eq_true, not_true_eq_false, w32_id, tLt, fLt, tLe, fEq, itE, and_true, true_and, and_self, and_false, false_and, ↓reduceIte, nat_add, nat_mul3, nat_mul4, nat_mul6, nat_mul15, nat_mul60, nat_cast, nc1, Int.reduceToNat, upE, upN, fill_ne, fill_in, i0, i1, s13, wl]; with_reducible exact rfl))
          | with_reducible refine wp_eq (b1) ?_
          | with_reducible refine wp_eq (s1) ?_
          | (with_reducible apply wp_eq; (with_reducible apply lf_go; simp (disch := omega) only [not_false_eq_true, not_true_eq_false, w32_id, tLt, fLt, tLe, fEq, itE, and_true, true_and, and_self, and_false, false_and, ↓reduceIte, nat_add, nat_mul3, nat_mul4, nat_mul6, nat_mul15, nat_mul60, nat_cast, nc1, Int.reduceToNat, upE, upN, fill_ne, fill_in, i0, i1, s13, wl]; with_reducible exact rfl))
          | with_reducible apply wp_q1
        exact fin.1 l
      · refine wp_eq (b_Mo_ahead_128 _ _ _ _ _) ?_
        repeat' first
          | (with_reducible apply wp_bR; (simp (disch := omega) only [rM L, rK L, rN L, rNf, rNv, rNp, rNd, rRow, rLeg, rMark, nat_cast, Int.reduceToNat, i1, s13, wl]; with_reducible exact rfl))
          | with_reducible apply wp_bI
          | with_reducible apply wp_bV
          | with_reducible apply wp_bL
          | with_reducible apply wp_rI
          | with_reducible apply wp_rV
          | with_reducible apply wp_rL
          | (with_reducible apply wp_1; (first | omega | (simp (disch := omega) only [not_false_eq_true, not_true_eq_false, w32_id, tLt, fLt, tLe, fEq, itE, and_true, true_and, and_self, and_false, false_and, ↓reduceIte, nat_add, nat_mul3, nat_mul4, nat_mul6, nat_mul15, nat_mul60, nat_cast, nc1, Int.reduceToNat, upE, upN, fill_ne, fill_in, i0, i1, s13, wl] <;> omega)))
          | (with_reducible apply wp_2; (first | omega | (simp (disch := omega) only [not_false_eq_true, not_true_eq_false, w32_id, tLt, fLt, tLe, fEq, itE, and_true, true_and, and_self, and_false, false_and, ↓reduceIte, nat_add, nat_mul3, nat_mul4, nat_mul6, nat_mul15, nat_mul60, nat_cast, nc1, Int.reduceToNat, upE, upN, fill_ne, fill_in, i0, i1, s13, wl] <;> omega)))
          | (with_reducible apply wp_s; (first | (simp (disch := omega) only [not_false_eq_true, not_true_eq_false, w32_id, tLt, fLt, tLe, fEq, itE, and_true, true_and, and_self, and_false, false_and, ↓reduceIte, nat_add, nat_mul3, nat_mul4, nat_mul6, nat_mul15, nat_mul60, nat_cast, nc1, Int.reduceToNat, upE, upN, fill_ne, fill_in, i0, i1, s13, wl]; with_reducible exact Iff.rfl) | with_reducible exact Iff.rfl); intro hc__; (try subst hc__); rotate_left; intro hc__; rotate_left)
          | (with_reducible apply wp_eq; (with_reducible apply cl_go; simp (disch := omega) only [not_false_eq_true, not_true_eq_false, w32_id, tLt, fLt, tLe, fEq, itE, and_true, true_and, and_self, and_false, false_and, ↓reduceIte, nat_add, nat_mul3, nat_mul4, nat_mul6, nat_mul15, nat_mul60, nat_cast, nc1, Int.reduceToNat, upE, upN, fill_ne, fill_in, i0, i1, s13, wl]; with_reducible exact rfl))
          | with_reducible refine wp_eq (b1) ?_
          | with_reducible refine wp_eq (s1) ?_
          | (with_reducible apply wp_eq; (with_reducible apply lf_go; simp (disch := omega) only [not_false_eq_true, not_true_eq_false, w32_id, tLt, fLt, tLe, fEq, itE, and_true, true_and, and_self, and_false, false_and, ↓reduceIte, nat_add, nat_mul3, nat_mul4, nat_mul6, nat_mul15, nat_mul60, nat_cast, nc1, Int.reduceToNat, upE, upN, fill_ne, fill_in, i0, i1, s13, wl]; with_reducible exact rfl))
          | with_reducible apply wp_q1
        exact fin.2 (by omega)
theorem m_ahead (hd : 2 ≤ d) (hB : TBm bt n M) {p : Nat} (h14 : M 271 14 = (p : Int)) (hN : NT bt n p q e) : Wp (callD d m_Mo_ahead [vR 12 0 271] (SH L) M) (QU L M (TM bt n q e)) := by
  obtain ⟨a1, a2, a3, a4, a5⟩ := hN
  have n900 := hB.2.1
  rw [c_Mo_ahead (by omega)]
  refine wp_loop (α := Mm) (G := fun i a => Run (callD (d - 1)) tb_Mo_ahead 0 [vR 12 0 271, vU] [] (SH L) a) (I := fun i a => a 271 14 = ((p + i : Nat) : Int) ∧ ∀ b j, ¬(b = 271 ∧ j = 14) → a b j = M b j) (q - p) ?_ ?_ 0 M (by omega) ⟨h14, fun _ _ _ => rfl⟩
  · intro i M1 hi ⟨i1, i4⟩ ih
    have hB1 := hB.fr (M' := M1) fun b j hb => i4 b j (by omega)
    have b1 := s_byte (L := L) (d := d - 1) (by omega) hB1 (p := p + i) (by omega)
    have sp := a3 (p + i) (by omega) (by omega)
    have up1 : ub (bt (p + i)) = bt (p + i) := ub_pos (by unfold isB at sp; omega)
    rw [up1] at b1
    have nx : Wp (Run (callD (d - 1)) tb_Mo_ahead 0 [vR 12 0 271, vU] [] (SH L) (up M1 271 14 (w32 (M1 271 14 + 1)))) (QU L M (TM bt n q e)) := by
      rw [i1, w32_id (by omega) (by omega)]
      exact ih _ ⟨upE rfl rfl, fun b j z => by rw [upN (by omega)]; exact i4 b j z⟩
    rcases sp with sp | sp
    · refine wp_eq (b_Mo_ahead_0 _ _ _ _ _) ?_
      repeat' first
        | (with_reducible apply wp_bR; (simp (disch := omega) only [rM L, rK L, rN L, rNf, rNv, rNp, rNd, rRow, rLeg, rMark, nat_cast, Int.reduceToNat, i1]; with_reducible exact rfl))
        | with_reducible apply wp_bI
        | with_reducible apply wp_bV
        | with_reducible apply wp_bL
        | with_reducible apply wp_rI
        | with_reducible apply wp_rV
        | with_reducible apply wp_rL
        | (with_reducible apply wp_1; (first | omega | (simp (disch := omega) only [not_false_eq_true, not_true_eq_false, w32_id, tLt, fLt, tLe, fEq, itE, and_true, true_and, and_self, and_false, false_and, ↓reduceIte, nat_add, nat_mul3, nat_mul4, nat_mul6, nat_mul15, nat_mul60, nat_cast, nc1, Int.reduceToNat, upE, upN, fill_ne, fill_in, i0, i1] <;> omega)))
        | (with_reducible apply wp_2; (first | omega | (simp (disch := omega) only [not_false_eq_true, not_true_eq_false, w32_id, tLt, fLt, tLe, fEq, itE, and_true, true_and, and_self, and_false, false_and, ↓reduceIte, nat_add, nat_mul3, nat_mul4, nat_mul6, nat_mul15, nat_mul60, nat_cast, nc1, Int.reduceToNat, upE, upN, fill_ne, fill_in, i0, i1] <;> omega)))
        | (with_reducible apply wp_s; (first | (simp (disch := omega) only [not_false_eq_true, not_true_eq_false, w32_id, tLt, fLt, tLe, fEq, itE, and_true, true_and, and_self, and_false, false_and, ↓reduceIte, nat_add, nat_mul3, nat_mul4, nat_mul6, nat_mul15, nat_mul60, nat_cast, nc1, Int.reduceToNat, upE, upN, fill_ne, fill_in, i0, i1]; with_reducible exact Iff.rfl) | with_reducible exact Iff.rfl); intro hc__; (try subst hc__); rotate_left; intro hc__; rotate_left)
        | (with_reducible apply wp_eq; (with_reducible apply cl_go; simp (disch := omega) only [not_false_eq_true, not_true_eq_false, w32_id, tLt, fLt, tLe, fEq, itE, and_true, true_and, and_self, and_false, false_and, ↓reduceIte, nat_add, nat_mul3, nat_mul4, nat_mul6, nat_mul15, nat_mul60, nat_cast, nc1, Int.reduceToNat, upE, upN, fill_ne, fill_in, i0, i1]; with_reducible exact rfl))
        | with_reducible refine wp_eq (b1) ?_
        | (with_reducible apply wp_eq; (with_reducible apply lf_go; simp (disch := omega) only [not_false_eq_true, not_true_eq_false, w32_id, tLt, fLt, tLe, fEq, itE, and_true, true_and, and_self, and_false, false_and, ↓reduceIte, nat_add, nat_mul3, nat_mul4, nat_mul6, nat_mul15, nat_mul60, nat_cast, nc1, Int.reduceToNat, upE, upN, fill_ne, fill_in, i0, i1]; with_reducible exact rfl))
        | with_reducible apply wp_q1
      exact nx
    · refine wp_eq (b_Mo_ahead_0 _ _ _ _ _) ?_
      repeat' first
        | (with_reducible apply wp_bR; (simp (disch := omega) only [rM L, rK L, rN L, rNf, rNv, rNp, rNd, rRow, rLeg, rMark, nat_cast, Int.reduceToNat, i1]; with_reducible exact rfl))
        | with_reducible apply wp_bI
        | with_reducible apply wp_bV
        | with_reducible apply wp_bL
        | with_reducible apply wp_rI
        | with_reducible apply wp_rV
        | with_reducible apply wp_rL
        | (with_reducible apply wp_1; (first | omega | (simp (disch := omega) only [not_false_eq_true, not_true_eq_false, w32_id, tLt, fLt, tLe, fEq, itE, and_true, true_and, and_self, and_false, false_and, ↓reduceIte, nat_add, nat_mul3, nat_mul4, nat_mul6, nat_mul15, nat_mul60, nat_cast, nc1, Int.reduceToNat, upE, upN, fill_ne, fill_in, i0, i1] <;> omega)))
        | (with_reducible apply wp_2; (first | omega | (simp (disch := omega) only [not_false_eq_true, not_true_eq_false, w32_id, tLt, fLt, tLe, fEq, itE, and_true, true_and, and_self, and_false, false_and, ↓reduceIte, nat_add, nat_mul3, nat_mul4, nat_mul6, nat_mul15, nat_mul60, nat_cast, nc1, Int.reduceToNat, upE, upN, fill_ne, fill_in, i0, i1] <;> omega)))
        | (with_reducible apply wp_s; (first | (simp (disch := omega) only [not_false_eq_true, not_true_eq_false, w32_id, tLt, fLt, tLe, fEq, itE, and_true, true_and, and_self, and_false, false_and, ↓reduceIte, nat_add, nat_mul3, nat_mul4, nat_mul6, nat_mul15, nat_mul60, nat_cast, nc1, Int.reduceToNat, upE, upN, fill_ne, fill_in, i0, i1]; with_reducible exact Iff.rfl) | with_reducible exact Iff.rfl); intro hc__; (try subst hc__); rotate_left; intro hc__; rotate_left)
        | (with_reducible apply wp_eq; (with_reducible apply cl_go; simp (disch := omega) only [not_false_eq_true, not_true_eq_false, w32_id, tLt, fLt, tLe, fEq, itE, and_true, true_and, and_self, and_false, false_and, ↓reduceIte, nat_add, nat_mul3, nat_mul4, nat_mul6, nat_mul15, nat_mul60, nat_cast, nc1, Int.reduceToNat, upE, upN, fill_ne, fill_in, i0, i1]; with_reducible exact rfl))
        | with_reducible refine wp_eq (b1) ?_
        | (with_reducible apply wp_eq; (with_reducible apply lf_go; simp (disch := omega) only [not_false_eq_true, not_true_eq_false, w32_id, tLt, fLt, tLe, fEq, itE, and_true, true_and, and_self, and_false, false_and, ↓reduceIte, nat_add, nat_mul3, nat_mul4, nat_mul6, nat_mul15, nat_mul60, nat_cast, nc1, Int.reduceToNat, upE, upN, fill_ne, fill_in, i0, i1]; with_reducible exact rfl))
        | with_reducible apply wp_q1
      exact nx
  · intro M1 ⟨i1, i4⟩
    have hB1 := hB.fr (M' := M1) fun b j hb => i4 b j (by omega)
    rw [show p + (q - p) = q by omega] at i1
    have hB2 : TBm bt n (up M1 271 13 (q : Int)) := hB1.fr fun b j hb => upN (by omega)
    rcases a5 with ⟨z1, z2⟩ | ⟨z1, z2, z3⟩ | ⟨z1, z2, z3⟩ | ⟨z1, z2, z3, z4⟩
    · subst z1
      subst z2
      have b1 := s_byte0 (L := L) (d := d - 1) (by omega) hB1 (p := e) (by omega)
      have b2 := s_byte0 (L := L) (d := d - 1) (by omega) hB2 (p := e) (by omega)
      refine wp_eq (b_Mo_ahead_0 _ _ _ _ _) ?_
      repeat' first
        | (with_reducible apply wp_bR; (simp (disch := omega) only [rM L, rK L, rN L, rNf, rNv, rNp, rNd, rRow, rLeg, rMark, nat_cast, Int.reduceToNat, i1]; with_reducible exact rfl))
        | with_reducible apply wp_bI
        | with_reducible apply wp_bV
        | with_reducible apply wp_bL
        | with_reducible apply wp_rI
        | with_reducible apply wp_rV
        | with_reducible apply wp_rL
        | (with_reducible apply wp_1; (first | omega | (simp (disch := omega) only [not_false_eq_true, not_true_eq_false, w32_id, tLt, fLt, tLe, fEq, itE, and_true, true_and, and_self, and_false, false_and, ↓reduceIte, nat_add, nat_mul3, nat_mul4, nat_mul6, nat_mul15, nat_mul60, nat_cast, nc1, Int.reduceToNat, upE, upN, fill_ne, fill_in, i0, i1] <;> omega)))
        | (with_reducible apply wp_2; (first | omega | (simp (disch := omega) only [not_false_eq_true, not_true_eq_false, w32_id, tLt, fLt, tLe, fEq, itE, and_true, true_and, and_self, and_false, false_and, ↓reduceIte, nat_add, nat_mul3, nat_mul4, nat_mul6, nat_mul15, nat_mul60, nat_cast, nc1, Int.reduceToNat, upE, upN, fill_ne, fill_in, i0, i1] <;> omega)))
        | (with_reducible apply wp_s; (first | (simp (disch := omega) only [not_false_eq_true, not_true_eq_false, w32_id, tLt, fLt, tLe, fEq, itE, and_true, true_and, and_self, and_false, false_and, ↓reduceIte, nat_add, nat_mul3, nat_mul4, nat_mul6, nat_mul15, nat_mul60, nat_cast, nc1, Int.reduceToNat, upE, upN, fill_ne, fill_in, i0, i1]; with_reducible exact Iff.rfl) | with_reducible exact Iff.rfl); intro hc__; (try subst hc__); rotate_left; intro hc__; rotate_left)
        | (with_reducible apply wp_eq; (with_reducible apply cl_go; simp (disch := omega) only [not_false_eq_true, not_true_eq_false, w32_id, tLt, fLt, tLe, fEq, itE, and_true, true_and, and_self, and_false, false_and, ↓reduceIte, nat_add, nat_mul3, nat_mul4, nat_mul6, nat_mul15, nat_mul60, nat_cast, nc1, Int.reduceToNat, upE, upN, fill_ne, fill_in, i0, i1]; with_reducible exact rfl))
        | with_reducible refine wp_eq (b1) ?_
        | with_reducible refine wp_eq (b2) ?_
        | (with_reducible apply wp_eq; (with_reducible apply lf_go; simp (disch := omega) only [not_false_eq_true, not_true_eq_false, w32_id, tLt, fLt, tLe, fEq, itE, and_true, true_and, and_self, and_false, false_and, ↓reduceIte, nat_add, nat_mul3, nat_mul4, nat_mul6, nat_mul15, nat_mul60, nat_cast, nc1, Int.reduceToNat, upE, upN, fill_ne, fill_in, i0, i1]; with_reducible exact rfl))
        | with_reducible apply wp_q1
      exact ⟨_, _, _, rfl, rfl, rfl, fun b j z => by rw [upN (by omega), upN (by omega), upN (by omega)]; exact i4 b j (by omega), by rw [upN (by omega), upN (by omega), upE rfl rfl], by rw [upN (by omega), upN (by omega), upN (by omega)]; exact i1, Or.inl ⟨rfl, upE rfl rfl⟩⟩
    all_goals have bb := hB.2.2 q z1
    all_goals have b1 := s_byte (L := L) (d := d - 1) (by omega) hB1 (p := q) z1
    all_goals have b2 := s_byte (L := L) (d := d - 1) (by omega) hB2 (p := q) z1
    all_goals have us := ub_S bb.2.1
    all_goals have nb := nb_u bb.2.1 (a4 z1)
    all_goals have nb1 := nb.1
    all_goals have nb2 := nb.2
    all_goals have uc := ub_cases bb.2.1
    all_goals have um : ¬(ub (bt q) = -1) := by omega
    · have s1 := s_small (M := up (up M1 271 13 (q : Int)) 271 15 (ub (bt q))) (d := d - 1) (S := SH L) (by omega) (us.1.2 z2)
      have tw := u_word (L := L) (d := d) (M := up (up M1 271 13 (q : Int)) 271 15 (ub (bt q))) hd (hB2.fr fun b j hb => upN (by omega)) (by rw [upN (by omega), upE rfl rfl]) (by rw [upN (by omega), upN (by omega)]; exact i1) z1 z2 z3 (ub (bt q))
      refine wp_eq (b_Mo_ahead_0 _ _ _ _ _) ?_
      repeat' first
        | (with_reducible apply wp_bR; (simp (disch := omega) only [rM L, rK L, rN L, rNf, rNv, rNp, rNd, rRow, rLeg, rMark, nat_cast, Int.reduceToNat, i1]; with_reducible exact rfl))
        | with_reducible apply wp_bI
        | with_reducible apply wp_bV
        | with_reducible apply wp_bL
        | with_reducible apply wp_rI
        | with_reducible apply wp_rV
        | with_reducible apply wp_rL
        | (with_reducible apply wp_1; (first | omega | (simp (disch := omega) only [not_false_eq_true, not_true_eq_false, w32_id, tLt, fLt, tLe, fEq, itE, and_true, true_and, and_self, and_false, false_and, ↓reduceIte, nat_add, nat_mul3, nat_mul4, nat_mul6, nat_mul15, nat_mul60, nat_cast, nc1, Int.reduceToNat, upE, upN, fill_ne, fill_in, i0, i1] <;> omega)))
        | (with_reducible apply wp_2; (first | omega | (simp (disch := omega) only [not_false_eq_true, not_true_eq_false, w32_id, tLt, fLt, tLe, fEq, itE, and_true, true_and, and_self, and_false, false_and, ↓reduceIte, nat_add, nat_mul3, nat_mul4, nat_mul6, nat_mul15, nat_mul60, nat_cast, nc1, Int.reduceToNat, upE, upN, fill_ne, fill_in, i0, i1] <;> omega)))
        | (with_reducible apply wp_s; (first | (simp (disch := omega) only [not_false_eq_true, not_true_eq_false, w32_id, tLt, fLt, tLe, fEq, itE, and_true, true_and, and_self, and_false, false_and, ↓reduceIte, nat_add, nat_mul3, nat_mul4, nat_mul6, nat_mul15, nat_mul60, nat_cast, nc1, Int.reduceToNat, upE, upN, fill_ne, fill_in, i0, i1]; with_reducible exact Iff.rfl) | with_reducible exact Iff.rfl); intro hc__; (try subst hc__); rotate_left; intro hc__; rotate_left)
        | (with_reducible apply wp_eq; (with_reducible apply cl_go; simp (disch := omega) only [not_false_eq_true, not_true_eq_false, w32_id, tLt, fLt, tLe, fEq, itE, and_true, true_and, and_self, and_false, false_and, ↓reduceIte, nat_add, nat_mul3, nat_mul4, nat_mul6, nat_mul15, nat_mul60, nat_cast, nc1, Int.reduceToNat, upE, upN, fill_ne, fill_in, i0, i1]; with_reducible exact rfl))
        | with_reducible refine wp_eq (b1) ?_
        | with_reducible refine wp_eq (b2) ?_
        | with_reducible refine wp_eq (s1) ?_
        | (with_reducible apply wp_eq; (with_reducible apply lf_go; simp (disch := omega) only [not_false_eq_true, not_true_eq_false, w32_id, tLt, fLt, tLe, fEq, itE, and_true, true_and, and_self, and_false, false_and, ↓reduceIte, nat_add, nat_mul3, nat_mul4, nat_mul6, nat_mul15, nat_mul60, nat_cast, nc1, Int.reduceToNat, upE, upN, fill_ne, fill_in, i0, i1]; with_reducible exact rfl))
        | with_reducible apply wp_q1
      refine wp_mono tw ?_
      rintro r S M3 ⟨rfl, rfl, f, t⟩
      exact ⟨rfl, rfl, fun b j z => by rw [f b j z, upN (by omega), upN (by omega)]; exact i4 b j (by omega), t⟩
    · have ns : ¬isS (ub (bt q)) := fun y => by
        have := us.1.1 y
        unfold isS at this
        unfold isD at z2
        omega
      have s1 := s_small0 (M := up (up M1 271 13 (q : Int)) 271 15 (ub (bt q))) (d := d - 1) (S := SH L) (by omega) ns
      have s2 := s_digit (M := up (up M1 271 13 (q : Int)) 271 15 (ub (bt q))) (d := d - 1) (S := SH L) (by omega) (us.2.1.2 z2)
      have tw := u_number (L := L) (d := d) (M := up (up (up M1 271 13 (q : Int)) 271 15 (ub (bt q))) 271 15 0) hd ((hB2.fr (M' := up (up M1 271 13 (q : Int)) 271 15 (ub (bt q))) fun b j hb => upN (by omega)).fr fun b j hb => upN (by omega)) (by rw [upN (by omega), upN (by omega), upE rfl rfl]) (by rw [upN (by omega), upN (by omega), upN (by omega)]; exact i1) (upE rfl rfl) z1 z2 z3 (ub (bt q))
      refine wp_eq (b_Mo_ahead_0 _ _ _ _ _) ?_
      repeat' first
        | (with_reducible apply wp_bR; (simp (disch := omega) only [rM L, rK L, rN L, rNf, rNv, rNp, rNd, rRow, rLeg, rMark, nat_cast, Int.reduceToNat, i1]; with_reducible exact rfl))
        | with_reducible apply wp_bI
        | with_reducible apply wp_bV
        | with_reducible apply wp_bL
        | with_reducible apply wp_rI
        | with_reducible apply wp_rV
        | with_reducible apply wp_rL
        | (with_reducible apply wp_1; (first | omega | (simp (disch := omega) only [not_false_eq_true, not_true_eq_false, w32_id, tLt, fLt, tLe, fEq, itE, and_true, true_and, and_self, and_false, false_and, ↓reduceIte, nat_add, nat_mul3, nat_mul4, nat_mul6, nat_mul15, nat_mul60, nat_cast, nc1, Int.reduceToNat, upE, upN, fill_ne, fill_in, i0, i1] <;> omega)))
        | (with_reducible apply wp_2; (first | omega | (simp (disch := omega) only [not_false_eq_true, not_true_eq_false, w32_id, tLt, fLt, tLe, fEq, itE, and_true, true_and, and_self, and_false, false_and, ↓reduceIte, nat_add, nat_mul3, nat_mul4, nat_mul6, nat_mul15, nat_mul60, nat_cast, nc1, Int.reduceToNat, upE, upN, fill_ne, fill_in, i0, i1] <;> omega)))
        | (with_reducible apply wp_s; (first | (simp (disch := omega) only [not_false_eq_true, not_true_eq_false, w32_id, tLt, fLt, tLe, fEq, itE, and_true, true_and, and_self, and_false, false_and, ↓reduceIte, nat_add, nat_mul3, nat_mul4, nat_mul6, nat_mul15, nat_mul60, nat_cast, nc1, Int.reduceToNat, upE, upN, fill_ne, fill_in, i0, i1]; with_reducible exact Iff.rfl) | with_reducible exact Iff.rfl); intro hc__; (try subst hc__); rotate_left; intro hc__; rotate_left)
        | (with_reducible apply wp_eq; (with_reducible apply cl_go; simp (disch := omega) only [not_false_eq_true, not_true_eq_false, w32_id, tLt, fLt, tLe, fEq, itE, and_true, true_and, and_self, and_false, false_and, ↓reduceIte, nat_add, nat_mul3, nat_mul4, nat_mul6, nat_mul15, nat_mul60, nat_cast, nc1, Int.reduceToNat, upE, upN, fill_ne, fill_in, i0, i1]; with_reducible exact rfl))
        | with_reducible refine wp_eq (b1) ?_
        | with_reducible refine wp_eq (b2) ?_
        | with_reducible refine wp_eq (s1) ?_
        | with_reducible refine wp_eq (s2) ?_
        | (with_reducible apply wp_eq; (with_reducible apply lf_go; simp (disch := omega) only [not_false_eq_true, not_true_eq_false, w32_id, tLt, fLt, tLe, fEq, itE, and_true, true_and, and_self, and_false, false_and, ↓reduceIte, nat_add, nat_mul3, nat_mul4, nat_mul6, nat_mul15, nat_mul60, nat_cast, nc1, Int.reduceToNat, upE, upN, fill_ne, fill_in, i0, i1]; with_reducible exact rfl))
        | with_reducible apply wp_q1
      refine wp_mono tw ?_
      rintro r S M3 ⟨rfl, rfl, f, t⟩
      exact ⟨rfl, rfl, fun b j z => by rw [f b j z, upN (by omega), upN (by omega), upN (by omega)]; exact i4 b j (by omega), t⟩
    · subst z4
      have s1 := s_small0 (M := up (up M1 271 13 (q : Int)) 271 15 (ub (bt q))) (d := d - 1) (S := SH L) (by omega) (fun y => z2 (us.1.1 y))
      have s2 := s_digit0 (M := up (up M1 271 13 (q : Int)) 271 15 (ub (bt q))) (d := d - 1) (S := SH L) (by omega) (fun y => z3 (us.2.1.1 y))
      have fin : ∀ k : Int, isG (ub (bt q)) ∧ k = 4 ∨ ¬isG (ub (bt q)) ∧ k = 1 → Wp (some (none, SH L, up (up (up (up M1 271 13 (q : Int)) 271 15 (ub (bt q))) 271 14 ((q : Int) + 1)) 271 12 k)) (QU L M (TM bt n q (q + 1))) := fun k hk => by
        refine ⟨_, _, _, rfl, rfl, rfl, fun b j z => by rw [upN (by omega), upN (by omega), upN (by omega), upN (by omega)]; exact i4 b j (by omega), by rw [upN (by omega), upN (by omega), upN (by omega), upE rfl rfl], by rw [upN (by omega), upE rfl rfl]; rfl, Or.inr (Or.inr (Or.inr ⟨z1, z2, z3, ?_⟩))⟩
        rw [us.2.2.2] at hk
        rcases hk with ⟨g, rfl⟩ | ⟨g, rfl⟩
        · refine Or.inl ⟨g, upE rfl rfl, ?_⟩
          rw [upN (by omega), upN (by omega), upE rfl rfl]
          exact ub_pos (by unfold isG at g; omega)
        · exact Or.inr ⟨g, upE rfl rfl⟩
      unfold isG at fin
      refine wp_eq (b_Mo_ahead_0 _ _ _ _ _) ?_
      repeat' first
        | (with_reducible apply wp_bR; (simp (disch := omega) only [rM L, rK L, rN L, rNf, rNv, rNp, rNd, rRow, rLeg, rMark, nat_cast, Int.reduceToNat, i1]; with_reducible exact rfl))
        | with_reducible apply wp_bI
        | with_reducible apply wp_bV
        | with_reducible apply wp_bL
        | with_reducible apply wp_rI
        | with_reducible apply wp_rV
        | with_reducible apply wp_rL
        | (with_reducible apply wp_1; (first | omega | (simp (disch := omega) only [not_false_eq_true, not_true_eq_false, w32_id, tLt, fLt, tLe, fEq, itE, and_true, true_and, and_self, and_false, false_and, ↓reduceIte, nat_add, nat_mul3, nat_mul4, nat_mul6, nat_mul15, nat_mul60, nat_cast, nc1, Int.reduceToNat, upE, upN, fill_ne, fill_in, i0, i1] <;> omega)))
        | (with_reducible apply wp_2; (first | omega | (simp (disch := omega) only [not_false_eq_true, not_true_eq_false, w32_id, tLt, fLt, tLe, fEq, itE, and_true, true_and, and_self, and_false, false_and, ↓reduceIte, nat_add, nat_mul3, nat_mul4, nat_mul6, nat_mul15, nat_mul60, nat_cast, nc1, Int.reduceToNat, upE, upN, fill_ne, fill_in, i0, i1] <;> omega)))
        | (with_reducible apply wp_s; (first | (simp (disch := omega) only [not_false_eq_true, not_true_eq_false, w32_id, tLt, fLt, tLe, fEq, itE, and_true, true_and, and_self, and_false, false_and, ↓reduceIte, nat_add, nat_mul3, nat_mul4, nat_mul6, nat_mul15, nat_mul60, nat_cast, nc1, Int.reduceToNat, upE, upN, fill_ne, fill_in, i0, i1]; with_reducible exact Iff.rfl) | with_reducible exact Iff.rfl); intro hc__; (try subst hc__); rotate_left; intro hc__; rotate_left)
        | (with_reducible apply wp_eq; (with_reducible apply cl_go; simp (disch := omega) only [not_false_eq_true, not_true_eq_false, w32_id, tLt, fLt, tLe, fEq, itE, and_true, true_and, and_self, and_false, false_and, ↓reduceIte, nat_add, nat_mul3, nat_mul4, nat_mul6, nat_mul15, nat_mul60, nat_cast, nc1, Int.reduceToNat, upE, upN, fill_ne, fill_in, i0, i1]; with_reducible exact rfl))
        | with_reducible refine wp_eq (b1) ?_
        | with_reducible refine wp_eq (b2) ?_
        | with_reducible refine wp_eq (s1) ?_
        | with_reducible refine wp_eq (s2) ?_
        | (with_reducible apply wp_eq; (with_reducible apply lf_go; simp (disch := omega) only [not_false_eq_true, not_true_eq_false, w32_id, tLt, fLt, tLe, fEq, itE, and_true, true_and, and_self, and_false, false_and, ↓reduceIte, nat_add, nat_mul3, nat_mul4, nat_mul6, nat_mul15, nat_mul60, nat_cast, nc1, Int.reduceToNat, upE, upN, fill_ne, fill_in, i0, i1]; with_reducible exact rfl))
        | with_reducible apply wp_q1
      all_goals (first | exact fin 4 (by omega) | exact fin 1 (by omega))
end

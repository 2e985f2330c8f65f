/-! FRACTIONS, SHARES -/
def eg : Nat → Int → Int → Int
  | 0, a, _ => a
  | f + 1, a, b => if b = 0 then a else eg f b (Int.tmod a b)
def egE : Nat → Int → Int → Prop
  | 0, _, b => b = 0
  | f + 1, a, b => b = 0 ∨ egE f b (Int.tmod a b)
theorem tmod_bd {a b : Int} (ha : 0 ≤ a) (hb : 0 < b) : 0 ≤ Int.tmod a b ∧ Int.tmod a b < b := by
  rw [Int.tmod_eq_emod_of_nonneg ha]
  exact ⟨Int.emod_nonneg _ (by omega), Int.emod_lt_of_pos _ hb⟩
theorem tmod_half {b r : Int} (hr : 0 < r) (hrb : r < b) : 2 * Int.tmod b r < b := by
  rw [Int.tmod_eq_emod_of_nonneg (by omega)]
  have h1 := Int.emod_lt_of_pos b hr
  have h2 := Int.emod_add_mul_ediv b r
  have h3 : 1 ≤ b / r := by
    exact (Int.le_ediv_iff_mul_le hr).mpr (by omega)
  have h4 : r * 1 ≤ r * (b / r) := Int.mul_le_mul_of_nonneg_left h3 (by omega)
  omega
theorem eg_end : ∀ (k : Nat) (a b : Int), 0 ≤ a → 0 ≤ b → b < (2 ^ k : Nat) → egE (2 * k + 1) a b
  | 0, a, b, _, h0, h1 => by
    left
    have : (2 ^ 0 : Nat) = 1 := rfl
    omega
  | k + 1, a, b, ha, h0, h1 => by
    by_cases hb : b = 0
    · exact Or.inl hb
    · right
      have r := tmod_bd ha (show 0 < b by omega)
      show egE (2 * k + 1 + 1) b (Int.tmod a b)
      by_cases hr : Int.tmod a b = 0
      · exact Or.inl hr
      · right
        have r2 := tmod_bd h0 (show 0 < Int.tmod a b by omega)
        have r3 := tmod_half (show 0 < Int.tmod a b by omega) r.2
        have : (2 ^ (k + 1) : Nat) = 2 ^ k * 2 := Nat.pow_succ 2 k
        exact eg_end k _ _ r.1 r2.1 (by omega)
theorem tell_run {K : Cal} {S : Sp} {M : Mm} {x1 x3 : Int} {d2 d4 : AV} : ∀ (f : Nat) (a b i : Int) (d6 d8 d10 d11 : AV), egE f a b → 0 ≤ a → 0 ≤ b → 0 < a ∨ 0 < b → 0 ≤ i → i + f < 100 → Run K tb_Ca_tellFraction 9 [vR 11 0 3, vL x1, d2, vL x3, d4, vL a, d6, vL b, d8, vI i, d10, d11] [] S M = some (none, S, up (up M 3 16 (w64 (Int.tdiv x1 (eg f a b)))) 3 17 (w64 (Int.tdiv x3 (eg f a b))))
  | 0, a, b, i, _, _, _, _, he, ha, hb, hab, hi, hf => by
    have he : b = 0 := he
    rw [b_Ca_tellFraction_9, if_pos (by omega), if_pos (cmp_zero.mpr he), if_neg (fun e => by have := cmp_zero.mp e; omega), if_neg (by omega), if_neg (fun e => by have := cmp_zero.mp e; omega), if_neg (by omega)]
    rfl
  | f + 1, a, b, i, _, _, _, _, he, ha, hb, hab, hi, hf => by
    rw [b_Ca_tellFraction_9, if_pos (by omega)]
    unfold eg
    by_cases hz : b = 0
    · rw [if_pos (cmp_zero.mpr hz), if_neg (fun e => by have := cmp_zero.mp e; omega), if_neg (by omega), if_neg (fun e => by have := cmp_zero.mp e; omega), if_neg (by omega), if_pos hz]
    · have r := tmod_bd ha (show 0 < b by omega)
      rw [if_neg (fun e => hz (cmp_zero.mp e)), if_neg hz, if_neg hz, w32_id (by omega) (by omega)]
      rcases he with he | he
      · exact absurd he hz
      · exact tell_run f _ _ _ _ _ _ _ he hb r.1 (by omega) (by omega) (by omega)
theorem tells_run {K : Cal} {S : Sp} {M : Mm} {x1 x3 : Int} {d2 d4 : AV} : ∀ (f : Nat) (a b : Int) (d6 d8 d9 d10 : AV), egE f a b → 0 ≤ a → 0 ≤ b → 0 < a ∨ 0 < b → Run K tb_Mo_tellsBy 6 [vR 12 0 271, vL x1, d2, vL x3, d4, vL a, d6, vL b, d8, d9, d10] [] S M = bndI (K m_Mo_is [vR 12 0 271, vI 0] S (up (up M 271 3 (w64 (Int.tdiv x1 (eg f a b)))) 271 4 (w64 (Int.tdiv x3 (eg f a b))))) fun r1 S1 M1 => some (some (vI (r1 % 2)), S1, M1)
  | 0, a, b, _, _, _, _, he, ha, hb, hab => by
    have he : b = 0 := he
    rw [b_Mo_tellsBy_6, if_pos (cmp_zero.mpr he), if_neg (by omega), if_neg (by omega)]
    rfl
  | f + 1, a, b, _, _, _, _, he, ha, hb, hab => by
    rw [b_Mo_tellsBy_6]
    unfold eg
    by_cases hz : b = 0
    · rw [if_pos (cmp_zero.mpr hz), if_neg (by omega), if_neg (by omega), if_pos hz]
    · have r := tmod_bd ha (show 0 < b by omega)
      rw [if_neg (fun e => hz (cmp_zero.mp e)), if_neg hz, if_neg hz]
      rcases he with he | he
      · exact absurd he hz
      · exact tells_run f _ _ _ _ _ _ he hb r.1 (by omega)
def frT (x y : Int) : Int := w64 (Int.tdiv x (eg 61 x y))
def frB (x y : Int) : Int := w64 (Int.tdiv y (eg 61 x y))
section
variable {xs : Nat → Int} {M M' : Mm} {A N : Nat → Int} {B P : Nat → Nat → Int} {L d : Nat}
theorem n_tell {S : Sp} (hd : 1 ≤ d) {x y : Int} (hx : 0 ≤ x) (hy : 0 < y) (hy' : y < 1073741824) : callD d m_Ca_tellFraction [vR 11 0 3, vL x, vL y] S M = some (none, S, up (up M 3 16 (frT x y)) 3 17 (frB x y)) := by
  rw [c_Ca_tellFraction hd, b_Ca_tellFraction_0]
  exact tell_run 61 x y 0 _ _ _ _ (eg_end 30 x y hx (by omega) (by have : (2 ^ 30 : Nat) = 1073741824 := rfl; omega)) hx (by omega) (Or.inr hy) (by omega) (by omega)
theorem n_tells (hd : 2 ≤ d) {x y : Int} (hx : 0 ≤ x) (hy : 0 < y) (hy' : y < 1073741824) : callD d m_Mo_tellsBy [vR 12 0 271, vL x, vL y] (SH L) M = some (some (vI 1), SH L, up (up (up M 271 3 (frT x y)) 271 4 (frB x y)) 271 2 0) := by
  rw [c_Mo_tellsBy (by omega), b_Mo_tellsBy_0, tells_run 61 x y _ _ _ _ (eg_end 30 x y hx (by omega) (by have : (2 ^ 30 : Nat) = 1073741824 := rfl; omega)) hx (by omega) (Or.inr hy)]
  repeat' first
    | (with_reducible apply bR_go; (simp (disch := omega) only [rM L, rK L, rN L, rNf, rNv, rNp, rNd, rRow, rLeg, rMark, nat_cast, Int.reduceToNat]; with_reducible exact rfl))
    | with_reducible apply bI_go
    | with_reducible apply bV_go
    | with_reducible apply bL_go
    | (with_reducible apply it_1; (first | omega | (simp (disch := omega) only [not_false_eq_true, not_true_eq_false, w32_id, tLt, fLt, tLe, fEq, itE, and_true, true_and, and_self, and_false, false_and, ↓reduceIte, nat_add, nat_mul3, nat_mul4, nat_mul6, nat_mul15, nat_mul60, nat_cast, nc1, Int.reduceToNat, upE, upN, fill_ne, fill_in, i0] <;> omega)))
    | (with_reducible apply it_2; (first | omega | (simp (disch := omega) only [not_false_eq_true, not_true_eq_false, w32_id, tLt, fLt, tLe, fEq, itE, and_true, true_and, and_self, and_false, false_and, ↓reduceIte, nat_add, nat_mul3, nat_mul4, nat_mul6, nat_mul15, nat_mul60, nat_cast, nc1, Int.reduceToNat, upE, upN, fill_ne, fill_in, i0] <;> omega)))
    | (with_reducible refine cl_go ?_; simp (disch := omega) only [not_false_eq_true, not_true_eq_false, w32_id, tLt, fLt, tLe, fEq, itE, and_true, true_and, and_self, and_false, false_and, ↓reduceIte, nat_add, nat_mul3, nat_mul4, nat_mul6, nat_mul15, nat_mul60, nat_cast, nc1, Int.reduceToNat, upE, upN, fill_ne, fill_in, i0])
    | rw [c_Mo_is (by omega), b_Mo_is_0]
    | (with_reducible refine rn_go ?_; simp (disch := omega) only [not_false_eq_true, not_true_eq_false, w32_id, tLt, fLt, tLe, fEq, itE, and_true, true_and, and_self, and_false, false_and, ↓reduceIte, nat_add, nat_mul3, nat_mul4, nat_mul6, nat_mul15, nat_mul60, nat_cast, nc1, Int.reduceToNat, upE, upN, fill_ne, fill_in, i0])
    | (with_reducible refine lf_go ?_; simp (disch := omega) only [not_false_eq_true, not_true_eq_false, w32_id, tLt, fLt, tLe, fEq, itE, and_true, true_and, and_self, and_false, false_and, ↓reduceIte, nat_add, nat_mul3, nat_mul4, nat_mul6, nat_mul15, nat_mul60, nat_cast, nc1, Int.reduceToNat, upE, upN, fill_ne, fill_in, i0])
    | with_reducible exact rfl
  rfl
theorem RelS.kk1 (h : RelS xs M A N B P) (e : ∀ b j, core b j → ¬k1 b j → M' b j = M b j) (hn : R1 M') : RelS xs M' A N B P := by
  obtain ⟨h0, -, h2, h3, h4, h5, h6⟩ := h
  exact ⟨fun j => by rw [e 0 j (in0 rfl) (by unfold k1; omega)]; exact h0 j, hn, h2.frame fun b j hb => e b j (inTr hb) (by unfold kTr at hb; unfold k1; omega), h3.frame fun b j hb => e b j (inTp hb) (by unfold kTp at hb; unfold k1; omega), ⟨h4.1.frame fun b j hb => e b j (inLv hb) (by unfold kLv at hb; unfold k1; omega), h4.2.frame fun b j hb => e b j (inLp hb) (by unfold kLp at hb; unfold k1; omega)⟩, h5.frame fun b j hb => e b j (inMk hb) (by unfold kMk at hb; unfold k1; omega), h6.frame fun b j hb => e b j (inNw hb) (by unfold kNw at hb; unfold k1; omega)⟩
end
theorem smW_bd {W : Nat → Int} : ∀ n : Nat, (∀ k, 0 ≤ W k ∧ W k ≤ 792000) → 0 ≤ sm W n ∧ sm W n ≤ 792000 * n
  | 0, _ => by simp [sm]
  | n + 1, h => by
    have := smW_bd n h
    have := h n
    rw [sm_s]
    omega
theorem case_share (x1 x2 : Int) : Case m_Ca_share m_Mo_share [vI x1, vI x2] := by
  intro L xs M A N B P ⟨hs0, h⟩
  have hC := h.cn
  unfold Cn at hC
  have hA := h.hA
  have hct := h.cnt
  have hlw := h.law
  by_cases hv : (0 ≤ x1 ∧ x1 < A 3) ∧ 0 ≤ x2 ∧ x2 < A 0
  · obtain ⟨s, rfl⟩ := Int.eq_ofNat_of_zero_le hv.1.1
    obtain ⟨n, rfl⟩ := Int.eq_ofNat_of_zero_le hv.2.1
    have hs := hv.1.2
    have ew := fun (M' : Mm) (h' : RelS xs M' A N B P) => s_Chart_weigh (L := L) (d := 100 - 1) (M := M') (r := A 4) (by omega) ch19 h'.ch h'.cn h'.gd (fun g hg => h'.ldf hs g (by omega)) (h.ld hs) (by omega)
    have eo := fun (M' : Mm) (h' : RelM M' A) (hl : ∀ g, g < 8 → M' 280 g = ldF A s g) (k : Nat) => s_Mo_weightOf (L := L) (d := 100 - 1) (n := (k : Int)) (r := A 4) (by omega) h'.1 (fun g hg => hl g (by omega)) h'.cn h'.gd (h.ld hs)
    generalize hW : (fun n : Nat => wts A (ldF A s) (A 4) n) = W at ew
    have hWk : ∀ k : Nat, wts A (ldF A s) (A 4) (k : Int) = W k := fun k => by rw [← hW]
    have wb : ∀ k, 0 ≤ W k ∧ W k ≤ 792000 := fun k => by rw [← hWk]; exact wts_bd (A 4) k h.gd (h.ld hs) h.cn
    have sb := smW_bd (W := W) (A 0).toNat wb
    simp only [hWk] at eo
    repeat' first
      | (with_reducible apply wp_bR; (simp (disch := omega) only [rM L, rK L, rN L, rNf, rNv, rNp, rNd, rRow, rLeg, rMark, nat_cast, Int.reduceToNat, hct, hlw]; with_reducible exact rfl))
      | with_reducible apply wp_bI
      | with_reducible apply wp_bV
      | with_reducible apply wp_bL
      | with_reducible apply wp_rI
      | with_reducible apply wp_rV
      | with_reducible apply wp_rL
      | (with_reducible apply wp_1; (first | omega | (simp (disch := omega) only [not_false_eq_true, not_true_eq_false, w32_id, tLt, fLt, tLe, fEq, itE, and_true, true_and, and_self, and_false, false_and, ↓reduceIte, nat_add, nat_mul3, nat_mul4, nat_mul6, nat_mul15, nat_mul60, nat_cast, nc1, Int.reduceToNat, upE, upN, fill_ne, fill_in, i0, hct, hlw] <;> omega)))
      | (with_reducible apply wp_2; (first | omega | (simp (disch := omega) only [not_false_eq_true, not_true_eq_false, w32_id, tLt, fLt, tLe, fEq, itE, and_true, true_and, and_self, and_false, false_and, ↓reduceIte, nat_add, nat_mul3, nat_mul4, nat_mul6, nat_mul15, nat_mul60, nat_cast, nc1, Int.reduceToNat, upE, upN, fill_ne, fill_in, i0, hct, hlw] <;> omega)))
      | (with_reducible apply wp_s; (first | (simp (disch := omega) only [not_false_eq_true, not_true_eq_false, w32_id, tLt, fLt, tLe, fEq, itE, and_true, true_and, and_self, and_false, false_and, ↓reduceIte, nat_add, nat_mul3, nat_mul4, nat_mul6, nat_mul15, nat_mul60, nat_cast, nc1, Int.reduceToNat, upE, upN, fill_ne, fill_in, i0, hct, hlw]; with_reducible exact Iff.rfl) | with_reducible exact Iff.rfl); intro hc__; (try subst hc__); rotate_left; intro hc__; rotate_left)
      | (with_reducible apply wp_eq; (with_reducible apply cl_go; simp (disch := omega) only [not_false_eq_true, not_true_eq_false, w32_id, tLt, fLt, tLe, fEq, itE, and_true, true_and, and_self, and_false, false_and, ↓reduceIte, nat_add, nat_mul3, nat_mul4, nat_mul6, nat_mul15, nat_mul60, nat_cast, nc1, Int.reduceToNat, upE, upN, fill_ne, fill_in, i0, hct, hlw]; with_reducible exact rfl))
      | (with_reducible refine wp_eq (c_Ca_share (by omega) _ _ _ _ _) ?_; with_reducible refine wp_eq (b_Ca_share_0 _ _ _ _ _ _) ?_)
      | (with_reducible refine wp_eq (c_Ca_within (by omega) _ _ _ _ _) ?_; with_reducible refine wp_eq (b_Ca_within_0 _ _ _ _ _ _) ?_)
      | (with_reducible refine wp_eq (c_Ca_isShip (by omega) _ _ _ _) ?_; with_reducible refine wp_eq (b_Ca_isShip_0 _ _ _ _ _) ?_)
      | (with_reducible refine wp_eq (c_Ca_isNation (by omega) _ _ _ _) ?_; with_reducible refine wp_eq (b_Ca_isNation_0 _ _ _ _ _) ?_)
      | (with_reducible refine wp_eq (c_Ca_isGood (by omega) _ _ _ _) ?_; with_reducible refine wp_eq (b_Ca_isGood_0 _ _ _ _ _) ?_)
      | (with_reducible refine wp_eq (c_Ca_isPort (by omega) _ _ _ _) ?_; with_reducible refine wp_eq (b_Ca_isPort_0 _ _ _ _ _) ?_)
      | (with_reducible refine wp_eq (c_Ca_areTwo (by omega) _ _ _ _ _ _) ?_; with_reducible refine wp_eq (b_Ca_areTwo_0 _ _ _ _ _ _ _) ?_)
      | (with_reducible refine wp_eq (c_Ca_answer (by omega) _ _ _ _) ?_; with_reducible refine wp_eq (b_Ca_answer_0 _ _ _ _ _) ?_)
      | (with_reducible refine wp_eq (c_Ca_refuse (by omega) _ _ _ _) ?_; with_reducible refine wp_eq (b_Ca_refuse_0 _ _ _ _ _) ?_)
      | (with_reducible refine wp_eq (c_Ca_answerOr (by omega) _ _ _ _ _) ?_; with_reducible refine wp_eq (b_Ca_answerOr_0 _ _ _ _ _ _) ?_)
      | (with_reducible refine wp_eq (c_Ca_agree (by omega) _ _ _) ?_; with_reducible refine wp_eq (b_Ca_agree_0 _ _ _ _) ?_)
      | (with_reducible refine wp_eq (c_Ca_deny (by omega) _ _ _ _) ?_; with_reducible refine wp_eq (b_Ca_deny_0 _ _ _ _ _) ?_)
      | with_reducible refine wp_eq (ew _ (by repeat' first | assumption | apply RelS.up | apply RelS.fill | (intros; unfold core k1 kTr kTp kLv kLp kMk kNw; omega))) ?_
      | (with_reducible apply wp_eq; (with_reducible apply lf_go; simp (disch := omega) only [not_false_eq_true, not_true_eq_false, w32_id, tLt, fLt, tLe, fEq, itE, and_true, true_and, and_self, and_false, false_and, ↓reduceIte, nat_add, nat_mul3, nat_mul4, nat_mul6, nat_mul15, nat_mul60, nat_cast, nc1, Int.reduceToNat, upE, upN, fill_ne, fill_in, i0, hct, hlw]; with_reducible exact rfl))
      | with_reducible apply wp_q1
    generalize hM1 : fillP M 48 W (A 0).toNat = M1
    have h1 : RelS xs M1 A N B P := by rw [← hM1]; exact (by repeat' first | assumption | apply RelS.up | apply RelS.fill | (intros; unfold core k1 kTr kTp kLv kLp kMk kNw; omega))
    have hct1 := h1.cnt
    have r48 : ∀ k, k < (A 0).toNat → M1 48 k = W k := fun k hk => by rw [← hM1]; exact fill_in rfl hk
    refine wp_eq (loop_up (fun k => Run (callD (100 - 1)) tb_Ca_share 56 [vR 11 0 3, vI (s : Int), vI (n : Int), vR 0 0 19, vI (sm W k), vI (k : Int)] [] (SH L) M1) (A 0).toNat ?_ 0 (by omega)) ?_
    · intro k hk
      have b1 := smW_bd (W := W) k wb
      have b2 := wb k
      rw [b_Ca_share_56, sm_s]
      repeat' first
        | (with_reducible apply bR_go; (simp (disch := omega) only [rM L, rK L, rN L, rNf, rNv, rNp, rNd, rRow, rLeg, rMark, nat_cast, Int.reduceToNat, hct1, r48]; with_reducible exact rfl))
        | with_reducible apply bI_go
        | with_reducible apply bV_go
        | with_reducible apply bL_go
        | (with_reducible apply it_1; (first | omega | (simp (disch := omega) only [not_false_eq_true, not_true_eq_false, w32_id, tLt, fLt, tLe, fEq, itE, and_true, true_and, and_self, and_false, false_and, ↓reduceIte, nat_add, nat_mul3, nat_mul4, nat_mul6, nat_mul15, nat_mul60, nat_cast, nc1, Int.reduceToNat, upE, upN, fill_ne, fill_in, i0, hct1, r48] <;> omega)))
        | (with_reducible apply it_2; (first | omega | (simp (disch := omega) only [not_false_eq_true, not_true_eq_false, w32_id, tLt, fLt, tLe, fEq, itE, and_true, true_and, and_self, and_false, false_and, ↓reduceIte, nat_add, nat_mul3, nat_mul4, nat_mul6, nat_mul15, nat_mul60, nat_cast, nc1, Int.reduceToNat, upE, upN, fill_ne, fill_in, i0, hct1, r48] <;> omega)))
        | (with_reducible refine cl_go ?_; simp (disch := omega) only [not_false_eq_true, not_true_eq_false, w32_id, tLt, fLt, tLe, fEq, itE, and_true, true_and, and_self, and_false, false_and, ↓reduceIte, nat_add, nat_mul3, nat_mul4, nat_mul6, nat_mul15, nat_mul60, nat_cast, nc1, Int.reduceToNat, upE, upN, fill_ne, fill_in, i0, hct1, r48])
        | (with_reducible refine rn_go ?_; simp (disch := omega) only [not_false_eq_true, not_true_eq_false, w32_id, tLt, fLt, tLe, fEq, itE, and_true, true_and, and_self, and_false, false_and, ↓reduceIte, nat_add, nat_mul3, nat_mul4, nat_mul6, nat_mul15, nat_mul60, nat_cast, nc1, Int.reduceToNat, upE, upN, fill_ne, fill_in, i0, hct1, r48])
        | (with_reducible refine lf_go ?_; simp (disch := omega) only [not_false_eq_true, not_true_eq_false, w32_id, tLt, fLt, tLe, fEq, itE, and_true, true_and, and_self, and_false, false_and, ↓reduceIte, nat_add, nat_mul3, nat_mul4, nat_mul6, nat_mul15, nat_mul60, nat_cast, nc1, Int.reduceToNat, upE, upN, fill_ne, fill_in, i0, hct1, r48])
        | with_reducible exact rfl
    · have mod : ∀ (M2 : Mm) (Q : Option AV → Sp → Mm → Prop), RelM M2 A → Wp (Run (callD (100 - 1)) tb_Mo_share 32 [vR 12 0 271, vI (s : Int), vI (n : Int), vI (sm W (A 0).toNat), vI ((A 0).toNat : Int)] [] (SH L) (fillP M2 280 (ldF A s) 8)) Q → Wp (callD 100 m_Mo_share [vR 12 0 271, vI (s : Int), vI (n : Int)] (SH L) M2) Q := fun M2 Q h2 hQ => by
        have hA := h2.1
        repeat' first
          | (with_reducible apply wp_bR; (simp (disch := omega) only [rM L, rK L, rN L, rNf, rNv, rNp, rNd, rRow, rLeg, rMark, nat_cast, Int.reduceToNat, hA]; with_reducible exact rfl))
          | with_reducible apply wp_bI
          | with_reducible apply wp_bV
          | with_reducible apply wp_bL
          | with_reducible apply wp_rI
          | with_reducible apply wp_rV
          | with_reducible apply wp_rL
          | (with_reducible apply wp_1; (first | omega | (simp (disch := omega) only [not_false_eq_true, not_true_eq_false, w32_id, tLt, fLt, tLe, fEq, itE, and_true, true_and, and_self, and_false, false_and, ↓reduceIte, nat_add, nat_mul3, nat_mul4, nat_mul6, nat_mul15, nat_mul60, nat_cast, nc1, Int.reduceToNat, upE, upN, fill_ne, fill_in, i0, hA] <;> omega)))
          | (with_reducible apply wp_2; (first | omega | (simp (disch := omega) only [not_false_eq_true, not_true_eq_false, w32_id, tLt, fLt, tLe, fEq, itE, and_true, true_and, and_self, and_false, false_and, ↓reduceIte, nat_add, nat_mul3, nat_mul4, nat_mul6, nat_mul15, nat_mul60, nat_cast, nc1, Int.reduceToNat, upE, upN, fill_ne, fill_in, i0, hA] <;> omega)))
          | (with_reducible apply wp_s; (first | (simp (disch := omega) only [not_false_eq_true, not_true_eq_false, w32_id, tLt, fLt, tLe, fEq, itE, and_true, true_and, and_self, and_false, false_and, ↓reduceIte, nat_add, nat_mul3, nat_mul4, nat_mul6, nat_mul15, nat_mul60, nat_cast, nc1, Int.reduceToNat, upE, upN, fill_ne, fill_in, i0, hA]; with_reducible exact Iff.rfl) | with_reducible exact Iff.rfl); intro hc__; (try subst hc__); rotate_left; intro hc__; rotate_left)
          | (with_reducible apply wp_eq; (with_reducible apply cl_go; simp (disch := omega) only [not_false_eq_true, not_true_eq_false, w32_id, tLt, fLt, tLe, fEq, itE, and_true, true_and, and_self, and_false, false_and, ↓reduceIte, nat_add, nat_mul3, nat_mul4, nat_mul6, nat_mul15, nat_mul60, nat_cast, nc1, Int.reduceToNat, upE, upN, fill_ne, fill_in, i0, hA]; with_reducible exact rfl))
          | (with_reducible refine wp_eq (c_Mo_share (by omega) _ _ _ _ _) ?_; with_reducible refine wp_eq (b_Mo_share_0 _ _ _ _ _ _) ?_)
          | (with_reducible refine wp_eq (c_Mo_isShip (by omega) _ _ _ _) ?_; with_reducible refine wp_eq (b_Mo_isShip_0 _ _ _ _ _) ?_)
          | (with_reducible refine wp_eq (c_Mo_isNation (by omega) _ _ _ _) ?_; with_reducible refine wp_eq (b_Mo_isNation_0 _ _ _ _ _) ?_)
          | (with_reducible refine wp_eq (c_Mo_isGood (by omega) _ _ _ _) ?_; with_reducible refine wp_eq (b_Mo_isGood_0 _ _ _ _ _) ?_)
          | (with_reducible refine wp_eq (c_Mo_isPort (by omega) _ _ _ _) ?_; with_reducible refine wp_eq (b_Mo_isPort_0 _ _ _ _ _) ?_)
          | (with_reducible refine wp_eq (c_Mo_areTwo (by omega) _ _ _ _ _) ?_; with_reducible refine wp_eq (b_Mo_areTwo_0 _ _ _ _ _ _) ?_)
          | (with_reducible refine wp_eq (c_Mo_gives (by omega) _ _ _ _) ?_; with_reducible refine wp_eq (b_Mo_gives_0 _ _ _ _ _) ?_)
          | (with_reducible refine wp_eq (c_Mo_refuse (by omega) _ _ _ _) ?_; with_reducible refine wp_eq (b_Mo_refuse_0 _ _ _ _ _) ?_)
          | (with_reducible refine wp_eq (c_Mo_orNone (by omega) _ _ _ _) ?_; with_reducible refine wp_eq (b_Mo_orNone_0 _ _ _ _ _) ?_)
          | (with_reducible refine wp_eq (c_Mo_orNothing (by omega) _ _ _ _) ?_; with_reducible refine wp_eq (b_Mo_orNothing_0 _ _ _ _ _) ?_)
          | (with_reducible refine wp_eq (c_Mo_is (by omega) _ _ _ _) ?_; with_reducible refine wp_eq (b_Mo_is_0 _ _ _ _ _) ?_)
          | (with_reducible refine wp_eq (c_Mo_isRule (by omega) _ _ _) ?_; with_reducible refine wp_eq (b_Mo_isRule_0 _ _ _ _) ?_)
          | (with_reducible refine wp_eq (c_Mo_isTons (by omega) _ _ _) ?_; with_reducible refine wp_eq (b_Mo_isTons_0 _ _ _ _) ?_)
          | (with_reducible refine wp_eq (c_Mo_isFrom (by omega) _ _ _ _ _) ?_; with_reducible refine wp_eq (b_Mo_isFrom_0 _ _ _ _ _ _) ?_)
          | (with_reducible refine wp_eq (c_Mo_isTray (by omega) _ _ _) ?_; with_reducible refine wp_eq (b_Mo_isTray_0 _ _ _ _) ?_)
          | with_reducible refine wp_eq (q_loads (by omega) h2 (by omega) (by omega)) ?_
          | (with_reducible apply wp_eq; (with_reducible apply lf_go; simp (disch := omega) only [not_false_eq_true, not_true_eq_false, w32_id, tLt, fLt, tLe, fEq, itE, and_true, true_and, and_self, and_false, false_and, ↓reduceIte, nat_add, nat_mul3, nat_mul4, nat_mul6, nat_mul15, nat_mul60, nat_cast, nc1, Int.reduceToNat, upE, upN, fill_ne, fill_in, i0, hA]; with_reducible exact rfl))
          | with_reducible apply wp_q1
        rw [show ((s : Int)).toNat = s from rfl]
        generalize hM3 : fillP M2 280 (ldF A s) 8 = M3 at *
        have h3 : RelM M3 A := by rw [← hM3]; exact h2.fill (by omega)
        have hA := h3.1
        have hl3 : ∀ g, g < 8 → M3 280 g = ldF A s g := fun g hg => by rw [← hM3]; exact fill_in rfl hg
        refine wp_eq (loop_up (fun k => Run (callD (100 - 1)) tb_Mo_share 32 [vR 12 0 271, vI (s : Int), vI (n : Int), vI (sm W k), vI (k : Int)] [] (SH L) M3) (A 0).toNat ?_ 0 (by omega)) hQ
        intro k hk
        have b1 := smW_bd (W := W) k wb
        have b2 := wb k
        rw [b_Mo_share_32, sm_s]
        repeat' first
          | (with_reducible apply bR_go; (simp (disch := omega) only [rM L, rK L, rN L, rNf, rNv, rNp, rNd, rRow, rLeg, rMark, nat_cast, Int.reduceToNat, hA]; with_reducible exact rfl))
          | with_reducible apply bI_go
          | with_reducible apply bV_go
          | with_reducible apply bL_go
          | (with_reducible apply it_1; (first | omega | (simp (disch := omega) only [not_false_eq_true, not_true_eq_false, w32_id, tLt, fLt, tLe, fEq, itE, and_true, true_and, and_self, and_false, false_and, ↓reduceIte, nat_add, nat_mul3, nat_mul4, nat_mul6, nat_mul15, nat_mul60, nat_cast, nc1, Int.reduceToNat, upE, upN, fill_ne, fill_in, i0, hA] <;> omega)))
          | (with_reducible apply it_2; (first | omega | (simp (disch := omega) only [not_false_eq_true, not_true_eq_false, w32_id, tLt, fLt, tLe, fEq, itE, and_true, true_and, and_self, and_false, false_and, ↓reduceIte, nat_add, nat_mul3, nat_mul4, nat_mul6, nat_mul15, nat_mul60, nat_cast, nc1, Int.reduceToNat, upE, upN, fill_ne, fill_in, i0, hA] <;> omega)))
          | (with_reducible refine cl_go ?_; simp (disch := omega) only [not_false_eq_true, not_true_eq_false, w32_id, tLt, fLt, tLe, fEq, itE, and_true, true_and, and_self, and_false, false_and, ↓reduceIte, nat_add, nat_mul3, nat_mul4, nat_mul6, nat_mul15, nat_mul60, nat_cast, nc1, Int.reduceToNat, upE, upN, fill_ne, fill_in, i0, hA])
          | with_reducible exact eo M3 h3 hl3 k
          | (with_reducible refine rn_go ?_; simp (disch := omega) only [not_false_eq_true, not_true_eq_false, w32_id, tLt, fLt, tLe, fEq, itE, and_true, true_and, and_self, and_false, false_and, ↓reduceIte, nat_add, nat_mul3, nat_mul4, nat_mul6, nat_mul15, nat_mul60, nat_cast, nc1, Int.reduceToNat, upE, upN, fill_ne, fill_in, i0, hA])
          | (with_reducible refine lf_go ?_; simp (disch := omega) only [not_false_eq_true, not_true_eq_false, w32_id, tLt, fLt, tLe, fEq, itE, and_true, true_and, and_self, and_false, false_and, ↓reduceIte, nat_add, nat_mul3, nat_mul4, nat_mul6, nat_mul15, nat_mul60, nat_cast, nc1, Int.reduceToNat, upE, upN, fill_ne, fill_in, i0, hA])
          | with_reducible exact rfl
      by_cases z : sm W (A 0).toNat = 0
      · refine wp_eq (b_Ca_share_56 _ _ _ _ _ _ _ _ _) ?_
        repeat' first
          | (with_reducible apply wp_bR; (simp (disch := omega) only [rM L, rK L, rN L, rNf, rNv, rNp, rNd, rRow, rLeg, rMark, nat_cast, Int.reduceToNat, hct1, r48]; with_reducible exact rfl))
          | with_reducible apply wp_bI
          | with_reducible apply wp_bV
          | with_reducible apply wp_bL
          | with_reducible apply wp_rI
          | with_reducible apply wp_rV
          | with_reducible apply wp_rL
          | (with_reducible apply wp_1; (first | omega | (simp (disch := omega) only [not_false_eq_true, not_true_eq_false, w32_id, tLt, fLt, tLe, fEq, itE, and_true, true_and, and_self, and_false, false_and, ↓reduceIte, nat_add, nat_mul3, nat_mul4, nat_mul6, nat_mul15, nat_mul60, nat_cast, nc1, Int.reduceToNat, upE, upN, fill_ne, fill_in, i0, hct1, r48] <;> omega)))
          | (with_reducible apply wp_2; (first | omega | (simp (disch := omega) only [not_false_eq_true, not_true_eq_false, w32_id, tLt, fLt, tLe, fEq, itE, and_true, true_and, and_self, and_false, false_and, ↓reduceIte, nat_add, nat_mul3, nat_mul4, nat_mul6, nat_mul15, nat_mul60, nat_cast, nc1, Int.reduceToNat, upE, upN, fill_ne, fill_in, i0, hct1, r48] <;> omega)))
          | (with_reducible apply wp_s; (first | (simp (disch := omega) only [not_false_eq_true, not_true_eq_false, w32_id, tLt, fLt, tLe, fEq, itE, and_true, true_and, and_self, and_false, false_and, ↓reduceIte, nat_add, nat_mul3, nat_mul4, nat_mul6, nat_mul15, nat_mul60, nat_cast, nc1, Int.reduceToNat, upE, upN, fill_ne, fill_in, i0, hct1, r48]; with_reducible exact Iff.rfl) | with_reducible exact Iff.rfl); intro hc__; (try subst hc__); rotate_left; intro hc__; rotate_left)
          | (with_reducible apply wp_eq; (with_reducible apply cl_go; simp (disch := omega) only [not_false_eq_true, not_true_eq_false, w32_id, tLt, fLt, tLe, fEq, itE, and_true, true_and, and_self, and_false, false_and, ↓reduceIte, nat_add, nat_mul3, nat_mul4, nat_mul6, nat_mul15, nat_mul60, nat_cast, nc1, Int.reduceToNat, upE, upN, fill_ne, fill_in, i0, hct1, r48]; with_reducible exact rfl))
          | (with_reducible refine wp_eq (c_Ca_within (by omega) _ _ _ _ _) ?_; with_reducible refine wp_eq (b_Ca_within_0 _ _ _ _ _ _) ?_)
          | (with_reducible refine wp_eq (c_Ca_isShip (by omega) _ _ _ _) ?_; with_reducible refine wp_eq (b_Ca_isShip_0 _ _ _ _ _) ?_)
          | (with_reducible refine wp_eq (c_Ca_isNation (by omega) _ _ _ _) ?_; with_reducible refine wp_eq (b_Ca_isNation_0 _ _ _ _ _) ?_)
          | (with_reducible refine wp_eq (c_Ca_isGood (by omega) _ _ _ _) ?_; with_reducible refine wp_eq (b_Ca_isGood_0 _ _ _ _ _) ?_)
          | (with_reducible refine wp_eq (c_Ca_isPort (by omega) _ _ _ _) ?_; with_reducible refine wp_eq (b_Ca_isPort_0 _ _ _ _ _) ?_)
          | (with_reducible refine wp_eq (c_Ca_areTwo (by omega) _ _ _ _ _ _) ?_; with_reducible refine wp_eq (b_Ca_areTwo_0 _ _ _ _ _ _ _) ?_)
          | (with_reducible refine wp_eq (c_Ca_answer (by omega) _ _ _ _) ?_; with_reducible refine wp_eq (b_Ca_answer_0 _ _ _ _ _) ?_)
          | (with_reducible refine wp_eq (c_Ca_refuse (by omega) _ _ _ _) ?_; with_reducible refine wp_eq (b_Ca_refuse_0 _ _ _ _ _) ?_)
          | (with_reducible refine wp_eq (c_Ca_answerOr (by omega) _ _ _ _ _) ?_; with_reducible refine wp_eq (b_Ca_answerOr_0 _ _ _ _ _ _) ?_)
          | (with_reducible refine wp_eq (c_Ca_agree (by omega) _ _ _) ?_; with_reducible refine wp_eq (b_Ca_agree_0 _ _ _ _) ?_)
          | (with_reducible refine wp_eq (c_Ca_deny (by omega) _ _ _ _) ?_; with_reducible refine wp_eq (b_Ca_deny_0 _ _ _ _ _) ?_)
          | (with_reducible apply wp_eq; (with_reducible apply lf_go; simp (disch := omega) only [not_false_eq_true, not_true_eq_false, w32_id, tLt, fLt, tLe, fEq, itE, and_true, true_and, and_self, and_false, false_and, ↓reduceIte, nat_add, nat_mul3, nat_mul4, nat_mul6, nat_mul15, nat_mul60, nat_cast, nc1, Int.reduceToNat, upE, upN, fill_ne, fill_in, i0, hct1, r48]; with_reducible exact rfl))
          | with_reducible apply wp_q1
        refine mod _ _ (h1.rm.up (by omega)) ?_
        have hA := h1.hA
        refine wp_eq (b_Mo_share_32 _ _ _ _ _ _ _ _) ?_
        repeat' first
          | (with_reducible apply wp_bR; (simp (disch := omega) only [rM L, rK L, rN L, rNf, rNv, rNp, rNd, rRow, rLeg, rMark, nat_cast, Int.reduceToNat, hA]; with_reducible exact rfl))
          | with_reducible apply wp_bI
          | with_reducible apply wp_bV
          | with_reducible apply wp_bL
          | with_reducible apply wp_rI
          | with_reducible apply wp_rV
          | with_reducible apply wp_rL
          | (with_reducible apply wp_1; (first | omega | (simp (disch := omega) only [not_false_eq_true, not_true_eq_false, w32_id, tLt, fLt, tLe, fEq, itE, and_true, true_and, and_self, and_false, false_and, ↓reduceIte, nat_add, nat_mul3, nat_mul4, nat_mul6, nat_mul15, nat_mul60, nat_cast, nc1, Int.reduceToNat, upE, upN, fill_ne, fill_in, i0, hA] <;> omega)))
          | (with_reducible apply wp_2; (first | omega | (simp (disch := omega) only [not_false_eq_true, not_true_eq_false, w32_id, tLt, fLt, tLe, fEq, itE, and_true, true_and, and_self, and_false, false_and, ↓reduceIte, nat_add, nat_mul3, nat_mul4, nat_mul6, nat_mul15, nat_mul60, nat_cast, nc1, Int.reduceToNat, upE, upN, fill_ne, fill_in, i0, hA] <;> omega)))
          | (with_reducible apply wp_s; (first | (simp (disch := omega) only [not_false_eq_true, not_true_eq_false, w32_id, tLt, fLt, tLe, fEq, itE, and_true, true_and, and_self, and_false, false_and, ↓reduceIte, nat_add, nat_mul3, nat_mul4, nat_mul6, nat_mul15, nat_mul60, nat_cast, nc1, Int.reduceToNat, upE, upN, fill_ne, fill_in, i0, hA]; with_reducible exact Iff.rfl) | with_reducible exact Iff.rfl); intro hc__; (try subst hc__); rotate_left; intro hc__; rotate_left)
          | (with_reducible apply wp_eq; (with_reducible apply cl_go; simp (disch := omega) only [not_false_eq_true, not_true_eq_false, w32_id, tLt, fLt, tLe, fEq, itE, and_true, true_and, and_self, and_false, false_and, ↓reduceIte, nat_add, nat_mul3, nat_mul4, nat_mul6, nat_mul15, nat_mul60, nat_cast, nc1, Int.reduceToNat, upE, upN, fill_ne, fill_in, i0, hA]; with_reducible exact rfl))
          | (with_reducible refine wp_eq (c_Mo_isShip (by omega) _ _ _ _) ?_; with_reducible refine wp_eq (b_Mo_isShip_0 _ _ _ _ _) ?_)
          | (with_reducible refine wp_eq (c_Mo_isNation (by omega) _ _ _ _) ?_; with_reducible refine wp_eq (b_Mo_isNation_0 _ _ _ _ _) ?_)
          | (with_reducible refine wp_eq (c_Mo_isGood (by omega) _ _ _ _) ?_; with_reducible refine wp_eq (b_Mo_isGood_0 _ _ _ _ _) ?_)
          | (with_reducible refine wp_eq (c_Mo_isPort (by omega) _ _ _ _) ?_; with_reducible refine wp_eq (b_Mo_isPort_0 _ _ _ _ _) ?_)
          | (with_reducible refine wp_eq (c_Mo_areTwo (by omega) _ _ _ _ _) ?_; with_reducible refine wp_eq (b_Mo_areTwo_0 _ _ _ _ _ _) ?_)
          | (with_reducible refine wp_eq (c_Mo_gives (by omega) _ _ _ _) ?_; with_reducible refine wp_eq (b_Mo_gives_0 _ _ _ _ _) ?_)
          | (with_reducible refine wp_eq (c_Mo_refuse (by omega) _ _ _ _) ?_; with_reducible refine wp_eq (b_Mo_refuse_0 _ _ _ _ _) ?_)
          | (with_reducible refine wp_eq (c_Mo_orNone (by omega) _ _ _ _) ?_; with_reducible refine wp_eq (b_Mo_orNone_0 _ _ _ _ _) ?_)
          | (with_reducible refine wp_eq (c_Mo_orNothing (by omega) _ _ _ _) ?_; with_reducible refine wp_eq (b_Mo_orNothing_0 _ _ _ _ _) ?_)
          | (with_reducible refine wp_eq (c_Mo_is (by omega) _ _ _ _) ?_; with_reducible refine wp_eq (b_Mo_is_0 _ _ _ _ _) ?_)
          | (with_reducible refine wp_eq (c_Mo_isRule (by omega) _ _ _) ?_; with_reducible refine wp_eq (b_Mo_isRule_0 _ _ _ _) ?_)
          | (with_reducible refine wp_eq (c_Mo_isTons (by omega) _ _ _) ?_; with_reducible refine wp_eq (b_Mo_isTons_0 _ _ _ _) ?_)
          | (with_reducible refine wp_eq (c_Mo_isFrom (by omega) _ _ _ _ _) ?_; with_reducible refine wp_eq (b_Mo_isFrom_0 _ _ _ _ _ _) ?_)
          | (with_reducible refine wp_eq (c_Mo_isTray (by omega) _ _ _) ?_; with_reducible refine wp_eq (b_Mo_isTray_0 _ _ _ _) ?_)
          | (with_reducible apply wp_eq; (with_reducible apply lf_go; simp (disch := omega) only [not_false_eq_true, not_true_eq_false, w32_id, tLt, fLt, tLe, fEq, itE, and_true, true_and, and_self, and_false, false_and, ↓reduceIte, nat_add, nat_mul3, nat_mul4, nat_mul6, nat_mul15, nat_mul60, nat_cast, nc1, Int.reduceToNat, upE, upN, fill_ne, fill_in, i0, hA]; with_reducible exact rfl))
          | with_reducible apply wp_q1
        refine wp_ask (A := A) (N := N) (B := B) (P := P) rfl ?_ ?_
        · exact (by repeat' first | assumption | apply RelS.up | apply RelS.fill | (intros; unfold core k1 kTr kTp kLv kLp kMk kNw; omega))
        · simp (disch := omega) only [not_false_eq_true, not_true_eq_false, w32_id, tLt, fLt, tLe, fEq, itE, and_true, true_and, and_self, and_false, false_and, ↓reduceIte, nat_add, nat_mul3, nat_mul4, nat_mul6, nat_mul15, nat_mul60, nat_cast, nc1, Int.reduceToNat, upE, upN, fill_ne, fill_in, i0]
      · have rn : M1 48 n = W n := r48 n (by omega)
        have wn := wb n
        refine wp_eq (b_Ca_share_56 _ _ _ _ _ _ _ _ _) ?_
        repeat' first
          | (with_reducible apply wp_bR; (simp (disch := omega) only [rM L, rK L, rN L, rNf, rNv, rNp, rNd, rRow, rLeg, rMark, nat_cast, Int.reduceToNat, hct1, rn]; with_reducible exact rfl))
          | with_reducible apply wp_bI
          | with_reducible apply wp_bV
          | with_reducible apply wp_bL
          | with_reducible apply wp_rI
          | with_reducible apply wp_rV
          | with_reducible apply wp_rL
          | (with_reducible apply wp_1; (first | omega | (simp (disch := omega) only [not_false_eq_true, not_true_eq_false, w32_id, tLt, fLt, tLe, fEq, itE, and_true, true_and, and_self, and_false, false_and, ↓reduceIte, nat_add, nat_mul3, nat_mul4, nat_mul6, nat_mul15, nat_mul60, nat_cast, nc1, Int.reduceToNat, upE, upN, fill_ne, fill_in, i0, hct1, rn] <;> omega)))
          | (with_reducible apply wp_2; (first | omega | (simp (disch := omega) only [not_false_eq_true, not_true_eq_false, w32_id, tLt, fLt, tLe, fEq, itE, and_true, true_and, and_self, and_false, false_and, ↓reduceIte, nat_add, nat_mul3, nat_mul4, nat_mul6, nat_mul15, nat_mul60, nat_cast, nc1, Int.reduceToNat, upE, upN, fill_ne, fill_in, i0, hct1, rn] <;> omega)))
          | (with_reducible apply wp_s; (first | (simp (disch := omega) only [not_false_eq_true, not_true_eq_false, w32_id, tLt, fLt, tLe, fEq, itE, and_true, true_and, and_self, and_false, false_and, ↓reduceIte, nat_add, nat_mul3, nat_mul4, nat_mul6, nat_mul15, nat_mul60, nat_cast, nc1, Int.reduceToNat, upE, upN, fill_ne, fill_in, i0, hct1, rn]; with_reducible exact Iff.rfl) | with_reducible exact Iff.rfl); intro hc__; (try subst hc__); rotate_left; intro hc__; rotate_left)
          | (with_reducible apply wp_eq; (with_reducible apply cl_go; simp (disch := omega) only [not_false_eq_true, not_true_eq_false, w32_id, tLt, fLt, tLe, fEq, itE, and_true, true_and, and_self, and_false, false_and, ↓reduceIte, nat_add, nat_mul3, nat_mul4, nat_mul6, nat_mul15, nat_mul60, nat_cast, nc1, Int.reduceToNat, upE, upN, fill_ne, fill_in, i0, hct1, rn]; with_reducible exact rfl))
          | (with_reducible refine wp_eq (c_Ca_within (by omega) _ _ _ _ _) ?_; with_reducible refine wp_eq (b_Ca_within_0 _ _ _ _ _ _) ?_)
          | (with_reducible refine wp_eq (c_Ca_isShip (by omega) _ _ _ _) ?_; with_reducible refine wp_eq (b_Ca_isShip_0 _ _ _ _ _) ?_)
          | (with_reducible refine wp_eq (c_Ca_isNation (by omega) _ _ _ _) ?_; with_reducible refine wp_eq (b_Ca_isNation_0 _ _ _ _ _) ?_)
          | (with_reducible refine wp_eq (c_Ca_isGood (by omega) _ _ _ _) ?_; with_reducible refine wp_eq (b_Ca_isGood_0 _ _ _ _ _) ?_)
          | (with_reducible refine wp_eq (c_Ca_isPort (by omega) _ _ _ _) ?_; with_reducible refine wp_eq (b_Ca_isPort_0 _ _ _ _ _) ?_)
          | (with_reducible refine wp_eq (c_Ca_areTwo (by omega) _ _ _ _ _ _) ?_; with_reducible refine wp_eq (b_Ca_areTwo_0 _ _ _ _ _ _ _) ?_)
          | (with_reducible refine wp_eq (c_Ca_answer (by omega) _ _ _ _) ?_; with_reducible refine wp_eq (b_Ca_answer_0 _ _ _ _ _) ?_)
          | (with_reducible refine wp_eq (c_Ca_refuse (by omega) _ _ _ _) ?_; with_reducible refine wp_eq (b_Ca_refuse_0 _ _ _ _ _) ?_)
          | (with_reducible refine wp_eq (c_Ca_answerOr (by omega) _ _ _ _ _) ?_; with_reducible refine wp_eq (b_Ca_answerOr_0 _ _ _ _ _ _) ?_)
          | (with_reducible refine wp_eq (c_Ca_agree (by omega) _ _ _) ?_; with_reducible refine wp_eq (b_Ca_agree_0 _ _ _ _) ?_)
          | (with_reducible refine wp_eq (c_Ca_deny (by omega) _ _ _ _) ?_; with_reducible refine wp_eq (b_Ca_deny_0 _ _ _ _ _) ?_)
          | with_reducible refine wp_eq (n_tell (by omega) (by omega) (by omega) (by omega)) ?_
          | (with_reducible apply wp_eq; (with_reducible apply lf_go; simp (disch := omega) only [not_false_eq_true, not_true_eq_false, w32_id, tLt, fLt, tLe, fEq, itE, and_true, true_and, and_self, and_false, false_and, ↓reduceIte, nat_add, nat_mul3, nat_mul4, nat_mul6, nat_mul15, nat_mul60, nat_cast, nc1, Int.reduceToNat, upE, upN, fill_ne, fill_in, i0, hct1, rn]; with_reducible exact rfl))
          | with_reducible apply wp_q1
        refine mod _ _ (by repeat' first | exact h1.rm | apply RelM.up | omega) ?_
        generalize hM4 : fillP (up (up (up M1 3 16 (frT (W n) (sm W (A 0).toNat))) 3 17 (frB (W n) (sm W (A 0).toNat))) 3 15 0) 280 (ldF A s) 8 = M4
        have h4 : RelM M4 A := by rw [← hM4]; repeat' first | exact h1.rm | apply RelM.up | apply RelM.fill | omega
        have hl4 : ∀ g, g < 8 → M4 280 g = ldF A s g := fun g hg => by rw [← hM4]; exact fill_in rfl hg
        have hA := h4.1
        refine wp_eq (b_Mo_share_32 _ _ _ _ _ _ _ _) ?_
        repeat' first
          | (with_reducible apply wp_bR; (simp (disch := omega) only [rM L, rK L, rN L, rNf, rNv, rNp, rNd, rRow, rLeg, rMark, nat_cast, Int.reduceToNat, hA]; with_reducible exact rfl))
          | with_reducible apply wp_bI
          | with_reducible apply wp_bV
          | with_reducible apply wp_bL
          | with_reducible apply wp_rI
          | with_reducible apply wp_rV
          | with_reducible apply wp_rL
          | (with_reducible apply wp_1; (first | omega | (simp (disch := omega) only [not_false_eq_true, not_true_eq_false, w32_id, tLt, fLt, tLe, fEq, itE, and_true, true_and, and_self, and_false, false_and, ↓reduceIte, nat_add, nat_mul3, nat_mul4, nat_mul6, nat_mul15, nat_mul60, nat_cast, nc1, Int.reduceToNat, upE, upN, fill_ne, fill_in, i0, hA] <;> omega)))
          | (with_reducible apply wp_2; (first | omega | (simp (disch := omega) only [not_false_eq_true, not_true_eq_false, w32_id, tLt, fLt, tLe, fEq, itE, and_true, true_and, and_self, and_false, false_and, ↓reduceIte, nat_add, nat_mul3, nat_mul4, nat_mul6, nat_mul15, nat_mul60, nat_cast, nc1, Int.reduceToNat, upE, upN, fill_ne, fill_in, i0, hA] <;> omega)))
          | (with_reducible apply wp_s; (first | (simp (disch := omega) only [not_false_eq_true, not_true_eq_false, w32_id, tLt, fLt, tLe, fEq, itE, and_true, true_and, and_self, and_false, false_and, ↓reduceIte, nat_add, nat_mul3, nat_mul4, nat_mul6, nat_mul15, nat_mul60, nat_cast, nc1, Int.reduceToNat, upE, upN, fill_ne, fill_in, i0, hA]; with_reducible exact Iff.rfl) | with_reducible exact Iff.rfl); intro hc__; (try subst hc__); rotate_left; intro hc__; rotate_left)
          | (with_reducible apply wp_eq; (with_reducible apply cl_go; simp (disch := omega) only [not_false_eq_true, not_true_eq_false, w32_id, tLt, fLt, tLe, fEq, itE, and_true, true_and, and_self, and_false, false_and, ↓reduceIte, nat_add, nat_mul3, nat_mul4, nat_mul6, nat_mul15, nat_mul60, nat_cast, nc1, Int.reduceToNat, upE, upN, fill_ne, fill_in, i0, hA]; with_reducible exact rfl))
          | with_reducible refine wp_eq (eo M4 h4 hl4 n) ?_
          | with_reducible refine wp_eq (n_tells (by omega) (by omega) (by omega) (by omega)) ?_
          | (with_reducible apply wp_eq; (with_reducible apply lf_go; simp (disch := omega) only [not_false_eq_true, not_true_eq_false, w32_id, tLt, fLt, tLe, fEq, itE, and_true, true_and, and_self, and_false, false_and, ↓reduceIte, nat_add, nat_mul3, nat_mul4, nat_mul6, nat_mul15, nat_mul60, nat_cast, nc1, Int.reduceToNat, upE, upN, fill_ne, fill_in, i0, hA]; with_reducible exact rfl))
          | with_reducible apply wp_q1
        refine wp_q2 (A := A) (N := N) (B := B) (P := P) ⟨?_, h1.kk1 (fun b j hb hk => ?_) ?_⟩
        · rw [← hM4]
          simp (disch := omega) only [not_false_eq_true, not_true_eq_false, w32_id, tLt, fLt, tLe, fEq, itE, and_true, true_and, and_self, and_false, false_and, ↓reduceIte, nat_add, nat_mul3, nat_mul4, nat_mul6, nat_mul15, nat_mul60, nat_cast, nc1, Int.reduceToNat, upE, upN, fill_ne, fill_in, i0]
        · rw [← hM4]
          unfold k1 at hk
          unfold core k1 kTr kTp kLv kLp kMk kNw at hb
          simp (disch := omega) only [upN, fill_ne]
        · have q := h1.2.1
          unfold R1 at q ⊢
          rw [← hM4]
          simp (disch := omega) only [upN, upE, fill_ne]
          exact ⟨trivial, trivial, q.2.2⟩
  · repeat' first
      | (with_reducible apply wp_bR; (simp (disch := omega) only [rM L, rK L, rN L, rNf, rNv, rNp, rNd, rRow, rLeg, rMark, nat_cast, Int.reduceToNat, hA, hct]; with_reducible exact rfl))
      | with_reducible apply wp_bI
      | with_reducible apply wp_bV
      | with_reducible apply wp_bL
      | with_reducible apply wp_rI
      | with_reducible apply wp_rV
      | with_reducible apply wp_rL
      | (with_reducible apply wp_1; (first | omega | (simp (disch := omega) only [not_false_eq_true, not_true_eq_false, w32_id, tLt, fLt, tLe, fEq, itE, and_true, true_and, and_self, and_false, false_and, ↓reduceIte, nat_add, nat_mul3, nat_mul4, nat_mul6, nat_mul15, nat_mul60, nat_cast, nc1, Int.reduceToNat, upE, upN, fill_ne, fill_in, i0, hA, hct] <;> omega)))
      | (with_reducible apply wp_2; (first | omega | (simp (disch := omega) only [not_false_eq_true, not_true_eq_false, w32_id, tLt, fLt, tLe, fEq, itE, and_true, true_and, and_self, and_false, false_and, ↓reduceIte, nat_add, nat_mul3, nat_mul4, nat_mul6, nat_mul15, nat_mul60, nat_cast, nc1, Int.reduceToNat, upE, upN, fill_ne, fill_in, i0, hA, hct] <;> omega)))
      | (with_reducible apply wp_s; (first | (simp (disch := omega) only [not_false_eq_true, not_true_eq_false, w32_id, tLt, fLt, tLe, fEq, itE, and_true, true_and, and_self, and_false, false_and, ↓reduceIte, nat_add, nat_mul3, nat_mul4, nat_mul6, nat_mul15, nat_mul60, nat_cast, nc1, Int.reduceToNat, upE, upN, fill_ne, fill_in, i0, hA, hct]; with_reducible exact Iff.rfl) | with_reducible exact Iff.rfl); intro hc__; (try subst hc__); rotate_left; intro hc__; rotate_left)
      | (with_reducible apply wp_eq; (with_reducible apply cl_go; simp (disch := omega) only [not_false_eq_true, not_true_eq_false, w32_id, tLt, fLt, tLe, fEq, itE, and_true, true_and, and_self, and_false, false_and, ↓reduceIte, nat_add, nat_mul3, nat_mul4, nat_mul6, nat_mul15, nat_mul60, nat_cast, nc1, Int.reduceToNat, upE, upN, fill_ne, fill_in, i0, hA, hct]; with_reducible exact rfl))
      | (with_reducible refine wp_eq (c_Ca_share (by omega) _ _ _ _ _) ?_; with_reducible refine wp_eq (b_Ca_share_0 _ _ _ _ _ _) ?_)
      | (with_reducible refine wp_eq (c_Ca_within (by omega) _ _ _ _ _) ?_; with_reducible refine wp_eq (b_Ca_within_0 _ _ _ _ _ _) ?_)
      | (with_reducible refine wp_eq (c_Ca_isShip (by omega) _ _ _ _) ?_; with_reducible refine wp_eq (b_Ca_isShip_0 _ _ _ _ _) ?_)
      | (with_reducible refine wp_eq (c_Ca_isNation (by omega) _ _ _ _) ?_; with_reducible refine wp_eq (b_Ca_isNation_0 _ _ _ _ _) ?_)
      | (with_reducible refine wp_eq (c_Ca_isGood (by omega) _ _ _ _) ?_; with_reducible refine wp_eq (b_Ca_isGood_0 _ _ _ _ _) ?_)
      | (with_reducible refine wp_eq (c_Ca_isPort (by omega) _ _ _ _) ?_; with_reducible refine wp_eq (b_Ca_isPort_0 _ _ _ _ _) ?_)
      | (with_reducible refine wp_eq (c_Ca_areTwo (by omega) _ _ _ _ _ _) ?_; with_reducible refine wp_eq (b_Ca_areTwo_0 _ _ _ _ _ _ _) ?_)
      | (with_reducible refine wp_eq (c_Ca_answer (by omega) _ _ _ _) ?_; with_reducible refine wp_eq (b_Ca_answer_0 _ _ _ _ _) ?_)
      | (with_reducible refine wp_eq (c_Ca_refuse (by omega) _ _ _ _) ?_; with_reducible refine wp_eq (b_Ca_refuse_0 _ _ _ _ _) ?_)
      | (with_reducible refine wp_eq (c_Ca_answerOr (by omega) _ _ _ _ _) ?_; with_reducible refine wp_eq (b_Ca_answerOr_0 _ _ _ _ _ _) ?_)
      | (with_reducible refine wp_eq (c_Ca_agree (by omega) _ _ _) ?_; with_reducible refine wp_eq (b_Ca_agree_0 _ _ _ _) ?_)
      | (with_reducible refine wp_eq (c_Ca_deny (by omega) _ _ _ _) ?_; with_reducible refine wp_eq (b_Ca_deny_0 _ _ _ _ _) ?_)
      | (with_reducible refine wp_eq (c_Mo_share (by omega) _ _ _ _ _) ?_; with_reducible refine wp_eq (b_Mo_share_0 _ _ _ _ _ _) ?_)
      | (with_reducible refine wp_eq (c_Mo_isShip (by omega) _ _ _ _) ?_; with_reducible refine wp_eq (b_Mo_isShip_0 _ _ _ _ _) ?_)
      | (with_reducible refine wp_eq (c_Mo_isNation (by omega) _ _ _ _) ?_; with_reducible refine wp_eq (b_Mo_isNation_0 _ _ _ _ _) ?_)
      | (with_reducible refine wp_eq (c_Mo_isGood (by omega) _ _ _ _) ?_; with_reducible refine wp_eq (b_Mo_isGood_0 _ _ _ _ _) ?_)
      | (with_reducible refine wp_eq (c_Mo_isPort (by omega) _ _ _ _) ?_; with_reducible refine wp_eq (b_Mo_isPort_0 _ _ _ _ _) ?_)
      | (with_reducible refine wp_eq (c_Mo_areTwo (by omega) _ _ _ _ _) ?_; with_reducible refine wp_eq (b_Mo_areTwo_0 _ _ _ _ _ _) ?_)
      | (with_reducible refine wp_eq (c_Mo_gives (by omega) _ _ _ _) ?_; with_reducible refine wp_eq (b_Mo_gives_0 _ _ _ _ _) ?_)
      | (with_reducible refine wp_eq (c_Mo_refuse (by omega) _ _ _ _) ?_; with_reducible refine wp_eq (b_Mo_refuse_0 _ _ _ _ _) ?_)
      | (with_reducible refine wp_eq (c_Mo_orNone (by omega) _ _ _ _) ?_; with_reducible refine wp_eq (b_Mo_orNone_0 _ _ _ _ _) ?_)
      | (with_reducible refine wp_eq (c_Mo_orNothing (by omega) _ _ _ _) ?_; with_reducible refine wp_eq (b_Mo_orNothing_0 _ _ _ _ _) ?_)
      | (with_reducible refine wp_eq (c_Mo_is (by omega) _ _ _ _) ?_; with_reducible refine wp_eq (b_Mo_is_0 _ _ _ _ _) ?_)
      | (with_reducible refine wp_eq (c_Mo_isRule (by omega) _ _ _) ?_; with_reducible refine wp_eq (b_Mo_isRule_0 _ _ _ _) ?_)
      | (with_reducible refine wp_eq (c_Mo_isTons (by omega) _ _ _) ?_; with_reducible refine wp_eq (b_Mo_isTons_0 _ _ _ _) ?_)
      | (with_reducible refine wp_eq (c_Mo_isFrom (by omega) _ _ _ _ _) ?_; with_reducible refine wp_eq (b_Mo_isFrom_0 _ _ _ _ _ _) ?_)
      | (with_reducible refine wp_eq (c_Mo_isTray (by omega) _ _ _) ?_; with_reducible refine wp_eq (b_Mo_isTray_0 _ _ _ _) ?_)
      | (with_reducible apply wp_eq; (with_reducible apply lf_go; simp (disch := omega) only [not_false_eq_true, not_true_eq_false, w32_id, tLt, fLt, tLe, fEq, itE, and_true, true_and, and_self, and_false, false_and, ↓reduceIte, nat_add, nat_mul3, nat_mul4, nat_mul6, nat_mul15, nat_mul60, nat_cast, nc1, Int.reduceToNat, upE, upN, fill_ne, fill_in, i0, hA, hct]; with_reducible exact rfl))
      | with_reducible apply wp_q1
    all_goals exact wp_ask (by first | rfl | exact congrArg (fun z => some (vI z)) (by omega) | simp (disch := omega) only [not_false_eq_true, not_true_eq_false, w32_id, tLt, fLt, tLe, fEq, itE, and_true, true_and, and_self, and_false, false_and, ↓reduceIte, nat_add, nat_mul3, nat_mul4, nat_mul6, nat_mul15, nat_mul60, nat_cast, nc1, Int.reduceToNat, upE, upN, fill_ne, fill_in, i0]) (by repeat' first | assumption | apply RelS.up | apply RelS.fill | (intros; unfold core k1 kTr kTp kLv kLp kMk kNw; omega)) (by first | assumption | simp (disch := omega) only [upE, upN, fill_ne])

/-! NAMES, class and model side by side -/
theorem nm_iff {x y : Int} (h : nmR x y) {w : List Nat} (hw : okW w) : x = cod 32 0 w 0 ↔ y = cod 256 96 w 0 := by
  obtain ⟨v, _, _, v3, rfl, rfl⟩ := h
  have hv : okW v := v3
  constructor
  · intro e
    rw [cod_inj (b := 32) (o := 0) (by omega) (by omega) _ _ _ rfl hv hw e]
  · intro e
    rw [cod_inj (b := 256) (o := 96) (by omega) (by omega) _ _ _ rfl hv hw e]
def NmK (M1 M2 : Mm) (c kd b m : Nat) : Prop := M1 (c + 1) kd = (m : Int) ∧ m ≤ 8 ∧ b + m ≤ 144 ∧ ∀ i, i < m → nmR (M1 (c + 3 + kd) i) (M2 273 (b + i))
section
variable {bt : Nat → Int} {n q e : Nat} {M M1 M2 : Mm} {L d d1 d2 d3 : Nat}
theorem NmK.fr {M1' M2' : Mm} {c kd b m : Nat} (h : NmK M1 M2 c kd b m) (hc : 19 ≤ c) (f1 : FrA M1 M1') (f2 : ∀ j, M2' 273 j = M2 273 j) : NmK M1' M2' c kd b m := ⟨by rw [f1 _ _ (by omega)]; exact h.1, h.2.1, h.2.2.1, fun i hi => by rw [f1 _ _ (by omega), f2]; exact h.2.2.2 i hi⟩
theorem c_find (hd : 1 ≤ d) {c kd m : Nat} (hc : isCh c) (hk : kd < 4) (hm : m ≤ 8) (hct : M (c + 1) kd = (m : Int)) (x : Int) : ∀ y : Int, y = (kd : Int) → callD d m_Chart_find [vR 0 0 c, vI y, vL x] (SH L) M = some (some (vI (fx (M (c + 3 + kd)) x m 0)), SH L, M) := by
  intro y hy
  subst hy
  have rc := rC (L := L) hc
  have rn := rCn (L := L) hc hk
  have st : ∀ (m' i : Nat), i + m' = m → Run (callD (d - 1)) tb_Chart_find 3 [vR 0 0 c, vI (kd : Int), vL x, vU, vI (i : Int)] [] (SH L) M = some (some (vI (fx (M (c + 3 + kd)) x m' i)), SH L, M) := by
    intro m'
    induction m' with
    | zero =>
      intro i hi
      rw [b_Chart_find_3]
      have e0 : fx (M (c + 3 + kd)) x 0 i = -1 := rfl
      rw [e0]
      repeat' first
        | (with_reducible apply bR_go; (simp (disch := omega) only [rM L, rK L, rN L, rNf, rNv, rNp, rNd, rRow, rLeg, rMark, nat_cast, Int.reduceToNat, rc, rn, hct]; with_reducible exact rfl))
        | with_reducible apply bI_go
        | with_reducible apply bV_go
        | with_reducible apply bL_go
        | (with_reducible apply it_1; (first | omega | (simp (disch := omega) only [not_false_eq_true, not_true_eq_false, w32_id, tLt, fLt, tLe, fEq, itE, and_true, true_and, and_self, and_false, false_and, ↓reduceIte, nat_add, nat_mul3, nat_mul4, nat_mul6, nat_mul15, nat_mul60, nat_cast, nc1, Int.reduceToNat, upE, upN, fill_ne, fill_in, i0, rc, rn, hct] <;> omega)))
        | (with_reducible apply it_2; (first | omega | (simp (disch := omega) only [not_false_eq_true, not_true_eq_false, w32_id, tLt, fLt, tLe, fEq, itE, and_true, true_and, and_self, and_false, false_and, ↓reduceIte, nat_add, nat_mul3, nat_mul4, nat_mul6, nat_mul15, nat_mul60, nat_cast, nc1, Int.reduceToNat, upE, upN, fill_ne, fill_in, i0, rc, rn, hct] <;> omega)))
        | (with_reducible refine cl_go ?_; simp (disch := omega) only [not_false_eq_true, not_true_eq_false, w32_id, tLt, fLt, tLe, fEq, itE, and_true, true_and, and_self, and_false, false_and, ↓reduceIte, nat_add, nat_mul3, nat_mul4, nat_mul6, nat_mul15, nat_mul60, nat_cast, nc1, Int.reduceToNat, upE, upN, fill_ne, fill_in, i0, rc, rn, hct])
        | (with_reducible refine rn_go ?_; simp (disch := omega) only [not_false_eq_true, not_true_eq_false, w32_id, tLt, fLt, tLe, fEq, itE, and_true, true_and, and_self, and_false, false_and, ↓reduceIte, nat_add, nat_mul3, nat_mul4, nat_mul6, nat_mul15, nat_mul60, nat_cast, nc1, Int.reduceToNat, upE, upN, fill_ne, fill_in, i0, rc, rn, hct])
        | (with_reducible refine lf_go ?_; simp (disch := omega) only [not_false_eq_true, not_true_eq_false, w32_id, tLt, fLt, tLe, fEq, itE, and_true, true_and, and_self, and_false, false_and, ↓reduceIte, nat_add, nat_mul3, nat_mul4, nat_mul6, nat_mul15, nat_mul60, nat_cast, nc1, Int.reduceToNat, upE, upN, fill_ne, fill_in, i0, rc, rn, hct])
        | with_reducible exact rfl
    | succ m' ih =>
      intro i hi
      rw [fx_s]
      by_cases z : M (c + 3 + kd) i = x
      · have ce := cmp_eq z
        rw [if_pos z, b_Chart_find_3]
        repeat' first
          | (with_reducible apply bR_go; (simp (disch := omega) only [rM L, rK L, rN L, rNf, rNv, rNp, rNd, rRow, rLeg, rMark, nat_cast, Int.reduceToNat, rc, rn, hct, ce]; with_reducible exact rfl))
          | with_reducible apply bI_go
          | with_reducible apply bV_go
          | with_reducible apply bL_go
          | (with_reducible apply it_1; (first | omega | (simp (disch := omega) only [not_false_eq_true, not_true_eq_false, w32_id, tLt, fLt, tLe, fEq, itE, and_true, true_and, and_self, and_false, false_and, ↓reduceIte, nat_add, nat_mul3, nat_mul4, nat_mul6, nat_mul15, nat_mul60, nat_cast, nc1, Int.reduceToNat, upE, upN, fill_ne, fill_in, i0, rc, rn, hct, ce] <;> omega)))
          | (with_reducible apply it_2; (first | omega | (simp (disch := omega) only [not_false_eq_true, not_true_eq_false, w32_id, tLt, fLt, tLe, fEq, itE, and_true, true_and, and_self, and_false, false_and, ↓reduceIte, nat_add, nat_mul3, nat_mul4, nat_mul6, nat_mul15, nat_mul60, nat_cast, nc1, Int.reduceToNat, upE, upN, fill_ne, fill_in, i0, rc, rn, hct, ce] <;> omega)))
          | (with_reducible refine cl_go ?_; simp (disch := omega) only [not_false_eq_true, not_true_eq_false, w32_id, tLt, fLt, tLe, fEq, itE, and_true, true_and, and_self, and_false, false_and, ↓reduceIte, nat_add, nat_mul3, nat_mul4, nat_mul6, nat_mul15, nat_mul60, nat_cast, nc1, Int.reduceToNat, upE, upN, fill_ne, fill_in, i0, rc, rn, hct, ce])
          | (with_reducible refine rn_go ?_; simp (disch := omega) only [not_false_eq_true, not_true_eq_false, w32_id, tLt, fLt, tLe, fEq, itE, and_true, true_and, and_self, and_false, false_and, ↓reduceIte, nat_add, nat_mul3, nat_mul4, nat_mul6, nat_mul15, nat_mul60, nat_cast, nc1, Int.reduceToNat, upE, upN, fill_ne, fill_in, i0, rc, rn, hct, ce])
          | (with_reducible refine lf_go ?_; simp (disch := omega) only [not_false_eq_true, not_true_eq_false, w32_id, tLt, fLt, tLe, fEq, itE, and_true, true_and, and_self, and_false, false_and, ↓reduceIte, nat_add, nat_mul3, nat_mul4, nat_mul6, nat_mul15, nat_mul60, nat_cast, nc1, Int.reduceToNat, upE, upN, fill_ne, fill_in, i0, rc, rn, hct, ce])
          | with_reducible exact rfl
      · rw [if_neg z, b_Chart_find_3, ← ih (i + 1) (by omega)]
        have ce : ¬ cmp3 (M (c + 3 + kd) i) x = 0 := fun h => z (cmp_zero.1 h)
        repeat' first
          | (with_reducible apply bR_go; (simp (disch := omega) only [rM L, rK L, rN L, rNf, rNv, rNp, rNd, rRow, rLeg, rMark, nat_cast, Int.reduceToNat, rc, rn, hct]; with_reducible exact rfl))
          | with_reducible apply bI_go
          | with_reducible apply bV_go
          | with_reducible apply bL_go
          | (with_reducible apply it_1; (first | omega | (simp (disch := omega) only [not_false_eq_true, not_true_eq_false, w32_id, tLt, fLt, tLe, fEq, itE, and_true, true_and, and_self, and_false, false_and, ↓reduceIte, nat_add, nat_mul3, nat_mul4, nat_mul6, nat_mul15, nat_mul60, nat_cast, nc1, Int.reduceToNat, upE, upN, fill_ne, fill_in, i0, rc, rn, hct] <;> omega)))
          | (with_reducible apply it_2; (first | omega | (simp (disch := omega) only [not_false_eq_true, not_true_eq_false, w32_id, tLt, fLt, tLe, fEq, itE, and_true, true_and, and_self, and_false, false_and, ↓reduceIte, nat_add, nat_mul3, nat_mul4, nat_mul6, nat_mul15, nat_mul60, nat_cast, nc1, Int.reduceToNat, upE, upN, fill_ne, fill_in, i0, rc, rn, hct] <;> omega)))
          | (with_reducible refine cl_go ?_; simp (disch := omega) only [not_false_eq_true, not_true_eq_false, w32_id, tLt, fLt, tLe, fEq, itE, and_true, true_and, and_self, and_false, false_and, ↓reduceIte, nat_add, nat_mul3, nat_mul4, nat_mul6, nat_mul15, nat_mul60, nat_cast, nc1, Int.reduceToNat, upE, upN, fill_ne, fill_in, i0, rc, rn, hct])
          | (with_reducible refine rn_go ?_; simp (disch := omega) only [not_false_eq_true, not_true_eq_false, w32_id, tLt, fLt, tLe, fEq, itE, and_true, true_and, and_self, and_false, false_and, ↓reduceIte, nat_add, nat_mul3, nat_mul4, nat_mul6, nat_mul15, nat_mul60, nat_cast, nc1, Int.reduceToNat, upE, upN, fill_ne, fill_in, i0, rc, rn, hct])
          | (with_reducible refine lf_go ?_; simp (disch := omega) only [not_false_eq_true, not_true_eq_false, w32_id, tLt, fLt, tLe, fEq, itE, and_true, true_and, and_self, and_false, false_and, ↓reduceIte, nat_add, nat_mul3, nat_mul4, nat_mul6, nat_mul15, nat_mul60, nat_cast, nc1, Int.reduceToNat, upE, upN, fill_ne, fill_in, i0, rc, rn, hct])
          | with_reducible exact rfl
  rw [c_Chart_find (by omega), b_Chart_find_0]
  exact st m 0 (by omega)
/-- a name that stands here is looked up -/
theorem k_find (h1 : 1 ≤ d1) (h2 : 3 ≤ d2) (h : TK bt n q e M1 M2) (hr : RN isS bt n q e) (h8 : e - q ≤ 8) (h11 : M1 12 11 = cod 32 0 (lts bt q (e - q)) 0) {c kd b m : Nat} (hc : isCh c) (hk : kd < 4) (hN : NmK M1 M2 c kd b m) : ∃ r : Int, (r = -1 ∨ 0 ≤ r ∧ r < m) ∧ (∀ y : Int, y = (kd : Int) → callD d1 m_Chart_find [vR 0 0 c, vI y, vL (M1 12 11)] (SH L) M1 = some (some (vI r), SH L, M1)) ∧ ∀ x y : Int, x = (b : Int) → y = (m : Int) → callD d2 m_Mo_findHere [vR 12 0 271, vI x, vI y] (SH L) M2 = some (some (vI r), SH L, M2) := by
  obtain ⟨n1, n2, n3, n4⟩ := hN
  have ok := lts_ok (bt := bt) (q := q) (e - q) fun i h1 h2 => hr.2.2.1 i h1 (by omega)
  have eq := fx_cg (f := M1 (c + 3 + kd)) (g := fun i => M2 273 (b + i)) (y := cod 32 0 (lts bt q (e - q)) 0) (z := cod 256 96 (lts bt q (e - q)) 0) m 0 fun k _ hk => nm_iff (n4 k (by omega)) ok
  have bd := fx_bd (M1 (c + 3 + kd)) (cod 32 0 (lts bt q (e - q)) 0) m 0
  refine ⟨fx (M1 (c + 3 + kd)) (cod 32 0 (lts bt q (e - q)) 0) m 0, by omega, fun y hy => ?_, fun x y hx hy => ?_⟩
  · rw [h11]; exact c_find h1 hc hk n2 n1 _ y hy
  · subst hx; subst hy
    rw [eq]; exact m_find h2 h.2.1 h.2.2.2.1.1 h.2.2.2.1.2.1 hr h8 n3
theorem k_thing (h1 : 5 ≤ d1) (h2 : 6 ≤ d2) (h : TK bt n q e M1 M2) {c kd b m to : Nat} (hc : isCh c) (hk : kd < 4) (hN : NmK M1 M2 c kd b m) (ht : to < 4004) : (∃ (q' e' v : Nat) (M1' M2' : Mm), (∀ y : Int, y = (kd : Int) → callD d1 m_Tape_takeThing [vR 6 0 12, vR 0 0 c, vI y, vI (-1)] (SH L) M1 = some (some (vI (v : Int)), SH L, M1')) ∧ (∀ x y z : Int, x = (b : Int) → y = (m : Int) → z = (to : Int) → callD d2 m_Mo_oldOne [vR 12 0 271, vI x, vI y, vI z] (SH L) M2 = some (some (vI 1), SH L, M2')) ∧ v < m ∧ TK bt n q' e' M1' M2' ∧ e ≤ q' ∧ FrA M1 M1' ∧ FrT to M2 M2' ∧ M2' 272 to = (v : Int)) ∨ (∃ M1' M2', (∀ y : Int, y = (kd : Int) → callD d1 m_Tape_takeThing [vR 6 0 12, vR 0 0 c, vI y, vI (-1)] (SH L) M1 = some (some (vI (-1)), SH L, M1')) ∧ (∀ x y z : Int, x = (b : Int) → y = (m : Int) → z = (to : Int) → callD d2 m_Mo_oldOne [vR 12 0 271, vI x, vI y, vI z] (SH L) M2 = some (some (vI 0), SH L, M2')) ∧ FL M1' M2' ∧ FrA M1 M1' ∧ FrT to M2 M2') := by
  rcases k_name (L := L) (d1 := d1 - 1) (d2 := d2 - 1) (by omega) (by omega) h with ⟨s1, s2, hr, h8, h7, h11⟩ | ⟨s1, s2⟩
  · obtain ⟨r, rb, f1, f2⟩ := k_find (L := L) (d1 := d1 - 1) (d2 := d2 - 1) (by omega) (by omega) h hr h8 h11 hc hk hN
    have hu : TK bt n q e M1 (up M2 272 to r) := h.fr (fun _ _ _ => rfl) fun b j hb => upN (by omega)
    by_cases z : r = -1
    · subst z
      obtain ⟨M1', M2', a1, a2, f, fa, fb⟩ := k_fails (L := L) (d1 := d1 - 1) (d2 := d2 - 1) (by omega) (by omega) hu (x := 3) (by omega) (by omega)
      right
      refine ⟨M1', M2', fun y hy => ?_, fun x y z hx hy hz => ?_, f, fa, fun b j q1 q2 => by rw [fb b j q1, upN (by omega)]⟩
      · have f1 := f1 y hy
        subst hy
        repeat' first
          | (with_reducible apply bR_go; (simp (disch := omega) only [rM L, rK L, rN L, rNf, rNv, rNp, rNd, rRow, rLeg, rMark, nat_cast, Int.reduceToNat]; with_reducible exact rfl))
          | with_reducible apply bI_go
          | with_reducible apply bV_go
          | with_reducible apply bL_go
          | (with_reducible apply it_1; (first | omega | (simp (disch := omega) only [not_false_eq_true, not_true_eq_false, w32_id, tLt, fLt, tLe, fEq, itE, and_true, true_and, and_self, and_false, false_and, ↓reduceIte, nat_add, nat_mul3, nat_mul4, nat_mul6, nat_mul15, nat_mul60, nat_cast, nc1, Int.reduceToNat, upE, upN, fill_ne, fill_in, i0] <;> omega)))
          | (with_reducible apply it_2; (first | omega | (simp (disch := omega) only [not_false_eq_true, not_true_eq_false, w32_id, tLt, fLt, tLe, fEq, itE, and_true, true_and, and_self, and_false, false_and, ↓reduceIte, nat_add, nat_mul3, nat_mul4, nat_mul6, nat_mul15, nat_mul60, nat_cast, nc1, Int.reduceToNat, upE, upN, fill_ne, fill_in, i0] <;> omega)))
          | (with_reducible refine cl_go ?_; simp (disch := omega) only [not_false_eq_true, not_true_eq_false, w32_id, tLt, fLt, tLe, fEq, itE, and_true, true_and, and_self, and_false, false_and, ↓reduceIte, nat_add, nat_mul3, nat_mul4, nat_mul6, nat_mul15, nat_mul60, nat_cast, nc1, Int.reduceToNat, upE, upN, fill_ne, fill_in, i0])
          | rw [c_Tape_takeThing (by omega), b_Tape_takeThing_0]
          | with_reducible exact s1
          | with_reducible exact f1
          | with_reducible exact a1
          | (with_reducible refine rn_go ?_; simp (disch := omega) only [not_false_eq_true, not_true_eq_false, w32_id, tLt, fLt, tLe, fEq, itE, and_true, true_and, and_self, and_false, false_and, ↓reduceIte, nat_add, nat_mul3, nat_mul4, nat_mul6, nat_mul15, nat_mul60, nat_cast, nc1, Int.reduceToNat, upE, upN, fill_ne, fill_in, i0])
          | (with_reducible refine lf_go ?_; simp (disch := omega) only [not_false_eq_true, not_true_eq_false, w32_id, tLt, fLt, tLe, fEq, itE, and_true, true_and, and_self, and_false, false_and, ↓reduceIte, nat_add, nat_mul3, nat_mul4, nat_mul6, nat_mul15, nat_mul60, nat_cast, nc1, Int.reduceToNat, upE, upN, fill_ne, fill_in, i0])
          | with_reducible exact rfl
      · have f2 := f2 x y hx hy
        subst hz
        repeat' first
          | (with_reducible apply bR_go; (simp (disch := omega) only [rM L, rK L, rN L, rNf, rNv, rNp, rNd, rRow, rLeg, rMark, nat_cast, Int.reduceToNat, Int.reduceMod]; with_reducible exact rfl))
          | with_reducible apply bI_go
          | with_reducible apply bV_go
          | with_reducible apply bL_go
          | (with_reducible apply it_1; (first | omega | (simp (disch := omega) only [not_false_eq_true, not_true_eq_false, w32_id, tLt, fLt, tLe, fEq, itE, and_true, true_and, and_self, and_false, false_and, ↓reduceIte, nat_add, nat_mul3, nat_mul4, nat_mul6, nat_mul15, nat_mul60, nat_cast, nc1, Int.reduceToNat, upE, upN, fill_ne, fill_in, i0, Int.reduceMod] <;> omega)))
          | (with_reducible apply it_2; (first | omega | (simp (disch := omega) only [not_false_eq_true, not_true_eq_false, w32_id, tLt, fLt, tLe, fEq, itE, and_true, true_and, and_self, and_false, false_and, ↓reduceIte, nat_add, nat_mul3, nat_mul4, nat_mul6, nat_mul15, nat_mul60, nat_cast, nc1, Int.reduceToNat, upE, upN, fill_ne, fill_in, i0, Int.reduceMod] <;> omega)))
          | (with_reducible refine cl_go ?_; simp (disch := omega) only [not_false_eq_true, not_true_eq_false, w32_id, tLt, fLt, tLe, fEq, itE, and_true, true_and, and_self, and_false, false_and, ↓reduceIte, nat_add, nat_mul3, nat_mul4, nat_mul6, nat_mul15, nat_mul60, nat_cast, nc1, Int.reduceToNat, upE, upN, fill_ne, fill_in, i0, Int.reduceMod])
          | rw [c_Mo_oldOne (by omega), b_Mo_oldOne_0]
          | with_reducible exact s2
          | with_reducible exact f2
          | with_reducible exact a2
          | (with_reducible refine rn_go ?_; simp (disch := omega) only [not_false_eq_true, not_true_eq_false, w32_id, tLt, fLt, tLe, fEq, itE, and_true, true_and, and_self, and_false, false_and, ↓reduceIte, nat_add, nat_mul3, nat_mul4, nat_mul6, nat_mul15, nat_mul60, nat_cast, nc1, Int.reduceToNat, upE, upN, fill_ne, fill_in, i0, Int.reduceMod])
          | (with_reducible refine lf_go ?_; simp (disch := omega) only [not_false_eq_true, not_true_eq_false, w32_id, tLt, fLt, tLe, fEq, itE, and_true, true_and, and_self, and_false, false_and, ↓reduceIte, nat_add, nat_mul3, nat_mul4, nat_mul6, nat_mul15, nat_mul60, nat_cast, nc1, Int.reduceToNat, upE, upN, fill_ne, fill_in, i0, Int.reduceMod])
          | with_reducible exact rfl
    · obtain ⟨v, rfl⟩ := Int.eq_ofNat_of_zero_le (show 0 ≤ r by omega)
      obtain ⟨q', e', M1', M2', a1, a2, t, le, fa, fb⟩ := k_adv (L := L) (d1 := d1 - 1) (d2 := d2 - 1) (by omega) (by omega) hu
      left
      refine ⟨q', e', v, M1', M2', fun y hy => ?_, fun x y z hx hy hz => ?_, by omega, t, le, fa, fun b j q1 q2 => by rw [fb b j q1, upN (by omega)], by rw [fb _ _ (by omega), upE rfl rfl]⟩
      · have f1 := f1 y hy
        subst hy
        repeat' first
          | (with_reducible apply bR_go; (simp (disch := omega) only [rM L, rK L, rN L, rNf, rNv, rNp, rNd, rRow, rLeg, rMark, nat_cast, Int.reduceToNat]; with_reducible exact rfl))
          | with_reducible apply bI_go
          | with_reducible apply bV_go
          | with_reducible apply bL_go
          | (with_reducible apply it_1; (first | omega | (simp (disch := omega) only [not_false_eq_true, not_true_eq_false, w32_id, tLt, fLt, tLe, fEq, itE, and_true, true_and, and_self, and_false, false_and, ↓reduceIte, nat_add, nat_mul3, nat_mul4, nat_mul6, nat_mul15, nat_mul60, nat_cast, nc1, Int.reduceToNat, upE, upN, fill_ne, fill_in, i0] <;> omega)))
          | (with_reducible apply it_2; (first | omega | (simp (disch := omega) only [not_false_eq_true, not_true_eq_false, w32_id, tLt, fLt, tLe, fEq, itE, and_true, true_and, and_self, and_false, false_and, ↓reduceIte, nat_add, nat_mul3, nat_mul4, nat_mul6, nat_mul15, nat_mul60, nat_cast, nc1, Int.reduceToNat, upE, upN, fill_ne, fill_in, i0] <;> omega)))
          | (with_reducible refine cl_go ?_; simp (disch := omega) only [not_false_eq_true, not_true_eq_false, w32_id, tLt, fLt, tLe, fEq, itE, and_true, true_and, and_self, and_false, false_and, ↓reduceIte, nat_add, nat_mul3, nat_mul4, nat_mul6, nat_mul15, nat_mul60, nat_cast, nc1, Int.reduceToNat, upE, upN, fill_ne, fill_in, i0])
          | rw [c_Tape_takeThing (by omega), b_Tape_takeThing_0]
          | with_reducible exact s1
          | with_reducible exact f1
          | with_reducible exact a1
          | (with_reducible refine rn_go ?_; simp (disch := omega) only [not_false_eq_true, not_true_eq_false, w32_id, tLt, fLt, tLe, fEq, itE, and_true, true_and, and_self, and_false, false_and, ↓reduceIte, nat_add, nat_mul3, nat_mul4, nat_mul6, nat_mul15, nat_mul60, nat_cast, nc1, Int.reduceToNat, upE, upN, fill_ne, fill_in, i0])
          | (with_reducible refine lf_go ?_; simp (disch := omega) only [not_false_eq_true, not_true_eq_false, w32_id, tLt, fLt, tLe, fEq, itE, and_true, true_and, and_self, and_false, false_and, ↓reduceIte, nat_add, nat_mul3, nat_mul4, nat_mul6, nat_mul15, nat_mul60, nat_cast, nc1, Int.reduceToNat, upE, upN, fill_ne, fill_in, i0])
          | with_reducible exact rfl
      · have f2 := f2 x y hx hy
        subst hz
        repeat' first
          | (with_reducible apply bR_go; (simp (disch := omega) only [rM L, rK L, rN L, rNf, rNv, rNp, rNd, rRow, rLeg, rMark, nat_cast, Int.reduceToNat]; with_reducible exact rfl))
          | with_reducible apply bI_go
          | with_reducible apply bV_go
          | with_reducible apply bL_go
          | (with_reducible apply it_1; (first | omega | (simp (disch := omega) only [not_false_eq_true, not_true_eq_false, w32_id, tLt, fLt, tLe, fEq, itE, and_true, true_and, and_self, and_false, false_and, ↓reduceIte, nat_add, nat_mul3, nat_mul4, nat_mul6, nat_mul15, nat_mul60, nat_cast, nc1, Int.reduceToNat, upE, upN, fill_ne, fill_in, i0] <;> omega)))
          | (with_reducible apply it_2; (first | omega | (simp (disch := omega) only [not_false_eq_true, not_true_eq_false, w32_id, tLt, fLt, tLe, fEq, itE, and_true, true_and, and_self, and_false, false_and, ↓reduceIte, nat_add, nat_mul3, nat_mul4, nat_mul6, nat_mul15, nat_mul60, nat_cast, nc1, Int.reduceToNat, upE, upN, fill_ne, fill_in, i0] <;> omega)))
          | (with_reducible refine cl_go ?_; simp (disch := omega) only [not_false_eq_true, not_true_eq_false, w32_id, tLt, fLt, tLe, fEq, itE, and_true, true_and, and_self, and_false, false_and, ↓reduceIte, nat_add, nat_mul3, nat_mul4, nat_mul6, nat_mul15, nat_mul60, nat_cast, nc1, Int.reduceToNat, upE, upN, fill_ne, fill_in, i0])
          | rw [c_Mo_oldOne (by omega), b_Mo_oldOne_0]
          | with_reducible exact s2
          | with_reducible exact f2
          | with_reducible exact a2
          | (with_reducible refine rn_go ?_; simp (disch := omega) only [not_false_eq_true, not_true_eq_false, w32_id, tLt, fLt, tLe, fEq, itE, and_true, true_and, and_self, and_false, false_and, ↓reduceIte, nat_add, nat_mul3, nat_mul4, nat_mul6, nat_mul15, nat_mul60, nat_cast, nc1, Int.reduceToNat, upE, upN, fill_ne, fill_in, i0])
          | (with_reducible refine lf_go ?_; simp (disch := omega) only [not_false_eq_true, not_true_eq_false, w32_id, tLt, fLt, tLe, fEq, itE, and_true, true_and, and_self, and_false, false_and, ↓reduceIte, nat_add, nat_mul3, nat_mul4, nat_mul6, nat_mul15, nat_mul60, nat_cast, nc1, Int.reduceToNat, upE, upN, fill_ne, fill_in, i0])
          | with_reducible exact rfl
  · obtain ⟨M1', M2', a1, a2, f, fa, fb⟩ := k_misfit (L := L) (d1 := d1 - 1) (d2 := d2 - 1) (by omega) (by omega) h
    right
    refine ⟨M1', M2', fun y hy => ?_, fun x y z hx hy hz => ?_, f, fa, fb.t to⟩
    · subst hy
      repeat' first
        | (with_reducible apply bR_go; (simp (disch := omega) only [rM L, rK L, rN L, rNf, rNv, rNp, rNd, rRow, rLeg, rMark, nat_cast, Int.reduceToNat]; with_reducible exact rfl))
        | with_reducible apply bI_go
        | with_reducible apply bV_go
        | with_reducible apply bL_go
        | (with_reducible apply it_1; (first | omega | (simp (disch := omega) only [not_false_eq_true, not_true_eq_false, w32_id, tLt, fLt, tLe, fEq, itE, and_true, true_and, and_self, and_false, false_and, ↓reduceIte, nat_add, nat_mul3, nat_mul4, nat_mul6, nat_mul15, nat_mul60, nat_cast, nc1, Int.reduceToNat, upE, upN, fill_ne, fill_in, i0] <;> omega)))
        | (with_reducible apply it_2; (first | omega | (simp (disch := omega) only [not_false_eq_true, not_true_eq_false, w32_id, tLt, fLt, tLe, fEq, itE, and_true, true_and, and_self, and_false, false_and, ↓reduceIte, nat_add, nat_mul3, nat_mul4, nat_mul6, nat_mul15, nat_mul60, nat_cast, nc1, Int.reduceToNat, upE, upN, fill_ne, fill_in, i0] <;> omega)))
        | (with_reducible refine cl_go ?_; simp (disch := omega) only [not_false_eq_true, not_true_eq_false, w32_id, tLt, fLt, tLe, fEq, itE, and_true, true_and, and_self, and_false, false_and, ↓reduceIte, nat_add, nat_mul3, nat_mul4, nat_mul6, nat_mul15, nat_mul60, nat_cast, nc1, Int.reduceToNat, upE, upN, fill_ne, fill_in, i0])
        | rw [c_Tape_takeThing (by omega), b_Tape_takeThing_0]
        | with_reducible exact s1
        | with_reducible exact a1
        | (with_reducible refine rn_go ?_; simp (disch := omega) only [not_false_eq_true, not_true_eq_false, w32_id, tLt, fLt, tLe, fEq, itE, and_true, true_and, and_self, and_false, false_and, ↓reduceIte, nat_add, nat_mul3, nat_mul4, nat_mul6, nat_mul15, nat_mul60, nat_cast, nc1, Int.reduceToNat, upE, upN, fill_ne, fill_in, i0])
        | (with_reducible refine lf_go ?_; simp (disch := omega) only [not_false_eq_true, not_true_eq_false, w32_id, tLt, fLt, tLe, fEq, itE, and_true, true_and, and_self, and_false, false_and, ↓reduceIte, nat_add, nat_mul3, nat_mul4, nat_mul6, nat_mul15, nat_mul60, nat_cast, nc1, Int.reduceToNat, upE, upN, fill_ne, fill_in, i0])
        | with_reducible exact rfl
    · repeat' first
        | (with_reducible apply bR_go; (simp (disch := omega) only [rM L, rK L, rN L, rNf, rNv, rNp, rNd, rRow, rLeg, rMark, nat_cast, Int.reduceToNat, Int.reduceMod]; with_reducible exact rfl))
        | with_reducible apply bI_go
        | with_reducible apply bV_go
        | with_reducible apply bL_go
        | (with_reducible apply it_1; (first | omega | (simp (disch := omega) only [not_false_eq_true, not_true_eq_false, w32_id, tLt, fLt, tLe, fEq, itE, and_true, true_and, and_self, and_false, false_and, ↓reduceIte, nat_add, nat_mul3, nat_mul4, nat_mul6, nat_mul15, nat_mul60, nat_cast, nc1, Int.reduceToNat, upE, upN, fill_ne, fill_in, i0, Int.reduceMod] <;> omega)))
        | (with_reducible apply it_2; (first | omega | (simp (disch := omega) only [not_false_eq_true, not_true_eq_false, w32_id, tLt, fLt, tLe, fEq, itE, and_true, true_and, and_self, and_false, false_and, ↓reduceIte, nat_add, nat_mul3, nat_mul4, nat_mul6, nat_mul15, nat_mul60, nat_cast, nc1, Int.reduceToNat, upE, upN, fill_ne, fill_in, i0, Int.reduceMod] <;> omega)))
        | (with_reducible refine cl_go ?_; simp (disch := omega) only [not_false_eq_true, not_true_eq_false, w32_id, tLt, fLt, tLe, fEq, itE, and_true, true_and, and_self, and_false, false_and, ↓reduceIte, nat_add, nat_mul3, nat_mul4, nat_mul6, nat_mul15, nat_mul60, nat_cast, nc1, Int.reduceToNat, upE, upN, fill_ne, fill_in, i0, Int.reduceMod])
        | rw [c_Mo_oldOne (by omega), b_Mo_oldOne_0]
        | with_reducible exact s2
        | with_reducible exact a2
        | (with_reducible refine rn_go ?_; simp (disch := omega) only [not_false_eq_true, not_true_eq_false, w32_id, tLt, fLt, tLe, fEq, itE, and_true, true_and, and_self, and_false, false_and, ↓reduceIte, nat_add, nat_mul3, nat_mul4, nat_mul6, nat_mul15, nat_mul60, nat_cast, nc1, Int.reduceToNat, upE, upN, fill_ne, fill_in, i0, Int.reduceMod])
        | (with_reducible refine lf_go ?_; simp (disch := omega) only [not_false_eq_true, not_true_eq_false, w32_id, tLt, fLt, tLe, fEq, itE, and_true, true_and, and_self, and_false, false_and, ↓reduceIte, nat_add, nat_mul3, nat_mul4, nat_mul6, nat_mul15, nat_mul60, nat_cast, nc1, Int.reduceToNat, upE, upN, fill_ne, fill_in, i0, Int.reduceMod])
        | with_reducible exact rfl
/-- another one than t -/
theorem k_thing2 (h1 : 5 ≤ d1) (h2 : 6 ≤ d2) (h3 : 6 ≤ d3) (h : TK bt n q e M1 M2) {c kd b m to t : Nat} (hc : isCh c) (hk : kd < 4) (hN : NmK M1 M2 c kd b m) (ht : to < 4004) :
    (∃ M1' M2', (∀ y : Int, y = (kd : Int) → callD d1 m_Tape_takeThing [vR 6 0 12, vR 0 0 c, vI y, vI (t : Int)] (SH L) M1 = some (some (vI (-1)), SH L, M1')) ∧ callD d3 m_Mo_isName [vR 12 0 271, vR 13 1 2] (SH L) M2 = some (some (vI 0), SH L, M2) ∧ (∀ x y z : Int, x = (b : Int) → y = (m : Int) → z = (to : Int) → callD d2 m_Mo_oldOne [vR 12 0 271, vI x, vI y, vI z] (SH L) M2 = some (some (vI 0), SH L, M2')) ∧ FL M1' M2' ∧ FrA M1 M1' ∧ FrT to M2 M2') ∨
    (∃ r : Int, callD d3 m_Mo_isName [vR 12 0 271, vR 13 1 2] (SH L) M2 = some (some (vI 1), SH L, M2) ∧ (∀ x y : Int, x = (b : Int) → y = (m : Int) → callD d3 m_Mo_findHere [vR 12 0 271, vI x, vI y] (SH L) M2 = some (some (vI r), SH L, M2)) ∧
      ((∃ M1' M2', r = (t : Int) ∧ (∀ y : Int, y = (kd : Int) → callD d1 m_Tape_takeThing [vR 6 0 12, vR 0 0 c, vI y, vI (t : Int)] (SH L) M1 = some (some (vI (-1)), SH L, M1')) ∧ callD d3 m_Mo_fails [vR 12 0 271, vI 5] (SH L) M2 = some (some (vI 0), SH L, M2') ∧ FL M1' M2' ∧ FrA M1 M1' ∧ FrB M2 M2') ∨
       (∃ M1' M2', r = -1 ∧ (∀ y : Int, y = (kd : Int) → callD d1 m_Tape_takeThing [vR 6 0 12, vR 0 0 c, vI y, vI (t : Int)] (SH L) M1 = some (some (vI (-1)), SH L, M1')) ∧ (∀ x y z : Int, x = (b : Int) → y = (m : Int) → z = (to : Int) → callD d2 m_Mo_oldOne [vR 12 0 271, vI x, vI y, vI z] (SH L) M2 = some (some (vI 0), SH L, M2')) ∧ FL M1' M2' ∧ FrA M1 M1' ∧ FrT to M2 M2') ∨
       (∃ (q' e' v : Nat) (M1' M2' : Mm), r = (v : Int) ∧ v ≠ t ∧ (∀ y : Int, y = (kd : Int) → callD d1 m_Tape_takeThing [vR 6 0 12, vR 0 0 c, vI y, vI (t : Int)] (SH L) M1 = some (some (vI (v : Int)), SH L, M1')) ∧ (∀ x y z : Int, x = (b : Int) → y = (m : Int) → z = (to : Int) → callD d2 m_Mo_oldOne [vR 12 0 271, vI x, vI y, vI z] (SH L) M2 = some (some (vI 1), SH L, M2')) ∧ v < m ∧ TK bt n q' e' M1' M2' ∧ e ≤ q' ∧ FrA M1 M1' ∧ FrT to M2 M2' ∧ M2' 272 to = (v : Int)))) := by
  rcases k_name (L := L) (d1 := d1 - 1) (d2 := d2 - 1) (by omega) (by omega) h with ⟨s1, s2, hr, h8, h7, h11⟩ | ⟨s1, s2⟩
  · have s3 : callD d3 m_Mo_isName [vR 12 0 271, vR 13 1 2] (SH L) M2 = some (some (vI 1), SH L, M2) := by
      rcases k_name (L := L) (d1 := d1 - 1) (d2 := d3) (by omega) (by omega) h with ⟨_, s3, _⟩ | ⟨s4, _⟩
      · exact s3
      · rw [s1] at s4
        exact absurd s4 (by simp)
    right
    obtain ⟨r, rb, f1, f2⟩ := k_find (L := L) (d1 := d1 - 1) (d2 := d2 - 1) (by omega) (by omega) h hr h8 h11 hc hk hN
    obtain ⟨r', rb', f1', f3⟩ := k_find (L := L) (d1 := d1 - 1) (d2 := d3) (by omega) (by omega) h hr h8 h11 hc hk hN
    have er : r' = r := by
      have a := f1 _ rfl
      rw [f1' _ rfl] at a
      simpa using a
    subst er
    refine ⟨r', s3, f3, ?_⟩
    have hu : TK bt n q e M1 (up M2 272 to r') := h.fr (fun _ _ _ => rfl) fun b j hb => upN (by omega)
    by_cases z : r' = -1
    · subst z
      obtain ⟨M1', M2', a1, a2, f, fa, fb⟩ := k_fails (L := L) (d1 := d1 - 1) (d2 := d2 - 1) (by omega) (by omega) hu (x := 3) (by omega) (by omega)
      right; left
      refine ⟨M1', M2', rfl, fun y hy => ?_, fun x y z hx hy hz => ?_, f, fa, fun b j q1 q2 => by rw [fb b j q1, upN (by omega)]⟩
      · have f1 := f1 y hy
        subst hy
        repeat' first
          | (with_reducible apply bR_go; (simp (disch := omega) only [rM L, rK L, rN L, rNf, rNv, rNp, rNd, rRow, rLeg, rMark, nat_cast, Int.reduceToNat]; with_reducible exact rfl))
          | with_reducible apply bI_go
          | with_reducible apply bV_go
          | with_reducible apply bL_go
          | (with_reducible apply it_1; (first | omega | (simp (disch := omega) only [not_false_eq_true, not_true_eq_false, w32_id, tLt, fLt, tLe, fEq, itE, and_true, true_and, and_self, and_false, false_and, ↓reduceIte, nat_add, nat_mul3, nat_mul4, nat_mul6, nat_mul15, nat_mul60, nat_cast, nc1, Int.reduceToNat, upE, upN, fill_ne, fill_in, i0] <;> omega)))
          | (with_reducible apply it_2; (first | omega | (simp (disch := omega) only [not_false_eq_true, not_true_eq_false, w32_id, tLt, fLt, tLe, fEq, itE, and_true, true_and, and_self, and_false, false_and, ↓reduceIte, nat_add, nat_mul3, nat_mul4, nat_mul6, nat_mul15, nat_mul60, nat_cast, nc1, Int.reduceToNat, upE, upN, fill_ne, fill_in, i0] <;> omega)))
          | (with_reducible refine cl_go ?_; simp (disch := omega) only [not_false_eq_true, not_true_eq_false, w32_id, tLt, fLt, tLe, fEq, itE, and_true, true_and, and_self, and_false, false_and, ↓reduceIte, nat_add, nat_mul3, nat_mul4, nat_mul6, nat_mul15, nat_mul60, nat_cast, nc1, Int.reduceToNat, upE, upN, fill_ne, fill_in, i0])
          | rw [c_Tape_takeThing (by omega), b_Tape_takeThing_0]
          | with_reducible exact s1
          | with_reducible exact f1
          | with_reducible exact a1
          | (with_reducible refine rn_go ?_; simp (disch := omega) only [not_false_eq_true, not_true_eq_false, w32_id, tLt, fLt, tLe, fEq, itE, and_true, true_and, and_self, and_false, false_and, ↓reduceIte, nat_add, nat_mul3, nat_mul4, nat_mul6, nat_mul15, nat_mul60, nat_cast, nc1, Int.reduceToNat, upE, upN, fill_ne, fill_in, i0])
          | (with_reducible refine lf_go ?_; simp (disch := omega) only [not_false_eq_true, not_true_eq_false, w32_id, tLt, fLt, tLe, fEq, itE, and_true, true_and, and_self, and_false, false_and, ↓reduceIte, nat_add, nat_mul3, nat_mul4, nat_mul6, nat_mul15, nat_mul60, nat_cast, nc1, Int.reduceToNat, upE, upN, fill_ne, fill_in, i0])
          | with_reducible exact rfl
      · have f2 := f2 x y hx hy
        subst hz
        repeat' first
          | (with_reducible apply bR_go; (simp (disch := omega) only [rM L, rK L, rN L, rNf, rNv, rNp, rNd, rRow, rLeg, rMark, nat_cast, Int.reduceToNat, Int.reduceMod]; with_reducible exact rfl))
          | with_reducible apply bI_go
          | with_reducible apply bV_go
          | with_reducible apply bL_go
          | (with_reducible apply it_1; (first | omega | (simp (disch := omega) only [not_false_eq_true, not_true_eq_false, w32_id, tLt, fLt, tLe, fEq, itE, and_true, true_and, and_self, and_false, false_and, ↓reduceIte, nat_add, nat_mul3, nat_mul4, nat_mul6, nat_mul15, nat_mul60, nat_cast, nc1, Int.reduceToNat, upE, upN, fill_ne, fill_in, i0, Int.reduceMod] <;> omega)))
          | (with_reducible apply it_2; (first | omega | (simp (disch := omega) only [not_false_eq_true, not_true_eq_false, w32_id, tLt, fLt, tLe, fEq, itE, and_true, true_and, and_self, and_false, false_and, ↓reduceIte, nat_add, nat_mul3, nat_mul4, nat_mul6, nat_mul15, nat_mul60, nat_cast, nc1, Int.reduceToNat, upE, upN, fill_ne, fill_in, i0, Int.reduceMod] <;> omega)))
          | (with_reducible refine cl_go ?_; simp (disch := omega) only [not_false_eq_true, not_true_eq_false, w32_id, tLt, fLt, tLe, fEq, itE, and_true, true_and, and_self, and_false, false_and, ↓reduceIte, nat_add, nat_mul3, nat_mul4, nat_mul6, nat_mul15, nat_mul60, nat_cast, nc1, Int.reduceToNat, upE, upN, fill_ne, fill_in, i0, Int.reduceMod])
          | rw [c_Mo_oldOne (by omega), b_Mo_oldOne_0]
          | with_reducible exact s2
          | with_reducible exact f2
          | with_reducible exact a2
          | (with_reducible refine rn_go ?_; simp (disch := omega) only [not_false_eq_true, not_true_eq_false, w32_id, tLt, fLt, tLe, fEq, itE, and_true, true_and, and_self, and_false, false_and, ↓reduceIte, nat_add, nat_mul3, nat_mul4, nat_mul6, nat_mul15, nat_mul60, nat_cast, nc1, Int.reduceToNat, upE, upN, fill_ne, fill_in, i0, Int.reduceMod])
          | (with_reducible refine lf_go ?_; simp (disch := omega) only [not_false_eq_true, not_true_eq_false, w32_id, tLt, fLt, tLe, fEq, itE, and_true, true_and, and_self, and_false, false_and, ↓reduceIte, nat_add, nat_mul3, nat_mul4, nat_mul6, nat_mul15, nat_mul60, nat_cast, nc1, Int.reduceToNat, upE, upN, fill_ne, fill_in, i0, Int.reduceMod])
          | with_reducible exact rfl
    · by_cases y : r' = (t : Int)
      · obtain ⟨M1', M2', a1, a2, f, fa, fb⟩ := k_fails (L := L) (d1 := d1 - 1) (d2 := d3) (by omega) (by omega) h (x := 5) (by omega) (by omega)
        left
        refine ⟨M1', M2', y, fun y' hy => ?_, a2, f, fa, fb⟩
        have f1 := f1 y' hy
        subst hy
        repeat' first
          | (with_reducible apply bR_go; (simp (disch := omega) only [rM L, rK L, rN L, rNf, rNv, rNp, rNd, rRow, rLeg, rMark, nat_cast, Int.reduceToNat, y]; with_reducible exact rfl))
          | with_reducible apply bI_go
          | with_reducible apply bV_go
          | with_reducible apply bL_go
          | (with_reducible apply it_1; (first | omega | (simp (disch := omega) only [not_false_eq_true, not_true_eq_false, w32_id, tLt, fLt, tLe, fEq, itE, and_true, true_and, and_self, and_false, false_and, ↓reduceIte, nat_add, nat_mul3, nat_mul4, nat_mul6, nat_mul15, nat_mul60, nat_cast, nc1, Int.reduceToNat, upE, upN, fill_ne, fill_in, i0, y] <;> omega)))
          | (with_reducible apply it_2; (first | omega | (simp (disch := omega) only [not_false_eq_true, not_true_eq_false, w32_id, tLt, fLt, tLe, fEq, itE, and_true, true_and, and_self, and_false, false_and, ↓reduceIte, nat_add, nat_mul3, nat_mul4, nat_mul6, nat_mul15, nat_mul60, nat_cast, nc1, Int.reduceToNat, upE, upN, fill_ne, fill_in, i0, y] <;> omega)))
          | (with_reducible refine cl_go ?_; simp (disch := omega) only [not_false_eq_true, not_true_eq_false, w32_id, tLt, fLt, tLe, fEq, itE, and_true, true_and, and_self, and_false, false_and, ↓reduceIte, nat_add, nat_mul3, nat_mul4, nat_mul6, nat_mul15, nat_mul60, nat_cast, nc1, Int.reduceToNat, upE, upN, fill_ne, fill_in, i0, y])
          | rw [c_Tape_takeThing (by omega), b_Tape_takeThing_0]
          | with_reducible exact s1
          | with_reducible exact f1
          | with_reducible exact a1
          | (with_reducible refine rn_go ?_; simp (disch := omega) only [not_false_eq_true, not_true_eq_false, w32_id, tLt, fLt, tLe, fEq, itE, and_true, true_and, and_self, and_false, false_and, ↓reduceIte, nat_add, nat_mul3, nat_mul4, nat_mul6, nat_mul15, nat_mul60, nat_cast, nc1, Int.reduceToNat, upE, upN, fill_ne, fill_in, i0, y])
          | (with_reducible refine lf_go ?_; simp (disch := omega) only [not_false_eq_true, not_true_eq_false, w32_id, tLt, fLt, tLe, fEq, itE, and_true, true_and, and_self, and_false, false_and, ↓reduceIte, nat_add, nat_mul3, nat_mul4, nat_mul6, nat_mul15, nat_mul60, nat_cast, nc1, Int.reduceToNat, upE, upN, fill_ne, fill_in, i0, y])
          | with_reducible exact rfl
      · obtain ⟨v, rfl⟩ := Int.eq_ofNat_of_zero_le (show 0 ≤ r' by omega)
        obtain ⟨q', e', M1', M2', a1, a2, tk, le, fa, fb⟩ := k_adv (L := L) (d1 := d1 - 1) (d2 := d2 - 1) (by omega) (by omega) hu
        right; right
        refine ⟨q', e', v, M1', M2', rfl, by omega, fun y hy => ?_, fun x y z hx hy hz => ?_, by omega, tk, le, fa, fun b j q1 q2 => by rw [fb b j q1, upN (by omega)], by rw [fb _ _ (by omega), upE rfl rfl]⟩
        · have f1 := f1 y hy
          subst hy
          repeat' first
            | (with_reducible apply bR_go; (simp (disch := omega) only [rM L, rK L, rN L, rNf, rNv, rNp, rNd, rRow, rLeg, rMark, nat_cast, Int.reduceToNat]; with_reducible exact rfl))
            | with_reducible apply bI_go
            | with_reducible apply bV_go
            | with_reducible apply bL_go
            | (with_reducible apply it_1; (first | omega | (simp (disch := omega) only [not_false_eq_true, not_true_eq_false, w32_id, tLt, fLt, tLe, fEq, itE, and_true, true_and, and_self, and_false, false_and, ↓reduceIte, nat_add, nat_mul3, nat_mul4, nat_mul6, nat_mul15, nat_mul60, nat_cast, nc1, Int.reduceToNat, upE, upN, fill_ne, fill_in, i0] <;> omega)))
            | (with_reducible apply it_2; (first | omega | (simp (disch := omega) only [not_false_eq_true, not_true_eq_false, w32_id, tLt, fLt, tLe, fEq, itE, and_true, true_and, and_self, and_false, false_and, ↓reduceIte, nat_add, nat_mul3, nat_mul4, nat_mul6, nat_mul15, nat_mul60, nat_cast, nc1, Int.reduceToNat, upE, upN, fill_ne, fill_in, i0] <;> omega)))
            | (with_reducible refine cl_go ?_; simp (disch := omega) only [not_false_eq_true, not_true_eq_false, w32_id, tLt, fLt, tLe, fEq, itE, and_true, true_and, and_self, and_false, false_and, ↓reduceIte, nat_add, nat_mul3, nat_mul4, nat_mul6, nat_mul15, nat_mul60, nat_cast, nc1, Int.reduceToNat, upE, upN, fill_ne, fill_in, i0])
            | rw [c_Tape_takeThing (by omega), b_Tape_takeThing_0]
            | with_reducible exact s1
            | with_reducible exact f1
            | with_reducible exact a1
            | (with_reducible refine rn_go ?_; simp (disch := omega) only [not_false_eq_true, not_true_eq_false, w32_id, tLt, fLt, tLe, fEq, itE, and_true, true_and, and_self, and_false, false_and, ↓reduceIte, nat_add, nat_mul3, nat_mul4, nat_mul6, nat_mul15, nat_mul60, nat_cast, nc1, Int.reduceToNat, upE, upN, fill_ne, fill_in, i0])
            | (with_reducible refine lf_go ?_; simp (disch := omega) only [not_false_eq_true, not_true_eq_false, w32_id, tLt, fLt, tLe, fEq, itE, and_true, true_and, and_self, and_false, false_and, ↓reduceIte, nat_add, nat_mul3, nat_mul4, nat_mul6, nat_mul15, nat_mul60, nat_cast, nc1, Int.reduceToNat, upE, upN, fill_ne, fill_in, i0])
            | with_reducible exact rfl
        · have f2 := f2 x y hx hy
          subst hz
          repeat' first
            | (with_reducible apply bR_go; (simp (disch := omega) only [rM L, rK L, rN L, rNf, rNv, rNp, rNd, rRow, rLeg, rMark, nat_cast, Int.reduceToNat]; with_reducible exact rfl))
            | with_reducible apply bI_go
            | with_reducible apply bV_go
            | with_reducible apply bL_go
            | (with_reducible apply it_1; (first | omega | (simp (disch := omega) only [not_false_eq_true, not_true_eq_false, w32_id, tLt, fLt, tLe, fEq, itE, and_true, true_and, and_self, and_false, false_and, ↓reduceIte, nat_add, nat_mul3, nat_mul4, nat_mul6, nat_mul15, nat_mul60, nat_cast, nc1, Int.reduceToNat, upE, upN, fill_ne, fill_in, i0] <;> omega)))
            | (with_reducible apply it_2; (first | omega | (simp (disch := omega) only [not_false_eq_true, not_true_eq_false, w32_id, tLt, fLt, tLe, fEq, itE, and_true, true_and, and_self, and_false, false_and, ↓reduceIte, nat_add, nat_mul3, nat_mul4, nat_mul6, nat_mul15, nat_mul60, nat_cast, nc1, Int.reduceToNat, upE, upN, fill_ne, fill_in, i0] <;> omega)))
            | (with_reducible refine cl_go ?_; simp (disch := omega) only [not_false_eq_true, not_true_eq_false, w32_id, tLt, fLt, tLe, fEq, itE, and_true, true_and, and_self, and_false, false_and, ↓reduceIte, nat_add, nat_mul3, nat_mul4, nat_mul6, nat_mul15, nat_mul60, nat_cast, nc1, Int.reduceToNat, upE, upN, fill_ne, fill_in, i0])
            | rw [c_Mo_oldOne (by omega), b_Mo_oldOne_0]
            | with_reducible exact s2
            | with_reducible exact f2
            | with_reducible exact a2
            | (with_reducible refine rn_go ?_; simp (disch := omega) only [not_false_eq_true, not_true_eq_false, w32_id, tLt, fLt, tLe, fEq, itE, and_true, true_and, and_self, and_false, false_and, ↓reduceIte, nat_add, nat_mul3, nat_mul4, nat_mul6, nat_mul15, nat_mul60, nat_cast, nc1, Int.reduceToNat, upE, upN, fill_ne, fill_in, i0])
            | (with_reducible refine lf_go ?_; simp (disch := omega) only [not_false_eq_true, not_true_eq_false, w32_id, tLt, fLt, tLe, fEq, itE, and_true, true_and, and_self, and_false, false_and, ↓reduceIte, nat_add, nat_mul3, nat_mul4, nat_mul6, nat_mul15, nat_mul60, nat_cast, nc1, Int.reduceToNat, upE, upN, fill_ne, fill_in, i0])
            | with_reducible exact rfl
  · have s3 : callD d3 m_Mo_isName [vR 12 0 271, vR 13 1 2] (SH L) M2 = some (some (vI 0), SH L, M2) := by
      rcases k_name (L := L) (d1 := d1 - 1) (d2 := d3) (by omega) (by omega) h with ⟨s4, _⟩ | ⟨_, s3⟩
      · rw [s1] at s4
        exact absurd s4 (by simp)
      · exact s3
    obtain ⟨M1', M2', a1, a2, f, fa, fb⟩ := k_misfit (L := L) (d1 := d1 - 1) (d2 := d2 - 1) (by omega) (by omega) h
    left
    refine ⟨M1', M2', fun y hy => ?_, s3, fun x y z hx hy hz => ?_, f, fa, fb.t to⟩
    · subst hy
      repeat' first
        | (with_reducible apply bR_go; (simp (disch := omega) only [rM L, rK L, rN L, rNf, rNv, rNp, rNd, rRow, rLeg, rMark, nat_cast, Int.reduceToNat]; with_reducible exact rfl))
        | with_reducible apply bI_go
        | with_reducible apply bV_go
        | with_reducible apply bL_go
        | (with_reducible apply it_1; (first | omega | (simp (disch := omega) only [not_false_eq_true, not_true_eq_false, w32_id, tLt, fLt, tLe, fEq, itE, and_true, true_and, and_self, and_false, false_and, ↓reduceIte, nat_add, nat_mul3, nat_mul4, nat_mul6, nat_mul15, nat_mul60, nat_cast, nc1, Int.reduceToNat, upE, upN, fill_ne, fill_in, i0] <;> omega)))
        | (with_reducible apply it_2; (first | omega | (simp (disch := omega) only [not_false_eq_true, not_true_eq_false, w32_id, tLt, fLt, tLe, fEq, itE, and_true, true_and, and_self, and_false, false_and, ↓reduceIte, nat_add, nat_mul3, nat_mul4, nat_mul6, nat_mul15, nat_mul60, nat_cast, nc1, Int.reduceToNat, upE, upN, fill_ne, fill_in, i0] <;> omega)))
        | (with_reducible refine cl_go ?_; simp (disch := omega) only [not_false_eq_true, not_true_eq_false, w32_id, tLt, fLt, tLe, fEq, itE, and_true, true_and, and_self, and_false, false_and, ↓reduceIte, nat_add, nat_mul3, nat_mul4, nat_mul6, nat_mul15, nat_mul60, nat_cast, nc1, Int.reduceToNat, upE, upN, fill_ne, fill_in, i0])
        | rw [c_Tape_takeThing (by omega), b_Tape_takeThing_0]
        | with_reducible exact s1
        | with_reducible exact a1
        | (with_reducible refine rn_go ?_; simp (disch := omega) only [not_false_eq_true, not_true_eq_false, w32_id, tLt, fLt, tLe, fEq, itE, and_true, true_and, and_self, and_false, false_and, ↓reduceIte, nat_add, nat_mul3, nat_mul4, nat_mul6, nat_mul15, nat_mul60, nat_cast, nc1, Int.reduceToNat, upE, upN, fill_ne, fill_in, i0])
        | (with_reducible refine lf_go ?_; simp (disch := omega) only [not_false_eq_true, not_true_eq_false, w32_id, tLt, fLt, tLe, fEq, itE, and_true, true_and, and_self, and_false, false_and, ↓reduceIte, nat_add, nat_mul3, nat_mul4, nat_mul6, nat_mul15, nat_mul60, nat_cast, nc1, Int.reduceToNat, upE, upN, fill_ne, fill_in, i0])
        | with_reducible exact rfl
    · repeat' first
        | (with_reducible apply bR_go; (simp (disch := omega) only [rM L, rK L, rN L, rNf, rNv, rNp, rNd, rRow, rLeg, rMark, nat_cast, Int.reduceToNat, Int.reduceMod]; with_reducible exact rfl))
        | with_reducible apply bI_go
        | with_reducible apply bV_go
        | with_reducible apply bL_go
        | (with_reducible apply it_1; (first | omega | (simp (disch := omega) only [not_false_eq_true, not_true_eq_false, w32_id, tLt, fLt, tLe, fEq, itE, and_true, true_and, and_self, and_false, false_and, ↓reduceIte, nat_add, nat_mul3, nat_mul4, nat_mul6, nat_mul15, nat_mul60, nat_cast, nc1, Int.reduceToNat, upE, upN, fill_ne, fill_in, i0, Int.reduceMod] <;> omega)))
        | (with_reducible apply it_2; (first | omega | (simp (disch := omega) only [not_false_eq_true, not_true_eq_false, w32_id, tLt, fLt, tLe, fEq, itE, and_true, true_and, and_self, and_false, false_and, ↓reduceIte, nat_add, nat_mul3, nat_mul4, nat_mul6, nat_mul15, nat_mul60, nat_cast, nc1, Int.reduceToNat, upE, upN, fill_ne, fill_in, i0, Int.reduceMod] <;> omega)))
        | (with_reducible refine cl_go ?_; simp (disch := omega) only [not_false_eq_true, not_true_eq_false, w32_id, tLt, fLt, tLe, fEq, itE, and_true, true_and, and_self, and_false, false_and, ↓reduceIte, nat_add, nat_mul3, nat_mul4, nat_mul6, nat_mul15, nat_mul60, nat_cast, nc1, Int.reduceToNat, upE, upN, fill_ne, fill_in, i0, Int.reduceMod])
        | rw [c_Mo_oldOne (by omega), b_Mo_oldOne_0]
        | with_reducible exact s2
        | with_reducible exact a2
        | (with_reducible refine rn_go ?_; simp (disch := omega) only [not_false_eq_true, not_true_eq_false, w32_id, tLt, fLt, tLe, fEq, itE, and_true, true_and, and_self, and_false, false_and, ↓reduceIte, nat_add, nat_mul3, nat_mul4, nat_mul6, nat_mul15, nat_mul60, nat_cast, nc1, Int.reduceToNat, upE, upN, fill_ne, fill_in, i0, Int.reduceMod])
        | (with_reducible refine lf_go ?_; simp (disch := omega) only [not_false_eq_true, not_true_eq_false, w32_id, tLt, fLt, tLe, fEq, itE, and_true, true_and, and_self, and_false, false_and, ↓reduceIte, nat_add, nat_mul3, nat_mul4, nat_mul6, nat_mul15, nat_mul60, nat_cast, nc1, Int.reduceToNat, upE, upN, fill_ne, fill_in, i0, Int.reduceMod])
        | with_reducible exact rfl
theorem c_taken (hd : 2 ≤ d) {c : Nat} {x : Int} {r : Nat → Int} (h : ∀ k : Nat, k < 4 → ∀ y : Int, y = (k : Int) → callD (d - 1) m_Chart_find [vR 0 0 c, vI y, vL x] (SH L) M = some (some (vI (r k)), SH L, M)) : callD d m_Chart_isTaken [vR 0 0 c, vL x] (SH L) M = some (some (vI (if r 0 = -1 then (if r 1 = -1 then (if r 2 = -1 then (if r 3 = -1 then 0 else 1) else 1) else 1) else 1)), SH L, M) := by
  have st : ∀ (k : Nat) (y : Int), k < 4 → y = (k : Int) → Run (callD (d - 1)) tb_Chart_isTaken 2 [vR 0 0 c, vL x, vU, vI y] [] (SH L) M = if r k = -1 then Run (callD (d - 1)) tb_Chart_isTaken 2 [vR 0 0 c, vL x, vU, vI (y + 1)] [] (SH L) M else some (some (vI 1), SH L, M) := by
    intro k y hk hy
    rw [b_Chart_isTaken_2, if_pos (by omega), h k hk y hy]
    show (if r k = -1 then Run (callD (d - 1)) tb_Chart_isTaken 2 [vR 0 0 c, vL x, vU, vI (w32 (y + 1))] [] (SH L) M else some (some (vI 1), SH L, M)) = _
    rw [w32_id (by omega) (by omega)]
  rw [c_Chart_isTaken (by omega), b_Chart_isTaken_0, st 0 0 (by omega) rfl, st 1 (0 + 1) (by omega) rfl, st 2 (0 + 1 + 1) (by omega) rfl, st 3 (0 + 1 + 1 + 1) (by omega) rfl, b_Chart_isTaken_2, if_neg (show ¬((0 : Int) + 1 + 1 + 1 + 1 < 4) by omega)]
  by_cases e0 : r 0 = -1
  · by_cases e1 : r 1 = -1
    · by_cases e2 : r 2 = -1
      · by_cases e3 : r 3 = -1
        · simp only [if_pos e0, if_pos e1, if_pos e2, if_pos e3]
        · simp only [if_pos e0, if_pos e1, if_pos e2, if_neg e3]
      · simp only [if_pos e0, if_pos e1, if_neg e2]
    · simp only [if_pos e0, if_neg e1]
  · simp only [if_neg e0]
/-- the four kinds: number, place of the names, how many there may be -/
def kdO (kd off most : Nat) : Prop := kd = 0 ∧ off = 0 ∧ most = 6 ∨ kd = 1 ∧ off = 6 ∧ most = 8 ∨ kd = 2 ∧ off = 14 ∧ most = 6 ∨ kd = 3 ∧ off = 20 ∧ most = 4
/-- all names of the draft -/
def NmD (M1 M2 : Mm) (A : Nat → Int) : Prop := (∀ k, k < 4 → M2 272 (2288 + k) = A k) ∧ (0 ≤ A 0 ∧ A 0 ≤ 6 ∧ 0 ≤ A 1 ∧ A 1 ≤ 8 ∧ 0 ≤ A 2 ∧ A 2 ≤ 6 ∧ 0 ≤ A 3 ∧ A 3 ≤ 4) ∧ NmK M1 M2 66 0 96 (A 0).toNat ∧ NmK M1 M2 66 1 102 (A 1).toNat ∧ NmK M1 M2 66 2 110 (A 2).toNat ∧ NmK M1 M2 66 3 116 (A 3).toNat
theorem k_new (h1 : 7 ≤ d1) (h2 : 7 ≤ d2) (h : TK bt n q e M1 M2) {A : Nat → Int} (hN : NmD M1 M2 A) {kd off most : Nat} (hk : kdO kd off most) (h7 : M1 12 7 ≠ 4) :
    (∃ (q' e' : Nat) (M1' M2' : Mm), (∀ y : Int, y = (kd : Int) → callD d1 m_Tape_takeNew [vR 6 0 12, vR 0 0 66, vI y] (SH L) M1 = some (some (vI (A kd)), SH L, M1')) ∧ (∀ x y z : Int, x = (kd : Int) → y = (most : Int) → z = (off : Int) → callD d2 m_Mo_newOne [vR 12 0 271, vI x, vI y, vI z] (SH L) M2 = some (some (vI 1), SH L, M2')) ∧ A kd < most ∧ TK bt n q' e' M1' M2' ∧ e ≤ q' ∧ M1' 67 kd = A kd + 1 ∧ nmR (M1' (69 + kd) (A kd).toNat) (M2' 273 (96 + off + (A kd).toNat)) ∧ (∀ b j, ¬(b = 12 ∧ 4 ≤ j) → ¬(b = 67 ∧ j = kd) → ¬(b = 69 + kd ∧ j = (A kd).toNat) → M1' b j = M1 b j) ∧ ∀ b j, ¬(b = 271 ∧ (12 ≤ j ∧ j ≤ 15 ∨ j = 17 ∨ j = 18)) → ¬(b = 273 ∧ j = 96 + off + (A kd).toNat) → M2' b j = M2 b j) ∨
    (∃ M1' M2', (∀ y : Int, y = (kd : Int) → callD d1 m_Tape_takeNew [vR 6 0 12, vR 0 0 66, vI y] (SH L) M1 = some (some (vI (-1)), SH L, M1')) ∧ (∀ x y z : Int, x = (kd : Int) → y = (most : Int) → z = (off : Int) → callD d2 m_Mo_newOne [vR 12 0 271, vI x, vI y, vI z] (SH L) M2 = some (some (vI 0), SH L, M2')) ∧ FL M1' M2' ∧ FrA M1 M1' ∧ FrB M2 M2') := by
  obtain ⟨hA, bd, m0, m1, m2, m3⟩ := hN
  have ch66 : isCh 66 := Or.inr (Or.inl rfl)
  have rc := rC (L := L) ch66
  have kb : kd < 4 := by unfold kdO at hk; omega
  have rn := rCn (L := L) ch66 kb
  have Akd : 0 ≤ A kd ∧ A kd ≤ most ∧ M1 67 kd = A kd ∧ most ≤ 8 ∧ off + most ≤ 24 := by
    have e0 : M1 67 0 = ((A 0).toNat : Int) := m0.1
    have e1 : M1 67 1 = ((A 1).toNat : Int) := m1.1
    have e2 : M1 67 2 = ((A 2).toNat : Int) := m2.1
    have e3 : M1 67 3 = ((A 3).toNat : Int) := m3.1
    unfold kdO at hk
    rcases hk with ⟨rfl, rfl, rfl⟩ | ⟨rfl, rfl, rfl⟩ | ⟨rfl, rfl, rfl⟩ | ⟨rfl, rfl, rfl⟩ <;> omega
  obtain ⟨a0, am, ac, am8, ao⟩ := Akd
  have ak := hA kd kb
  have mo : ∀ (dd : Nat) (M : Mm), 1 ≤ dd → callD dd m_Chart_mostOf [vI (kd : Int)] (SH L) M = some (some (vI (most : Int)), SH L, M) := fun dd M hdd => by
    rw [c_Chart_mostOf hdd, b_Chart_mostOf_0]
    unfold kdO at hk
    rcases hk with ⟨rfl, rfl, rfl⟩ | ⟨rfl, rfl, rfl⟩ | ⟨rfl, rfl, rfl⟩ | ⟨rfl, rfl, rfl⟩ <;> rfl
  by_cases full : A kd = most
  · obtain ⟨M1', M2', a1, a2, f, fa, fb⟩ := k_fails (L := L) (d1 := d1 - 1) (d2 := d2 - 1) (by omega) (by omega) h (x := 6) (by omega) h7
    right
    have fu : callD (d1 - 1) m_Chart_isFull [vR 0 0 66, vI (kd : Int)] (SH L) M1 = some (some (vI 1), SH L, M1) := by
      repeat' first
        | (with_reducible apply bR_go; (simp (disch := omega) only [rM L, rK L, rN L, rNf, rNv, rNp, rNd, rRow, rLeg, rMark, nat_cast, Int.reduceToNat, rc, ac]; with_reducible exact rfl))
        | with_reducible apply bI_go
        | with_reducible apply bV_go
        | with_reducible apply bL_go
        | (with_reducible apply it_1; (first | omega | (simp (disch := omega) only [not_false_eq_true, not_true_eq_false, w32_id, tLt, fLt, tLe, fEq, itE, and_true, true_and, and_self, and_false, false_and, ↓reduceIte, nat_add, nat_mul3, nat_mul4, nat_mul6, nat_mul15, nat_mul60, nat_cast, nc1, Int.reduceToNat, upE, upN, fill_ne, fill_in, i0, rc, ac] <;> omega)))
        | (with_reducible apply it_2; (first | omega | (simp (disch := omega) only [not_false_eq_true, not_true_eq_false, w32_id, tLt, fLt, tLe, fEq, itE, and_true, true_and, and_self, and_false, false_and, ↓reduceIte, nat_add, nat_mul3, nat_mul4, nat_mul6, nat_mul15, nat_mul60, nat_cast, nc1, Int.reduceToNat, upE, upN, fill_ne, fill_in, i0, rc, ac] <;> omega)))
        | (with_reducible refine cl_go ?_; simp (disch := omega) only [not_false_eq_true, not_true_eq_false, w32_id, tLt, fLt, tLe, fEq, itE, and_true, true_and, and_self, and_false, false_and, ↓reduceIte, nat_add, nat_mul3, nat_mul4, nat_mul6, nat_mul15, nat_mul60, nat_cast, nc1, Int.reduceToNat, upE, upN, fill_ne, fill_in, i0, rc, ac])
        | rw [c_Chart_isFull (by omega), b_Chart_isFull_0]
        | with_reducible exact mo _ _ (by omega)
        | (with_reducible refine rn_go ?_; simp (disch := omega) only [not_false_eq_true, not_true_eq_false, w32_id, tLt, fLt, tLe, fEq, itE, and_true, true_and, and_self, and_false, false_and, ↓reduceIte, nat_add, nat_mul3, nat_mul4, nat_mul6, nat_mul15, nat_mul60, nat_cast, nc1, Int.reduceToNat, upE, upN, fill_ne, fill_in, i0, rc, ac])
        | (with_reducible refine lf_go ?_; simp (disch := omega) only [not_false_eq_true, not_true_eq_false, w32_id, tLt, fLt, tLe, fEq, itE, and_true, true_and, and_self, and_false, false_and, ↓reduceIte, nat_add, nat_mul3, nat_mul4, nat_mul6, nat_mul15, nat_mul60, nat_cast, nc1, Int.reduceToNat, upE, upN, fill_ne, fill_in, i0, rc, ac])
        | with_reducible exact rfl
    refine ⟨M1', M2', fun y hy => ?_, fun x y z hx hy hz => ?_, f, fa, fb⟩
    · subst hy
      repeat' first
        | (with_reducible apply bR_go; (simp (disch := omega) only [rM L, rK L, rN L, rNf, rNv, rNp, rNd, rRow, rLeg, rMark, nat_cast, Int.reduceToNat]; with_reducible exact rfl))
        | with_reducible apply bI_go
        | with_reducible apply bV_go
        | with_reducible apply bL_go
        | (with_reducible apply it_1; (first | omega | (simp (disch := omega) only [not_false_eq_true, not_true_eq_false, w32_id, tLt, fLt, tLe, fEq, itE, and_true, true_and, and_self, and_false, false_and, ↓reduceIte, nat_add, nat_mul3, nat_mul4, nat_mul6, nat_mul15, nat_mul60, nat_cast, nc1, Int.reduceToNat, upE, upN, fill_ne, fill_in, i0] <;> omega)))
        | (with_reducible apply it_2; (first | omega | (simp (disch := omega) only [not_false_eq_true, not_true_eq_false, w32_id, tLt, fLt, tLe, fEq, itE, and_true, true_and, and_self, and_false, false_and, ↓reduceIte, nat_add, nat_mul3, nat_mul4, nat_mul6, nat_mul15, nat_mul60, nat_cast, nc1, Int.reduceToNat, upE, upN, fill_ne, fill_in, i0] <;> omega)))
        | (with_reducible refine cl_go ?_; simp (disch := omega) only [not_false_eq_true, not_true_eq_false, w32_id, tLt, fLt, tLe, fEq, itE, and_true, true_and, and_self, and_false, false_and, ↓reduceIte, nat_add, nat_mul3, nat_mul4, nat_mul6, nat_mul15, nat_mul60, nat_cast, nc1, Int.reduceToNat, upE, upN, fill_ne, fill_in, i0])
        | rw [c_Tape_takeNew (by omega), b_Tape_takeNew_0]
        | with_reducible exact fu
        | with_reducible exact a1
        | (with_reducible refine rn_go ?_; simp (disch := omega) only [not_false_eq_true, not_true_eq_false, w32_id, tLt, fLt, tLe, fEq, itE, and_true, true_and, and_self, and_false, false_and, ↓reduceIte, nat_add, nat_mul3, nat_mul4, nat_mul6, nat_mul15, nat_mul60, nat_cast, nc1, Int.reduceToNat, upE, upN, fill_ne, fill_in, i0])
        | (with_reducible refine lf_go ?_; simp (disch := omega) only [not_false_eq_true, not_true_eq_false, w32_id, tLt, fLt, tLe, fEq, itE, and_true, true_and, and_self, and_false, false_and, ↓reduceIte, nat_add, nat_mul3, nat_mul4, nat_mul6, nat_mul15, nat_mul60, nat_cast, nc1, Int.reduceToNat, upE, upN, fill_ne, fill_in, i0])
        | with_reducible exact rfl
    · subst hx; subst hy; subst hz
      have hi : 2288 + (kd : Int) < 4004 := by omega
      repeat' first
        | (with_reducible apply bR_go; (simp (disch := omega) only [rM L, rK L, rN L, rNf, rNv, rNp, rNd, rRow, rLeg, rMark, nat_cast, Int.reduceToNat, ak, Int.reduceMod]; with_reducible exact rfl))
        | with_reducible apply bI_go
        | with_reducible apply bV_go
        | with_reducible apply bL_go
        | (with_reducible apply it_1; (first | omega | (simp (disch := omega) only [not_false_eq_true, not_true_eq_false, w32_id, tLt, fLt, tLe, fEq, itE, and_true, true_and, and_self, and_false, false_and, ↓reduceIte, nat_add, nat_mul3, nat_mul4, nat_mul6, nat_mul15, nat_mul60, nat_cast, nc1, Int.reduceToNat, upE, upN, fill_ne, fill_in, i0, ak, Int.reduceMod] <;> omega)))
        | (with_reducible apply it_2; (first | omega | (simp (disch := omega) only [not_false_eq_true, not_true_eq_false, w32_id, tLt, fLt, tLe, fEq, itE, and_true, true_and, and_self, and_false, false_and, ↓reduceIte, nat_add, nat_mul3, nat_mul4, nat_mul6, nat_mul15, nat_mul60, nat_cast, nc1, Int.reduceToNat, upE, upN, fill_ne, fill_in, i0, ak, Int.reduceMod] <;> omega)))
        | (with_reducible refine cl_go ?_; simp (disch := omega) only [not_false_eq_true, not_true_eq_false, w32_id, tLt, fLt, tLe, fEq, itE, and_true, true_and, and_self, and_false, false_and, ↓reduceIte, nat_add, nat_mul3, nat_mul4, nat_mul6, nat_mul15, nat_mul60, nat_cast, nc1, Int.reduceToNat, upE, upN, fill_ne, fill_in, i0, ak, Int.reduceMod])
        | rw [c_Mo_newOne (by omega), b_Mo_newOne_0]
        | with_reducible exact a2
        | (with_reducible refine rn_go ?_; simp (disch := omega) only [not_false_eq_true, not_true_eq_false, w32_id, tLt, fLt, tLe, fEq, itE, and_true, true_and, and_self, and_false, false_and, ↓reduceIte, nat_add, nat_mul3, nat_mul4, nat_mul6, nat_mul15, nat_mul60, nat_cast, nc1, Int.reduceToNat, upE, upN, fill_ne, fill_in, i0, ak, Int.reduceMod])
        | (with_reducible refine lf_go ?_; simp (disch := omega) only [not_false_eq_true, not_true_eq_false, w32_id, tLt, fLt, tLe, fEq, itE, and_true, true_and, and_self, and_false, false_and, ↓reduceIte, nat_add, nat_mul3, nat_mul4, nat_mul6, nat_mul15, nat_mul60, nat_cast, nc1, Int.reduceToNat, upE, upN, fill_ne, fill_in, i0, ak, Int.reduceMod])
        | with_reducible exact rfl
  have fu : callD (d1 - 1) m_Chart_isFull [vR 0 0 66, vI (kd : Int)] (SH L) M1 = some (some (vI 0), SH L, M1) := by
    repeat' first
      | (with_reducible apply bR_go; (simp (disch := omega) only [rM L, rK L, rN L, rNf, rNv, rNp, rNd, rRow, rLeg, rMark, nat_cast, Int.reduceToNat, rc, ac]; with_reducible exact rfl))
      | with_reducible apply bI_go
      | with_reducible apply bV_go
      | with_reducible apply bL_go
      | (with_reducible apply it_1; (first | omega | (simp (disch := omega) only [not_false_eq_true, not_true_eq_false, w32_id, tLt, fLt, tLe, fEq, itE, and_true, true_and, and_self, and_false, false_and, ↓reduceIte, nat_add, nat_mul3, nat_mul4, nat_mul6, nat_mul15, nat_mul60, nat_cast, nc1, Int.reduceToNat, upE, upN, fill_ne, fill_in, i0, rc, ac] <;> omega)))
      | (with_reducible apply it_2; (first | omega | (simp (disch := omega) only [not_false_eq_true, not_true_eq_false, w32_id, tLt, fLt, tLe, fEq, itE, and_true, true_and, and_self, and_false, false_and, ↓reduceIte, nat_add, nat_mul3, nat_mul4, nat_mul6, nat_mul15, nat_mul60, nat_cast, nc1, Int.reduceToNat, upE, upN, fill_ne, fill_in, i0, rc, ac] <;> omega)))
      | (with_reducible refine cl_go ?_; simp (disch := omega) only [not_false_eq_true, not_true_eq_false, w32_id, tLt, fLt, tLe, fEq, itE, and_true, true_and, and_self, and_false, false_and, ↓reduceIte, nat_add, nat_mul3, nat_mul4, nat_mul6, nat_mul15, nat_mul60, nat_cast, nc1, Int.reduceToNat, upE, upN, fill_ne, fill_in, i0, rc, ac])
      | rw [c_Chart_isFull (by omega), b_Chart_isFull_0]
      | with_reducible exact mo _ _ (by omega)
      | (with_reducible refine rn_go ?_; simp (disch := omega) only [not_false_eq_true, not_true_eq_false, w32_id, tLt, fLt, tLe, fEq, itE, and_true, true_and, and_self, and_false, false_and, ↓reduceIte, nat_add, nat_mul3, nat_mul4, nat_mul6, nat_mul15, nat_mul60, nat_cast, nc1, Int.reduceToNat, upE, upN, fill_ne, fill_in, i0, rc, ac])
      | (with_reducible refine lf_go ?_; simp (disch := omega) only [not_false_eq_true, not_true_eq_false, w32_id, tLt, fLt, tLe, fEq, itE, and_true, true_and, and_self, and_false, false_and, ↓reduceIte, nat_add, nat_mul3, nat_mul4, nat_mul6, nat_mul15, nat_mul60, nat_cast, nc1, Int.reduceToNat, upE, upN, fill_ne, fill_in, i0, rc, ac])
      | with_reducible exact rfl
  obtain ⟨qa, ea, Ma, Mb, a1, a2, ta, le, fa, fb⟩ := k_adv (L := L) (d1 := d1 - 1) (d2 := d2 - 1) (by omega) (by omega) h
  have akb : Mb 272 (2288 + kd) = A kd := by rw [fb _ _ (by omega)]; exact ak
  rcases k_name (L := L) (d1 := d1 - 1) (d2 := d2 - 1) (by omega) (by omega) ta with ⟨s1, s2, hr, h8, h7', h11⟩ | ⟨s1, s2⟩
  · have q0 := m0.fr (M1' := Ma) (M2' := Mb) (by omega) fa fun j => fb _ _ (by omega)
    have q1 := m1.fr (M1' := Ma) (M2' := Mb) (by omega) fa fun j => fb _ _ (by omega)
    have q2 := m2.fr (M1' := Ma) (M2' := Mb) (by omega) fa fun j => fb _ _ (by omega)
    have q3 := m3.fr (M1' := Ma) (M2' := Mb) (by omega) fa fun j => fb _ _ (by omega)
    obtain ⟨r0, rb0, f0, g0⟩ := k_find (L := L) (d1 := d1 - 1 - 1) (d2 := d2 - 1) (by omega) (by omega) ta hr h8 h11 ch66 (by omega) q0
    obtain ⟨r1, rb1, f1, g1⟩ := k_find (L := L) (d1 := d1 - 1 - 1) (d2 := d2 - 1) (by omega) (by omega) ta hr h8 h11 ch66 (by omega) q1
    obtain ⟨r2, rb2, f2, g2⟩ := k_find (L := L) (d1 := d1 - 1 - 1) (d2 := d2 - 1) (by omega) (by omega) ta hr h8 h11 ch66 (by omega) q2
    obtain ⟨r3, rb3, f3, g3⟩ := k_find (L := L) (d1 := d1 - 1 - 1) (d2 := d2 - 1) (by omega) (by omega) ta hr h8 h11 ch66 (by omega) q3
    have tk := c_taken (L := L) (d := d1 - 1) (M := Ma) (c := 66) (x := Ma 12 11) (r := fun k => if k = 0 then r0 else if k = 1 then r1 else if k = 2 then r2 else r3) (by omega) fun k hk y hy => by
      have z : k = 0 ∨ k = 1 ∨ k = 2 ∨ k = 3 := by omega
      rcases z with rfl | rfl | rfl | rfl
      · exact f0 y hy
      · exact f1 y hy
      · exact f2 y hy
      · exact f3 y hy
    have tk : callD (d1 - 1) m_Chart_isTaken [vR 0 0 66, vL (Ma 12 11)] (SH L) Ma = some (some (vI (if r0 = -1 then (if r1 = -1 then (if r2 = -1 then (if r3 = -1 then 0 else 1) else 1) else 1) else 1)), SH L, Ma) := tk
    have c0 : Mb 272 2288 = A 0 := by rw [fb _ _ (by omega)]; exact hA 0 (by omega)
    have c1 : Mb 272 2289 = A 1 := by rw [fb _ _ (by omega)]; exact hA 1 (by omega)
    have c2 : Mb 272 2290 = A 2 := by rw [fb _ _ (by omega)]; exact hA 2 (by omega)
    have c3 : Mb 272 2291 = A 3 := by rw [fb _ _ (by omega)]; exact hA 3 (by omega)
    have g0 := g0 96 (A 0) rfl (by omega)
    have g1 := g1 102 (A 1) rfl (by omega)
    have g2 := g2 110 (A 2) rfl (by omega)
    have g3 := g3 116 (A 3) rfl (by omega)
    by_cases all : r0 = -1 ∧ r1 = -1 ∧ r2 = -1 ∧ r3 = -1
    · obtain ⟨rfl, rfl, rfl, rfl⟩ := all
      rw [if_pos rfl, if_pos rfl, if_pos rfl, if_pos rfl] at tk
      have nm := m_name (L := L) (d := d2 - 1) (by omega) ta.2.1 ta.2.2.2.1.1 ta.2.2.2.1.2.1 hr h8
      have aca : Ma 67 kd = A kd := by rw [fa _ _ (by omega)]; exact ac
      have en : callD (d1 - 1) m_Chart_enter [vR 0 0 66, vI (kd : Int), vL (Ma 12 11)] (SH L) Ma = some (some (vI (A kd)), SH L, up (up Ma (69 + kd) (A kd).toNat (Ma 12 11)) 67 kd (A kd + 1)) := by
        repeat' first
          | (with_reducible apply bR_go; (simp (disch := omega) only [rM L, rK L, rN L, rNf, rNv, rNp, rNd, rRow, rLeg, rMark, nat_cast, Int.reduceToNat, rc, rn, aca]; with_reducible exact rfl))
          | with_reducible apply bI_go
          | with_reducible apply bV_go
          | with_reducible apply bL_go
          | (with_reducible apply it_1; (first | omega | (simp (disch := omega) only [not_false_eq_true, not_true_eq_false, w32_id, tLt, fLt, tLe, fEq, itE, and_true, true_and, and_self, and_false, false_and, ↓reduceIte, nat_add, nat_mul3, nat_mul4, nat_mul6, nat_mul15, nat_mul60, nat_cast, nc1, Int.reduceToNat, upE, upN, fill_ne, fill_in, i0, rc, rn, aca] <;> omega)))
          | (with_reducible apply it_2; (first | omega | (simp (disch := omega) only [not_false_eq_true, not_true_eq_false, w32_id, tLt, fLt, tLe, fEq, itE, and_true, true_and, and_self, and_false, false_and, ↓reduceIte, nat_add, nat_mul3, nat_mul4, nat_mul6, nat_mul15, nat_mul60, nat_cast, nc1, Int.reduceToNat, upE, upN, fill_ne, fill_in, i0, rc, rn, aca] <;> omega)))
          | (with_reducible refine cl_go ?_; simp (disch := omega) only [not_false_eq_true, not_true_eq_false, w32_id, tLt, fLt, tLe, fEq, itE, and_true, true_and, and_self, and_false, false_and, ↓reduceIte, nat_add, nat_mul3, nat_mul4, nat_mul6, nat_mul15, nat_mul60, nat_cast, nc1, Int.reduceToNat, upE, upN, fill_ne, fill_in, i0, rc, rn, aca])
          | rw [c_Chart_enter (by omega), b_Chart_enter_0]
          | (with_reducible refine rn_go ?_; simp (disch := omega) only [not_false_eq_true, not_true_eq_false, w32_id, tLt, fLt, tLe, fEq, itE, and_true, true_and, and_self, and_false, false_and, ↓reduceIte, nat_add, nat_mul3, nat_mul4, nat_mul6, nat_mul15, nat_mul60, nat_cast, nc1, Int.reduceToNat, upE, upN, fill_ne, fill_in, i0, rc, rn, aca])
          | (with_reducible refine lf_go ?_; simp (disch := omega) only [not_false_eq_true, not_true_eq_false, w32_id, tLt, fLt, tLe, fEq, itE, and_true, true_and, and_self, and_false, false_and, ↓reduceIte, nat_add, nat_mul3, nat_mul4, nat_mul6, nat_mul15, nat_mul60, nat_cast, nc1, Int.reduceToNat, upE, upN, fill_ne, fill_in, i0, rc, rn, aca])
          | with_reducible exact rfl
      have hu : TK bt n qa ea (up (up Ma (69 + kd) (A kd).toNat (Ma 12 11)) 67 kd (A kd + 1)) (up Mb 273 (96 + off + (A kd).toNat) (cod 256 96 (lts bt qa (ea - qa)) 0)) := ta.fr (fun b j hb => by rw [upN (by omega), upN (by omega)]) fun b j hb => upN (by omega)
      obtain ⟨q', e', M1', M2', w1, w2, t', le', fa', fb'⟩ := k_adv (L := L) (d1 := d1 - 1) (d2 := d2 - 1) (by omega) (by omega) hu
      left
      refine ⟨q', e', M1', M2', fun y hy => ?_, fun x y z hx hy hz => ?_, by omega, t', by have := ta.2.2.2.2.1.bd; omega, ?_, ?_, fun b j x1 x2 x3 => ?_, fun b j x1 x2 => ?_⟩
      · subst hy
        repeat' first
          | (with_reducible apply bR_go; (simp (disch := omega) only [rM L, rK L, rN L, rNf, rNv, rNp, rNd, rRow, rLeg, rMark, nat_cast, Int.reduceToNat]; with_reducible exact rfl))
          | with_reducible apply bI_go
          | with_reducible apply bV_go
          | with_reducible apply bL_go
          | (with_reducible apply it_1; (first | omega | (simp (disch := omega) only [not_false_eq_true, not_true_eq_false, w32_id, tLt, fLt, tLe, fEq, itE, and_true, true_and, and_self, and_false, false_and, ↓reduceIte, nat_add, nat_mul3, nat_mul4, nat_mul6, nat_mul15, nat_mul60, nat_cast, nc1, Int.reduceToNat, upE, upN, fill_ne, fill_in, i0] <;> omega)))
          | (with_reducible apply it_2; (first | omega | (simp (disch := omega) only [not_false_eq_true, not_true_eq_false, w32_id, tLt, fLt, tLe, fEq, itE, and_true, true_and, and_self, and_false, false_and, ↓reduceIte, nat_add, nat_mul3, nat_mul4, nat_mul6, nat_mul15, nat_mul60, nat_cast, nc1, Int.reduceToNat, upE, upN, fill_ne, fill_in, i0] <;> omega)))
          | (with_reducible refine cl_go ?_; simp (disch := omega) only [not_false_eq_true, not_true_eq_false, w32_id, tLt, fLt, tLe, fEq, itE, and_true, true_and, and_self, and_false, false_and, ↓reduceIte, nat_add, nat_mul3, nat_mul4, nat_mul6, nat_mul15, nat_mul60, nat_cast, nc1, Int.reduceToNat, upE, upN, fill_ne, fill_in, i0])
          | rw [c_Tape_takeNew (by omega), b_Tape_takeNew_0]
          | with_reducible exact fu
          | with_reducible exact a1
          | with_reducible exact s1
          | with_reducible exact tk
          | with_reducible exact en
          | with_reducible exact w1
          | (with_reducible refine rn_go ?_; simp (disch := omega) only [not_false_eq_true, not_true_eq_false, w32_id, tLt, fLt, tLe, fEq, itE, and_true, true_and, and_self, and_false, false_and, ↓reduceIte, nat_add, nat_mul3, nat_mul4, nat_mul6, nat_mul15, nat_mul60, nat_cast, nc1, Int.reduceToNat, upE, upN, fill_ne, fill_in, i0])
          | (with_reducible refine lf_go ?_; simp (disch := omega) only [not_false_eq_true, not_true_eq_false, w32_id, tLt, fLt, tLe, fEq, itE, and_true, true_and, and_self, and_false, false_and, ↓reduceIte, nat_add, nat_mul3, nat_mul4, nat_mul6, nat_mul15, nat_mul60, nat_cast, nc1, Int.reduceToNat, upE, upN, fill_ne, fill_in, i0])
          | with_reducible exact rfl
      · subst hx; subst hy; subst hz
        have hi : 2288 + (kd : Int) < 4004 := by omega
        have ix : (96 + (off : Int) + A kd).toNat = 96 + off + (A kd).toNat := by omega
        repeat' first
          | (with_reducible apply bR_go; (simp (disch := omega) only [rM L, rK L, rN L, rNf, rNv, rNp, rNd, rRow, rLeg, rMark, nat_cast, Int.reduceToNat, ak, akb, c0, c1, c2, c3, ix]; with_reducible exact rfl))
          | with_reducible apply bI_go
          | with_reducible apply bV_go
          | with_reducible apply bL_go
          | (with_reducible apply it_1; (first | omega | (simp (disch := omega) only [not_false_eq_true, not_true_eq_false, w32_id, tLt, fLt, tLe, fEq, itE, and_true, true_and, and_self, and_false, false_and, ↓reduceIte, nat_add, nat_mul3, nat_mul4, nat_mul6, nat_mul15, nat_mul60, nat_cast, nc1, Int.reduceToNat, upE, upN, fill_ne, fill_in, i0, ak, akb, c0, c1, c2, c3, ix] <;> omega)))
          | (with_reducible apply it_2; (first | omega | (simp (disch := omega) only [not_false_eq_true, not_true_eq_false, w32_id, tLt, fLt, tLe, fEq, itE, and_true, true_and, and_self, and_false, false_and, ↓reduceIte, nat_add, nat_mul3, nat_mul4, nat_mul6, nat_mul15, nat_mul60, nat_cast, nc1, Int.reduceToNat, upE, upN, fill_ne, fill_in, i0, ak, akb, c0, c1, c2, c3, ix] <;> omega)))
          | (with_reducible refine cl_go ?_; simp (disch := omega) only [not_false_eq_true, not_true_eq_false, w32_id, tLt, fLt, tLe, fEq, itE, and_true, true_and, and_self, and_false, false_and, ↓reduceIte, nat_add, nat_mul3, nat_mul4, nat_mul6, nat_mul15, nat_mul60, nat_cast, nc1, Int.reduceToNat, upE, upN, fill_ne, fill_in, i0, ak, akb, c0, c1, c2, c3, ix])
          | rw [c_Mo_newOne (by omega), b_Mo_newOne_0]
          | with_reducible exact a2
          | with_reducible exact s2
          | with_reducible exact g0
          | with_reducible exact g1
          | with_reducible exact g2
          | with_reducible exact g3
          | with_reducible exact nm
          | with_reducible exact w2
          | (with_reducible refine rn_go ?_; simp (disch := omega) only [not_false_eq_true, not_true_eq_false, w32_id, tLt, fLt, tLe, fEq, itE, and_true, true_and, and_self, and_false, false_and, ↓reduceIte, nat_add, nat_mul3, nat_mul4, nat_mul6, nat_mul15, nat_mul60, nat_cast, nc1, Int.reduceToNat, upE, upN, fill_ne, fill_in, i0, ak, akb, c0, c1, c2, c3, ix])
          | (with_reducible refine lf_go ?_; simp (disch := omega) only [not_false_eq_true, not_true_eq_false, w32_id, tLt, fLt, tLe, fEq, itE, and_true, true_and, and_self, and_false, false_and, ↓reduceIte, nat_add, nat_mul3, nat_mul4, nat_mul6, nat_mul15, nat_mul60, nat_cast, nc1, Int.reduceToNat, upE, upN, fill_ne, fill_in, i0, ak, akb, c0, c1, c2, c3, ix])
          | with_reducible exact rfl
      · rw [fa' _ _ (by omega), upE rfl rfl]
      · rw [fa' _ _ (by omega), fb' _ _ (by omega), upN (by omega), upE rfl rfl, upE rfl rfl, h11]
        exact ⟨lts bt qa (ea - qa), by rw [lts_len]; have := hr.1; omega, by rw [lts_len]; exact h8, lts_ok (ea - qa) fun i h1 h2 => hr.2.2.1 i h1 (by omega), rfl, rfl⟩
      · rw [fa' _ _ x1, upN (by omega), upN (by omega), fa _ _ x1]
      · rw [fb' _ _ x1, upN (by omega), fb _ _ x1]
    · obtain ⟨M1', M2', w1, w2, f, fa', fb'⟩ := k_fails (L := L) (d1 := d1 - 1) (d2 := d2 - 1) (by omega) (by omega) ta (x := 3) (by omega) (by omega)
      have tk1 : callD (d1 - 1) m_Chart_isTaken [vR 0 0 66, vL (Ma 12 11)] (SH L) Ma = some (some (vI 1), SH L, Ma) := by
        rw [tk]
        by_cases e0 : r0 = -1
        · by_cases e1 : r1 = -1
          · by_cases e2 : r2 = -1
            · rw [if_pos e0, if_pos e1, if_pos e2, if_neg (fun e3 => all ⟨e0, e1, e2, e3⟩)]
            · rw [if_pos e0, if_pos e1, if_neg e2]
          · rw [if_pos e0, if_neg e1]
        · rw [if_neg e0]
      right
      refine ⟨M1', M2', fun y hy => ?_, fun x y z hx hy hz => ?_, f, fa.trans fa', fb.trans fb'⟩
      · subst hy
        repeat' first
          | (with_reducible apply bR_go; (simp (disch := omega) only [rM L, rK L, rN L, rNf, rNv, rNp, rNd, rRow, rLeg, rMark, nat_cast, Int.reduceToNat]; with_reducible exact rfl))
          | with_reducible apply bI_go
          | with_reducible apply bV_go
          | with_reducible apply bL_go
          | (with_reducible apply it_1; (first | omega | (simp (disch := omega) only [not_false_eq_true, not_true_eq_false, w32_id, tLt, fLt, tLe, fEq, itE, and_true, true_and, and_self, and_false, false_and, ↓reduceIte, nat_add, nat_mul3, nat_mul4, nat_mul6, nat_mul15, nat_mul60, nat_cast, nc1, Int.reduceToNat, upE, upN, fill_ne, fill_in, i0] <;> omega)))
          | (with_reducible apply it_2; (first | omega | (simp (disch := omega) only [not_false_eq_true, not_true_eq_false, w32_id, tLt, fLt, tLe, fEq, itE, and_true, true_and, and_self, and_false, false_and, ↓reduceIte, nat_add, nat_mul3, nat_mul4, nat_mul6, nat_mul15, nat_mul60, nat_cast, nc1, Int.reduceToNat, upE, upN, fill_ne, fill_in, i0] <;> omega)))
          | (with_reducible refine cl_go ?_; simp (disch := omega) only [not_false_eq_true, not_true_eq_false, w32_id, tLt, fLt, tLe, fEq, itE, and_true, true_and, and_self, and_false, false_and, ↓reduceIte, nat_add, nat_mul3, nat_mul4, nat_mul6, nat_mul15, nat_mul60, nat_cast, nc1, Int.reduceToNat, upE, upN, fill_ne, fill_in, i0])
          | rw [c_Tape_takeNew (by omega), b_Tape_takeNew_0]
          | with_reducible exact fu
          | with_reducible exact a1
          | with_reducible exact s1
          | with_reducible exact tk1
          | with_reducible exact w1
          | (with_reducible refine rn_go ?_; simp (disch := omega) only [not_false_eq_true, not_true_eq_false, w32_id, tLt, fLt, tLe, fEq, itE, and_true, true_and, and_self, and_false, false_and, ↓reduceIte, nat_add, nat_mul3, nat_mul4, nat_mul6, nat_mul15, nat_mul60, nat_cast, nc1, Int.reduceToNat, upE, upN, fill_ne, fill_in, i0])
          | (with_reducible refine lf_go ?_; simp (disch := omega) only [not_false_eq_true, not_true_eq_false, w32_id, tLt, fLt, tLe, fEq, itE, and_true, true_and, and_self, and_false, false_and, ↓reduceIte, nat_add, nat_mul3, nat_mul4, nat_mul6, nat_mul15, nat_mul60, nat_cast, nc1, Int.reduceToNat, upE, upN, fill_ne, fill_in, i0])
          | with_reducible exact rfl
      · subst hx; subst hy; subst hz
        have hi : 2288 + (kd : Int) < 4004 := by omega
        by_cases e0 : r0 = -1
        · by_cases e1 : r1 = -1
          · by_cases e2 : r2 = -1
            · have e3 : ¬ r3 = -1 := fun e3 => all ⟨e0, e1, e2, e3⟩
              repeat' first
                | (with_reducible apply bR_go; (simp (disch := omega) only [rM L, rK L, rN L, rNf, rNv, rNp, rNd, rRow, rLeg, rMark, nat_cast, Int.reduceToNat, ak, akb, c0, c1, c2, c3, e0, e1, e2, Int.reduceMod]; with_reducible exact rfl))
                | with_reducible apply bI_go
                | with_reducible apply bV_go
                | with_reducible apply bL_go
                | (with_reducible apply it_1; (first | omega | (simp (disch := omega) only [not_false_eq_true, not_true_eq_false, w32_id, tLt, fLt, tLe, fEq, itE, and_true, true_and, and_self, and_false, false_and, ↓reduceIte, nat_add, nat_mul3, nat_mul4, nat_mul6, nat_mul15, nat_mul60, nat_cast, nc1, Int.reduceToNat, upE, upN, fill_ne, fill_in, i0, ak, akb, c0, c1, c2, c3, e0, e1, e2, Int.reduceMod] <;> omega)))
                | (with_reducible apply it_2; (first | omega | (simp (disch := omega) only [not_false_eq_true, not_true_eq_false, w32_id, tLt, fLt, tLe, fEq, itE, and_true, true_and, and_self, and_false, false_and, ↓reduceIte, nat_add, nat_mul3, nat_mul4, nat_mul6, nat_mul15, nat_mul60, nat_cast, nc1, Int.reduceToNat, upE, upN, fill_ne, fill_in, i0, ak, akb, c0, c1, c2, c3, e0, e1, e2, Int.reduceMod] <;> omega)))
                | (with_reducible refine cl_go ?_; simp (disch := omega) only [not_false_eq_true, not_true_eq_false, w32_id, tLt, fLt, tLe, fEq, itE, and_true, true_and, and_self, and_false, false_and, ↓reduceIte, nat_add, nat_mul3, nat_mul4, nat_mul6, nat_mul15, nat_mul60, nat_cast, nc1, Int.reduceToNat, upE, upN, fill_ne, fill_in, i0, ak, akb, c0, c1, c2, c3, e0, e1, e2, Int.reduceMod])
                | rw [c_Mo_newOne (by omega), b_Mo_newOne_0]
                | with_reducible exact a2
                | with_reducible exact s2
                | with_reducible exact g0
                | with_reducible exact g1
                | with_reducible exact g2
                | with_reducible exact g3
                | with_reducible exact w2
                | (with_reducible refine rn_go ?_; simp (disch := omega) only [not_false_eq_true, not_true_eq_false, w32_id, tLt, fLt, tLe, fEq, itE, and_true, true_and, and_self, and_false, false_and, ↓reduceIte, nat_add, nat_mul3, nat_mul4, nat_mul6, nat_mul15, nat_mul60, nat_cast, nc1, Int.reduceToNat, upE, upN, fill_ne, fill_in, i0, ak, akb, c0, c1, c2, c3, e0, e1, e2, Int.reduceMod])
                | (with_reducible refine lf_go ?_; simp (disch := omega) only [not_false_eq_true, not_true_eq_false, w32_id, tLt, fLt, tLe, fEq, itE, and_true, true_and, and_self, and_false, false_and, ↓reduceIte, nat_add, nat_mul3, nat_mul4, nat_mul6, nat_mul15, nat_mul60, nat_cast, nc1, Int.reduceToNat, upE, upN, fill_ne, fill_in, i0, ak, akb, c0, c1, c2, c3, e0, e1, e2, Int.reduceMod])
                | with_reducible exact rfl
            · repeat' first
                | (with_reducible apply bR_go; (simp (disch := omega) only [rM L, rK L, rN L, rNf, rNv, rNp, rNd, rRow, rLeg, rMark, nat_cast, Int.reduceToNat, ak, akb, c0, c1, c2, c3, e0, e1, Int.reduceMod]; with_reducible exact rfl))
                | with_reducible apply bI_go
                | with_reducible apply bV_go
                | with_reducible apply bL_go
                | (with_reducible apply it_1; (first | omega | (simp (disch := omega) only [not_false_eq_true, not_true_eq_false, w32_id, tLt, fLt, tLe, fEq, itE, and_true, true_and, and_self, and_false, false_and, ↓reduceIte, nat_add, nat_mul3, nat_mul4, nat_mul6, nat_mul15, nat_mul60, nat_cast, nc1, Int.reduceToNat, upE, upN, fill_ne, fill_in, i0, ak, akb, c0, c1, c2, c3, e0, e1, Int.reduceMod] <;> omega)))
                | (with_reducible apply it_2; (first | omega | (simp (disch := omega) only [not_false_eq_true, not_true_eq_false, w32_id, tLt, fLt, tLe, fEq, itE, and_true, true_and, and_self, and_false, false_and, ↓reduceIte, nat_add, nat_mul3, nat_mul4, nat_mul6, nat_mul15, nat_mul60, nat_cast, nc1, Int.reduceToNat, upE, upN, fill_ne, fill_in, i0, ak, akb, c0, c1, c2, c3, e0, e1, Int.reduceMod] <;> omega)))
                | (with_reducible refine cl_go ?_; simp (disch := omega) only [not_false_eq_true, not_true_eq_false, w32_id, tLt, fLt, tLe, fEq, itE, and_true, true_and, and_self, and_false, false_and, ↓reduceIte, nat_add, nat_mul3, nat_mul4, nat_mul6, nat_mul15, nat_mul60, nat_cast, nc1, Int.reduceToNat, upE, upN, fill_ne, fill_in, i0, ak, akb, c0, c1, c2, c3, e0, e1, Int.reduceMod])
                | rw [c_Mo_newOne (by omega), b_Mo_newOne_0]
                | with_reducible exact a2
                | with_reducible exact s2
                | with_reducible exact g0
                | with_reducible exact g1
                | with_reducible exact g2
                | with_reducible exact w2
                | (with_reducible refine rn_go ?_; simp (disch := omega) only [not_false_eq_true, not_true_eq_false, w32_id, tLt, fLt, tLe, fEq, itE, and_true, true_and, and_self, and_false, false_and, ↓reduceIte, nat_add, nat_mul3, nat_mul4, nat_mul6, nat_mul15, nat_mul60, nat_cast, nc1, Int.reduceToNat, upE, upN, fill_ne, fill_in, i0, ak, akb, c0, c1, c2, c3, e0, e1, Int.reduceMod])
                | (with_reducible refine lf_go ?_; simp (disch := omega) only [not_false_eq_true, not_true_eq_false, w32_id, tLt, fLt, tLe, fEq, itE, and_true, true_and, and_self, and_false, false_and, ↓reduceIte, nat_add, nat_mul3, nat_mul4, nat_mul6, nat_mul15, nat_mul60, nat_cast, nc1, Int.reduceToNat, upE, upN, fill_ne, fill_in, i0, ak, akb, c0, c1, c2, c3, e0, e1, Int.reduceMod])
                | with_reducible exact rfl
          · repeat' first
              | (with_reducible apply bR_go; (simp (disch := omega) only [rM L, rK L, rN L, rNf, rNv, rNp, rNd, rRow, rLeg, rMark, nat_cast, Int.reduceToNat, ak, akb, c0, c1, c2, c3, e0, Int.reduceMod]; with_reducible exact rfl))
              | with_reducible apply bI_go
              | with_reducible apply bV_go
              | with_reducible apply bL_go
              | (with_reducible apply it_1; (first | omega | (simp (disch := omega) only [not_false_eq_true, not_true_eq_false, w32_id, tLt, fLt, tLe, fEq, itE, and_true, true_and, and_self, and_false, false_and, ↓reduceIte, nat_add, nat_mul3, nat_mul4, nat_mul6, nat_mul15, nat_mul60, nat_cast, nc1, Int.reduceToNat, upE, upN, fill_ne, fill_in, i0, ak, akb, c0, c1, c2, c3, e0, Int.reduceMod] <;> omega)))
              | (with_reducible apply it_2; (first | omega | (simp (disch := omega) only [not_false_eq_true, not_true_eq_false, w32_id, tLt, fLt, tLe, fEq, itE, and_true, true_and, and_self, and_false, false_and, ↓reduceIte, nat_add, nat_mul3, nat_mul4, nat_mul6, nat_mul15, nat_mul60, nat_cast, nc1, Int.reduceToNat, upE, upN, fill_ne, fill_in, i0, ak, akb, c0, c1, c2, c3, e0, Int.reduceMod] <;> omega)))
              | (with_reducible refine cl_go ?_; simp (disch := omega) only [not_false_eq_true, not_true_eq_false, w32_id, tLt, fLt, tLe, fEq, itE, and_true, true_and, and_self, and_false, false_and, ↓reduceIte, nat_add, nat_mul3, nat_mul4, nat_mul6, nat_mul15, nat_mul60, nat_cast, nc1, Int.reduceToNat, upE, upN, fill_ne, fill_in, i0, ak, akb, c0, c1, c2, c3, e0, Int.reduceMod])
              | rw [c_Mo_newOne (by omega), b_Mo_newOne_0]
              | with_reducible exact a2
              | with_reducible exact s2
              | with_reducible exact g0
              | with_reducible exact g1
              | with_reducible exact w2
              | (with_reducible refine rn_go ?_; simp (disch := omega) only [not_false_eq_true, not_true_eq_false, w32_id, tLt, fLt, tLe, fEq, itE, and_true, true_and, and_self, and_false, false_and, ↓reduceIte, nat_add, nat_mul3, nat_mul4, nat_mul6, nat_mul15, nat_mul60, nat_cast, nc1, Int.reduceToNat, upE, upN, fill_ne, fill_in, i0, ak, akb, c0, c1, c2, c3, e0, Int.reduceMod])
              | (with_reducible refine lf_go ?_; simp (disch := omega) only [not_false_eq_true, not_true_eq_false, w32_id, tLt, fLt, tLe, fEq, itE, and_true, true_and, and_self, and_false, false_and, ↓reduceIte, nat_add, nat_mul3, nat_mul4, nat_mul6, nat_mul15, nat_mul60, nat_cast, nc1, Int.reduceToNat, upE, upN, fill_ne, fill_in, i0, ak, akb, c0, c1, c2, c3, e0, Int.reduceMod])
              | with_reducible exact rfl
        · repeat' first
            | (with_reducible apply bR_go; (simp (disch := omega) only [rM L, rK L, rN L, rNf, rNv, rNp, rNd, rRow, rLeg, rMark, nat_cast, Int.reduceToNat, ak, akb, c0, c1, c2, c3, Int.reduceMod]; with_reducible exact rfl))
            | with_reducible apply bI_go
            | with_reducible apply bV_go
            | with_reducible apply bL_go
            | (with_reducible apply it_1; (first | omega | (simp (disch := omega) only [not_false_eq_true, not_true_eq_false, w32_id, tLt, fLt, tLe, fEq, itE, and_true, true_and, and_self, and_false, false_and, ↓reduceIte, nat_add, nat_mul3, nat_mul4, nat_mul6, nat_mul15, nat_mul60, nat_cast, nc1, Int.reduceToNat, upE, upN, fill_ne, fill_in, i0, ak, akb, c0, c1, c2, c3, Int.reduceMod] <;> omega)))
            | (with_reducible apply it_2; (first | omega | (simp (disch := omega) only [not_false_eq_true, not_true_eq_false, w32_id, tLt, fLt, tLe, fEq, itE, and_true, true_and, and_self, and_false, false_and, ↓reduceIte, nat_add, nat_mul3, nat_mul4, nat_mul6, nat_mul15, nat_mul60, nat_cast, nc1, Int.reduceToNat, upE, upN, fill_ne, fill_in, i0, ak, akb, c0, c1, c2, c3, Int.reduceMod] <;> omega)))
            | (with_reducible refine cl_go ?_; simp (disch := omega) only [not_false_eq_true, not_true_eq_false, w32_id, tLt, fLt, tLe, fEq, itE, and_true, true_and, and_self, and_false, false_and, ↓reduceIte, nat_add, nat_mul3, nat_mul4, nat_mul6, nat_mul15, nat_mul60, nat_cast, nc1, Int.reduceToNat, upE, upN, fill_ne, fill_in, i0, ak, akb, c0, c1, c2, c3, Int.reduceMod])
            | rw [c_Mo_newOne (by omega), b_Mo_newOne_0]
            | with_reducible exact a2
            | with_reducible exact s2
            | with_reducible exact g0
            | with_reducible exact w2
            | (with_reducible refine rn_go ?_; simp (disch := omega) only [not_false_eq_true, not_true_eq_false, w32_id, tLt, fLt, tLe, fEq, itE, and_true, true_and, and_self, and_false, false_and, ↓reduceIte, nat_add, nat_mul3, nat_mul4, nat_mul6, nat_mul15, nat_mul60, nat_cast, nc1, Int.reduceToNat, upE, upN, fill_ne, fill_in, i0, ak, akb, c0, c1, c2, c3, Int.reduceMod])
            | (with_reducible refine lf_go ?_; simp (disch := omega) only [not_false_eq_true, not_true_eq_false, w32_id, tLt, fLt, tLe, fEq, itE, and_true, true_and, and_self, and_false, false_and, ↓reduceIte, nat_add, nat_mul3, nat_mul4, nat_mul6, nat_mul15, nat_mul60, nat_cast, nc1, Int.reduceToNat, upE, upN, fill_ne, fill_in, i0, ak, akb, c0, c1, c2, c3, Int.reduceMod])
            | with_reducible exact rfl
  · obtain ⟨M1', M2', w1, w2, f, fa', fb'⟩ := k_misfit (L := L) (d1 := d1 - 1) (d2 := d2 - 1) (by omega) (by omega) ta
    right
    refine ⟨M1', M2', fun y hy => ?_, fun x y z hx hy hz => ?_, f, fa.trans fa', fb.trans fb'⟩
    · subst hy
      repeat' first
        | (with_reducible apply bR_go; (simp (disch := omega) only [rM L, rK L, rN L, rNf, rNv, rNp, rNd, rRow, rLeg, rMark, nat_cast, Int.reduceToNat]; with_reducible exact rfl))
        | with_reducible apply bI_go
        | with_reducible apply bV_go
        | with_reducible apply bL_go
        | (with_reducible apply it_1; (first | omega | (simp (disch := omega) only [not_false_eq_true, not_true_eq_false, w32_id, tLt, fLt, tLe, fEq, itE, and_true, true_and, and_self, and_false, false_and, ↓reduceIte, nat_add, nat_mul3, nat_mul4, nat_mul6, nat_mul15, nat_mul60, nat_cast, nc1, Int.reduceToNat, upE, upN, fill_ne, fill_in, i0] <;> omega)))
        | (with_reducible apply it_2; (first | omega | (simp (disch := omega) only [not_false_eq_true, not_true_eq_false, w32_id, tLt, fLt, tLe, fEq, itE, and_true, true_and, and_self, and_false, false_and, ↓reduceIte, nat_add, nat_mul3, nat_mul4, nat_mul6, nat_mul15, nat_mul60, nat_cast, nc1, Int.reduceToNat, upE, upN, fill_ne, fill_in, i0] <;> omega)))
        | (with_reducible refine cl_go ?_; simp (disch := omega) only [not_false_eq_true, not_true_eq_false, w32_id, tLt, fLt, tLe, fEq, itE, and_true, true_and, and_self, and_false, false_and, ↓reduceIte, nat_add, nat_mul3, nat_mul4, nat_mul6, nat_mul15, nat_mul60, nat_cast, nc1, Int.reduceToNat, upE, upN, fill_ne, fill_in, i0])
        | rw [c_Tape_takeNew (by omega), b_Tape_takeNew_0]
        | with_reducible exact fu
        | with_reducible exact a1
        | with_reducible exact s1
        | with_reducible exact w1
        | (with_reducible refine rn_go ?_; simp (disch := omega) only [not_false_eq_true, not_true_eq_false, w32_id, tLt, fLt, tLe, fEq, itE, and_true, true_and, and_self, and_false, false_and, ↓reduceIte, nat_add, nat_mul3, nat_mul4, nat_mul6, nat_mul15, nat_mul60, nat_cast, nc1, Int.reduceToNat, upE, upN, fill_ne, fill_in, i0])
        | (with_reducible refine lf_go ?_; simp (disch := omega) only [not_false_eq_true, not_true_eq_false, w32_id, tLt, fLt, tLe, fEq, itE, and_true, true_and, and_self, and_false, false_and, ↓reduceIte, nat_add, nat_mul3, nat_mul4, nat_mul6, nat_mul15, nat_mul60, nat_cast, nc1, Int.reduceToNat, upE, upN, fill_ne, fill_in, i0])
        | with_reducible exact rfl
    · subst hx; subst hy; subst hz
      have hi : 2288 + (kd : Int) < 4004 := by omega
      repeat' first
        | (with_reducible apply bR_go; (simp (disch := omega) only [rM L, rK L, rN L, rNf, rNv, rNp, rNd, rRow, rLeg, rMark, nat_cast, Int.reduceToNat, ak, Int.reduceMod]; with_reducible exact rfl))
        | with_reducible apply bI_go
        | with_reducible apply bV_go
        | with_reducible apply bL_go
        | (with_reducible apply it_1; (first | omega | (simp (disch := omega) only [not_false_eq_true, not_true_eq_false, w32_id, tLt, fLt, tLe, fEq, itE, and_true, true_and, and_self, and_false, false_and, ↓reduceIte, nat_add, nat_mul3, nat_mul4, nat_mul6, nat_mul15, nat_mul60, nat_cast, nc1, Int.reduceToNat, upE, upN, fill_ne, fill_in, i0, ak, Int.reduceMod] <;> omega)))
        | (with_reducible apply it_2; (first | omega | (simp (disch := omega) only [not_false_eq_true, not_true_eq_false, w32_id, tLt, fLt, tLe, fEq, itE, and_true, true_and, and_self, and_false, false_and, ↓reduceIte, nat_add, nat_mul3, nat_mul4, nat_mul6, nat_mul15, nat_mul60, nat_cast, nc1, Int.reduceToNat, upE, upN, fill_ne, fill_in, i0, ak, Int.reduceMod] <;> omega)))
        | (with_reducible refine cl_go ?_; simp (disch := omega) only [not_false_eq_true, not_true_eq_false, w32_id, tLt, fLt, tLe, fEq, itE, and_true, true_and, and_self, and_false, false_and, ↓reduceIte, nat_add, nat_mul3, nat_mul4, nat_mul6, nat_mul15, nat_mul60, nat_cast, nc1, Int.reduceToNat, upE, upN, fill_ne, fill_in, i0, ak, Int.reduceMod])
        | rw [c_Mo_newOne (by omega), b_Mo_newOne_0]
        | with_reducible exact a2
        | with_reducible exact s2
        | with_reducible exact w2
        | (with_reducible refine rn_go ?_; simp (disch := omega) only [not_false_eq_true, not_true_eq_false, w32_id, tLt, fLt, tLe, fEq, itE, and_true, true_and, and_self, and_false, false_and, ↓reduceIte, nat_add, nat_mul3, nat_mul4, nat_mul6, nat_mul15, nat_mul60, nat_cast, nc1, Int.reduceToNat, upE, upN, fill_ne, fill_in, i0, ak, Int.reduceMod])
        | (with_reducible refine lf_go ?_; simp (disch := omega) only [not_false_eq_true, not_true_eq_false, w32_id, tLt, fLt, tLe, fEq, itE, and_true, true_and, and_self, and_false, false_and, ↓reduceIte, nat_add, nat_mul3, nat_mul4, nat_mul6, nat_mul15, nat_mul60, nat_cast, nc1, Int.reduceToNat, upE, upN, fill_ne, fill_in, i0, ak, Int.reduceMod])
        | with_reducible exact rfl
end

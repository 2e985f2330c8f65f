/-! WORDS IN THE MODEL -/
theorem list_ext : ∀ (w v : List Nat), w.length = v.length → (∀ i, i < w.length → w.getD i 0 = v.getD i 0) → w = v
  | [], [], _, _ => rfl
  | [], b :: v, h, _ => by simp at h
  | a :: w, [], h, _ => by simp at h
  | a :: w, b :: v, h, e => by
    have e0 : a = b := e 0 (by simp)
    rw [e0, list_ext w v (by simpa using h) fun i hi => e (i + 1) (by simp; omega)]
theorem mem_getD : ∀ (w : List Nat) (i : Nat), i < w.length → w.getD i 0 ∈ w
  | [], i, h => by simp at h
  | a :: w, 0, h => by simp
  | a :: w, i + 1, h => List.mem_cons_of_mem _ (mem_getD w i (by simpa using h))
section
variable {bt : Nat → Int} {n q e : Nat} {M : Mm} {L d : Nat}
/-- the class's number of the word that stands here -/
def cwx (bt : Nat → Int) (n q e : Nat) : Int := if q < n ∧ 97 ≤ bt q ∧ bt q ≤ 122 then wix (lts bt q (e - q)) 31 else -1
theorem wix_long {w : List Nat} (h : 8 < w.length) : wix w 31 = -1 := by
  rcases wix_or w 31 (by omega) with ⟨a, _⟩ | ⟨c, c1, _, c3⟩
  · exact a
  · have := (WL_ok ⟨c, c1⟩).2.1
    dsimp only at this
    rw [c3] at h
    omega
theorem TC.cw (h : TC bt n q e M) : M 12 12 = cwx bt n q e := by
  unfold cwx
  obtain ⟨_, _, h | h | h | h⟩ := h
  · rw [if_neg (by omega)]; exact h.2.2.1
  · rw [if_pos (by have := h.2.1; unfold isS at this; omega)]
    rcases h.2.2.2 with z | z
    · exact z.2.2
    · rw [wix_long (by rw [lts_len]; exact z.1)]; exact z.2.2
  · rw [if_neg (by have := h.2.1; unfold isD at this; omega)]; exact h.2.2.1
  · rw [if_neg (by have := h.2.1; unfold isS at this; omega)]; exact h.2.2.2.1
theorem cwx_bd : -1 ≤ cwx bt n q e ∧ cwx bt n q e < 31 := by
  unfold cwx
  split
  · rcases wix_or (lts bt q (e - q)) 31 (by omega) with ⟨a, _⟩ | ⟨c, c1, c2, _⟩
    · omega
    · omega
  · omega
/-- the row of words, from the j-th on -/
theorem iw_run (hd : 2 ≤ d) (hB : TBm bt n M) (h13 : M 271 13 = (q : Int)) (h14 : M 271 14 = (e : Int)) (hr : RN isS bt n q e) {w : List Nat} (hw : lts bt q (e - q) = w) : ∀ (m j : Nat), j + m = 31 → (∀ j', j' < j → w ≠ WL (pm j')) → ∀ d4 d5 d6 : AV, Run (callD (d - 1)) tb_Mo_inWords 14 [vR 12 0 271, vR 13 1 2, vI (j : Int), vI (sj j : Int), d4, d5, d6] [] (SH L) M = some (some (vI (kM (wix w 31))), SH L, M)
  | 0, j, hj, hn, d4, d5, d6 => by
    obtain rfl : j = 31 := by omega
    have s31 := sj_0
    rw [b_Mo_inWords_14, s31.2.1, s31.2.2, if_neg (by omega)]
    have : wix w 31 = -1 := by
      rcases wix_or w 31 (by omega) with ⟨a, _⟩ | ⟨c, c1, c2, c3⟩
      · exact a
      · have k := pm_kM ⟨c, c1⟩
        dsimp only at k
        exact absurd (by rw [k.1]; exact c3) (hn _ k.2)
    rw [this]
    rfl
  | m + 1, j, hj, hn, d4, d5, d6 => by
    obtain ⟨r1, r2, r3, r4⟩ := hr
    have n900 := hB.2.1
    obtain ⟨o1, o2, o3⟩ := sj_ok ⟨j, by omega⟩
    dsimp only at o1 o2 o3
    have o4 := WL_ok ⟨pm j, pm_lt ⟨j, by omega⟩⟩
    dsimp only at o4
    have sb := sj_bd ⟨j + 1, by omega⟩
    dsimp only at sb
    have sL := sj_0.2.2
    have wl := lts_len bt q (e - q)
    rw [hw] at wl
    generalize hv : WL (pm j) = v at *
    generalize hs : sj j = s at *
    -- the next word
    have nx : w ≠ v → ∀ d4 d5 d6 : AV, Run (callD (d - 1)) tb_Mo_inWords 14 [vR 12 0 271, vR 13 1 2, vI ((j : Int) + 1), vI ((s : Int) + v.length + 1), d4, d5, d6] [] (SH L) M = some (some (vI (kM (wix w 31))), SH L, M) := fun z d4 d5 d6 => by
      have := iw_run hd hB h13 h14 ⟨r1, r2, r3, r4⟩ hw m (j + 1) (by omega) (fun j' hj' => by
        by_cases y : j' = j
        · rw [y, hv]; exact z
        · exact hn j' (by omega)) d4 d5 d6
      rw [o1] at this
      exact this
    rw [b_Mo_inWords_14, sL, if_pos (by omega)]
    -- to the end of the word
    have st : ∀ i : Nat, i < v.length → ∀ d5 d6 : AV, Run (callD (d - 1)) tb_Mo_inWords 25 [vR 12 0 271, vR 13 1 2, vI (j : Int), vI (s : Int), vI ((s : Int) + (i : Nat)), d5, d6] [] (SH L) M = Run (callD (d - 1)) tb_Mo_inWords 25 [vR 12 0 271, vR 13 1 2, vI (j : Int), vI (s : Int), vI ((s : Int) + ((i + 1 : Nat) : Int)), d5, d6] [] (SH L) M := fun i hi d5 d6 => by
      have c := o3 ⟨i, hi⟩
      dsimp only at c
      have l := o4.2.2.1 _ (mem_getD v i hi)
      rw [b_Mo_inWords_25, sL, if_pos (by omega), show ((s : Int) + (i : Nat)).toNat = s + i by omega, c, if_neg (by omega), w32_id (by omega) (by omega)]
      rfl
    have go := loop_up (fun i => Run (callD (d - 1)) tb_Mo_inWords 25 [vR 12 0 271, vR 13 1 2, vI (j : Int), vI (s : Int), vI ((s : Int) + (i : Nat)), d5, d6] [] (SH L) M) v.length (fun i hi => st i hi d5 d6) 0 (by omega)
    rw [show (s : Int) + ((0 : Nat) : Int) = (s : Int) by omega] at go
    rw [go, b_Mo_inWords_25, sL, if_pos (by omega), show ((s : Int) + (v.length : Nat)).toNat = s + v.length by omega, o2, if_pos rfl, h13, h14, w32_id (by omega) (by omega), w32_id (by omega) (by omega)]
    by_cases ll : v.length = e - q
    · rw [if_pos (by omega)]
      -- letter by letter
      have fin : ∀ m' i : Nat, i + m' = v.length → (∀ i', i' < i → w.getD i' 0 = v.getD i' 0) → Run (callD (d - 1)) tb_Mo_inWords 68 [vR 12 0 271, vR 13 1 2, vI (j : Int), vI (s : Int), vI ((s : Int) + (v.length : Nat)), vI 1, vI ((s : Int) + (i : Nat))] [] (SH L) M = some (some (vI (kM (wix w 31))), SH L, M) := by
        intro m'
        induction m' with
        | zero =>
          intro i hi he
          have wv : w = v := list_ext w v (by omega) fun i' hi' => he i' (by omega)
          have kk := kM_pm ⟨j, by omega⟩
          dsimp only at kk
          have wi : wix w 31 = ((pm j : Nat) : Int) := by
            rcases wix_or w 31 (by omega) with ⟨_, b⟩ | ⟨c, c1, c2, c3⟩
            · exact absurd (by rw [wv, hv]) (b _ (pm_lt ⟨j, by omega⟩))
            · have := WL_in ⟨c, c1⟩ ⟨pm j, pm_lt ⟨j, by omega⟩⟩ (by dsimp only; rw [← c3, hv]; exact wv)
              have : c = pm j := by simpa using this
              rw [c2, this]
          rw [b_Mo_inWords_68, if_neg (by omega), if_neg (by omega), wi, kk]
        | succ m' ih =>
          intro i hi he
          have c := o3 ⟨i, by omega⟩
          dsimp only at c
          have sm := r3 (q + i) (by omega) (by omega)
          have b1 := s_byte (L := L) (d := d - 1) (by omega) hB (p := q + i) (by omega)
          unfold isS at sm
          rw [ub_pos (by omega)] at b1
          have wg := lts_get bt q (e - q) i (by omega)
          rw [hw] at wg
          rw [b_Mo_inWords_68, if_pos (by omega), if_neg (by omega), sL, if_pos (by omega), h13, show w32 (w32 ((q : Int) + ((s : Int) + (i : Nat))) - (s : Int)) = ((q + i : Nat) : Int) by rw [w32_id (x := (q : Int) + ((s : Int) + (i : Nat))) (by omega) (by omega), w32_id (by omega) (by omega)]; omega, b1]
          show (if strC 1 ((s : Int) + (i : Nat)).toNat = bt (q + i) then _ else _) = _
          rw [show ((s : Int) + (i : Nat)).toNat = s + i by omega, c]
          have wi : w32 ((s : Int) + (i : Nat) + 1) = (s : Int) + ((i + 1 : Nat) : Int) := by rw [w32_id (by omega) (by omega)]; omega
          rw [wi]
          clear wi
          by_cases y : w.getD i 0 = v.getD i 0
          · rw [if_pos (by omega)]
            exact ih (i + 1) (by omega) fun i' hi' => by
              by_cases x : i' = i
              · rw [x]; exact y
              · exact he i' (by omega)
          · rw [if_neg (by omega)]
            have wv : w ≠ v := fun z => y (by rw [z])
            by_cases l : i + 1 < v.length
            · rw [b_Mo_inWords_68, if_pos (by omega), if_pos rfl, if_pos rfl, w32_id (by omega) (by omega), w32_id (by omega) (by omega)]
              exact nx wv _ _ _
            · rw [b_Mo_inWords_68, if_neg (by omega), if_pos rfl, w32_id (by omega) (by omega), w32_id (by omega) (by omega)]
              exact nx wv _ _ _
      have := fin v.length 0 (by omega) fun i' hi' => by omega
      rw [show (s : Int) + ((0 : Nat) : Int) = (s : Int) by omega] at this
      exact this
    · rw [if_neg (by omega), b_Mo_inWords_68, if_pos (by omega), if_pos rfl, if_pos rfl, w32_id (by omega) (by omega), w32_id (by omega) (by omega)]
      exact nx (fun z => ll (by rw [← z, wl])) _ _ _
theorem m_inWords (hd : 2 ≤ d) (hB : TBm bt n M) (hT : TM bt n q e M) (hS : TS bt n q e) : callD d m_Mo_inWords [vR 12 0 271, vR 13 1 2] (SH L) M = some (some (vI (kM (cwx bt n q e))), SH L, M) := by
  rw [c_Mo_inWords (by omega), b_Mo_inWords_0]
  obtain ⟨t1, t2, t | t | t | t⟩ := hT
  · have e1 : cwx bt n q e = -1 := by unfold cwx; rw [if_neg (by omega)]
    rw [if_neg (by omega), e1]
    rfl
  · have e1 : cwx bt n q e = wix (lts bt q (e - q)) 31 := by unfold cwx; rw [if_pos (by have := t.2.1; unfold isS at this; omega)]
    have hr : RN isS bt n q e := by
      rcases hS with z | z | z | z
      · omega
      · exact z.2.2
      · have a := t.2.1
        have b := z.2.1
        unfold isS at a
        unfold isD at b
        omega
      · exact absurd t.2.1 z.2.1
    have := iw_run (L := L) hd hB t1 t2 hr rfl 31 0 rfl (fun _ h => by omega) vU vU vU
    rw [sj_0.1] at this
    rw [if_pos t.2.2, e1]
    exact this
  · have e1 : cwx bt n q e = -1 := by unfold cwx; rw [if_neg (by have := t.2.1; unfold isD at this; omega)]
    rw [if_neg (by omega), e1]
    rfl
  · have e1 : cwx bt n q e = -1 := by unfold cwx; rw [if_neg (by have := t.2.1; unfold isS at this; omega)]
    rw [if_neg (by omega), e1]
    rfl
/-! names -/
theorem cod256_bd {w : List Nat} (h : okW w) : ∀ k : Nat, w.length = k + 1 → 0 ≤ cod 256 96 w 0 ∧ cod 256 96 w 0 + 1 ≤ 123 * 256 ^ k := by
  intro k
  induction k generalizing w with
  | zero =>
    intro hk
    rcases snoc_of w with z | ⟨v, a, rfl⟩
    · subst z; simp at hk
    · have hv : v = [] := List.length_eq_zero_iff.mp (by simpa using hk)
      subst hv
      have ha := (okW_snoc h).2
      rw [cod_snoc]
      show 0 ≤ (0 : Int) * 256 + (a + 96) ∧ (0 : Int) * 256 + (a + 96) + 1 ≤ 123 * 256 ^ 0
      rw [Int.pow_zero]
      omega
  | succ k ih =>
    intro hk
    rcases snoc_of w with z | ⟨v, a, rfl⟩
    · subst z; simp at hk
    · have ha := (okW_snoc h).2
      have := ih (okW_snoc h).1 (by simpa using hk)
      rw [cod_snoc, Int.pow_succ]
      generalize (256 : Int) ^ k = y at *
      omega
theorem p256 : ∀ k : Fin 8, (256 : Int) ^ k.val ≤ 72057594037927936 := by decide +kernel
theorem cod256_8 {w : List Nat} (h : okW w) (hl : w.length ≤ 8) : 0 ≤ cod 256 96 w 0 ∧ cod 256 96 w 0 < 8863084066665136128 := by
  rcases Nat.eq_zero_or_pos w.length with z | z
  · rw [List.length_eq_zero_iff.mp z]
    show 0 ≤ (0 : Int) ∧ (0 : Int) < _
    omega
  · have a := cod256_bd h (w.length - 1) (by omega)
    have b := p256 ⟨w.length - 1, by omega⟩
    dsimp only at b
    omega
theorem m_name (hd : 2 ≤ d) (hB : TBm bt n M) (h13 : M 271 13 = (q : Int)) (h14 : M 271 14 = (e : Int)) (hr : RN isS bt n q e) (h8 : e - q ≤ 8) : callD d m_Mo_nameHere [vR 12 0 271] (SH L) M = some (some (vL (cod 256 96 (lts bt q (e - q)) 0)), SH L, M) := by
  obtain ⟨r1, r2, r3, r4⟩ := hr
  have n900 := hB.2.1
  have st : ∀ i : Nat, i < e - q → Run (callD (d - 1)) tb_Mo_nameHere 7 [vR 12 0 271, vL (cod 256 96 (lts bt q i) 0), vU, vI ((q + i : Nat) : Int)] [] (SH L) M = Run (callD (d - 1)) tb_Mo_nameHere 7 [vR 12 0 271, vL (cod 256 96 (lts bt q (i + 1)) 0), vU, vI ((q + (i + 1) : Nat) : Int)] [] (SH L) M := by
    intro i hi
    have sm := r3 (q + i) (by omega) (by omega)
    have b1 := s_byte (L := L) (d := d - 1) (by omega) hB (p := q + i) (by omega)
    unfold isS at sm
    rw [ub_pos (by omega)] at b1
    have cb := cod256_8 (w := lts bt q i) (lts_ok i fun j h1 h2 => r3 j h1 (by omega)) (by rw [lts_len]; omega)
    have cb' : cod 256 96 (lts bt q i) 0 < 34621422135410688 := by
      rcases Nat.eq_zero_or_pos i with z | z
      · subst z
        show (0 : Int) < _
        omega
      · have a := cod256_bd (w := lts bt q i) (lts_ok i fun j h1 h2 => r3 j h1 (by omega)) (i - 1) (by rw [lts_len]; omega)
        have b : (256 : Int) ^ (i - 1) ≤ 281474976710656 := by
          have : ∀ k : Fin 7, (256 : Int) ^ k.val ≤ 281474976710656 := by decide +kernel
          exact this ⟨i - 1, by omega⟩
        omega
    obtain ⟨a, ha⟩ := Int.eq_ofNat_of_zero_le cb.1
    obtain ⟨b, hb⟩ := Int.eq_ofNat_of_zero_le (show 0 ≤ bt (q + i) by omega)
    have o := or8 (a := a) (b := b) (by omega) (by omega)
    rw [b_Mo_nameHere_7, h14, if_pos (by omega), b1]
    show Run (callD (d - 1)) tb_Mo_nameHere 7 [vR 12 0 271, vL (or64 (shl64 (cod 256 96 (lts bt q i) 0) 8) (bt (q + i))), vU, vI (w32 (((q + i : Nat) : Int) + 1))] [] (SH L) M = _
    rw [lts_s, cod_snoc, ha, hb, o, w32_id (by omega) (by omega)]
    have e1 : ((a * 256 + b : Nat) : Int) = (a : Int) * 256 + ((((b : Int) - 96).toNat : Nat) + 96) := by omega
    rw [e1]
    rfl
  rw [c_Mo_nameHere (by omega), b_Mo_nameHere_0, h13]
  have go := loop_up (fun i => Run (callD (d - 1)) tb_Mo_nameHere 7 [vR 12 0 271, vL (cod 256 96 (lts bt q i) 0), vU, vI ((q + i : Nat) : Int)] [] (SH L) M) (e - q) st 0 (by omega)
  refine go.trans ?_
  rw [show q + (e - q) = e by omega, b_Mo_nameHere_7, h14, if_neg (by omega)]
/-- the first of many that is so -/
def fx (f : Nat → Int) (y : Int) : Nat → Nat → Int
  | 0, _ => -1
  | m + 1, i => if f i = y then (i : Int) else fx f y m (i + 1)
theorem fx_s (f : Nat → Int) (y : Int) (m i : Nat) : fx f y (m + 1) i = if f i = y then (i : Int) else fx f y m (i + 1) := rfl
theorem fx_cg {f g : Nat → Int} {y z : Int} : ∀ (m i : Nat), (∀ k, i ≤ k → k < i + m → (f k = y ↔ g k = z)) → fx f y m i = fx g z m i
  | 0, _, _ => rfl
  | m + 1, i, h => by
    rw [fx_s, fx_s, fx_cg m (i + 1) fun k h1 h2 => h k (by omega) (by omega)]
    have := h i (by omega) (by omega)
    by_cases e : f i = y
    · rw [if_pos e, if_pos (this.1 e)]
    · rw [if_neg e, if_neg fun q => e (this.2 q)]
theorem fx_bd (f : Nat → Int) (y : Int) : ∀ (m i : Nat), fx f y m i = -1 ∨ ((i : Int) ≤ fx f y m i ∧ fx f y m i < ((i + m : Nat) : Int))
  | 0, _ => Or.inl rfl
  | m + 1, i => by
    rw [fx_s]
    split
    · omega
    · have := fx_bd f y m (i + 1)
      omega
theorem m_find (hd : 3 ≤ d) (hB : TBm bt n M) (h13 : M 271 13 = (q : Int)) (h14 : M 271 14 = (e : Int)) (hr : RN isS bt n q e) (h8 : e - q ≤ 8) {b m : Nat} (hb : b + m ≤ 144) : callD d m_Mo_findHere [vR 12 0 271, vI (b : Int), vI (m : Int)] (SH L) M = some (some (vI (fx (fun i => M 273 (b + i)) (cod 256 96 (lts bt q (e - q)) 0) m 0)), SH L, M) := by
  have nm := m_name (L := L) (d := d - 1) (by omega) hB h13 h14 hr h8
  generalize cod 256 96 (lts bt q (e - q)) 0 = y at *
  have st : ∀ (m' i : Nat), i + m' = m → Run (callD (d - 1)) tb_Mo_findHere 2 [vR 12 0 271, vI (b : Int), vI (m : Int), vI (i : Int)] [] (SH L) M = some (some (vI (fx (fun i => M 273 (b + i)) y m' i)), SH L, M) := by
    intro m'
    induction m' with
    | zero =>
      intro i hi
      rw [b_Mo_findHere_2, if_neg (by omega)]
      rfl
    | succ m' ih =>
      intro i hi
      rw [fx_s]
      by_cases z : M 273 (b + i) = y
      · rw [if_pos z, b_Mo_findHere_2]
        have ce := cmp_eq z
        repeat' first
          | (with_reducible apply bR_go; (simp (disch := omega) only [rM L, rK L, rN L, rNf, rNv, rNp, rNd, rRow, rLeg, rMark, nat_cast, Int.reduceToNat, ce]; with_reducible exact rfl))
          | with_reducible apply bI_go
          | with_reducible apply bV_go
          | with_reducible apply bL_go
          | (with_reducible apply it_1; (first | omega | (simp (disch := omega) only [not_false_eq_true, not_true_eq_false, w32_id, tLt, fLt, tLe, fEq, itE, and_true, true_and, and_self, and_false, false_and, ↓reduceIte, nat_add, nat_mul3, nat_mul4, nat_mul6, nat_mul15, nat_mul60, nat_cast, nc1, Int.reduceToNat, upE, upN, fill_ne, fill_in, i0, ce] <;> omega)))
          | (with_reducible apply it_2; (first | omega | (simp (disch := omega) only [not_false_eq_true, not_true_eq_false, w32_id, tLt, fLt, tLe, fEq, itE, and_true, true_and, and_self, and_false, false_and, ↓reduceIte, nat_add, nat_mul3, nat_mul4, nat_mul6, nat_mul15, nat_mul60, nat_cast, nc1, Int.reduceToNat, upE, upN, fill_ne, fill_in, i0, ce] <;> omega)))
          | (with_reducible refine cl_go ?_; simp (disch := omega) only [not_false_eq_true, not_true_eq_false, w32_id, tLt, fLt, tLe, fEq, itE, and_true, true_and, and_self, and_false, false_and, ↓reduceIte, nat_add, nat_mul3, nat_mul4, nat_mul6, nat_mul15, nat_mul60, nat_cast, nc1, Int.reduceToNat, upE, upN, fill_ne, fill_in, i0, ce])
          | with_reducible exact nm
          | (with_reducible refine rn_go ?_; simp (disch := omega) only [not_false_eq_true, not_true_eq_false, w32_id, tLt, fLt, tLe, fEq, itE, and_true, true_and, and_self, and_false, false_and, ↓reduceIte, nat_add, nat_mul3, nat_mul4, nat_mul6, nat_mul15, nat_mul60, nat_cast, nc1, Int.reduceToNat, upE, upN, fill_ne, fill_in, i0, ce])
          | (with_reducible refine lf_go ?_; simp (disch := omega) only [not_false_eq_true, not_true_eq_false, w32_id, tLt, fLt, tLe, fEq, itE, and_true, true_and, and_self, and_false, false_and, ↓reduceIte, nat_add, nat_mul3, nat_mul4, nat_mul6, nat_mul15, nat_mul60, nat_cast, nc1, Int.reduceToNat, upE, upN, fill_ne, fill_in, i0, ce])
          | with_reducible exact rfl
      · rw [if_neg z, b_Mo_findHere_2, ← ih (i + 1) (by omega)]
        have ce : ¬ cmp3 (M 273 (b + i)) y = 0 := fun h => z (cmp_zero.1 h)
        repeat' first
          | (with_reducible apply bR_go; (simp (disch := omega) only [rM L, rK L, rN L, rNf, rNv, rNp, rNd, rRow, rLeg, rMark, nat_cast, Int.reduceToNat]; with_reducible exact rfl))
          | with_reducible apply bI_go
          | with_reducible apply bV_go
          | with_reducible apply bL_go
          | (with_reducible apply it_1; (first | omega | (simp (disch := omega) only [not_false_eq_true, not_true_eq_false, w32_id, tLt, fLt, tLe, fEq, itE, and_true, true_and, and_self, and_false, false_and, ↓reduceIte, nat_add, nat_mul3, nat_mul4, nat_mul6, nat_mul15, nat_mul60, nat_cast, nc1, Int.reduceToNat, upE, upN, fill_ne, fill_in, i0] <;> omega)))
          | (with_reducible apply it_2; (first | omega | (simp (disch := omega) only [not_false_eq_true, not_true_eq_false, w32_id, tLt, fLt, tLe, fEq, itE, and_true, true_and, and_self, and_false, false_and, ↓reduceIte, nat_add, nat_mul3, nat_mul4, nat_mul6, nat_mul15, nat_mul60, nat_cast, nc1, Int.reduceToNat, upE, upN, fill_ne, fill_in, i0] <;> omega)))
          | (with_reducible refine cl_go ?_; simp (disch := omega) only [not_false_eq_true, not_true_eq_false, w32_id, tLt, fLt, tLe, fEq, itE, and_true, true_and, and_self, and_false, false_and, ↓reduceIte, nat_add, nat_mul3, nat_mul4, nat_mul6, nat_mul15, nat_mul60, nat_cast, nc1, Int.reduceToNat, upE, upN, fill_ne, fill_in, i0])
          | with_reducible exact nm
          | (with_reducible refine rn_go ?_; simp (disch := omega) only [not_false_eq_true, not_true_eq_false, w32_id, tLt, fLt, tLe, fEq, itE, and_true, true_and, and_self, and_false, false_and, ↓reduceIte, nat_add, nat_mul3, nat_mul4, nat_mul6, nat_mul15, nat_mul60, nat_cast, nc1, Int.reduceToNat, upE, upN, fill_ne, fill_in, i0])
          | (with_reducible refine lf_go ?_; simp (disch := omega) only [not_false_eq_true, not_true_eq_false, w32_id, tLt, fLt, tLe, fEq, itE, and_true, true_and, and_self, and_false, false_and, ↓reduceIte, nat_add, nat_mul3, nat_mul4, nat_mul6, nat_mul15, nat_mul60, nat_cast, nc1, Int.reduceToNat, upE, upN, fill_ne, fill_in, i0])
          | with_reducible exact rfl
  rw [c_Mo_findHere (by omega), b_Mo_findHere_0]
  exact st m 0 (by omega)
end

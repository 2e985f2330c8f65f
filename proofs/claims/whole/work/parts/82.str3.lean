/-! THE STRINGS' METHODS, called by the program -/
theorem str_at {L : Nat} {S : Sp} {a : Nat} {k : Int} (o1 : okS L S) (h : okV S (vR 13 k a)) : ∃ i : Nat, i < 2 ∧ a = 1 + i ∧ k = (i : Int) := by
  obtain ⟨mm, rf, hm, hk⟩ := h
  have hm : S[a]? = some (13, mm, rf) := hm
  have hk : k = (mm : Int) := hk
  match a, hm with
  | 0, hm => rw [o1.1] at hm; cases hm
  | 1, hm => rw [o1.2.1] at hm; cases hm; exact ⟨0, by omega, rfl, hk⟩
  | 2, hm => rw [o1.2.2.1] at hm; cases hm; exact ⟨1, by omega, rfl, hk⟩
  | a + 3, hm => rcases (o1.2.2.2.2 (a + 3) _ _ _ (by omega) hm).1 with h | h | h <;> omega
theorem str_len : ∀ i : Nat, i < 2 → Int32.ofInt (strL (i : Int)) = Int32.ofNat ((strT.map List.length).getD i 0) ∧ strL (i : Int) = (((strT.map List.length).getD i 0 : Nat) : Int) ∧ i32 (strL (i : Int)) := by
  intro i hi
  rcases (show i = 0 ∨ i = 1 by omega) with rfl | rfl
  · refine ⟨by decide +kernel, by decide +kernel, ?_⟩
    rw [show strL ((0 : Nat) : Int) = 152 by decide +kernel]; unfold i32; omega
  · refine ⟨by decide +kernel, by decide +kernel, ?_⟩
    rw [show strL ((1 : Nat) : Int) = 154 by decide +kernel]; unfold i32; omega
theorem str_chr (i j : Nat) : ((strT.map fun l => l.map Int32.ofInt).getD i []).getD j 0 = Int32.ofInt (strC (i : Int) j) := by
  unfold strC
  rw [Int.toNat_natCast, List.getD_eq_getElem?_getD, List.getD_eq_getElem?_getD, List.getD_eq_getElem?_getD, List.getD_eq_getElem?_getD, List.getElem?_map]
  cases strT[i]? with
  | none => rfl
  | some l' =>
    show (l'.map Int32.ofInt)[j]?.getD 0 = Int32.ofInt (l'[j]?.getD 0)
    rw [List.getElem?_map]
    cases l'[j]? <;> rfl
theorem str_c32 (k : Int) (j : Nat) : i32 (strC k j) := by
  have h0 : ∀ l' ∈ strT, ∀ x ∈ l', 0 ≤ x ∧ x < 128 := by decide +kernel
  unfold strC
  rw [List.getD_eq_getElem?_getD, List.getD_eq_getElem?_getD]
  cases hk : strT[k.toNat]? with
  | none => exact (show i32 0 from ⟨by decide, by decide⟩)
  | some l' =>
    show i32 (l'[j]?.getD 0)
    cases hj : l'[j]? with
    | none => exact ⟨by decide, by decide⟩
    | some x =>
      have := h0 l' (List.mem_of_getElem? hk) x (List.mem_of_getElem? hj)
      show i32 x
      unfold i32
      omega
theorem strLOK (dC : Nat → ClassId) (dI : Nat → Nat → Nat) (dA : Nat → ClassId) (cv adV : Nat → Nat) (base L : Nat) (xs : Nat → Int) : StrLOK dC dI dA cv adV base L xs := by
  intro p l e R s m args below meth c Q cc own nL d n0 m0 Ls S' X hY hcc hss pc ls r S M idx k a hd hw h8 hLE hk H locs lsC o1 o2 o3 o4 o5 o6 hA hS hR
  have hf : 6 + d ≤ R.frames := X.2.2.2.2.2.1
  have hlo : 200 + 40 * d ≤ R.locals := X.2.2.2.2.2.2
  obtain ⟨⟨q1, -⟩, q4⟩ := OKs.cons.mp o4
  obtain ⟨i, hi, rfl, rfl⟩ := str_at o1 q1
  have h8 : wds r ≤ 8 := Nat.le_of_ble_eq_true h8
  have hl : lsC.size = nL := by rw [hR.1]; exact o3.2.1
  refine pureV (As := []) (rest := r.map (cV cv)) (n := 0) ⟨X.1.1, X.1.2.1, X.1.2.2.1, X.1.2.2.2.1, X.good⟩ (m_len hi) X.2.2.1 X.2.2.2.2.1 hS (tbW_in 1 _ (nthW_mem _ 65 _ rfl)) (tbW_in 1 _ (nthW_mem _ 5 _ rfl)) hw (tbW_in 1 _ (nthW_mem _ 63 _ rfl)) (tbW_in 1 _ (nthW_mem _ 64 _ rfl)) (by decide +kernel) ⟨by omega, by omega⟩ (vk_recv (adK := fun i => cv (1 + i)) (i := i) X.2.2.1.2.1 hi hS) rfl hl (by rw [wds_le q4]; exact h8) hd ⟨by have := hLE.1; omega, by have := hLE.2; omega⟩ (fun L1 hL => ?_)
  have hfin := hk H (locs ++ L1) lsC o1 o2 o3 (OKs.cons.mpr ⟨⟨(str_len i hi).2.2, nofun⟩, q4⟩) o5 o6 hA ⟨hS.1, hS.2.1, fun q hq => (List.mem_append.mp hq).elim (hS.2.2 q) (hL q)⟩ hR
  rw [← (str_len i hi).1]
  exact hfin
theorem strCOK (dC : Nat → ClassId) (dI : Nat → Nat → Nat) (dA : Nat → ClassId) (cv adV : Nat → Nat) (base L : Nat) (xs : Nat → Int) : StrCOK dC dI dA cv adV base L xs := by
  intro p l e R s m args below meth c Q cc own nL d n0 m0 Ls S' X hY hcc hss pc ls r S M idx k z a hd hw hz h8 hLE hk H locs lsC o1 o2 o3 o4 o5 o6 hA hS hR
  have hf : 6 + d ≤ R.frames := X.2.2.2.2.2.1
  have hlo : 200 + 40 * d ≤ R.locals := X.2.2.2.2.2.2
  obtain ⟨⟨z1, -⟩, o4'⟩ := OKs.cons.mp o4
  obtain ⟨⟨q1, -⟩, q4⟩ := OKs.cons.mp o4'
  obtain ⟨i, hi, rfl, rfl⟩ := str_at o1 q1
  have h8 : wds r ≤ 8 := Nat.le_of_ble_eq_true h8
  have hl : lsC.size = nL := by rw [hR.1]; exact o3.2.1
  have z1 : i32 z := z1
  obtain ⟨e1, e2, e3⟩ := str_len i hi
  have hin : vp_in (Int32.ofInt z) ((strT.map List.length).getD i 0) := by
    intro h
    rcases h with h | h
    · rw [o_lt0 z1] at h; omega
    · rw [o_cl z1] at h; omega
  have h2 : Int32.ofInt z < Int32.ofNat ((strT.map List.length).getD i 0) := by
    rw [← e1]
    exact (o_lt z1 e3).mpr hz.2
  refine pureV (As := [.int (Int32.ofInt z)]) (rest := r.map (cV cv)) (n := 1) ⟨X.1.1, X.1.2.1, X.1.2.2.1, X.1.2.2.2.1, X.good⟩ (m_chr hi hin h2) X.2.2.1 X.2.2.2.2.1 hS (tbW_in 1 _ (nthW_mem _ 75 _ rfl)) (tbW_in 1 _ (nthW_mem _ 5 _ rfl)) hw (tbW_in 1 _ (nthW_mem _ 73 _ rfl)) (tbW_in 1 _ (nthW_mem _ 74 _ rfl)) (by decide +kernel) ⟨by omega, by omega⟩ (vk_recv (adK := fun i => cv (1 + i)) (i := i) X.2.2.1.2.1 hi hS) rfl hl (by rw [wds_le q4]; exact h8) hd ⟨by have := hLE.1; omega, by have := hLE.2; omega⟩ (fun L1 hL => ?_)
  have hfin := hk H (locs ++ L1) lsC o1 o2 o3 (OKs.cons.mpr ⟨⟨str_c32 _ _, nofun⟩, q4⟩) o5 o6 hA ⟨hS.1, hS.2.1, fun q hq => (List.mem_append.mp hq).elim (hS.2.2 q) (hL q)⟩ hR
  rw [o_cl z1, str_chr]
  exact hfin

/-! CHANGES OF THE WORLD AS IT IS NOW -/
def wU (f : Nat → Int) (k : Nat) (v : Int) : Nat → Int := fun j => if j = k then v else f j
theorem wUE {f : Nat → Int} {k j : Nat} {v : Int} (h : j = k) : wU f k v j = v := by unfold wU; rw [if_pos h]
theorem wUN {f : Nat → Int} {k j : Nat} {v : Int} (h : j ≠ k) : wU f k v j = f j := by unfold wU; rw [if_neg h]
/-- where the class has what the model has at a place of the world -/
def cl (k : Nat) : Nat := if k = 4 then 19 else if k = 5 then 18 else if k < 32 then 26 + (k - 8) % 4 else if k < 56 then 30 + (k - 32) % 3 else if k < 146 then (if (k - 56) % 15 = 0 then 33 else if (k - 56) % 15 < 9 then 35 + (k - 56) / 15 else 42 + (k - 56) / 15) else if (k - 146) % 15 < 7 then 57 + 2 * ((k - 146) / 15) else 58 + 2 * ((k - 146) / 15)
def pl (k : Nat) : Nat := if k = 4 then 12 else if k = 5 then 3 else if k < 32 then (k - 8) / 4 else if k < 56 then (k - 32) / 3 else if k < 146 then (if (k - 56) % 15 = 0 then (k - 56) / 15 else if (k - 56) % 15 < 9 then (k - 56) % 15 - 1 else (k - 56) % 15 - 9) else if (k - 146) % 15 < 7 then (k - 146) % 15 else (k - 146) % 15 - 7
def ix (b j : Nat) : Nat := if b = 19 then 4 else if b = 18 then 5 else if b < 30 then 8 + 4 * j + (b - 26) else if b < 33 then 32 + 3 * j + (b - 30) else if b = 33 then 56 + 15 * j else if b < 41 then 57 + 15 * (b - 35) + j else if b < 48 then 65 + 15 * (b - 42) + j else if b % 2 = 1 then 146 + 15 * ((b - 57) / 2) + j else 153 + 15 * ((b - 58) / 2) + j
def VV (k : Nat) : Prop := 4 ≤ k ∧ k < 206 ∧ k ≠ 6 ∧ k ≠ 7
theorem ix_cl {k : Nat} (h : VV k) : ix (cl k) (pl k) = k := by
  unfold VV at h
  unfold cl pl
  by_cases c1 : k = 4
  · subst c1; rfl
  by_cases c2 : k = 5
  · subst c2; rfl
  rw [if_neg c1, if_neg c1, if_neg c2, if_neg c2]
  by_cases c3 : k < 32
  · rw [if_pos c3, if_pos c3]
    unfold ix
    rw [if_neg (by omega), if_neg (by omega), if_pos (by omega)]
    omega
  rw [if_neg c3, if_neg c3]
  by_cases c4 : k < 56
  · rw [if_pos c4, if_pos c4]
    unfold ix
    rw [if_neg (by omega), if_neg (by omega), if_neg (by omega), if_pos (by omega)]
    omega
  rw [if_neg c4, if_neg c4]
  by_cases c5 : k < 146
  · rw [if_pos c5, if_pos c5]
    by_cases c6 : (k - 56) % 15 = 0
    · rw [if_pos c6, if_pos c6]
      unfold ix
      rw [if_neg (by omega), if_neg (by omega), if_neg (by omega), if_neg (by omega), if_pos rfl]
      omega
    rw [if_neg c6, if_neg c6]
    by_cases c7 : (k - 56) % 15 < 9
    · rw [if_pos c7, if_pos c7]
      unfold ix
      rw [if_neg (by omega), if_neg (by omega), if_neg (by omega), if_neg (by omega), if_neg (by omega), if_pos (by omega)]
      omega
    · rw [if_neg c7, if_neg c7]
      unfold ix
      rw [if_neg (by omega), if_neg (by omega), if_neg (by omega), if_neg (by omega), if_neg (by omega), if_neg (by omega), if_pos (by omega)]
      omega
  rw [if_neg c5, if_neg c5]
  by_cases c6 : (k - 146) % 15 < 7
  · rw [if_pos c6, if_pos c6]
    unfold ix
    rw [if_neg (by omega), if_neg (by omega), if_neg (by omega), if_neg (by omega), if_neg (by omega), if_neg (by omega), if_neg (by omega), if_pos (by omega)]
    omega
  · rw [if_neg c6, if_neg c6]
    unfold ix
    rw [if_neg (by omega), if_neg (by omega), if_neg (by omega), if_neg (by omega), if_neg (by omega), if_neg (by omega), if_neg (by omega), if_neg (by omega)]
    omega
theorem cl_n {n w k : Nat} (hk : k = 8 + 4 * n + w) (hw : w < 4) (hn : n < 6) : cl k = 26 + w ∧ pl k = n := by
  unfold cl pl
  rw [if_neg (by omega), if_neg (by omega), if_pos (by omega), if_neg (by omega), if_neg (by omega), if_pos (by omega)]
  omega
theorem cl_g {n w k : Nat} (hk : k = 32 + 3 * n + w) (hw : w < 3) (hn : n < 8) : cl k = 30 + w ∧ pl k = n := by
  unfold cl pl
  rw [if_neg (by omega), if_neg (by omega), if_neg (by omega), if_pos (by omega), if_neg (by omega), if_neg (by omega), if_neg (by omega), if_pos (by omega)]
  omega
theorem cl_o {n k : Nat} (hk : k = 56 + 15 * n) (hn : n < 6) : cl k = 33 ∧ pl k = n := by
  unfold cl pl
  rw [if_neg (by omega), if_neg (by omega), if_neg (by omega), if_neg (by omega), if_pos (by omega), if_pos (by omega), if_neg (by omega), if_neg (by omega), if_neg (by omega), if_neg (by omega), if_pos (by omega), if_pos (by omega)]
  omega
theorem cl_p {n w k : Nat} (hk : k = 57 + 15 * n + w) (hw : w < 8) (hn : n < 6) : cl k = 35 + n ∧ pl k = w := by
  unfold cl pl
  rw [if_neg (by omega), if_neg (by omega), if_neg (by omega), if_neg (by omega), if_pos (by omega), if_neg (by omega), if_pos (by omega), if_neg (by omega), if_neg (by omega), if_neg (by omega), if_neg (by omega), if_pos (by omega), if_neg (by omega), if_pos (by omega)]
  omega
theorem cl_d {n w k : Nat} (hk : k = 65 + 15 * n + w) (hw : w < 6) (hn : n < 6) : cl k = 42 + n ∧ pl k = w := by
  unfold cl pl
  rw [if_neg (by omega), if_neg (by omega), if_neg (by omega), if_neg (by omega), if_pos (by omega), if_neg (by omega), if_neg (by omega), if_neg (by omega), if_neg (by omega), if_neg (by omega), if_neg (by omega), if_pos (by omega), if_neg (by omega), if_neg (by omega)]
  omega
theorem cl_s {n w k : Nat} (hk : k = 146 + 15 * n + w) (hw : w < 7) : cl k = 57 + 2 * n ∧ pl k = w := by
  unfold cl pl
  rw [if_neg (by omega), if_neg (by omega), if_neg (by omega), if_neg (by omega), if_neg (by omega), if_pos (by omega), if_neg (by omega), if_neg (by omega), if_neg (by omega), if_neg (by omega), if_neg (by omega), if_pos (by omega)]
  omega
theorem cl_l {n w k : Nat} (hk : k = 153 + 15 * n + w) (hw : w < 8) : cl k = 58 + 2 * n ∧ pl k = w := by
  unfold cl pl
  rw [if_neg (by omega), if_neg (by omega), if_neg (by omega), if_neg (by omega), if_neg (by omega), if_neg (by omega), if_neg (by omega), if_neg (by omega), if_neg (by omega), if_neg (by omega), if_neg (by omega), if_neg (by omega)]
  omega
/-- a clause of the world, after a change -/
theorem chg1 {M M' : Mm} {A A' : Nat → Int} {D : Nat → Prop} (hD : ∀ k, D k → VV k) (h1 : ∀ k, ¬D k → A' k = A k) (h2 : ∀ k, D k → M' (cl k) (pl k) = A' k) (h3 : ∀ b j, 18 ≤ b → b ≤ 64 → b ≠ 48 → b ≠ 49 → (∀ k, D k → ¬(b = cl k ∧ j = pl k)) → M' b j = M b j) {b j k : Nat} (hb : 18 ≤ b ∧ b ≤ 64 ∧ b ≠ 48 ∧ b ≠ 49) (hv : 4 ≤ k ∧ k < 206 ∧ k ≠ 6 ∧ k ≠ 7) (hc : cl k = b ∧ pl k = j) (h : M b j = A k) : M' b j = A' k := by
  by_cases d : D k
  · have := h2 k d
    rwa [hc.1, hc.2] at this
  · rw [h1 k d, h3 b j hb.1 hb.2.1 hb.2.2.1 hb.2.2.2 (fun k' d' e => ?_)]
    · exact h
    · have e1 := ix_cl (hD k' d')
      have e2 := ix_cl (k := k) hv
      rw [← e.1, ← e.2] at e1
      rw [hc.1, hc.2] at e2
      rw [e1] at e2
      exact d (e2 ▸ d')
theorem RNw.chg {M M' : Mm} {A A' N : Nat → Int} (D : Nat → Prop) (h : RNw M A N) (hD : ∀ k, D k → VV k) (hA' : ∀ k, k < 572 → M' 272 k = A' k) (hN' : ∀ k, k < 24 → M' 273 k = M 273 k) (h1 : ∀ k, ¬D k → A' k = A k) (h2 : ∀ k, D k → M' (cl k) (pl k) = A' k) (h3 : ∀ b j, 18 ≤ b → b ≤ 64 → b ≠ 48 → b ≠ 49 → (∀ k, D k → ¬(b = cl k ∧ j = pl k)) → M' b j = M b j) (hI : Inv A') : RNw M' A' N := by
  obtain ⟨g1, g2, ⟨c1, c2, c3, c4, c5, c6, c7⟩, gd, gs, gp, ⟨n1, n2, n3, n4⟩, gI⟩ := h
  have hC := hI.1
  unfold Cn at hC
  have a0 : A' 0 = A 0 := h1 0 fun d => by have := hD 0 d; unfold VV at this; omega
  have a1 : A' 1 = A 1 := h1 1 fun d => by have := hD 1 d; unfold VV at this; omega
  have a2 : A' 2 = A 2 := h1 2 fun d => by have := hD 2 d; unfold VV at this; omega
  have a3 : A' 3 = A 3 := h1 3 fun d => by have := hD 3 d; unfold VV at this; omega
  have a6 : A' 6 = A 6 := h1 6 fun d => by have := hD 6 d; unfold VV at this; omega
  have ou : ∀ b j, 18 ≤ b → b ≤ 64 → b ≠ 48 → b ≠ 49 → (∀ k, VV k → b ≠ cl k) → M' b j = M b j := fun b j x1 x2 x3 x4 x5 => h3 b j x1 x2 x3 x4 fun k d e => x5 k (hD k d) e.1
  have oc : ∀ b, b = 20 ∨ 22 ≤ b ∧ b ≤ 25 ∨ 51 ≤ b ∧ b ≤ 56 → ∀ j, M' b j = M b j := fun b hb j => ou b j (by omega) (by omega) (by omega) (by omega) fun k hk e => by
    unfold VV at hk
    unfold cl at e
    split at e
    · omega
    split at e
    · omega
    split at e
    · omega
    split at e
    · omega
    split at e
    · split at e
      · omega
      split at e
      · omega
      · omega
    split at e
    · omega
    · omega
  refine ⟨hA', fun k hk => (hN' k hk).trans (g2 k hk), ⟨?_, ?_, fun n hn => ⟨?_, ?_, ?_, ?_⟩, fun g hg => ⟨?_, ?_, ?_⟩, fun p hp => ?_, fun p g hp hg => ?_, fun p q hp hq => ?_⟩, ?_, fun i hi => ⟨fun w hw => ?_, fun g hg => ?_⟩, ?_, ⟨fun i hi => ?_, fun i hi => ?_, fun i hi => ?_, fun i hi => ?_⟩, hI⟩
  · intro k hk
    have e : A' k = A k := h1 k fun d => by have := hD k d; unfold VV at this; omega
    rw [e, oc 20 (by omega)]
    exact c1 k hk
  · exact chg1 hD h1 h2 h3 (by omega) (by omega) ⟨rfl, rfl⟩ c2
  · rw [a0] at hn
    exact chg1 hD h1 h2 h3 (by omega) (by omega) (cl_n (n := n) (w := 0) (by omega) (by omega) (by omega)) (c3 n hn).1
  · rw [a0] at hn
    exact chg1 hD h1 h2 h3 (by omega) (by omega) (cl_n (n := n) (w := 1) (by omega) (by omega) (by omega)) (c3 n hn).2.1
  · rw [a0] at hn
    exact chg1 hD h1 h2 h3 (by omega) (by omega) (cl_n (n := n) (w := 2) (by omega) (by omega) (by omega)) (c3 n hn).2.2.1
  · rw [a0] at hn
    exact chg1 hD h1 h2 h3 (by omega) (by omega) (cl_n (n := n) (w := 3) (by omega) (by omega) (by omega)) (c3 n hn).2.2.2
  · rw [a1] at hg
    exact chg1 hD h1 h2 h3 (by omega) (by omega) (cl_g (n := g) (w := 0) (by omega) (by omega) (by omega)) (c4 g hg).1
  · rw [a1] at hg
    exact chg1 hD h1 h2 h3 (by omega) (by omega) (cl_g (n := g) (w := 1) (by omega) (by omega) (by omega)) (c4 g hg).2.1
  · rw [a1] at hg
    exact chg1 hD h1 h2 h3 (by omega) (by omega) (cl_g (n := g) (w := 2) (by omega) (by omega) (by omega)) (c4 g hg).2.2
  · rw [a2] at hp
    exact chg1 hD h1 h2 h3 (by omega) (by omega) (cl_o rfl (by omega)) (c5 p hp)
  · exact chg1 hD h1 h2 h3 (by omega) (by omega) (cl_p (by omega) hg hp) (c6 p g hp hg)
  · exact chg1 hD h1 h2 h3 (by omega) (by omega) (cl_d (by omega) hq hp) (c7 p q hp hq)
  · exact chg1 hD h1 h2 h3 (by omega) (by omega) ⟨rfl, rfl⟩ gd
  · rw [a3] at hi
    exact chg1 hD h1 h2 h3 (by omega) (by omega) (by have := cl_s (n := i) (w := w) rfl hw; omega) ((gs i hi).1 w hw)
  · rw [a3] at hi
    exact chg1 hD h1 h2 h3 (by omega) (by omega) (by have := cl_l (n := i) (w := g) rfl hg; omega) ((gs i hi).2 g hg)
  · have ph : ∀ k, 206 ≤ k → A' k = A k := fun k hk => h1 k fun d => by have := hD k d; unfold VV at this; omega
    unfold Pl at *
    rw [oc 51 (by omega), oc 51 (by omega), a6]
    rcases gp with gp | ⟨p1, p2, p3, p4, p5⟩
    · exact Or.inl gp
    · refine Or.inr ⟨p1, p2, p3, p4, fun k hk => ?_⟩
      have q := (p5 k hk).frame (M' := M') fun b hb hb' => oc b (by omega) k
      unfold StR at *
      rw [a0, a1, a2, a3, a6, ph _ (by omega), ph _ (by omega), ph _ (by omega), ph _ (by omega), ph _ (by omega), ph _ (by omega), ph _ (by omega), ph _ (by omega), ph _ (by omega)]
      exact q
  · rw [a0] at hi; rw [oc _ (by omega)]; exact n1 i hi
  · rw [a1] at hi; rw [oc _ (by omega)]; exact n2 i hi
  · rw [a2] at hi; rw [oc _ (by omega)]; exact n3 i hi
  · rw [a3] at hi; rw [oc _ (by omega)]; exact n4 i hi

/-! THE PLAN AS IT GROWS: an END, a step, a block -/
section
variable {bt : Nat → Int} {n q e : Nat} {M M1 M2 M1' M2' : Mm} {L d d1 d2 k c dp : Nat} {s : Nat → Nat}
theorem VI.fin {p o : Nat} (h : VI M1 M2 k c (p + 1) s) (ho : o = s p) (g5 : M1' 98 5 = ((k + 1 : Nat) : Int)) (g6 : M1' 98 6 = (c : Int)) (g1 : M1' 16 1 = (p : Int)) (gk : M1' 99 k = 13 ∧ M1' 103 k = (o : Int) ∧ M1' 103 o = (k : Int)) (gr : ∀ b j, 99 ≤ b → b ≤ 103 → j < k → ¬(b = 103 ∧ j = o) → M1' b j = M1 b j) (g17 : ∀ i, M1' 17 i = M1 17 i) (m94 : M2' 272 2294 = ((k + 1 : Nat) : Int)) (m23 : M2' 271 23 = (c : Int)) (m22 : M2' 271 22 = (p : Int)) (mk : M2' 272 (2494 + 6 * k) = 27 ∧ M2' 272 (2498 + 6 * k) = (o : Int) ∧ M2' 272 (2498 + 6 * o) = (k : Int)) (mr : ∀ i, 2494 ≤ i → i < 2494 + 6 * k → i ≠ 2498 + 6 * o → M2' 272 i = M2 272 i) (m4 : ∀ i, i < 4 → M2' 272 i = M2 272 i) (m79 : ∀ i, M2' 279 i = M2 279 i) : VI M1' M2' (k + 1) c p s := by
  obtain ⟨-, ⟨h94, -, -⟩, ⟨b1, b2, b3⟩, st, inc, ent, las⟩ := h
  obtain ⟨t1, t2, t3, t4, t5⟩ := st p (by omega)
  rw [← ho] at t3 t4 t5
  have v4 : ∀ i, i < 4 → vA M2' i = vA M2 i := fun i hi => by rw [vA_lo hi, vA_lo hi, m4 i hi]
  have vr : ∀ i, 206 ≤ i → i < 206 + 6 * k → i ≠ 210 + 6 * o → vA M2' i = vA M2 i := fun i y1 y2 y3 => by rw [vA_hi (i := i) (by omega) rfl, vA_hi (i := i) (by omega) rfl, mr _ (by omega) (by omega) (by omega)]
  have v6 : vA M2 6 = (k : Int) := by rw [vA_hi (i := 6) (j := 2294) (by omega) (by omega)]; exact h94
  have v6' : vA M2' 6 = ((k + 1 : Nat) : Int) := by rw [vA_hi (i := 6) (j := 2294) (by omega) (by omega)]; exact m94
  have vo : vA M2 (210 + 6 * o) = 0 := by rw [vA_hi (i := 210 + 6 * o) (j := 2498 + 6 * o) (by omega) (by omega)]; exact t5
  have vo' : vA M2' (210 + 6 * o) = (k : Int) := by rw [vA_hi (i := 210 + 6 * o) (j := 2498 + 6 * o) (by omega) (by omega)]; exact mk.2.2
  have vk' : vA M2' (210 + 6 * k) = (o : Int) := by rw [vA_hi (i := 210 + 6 * k) (j := 2498 + 6 * k) (by omega) (by omega)]; exact mk.2.1
  have w27 : vA M2' (206 + 6 * k) = 27 := by rw [vA_hi (i := 206 + 6 * k) (j := 2494 + 6 * k) (by omega) (by omega)]; exact mk.1
  refine ⟨⟨g5, g6, g1⟩, ⟨m94, m23, m22⟩, ⟨by omega, by omega, by omega⟩, fun i hi => ?_, fun i j y1 y2 => inc i j y1 (by omega), fun j hj hs => ?_, fun _ y => ?_⟩
  · obtain ⟨u1, u2, u3, u4, u5⟩ := st i (by omega)
    have lt := inc i p hi (by omega)
    refine ⟨by rw [g17]; exact u1, by rw [m79]; exact u2, by omega, u4.cg (fun b y1 y2 => gr b _ (by omega) (by omega) u3 (by omega)) v4 (fun i y1 y2 y3 => vr i (by omega) (by omega) (by omega)), by rw [mr _ (by omega) (by omega) (by omega)]; exact u5⟩
  · by_cases z : j = k
    · subst z
      refine Or.inr (Or.inr (Or.inr (Or.inr (Or.inr (Or.inr (Or.inr (Or.inr (Or.inr ⟨gk.1, w27, ?_, ?_, ?_, ?_, ?_, fun y => ?_⟩))))))))
      · rw [vk']; exact gk.2.1
      · rw [vk']; omega
      · rw [vk']; omega
      · rw [vk', nat_cast]; exact vo'
      · rw [vk', nat_cast, vr _ (by omega) (by omega) (by omega)]; exact t4.op
      · rw [vk']
        rw [vr _ (by omega) (by omega) (by omega), vA_hi (i := 206 + 6 * (j - 1)) (j := 2494 + 6 * (j - 1)) (by omega) (by omega)] at y
        have := (las (by omega) y).2
        rw [show p + 1 - 1 = p by omega] at this
        omega
    by_cases zo : j = o
    · subst zo
      refine (t4.cg (fun b y1 y2 => gr b _ (by omega) (by omega) t3 (by omega)) v4 (fun i y1 y2 y3 => vr i (by omega) (by omega) (by omega))).r ?_ ?_ ?_
      · rw [vo']; exact gk.2.2
      · rw [vo']; omega
      · rw [vo', v6']; omega
    · refine (ent j (by omega) fun i hi y => ?_).cg (k := k) (o := o) (by omega) zo (fun _ => vo) (fun b y1 y2 => gr b j y1 y2 (by omega) (by omega)) v4 (by rw [v6, v6']; omega) vr
      by_cases z : i = p
      · subst z; omega
      · exact hs i (by omega) y
  · rw [show k + 1 - 1 = k by omega, mk.1] at y
    omega
theorem VI.more {b : Nat} {w : Int} {s' : Nat → Nat} (h : VI M1 M2 k c dp s) (hc : c < 30) (hb : (w = 25 ∨ w = 28) ∧ b = 1 ∧ dp < 3 ∨ ¬(w = 25 ∨ w = 28) ∧ b = 0) (hs' : ∀ i, i < dp → s' i = s i) (hs2 : b = 1 → s' dp = k) (r : StW w M1' (vA M2') k) (g5 : M1' 98 5 = ((k + 1 : Nat) : Int)) (g6 : M1' 98 6 = ((c + 1 : Nat) : Int)) (g1 : M1' 16 1 = ((dp + b : Nat) : Int)) (gr : ∀ b j, 99 ≤ b → b ≤ 103 → j < k → M1' b j = M1 b j) (g17 : ∀ i, i < dp → M1' 17 i = M1 17 i) (g17' : b = 1 → M1' 17 dp = (k : Int)) (m94 : M2' 272 2294 = ((k + 1 : Nat) : Int)) (m23 : M2' 271 23 = ((c + 1 : Nat) : Int)) (m22 : M2' 271 22 = ((dp + b : Nat) : Int)) (mk : M2' 272 (2498 + 6 * k) = 0) (mr : ∀ i, 2494 ≤ i → i < 2494 + 6 * k → M2' 272 i = M2 272 i) (m4 : ∀ i, i < 4 → M2' 272 i = M2 272 i) (m79 : ∀ i, i < dp → M2' 279 i = M2 279 i) (m79' : b = 1 → M2' 279 dp = (k : Int)) : VI M1' M2' (k + 1) (c + 1) (dp + b) s' := by
  obtain ⟨-, ⟨h94, -, -⟩, ⟨b1, b2, b3⟩, st, inc, ent, las⟩ := h
  have v4 : ∀ i, i < 4 → vA M2' i = vA M2 i := fun i hi => by rw [vA_lo hi, vA_lo hi, m4 i hi]
  have vr : ∀ i, 206 ≤ i → i < 206 + 6 * k → i ≠ 210 + 6 * k → vA M2' i = vA M2 i := fun i y1 y2 y3 => by rw [vA_hi (i := i) (by omega) rfl, vA_hi (i := i) (by omega) rfl, mr _ (by omega) (by omega)]
  have v6 : vA M2 6 = (k : Int) := by rw [vA_hi (i := 6) (j := 2294) (by omega) (by omega)]; exact h94
  have v6' : vA M2' 6 = ((k + 1 : Nat) : Int) := by rw [vA_hi (i := 6) (j := 2294) (by omega) (by omega)]; exact m94
  refine ⟨⟨g5, g6, g1⟩, ⟨m94, m23, m22⟩, ⟨by omega, by omega, by omega⟩, fun i hi => ?_, fun i j y1 y2 => ?_, fun j hj hs => ?_, fun _ y => ?_⟩
  · by_cases z : i < dp
    · obtain ⟨u1, u2, u3, u4, u5⟩ := st i z
      rw [hs' i z]
      exact ⟨by rw [g17 i z]; exact u1, by rw [m79 i z]; exact u2, by omega, u4.cg (fun b y1 y2 => gr b _ (by omega) (by omega) u3) v4 (fun i y1 y2 y3 => vr i (by omega) (by omega) (by omega)), by rw [mr _ (by omega) (by omega)]; exact u5⟩
    · have zb : b = 1 := by omega
      have zi : i = dp := by omega
      subst zi
      rw [hs2 zb]
      refine ⟨g17' zb, m79' zb, by omega, ?_, mk⟩
      rcases r with r | r
      · exact r.2
      · omega
  · by_cases z : j < dp
    · rw [hs' i (by omega), hs' j z]; exact inc i j y1 z
    · have zj : j = dp := by omega
      subst zj
      rw [hs' i y1, hs2 (by omega)]
      exact (st i y1).2.2.1
  · by_cases z : j = k
    · subst z
      rcases r with r | r
      · exact absurd (hs2 (by omega)) (hs dp (by omega))
      · exact r.2.r
    · exact (ent j (by omega) fun i hi y => hs i (by omega) (by rw [hs' i hi]; exact y)).cg (k := k) (o := k) (by omega) z (fun y => by omega) (fun b y1 y2 => gr b j y1 y2 (by omega)) v4 (by rw [v6, v6']; omega) vr
  · rw [show k + 1 - 1 = k by omega] at y ⊢
    rcases r with r | r
    · refine ⟨by omega, ?_⟩
      rw [show dp + b - 1 = dp by omega]
      exact hs2 (by omega)
    · have := r.2.op
      rw [vA_hi (i := 206 + 6 * k) (j := 2494 + 6 * k) (by omega) (by omega)] at this
      exact absurd y this
end

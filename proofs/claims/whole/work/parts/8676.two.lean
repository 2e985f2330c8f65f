/-! LOADS OF TWO GOODS: whole numbers only -/
theorem flg_one {W : Nat → Int} {p : Nat} : ∀ {n : Nat}, p < n → 0 < W p → (∀ k, k < n → k ≠ p → W k < W p) → flg W n = (p : Int)
  | n + 1, hp, h0, h => by
    rw [flg_s]
    by_cases e : p = n
    · subst e
      have : mx W p ≤ W p - 1 := mx_bd (by omega) fun k hk => by have := h k (by omega) (by omega); omega
      rw [if_pos (by omega)]
    · have := mx_ge W (n := n) (k := p) (by omega)
      have := h n (by omega) (by omega)
      rw [if_neg (by omega), if_neg (by omega)]
      exact flg_one (by omega) h0 fun k hk hk' => h k (by omega) hk'
theorem flg_max {W : Nat → Int} : ∀ {n p : Nat}, flg W n = (p : Int) → p < n ∧ mx W n = W p ∧ 0 < W p ∧ ∀ k, k < n → k ≠ p → W k < W p
  | 0, p, h => by
    have : flg W 0 = -1 := rfl
    omega
  | n + 1, p, h => by
    rw [flg_s] at h
    have a := mx_nn W n
    split at h
    · next e =>
      have : n = p := by omega
      subst this
      rw [mx_s]
      refine ⟨by omega, by omega, by omega, fun k hk hk' => ?_⟩
      have := mx_ge W (n := n) (k := k) (by omega)
      omega
    · next e =>
      split at h
      · omega
      · next e' =>
        obtain ⟨a1, a2, a3, a4⟩ := flg_max h
        rw [mx_s]
        refine ⟨by omega, by omega, a3, fun k hk hk' => ?_⟩
        by_cases q : k = n
        · subst q; omega
        · exact a4 k (by omega) hk'
theorem flg_tie {W : Nat → Int} {p q n : Nat} (hpq : p ≠ q) (e : W p = W q) (hp : p < n) (hq : q < n) (h : ∀ k, k < n → W k ≤ W p) : flg W n = -1 := by
  have a := flg_bd W n
  by_cases h1 : flg W n = -1
  · exact h1
  · obtain ⟨k, hk⟩ := Int.eq_ofNat_of_zero_le (show 0 ≤ flg W n by omega)
    obtain ⟨a1, a2, a3, a4⟩ := flg_max hk
    have b1 := h k a1
    by_cases e1 : p = k
    · have := a4 q hq (by omega)
      subst e1
      omega
    · have := a4 p hp e1
      omega
theorem flg_zero {W : Nat → Int} {n : Nat} (h : ∀ k, k < n → W k = 0) : flg W n = -1 := by
  have a := flg_bd W n
  by_cases h1 : flg W n = -1
  · exact h1
  · obtain ⟨k, hk⟩ := Int.eq_ofNat_of_zero_le (show 0 ≤ flg W n by omega)
    obtain ⟨a1, a2, a3, a4⟩ := flg_max hk
    have b1 := h k a1
    omega
/-- what one good weighs -/
def vG (A : Nat → Int) (r x : Int) (g : Nat) : Int := if 0 < x then (if r = 0 then x else if r = 1 then 1 else x * A (33 + 3 * g)) else 0
/-- the flag of x tons of a and y tons of b -/
def f2 (A : Nat → Int) (a : Nat) (x : Int) (b : Nat) (y : Int) : Int :=
  if x = 0 then (if y = 0 then -1 else A (32 + 3 * b)) else if y = 0 then A (32 + 3 * a) else if A (32 + 3 * a) = A (32 + 3 * b) then A (32 + 3 * a) else
  if vG A (A 4) x a = vG A (A 4) y b then -1 else if vG A (A 4) y b < vG A (A 4) x a then A (32 + 3 * a) else A (32 + 3 * b)
theorem wt_two {A ld : Nat → Int} {r n : Int} {a b : Nat} (hab : a < b) : ∀ {k : Nat}, (∀ g, g < k → g ≠ a → g ≠ b → ld g = 0) → wt A ld r n k = (if a < k ∧ A (32 + 3 * a) = n then vG A r (ld a) a else 0) + (if b < k ∧ A (32 + 3 * b) = n then vG A r (ld b) b else 0)
  | 0, _ => by simp [wt]
  | k + 1, h => by
    rw [wt_s, wt_two hab fun g hg => h g (by omega)]
    by_cases e1 : a = k
    · subst e1
      rw [if_neg (show ¬(a < a ∧ _) by omega), if_neg (show ¬(b < a ∧ _) by omega), if_neg (show ¬(b < a + 1 ∧ _) by omega)]
      unfold vG
      by_cases q : A (32 + 3 * a) = n <;> by_cases q2 : 0 < ld a <;> simp [q, q2]
    · by_cases e2 : b = k
      · subst e2
        rw [if_neg (show ¬(b < b ∧ _) by omega)]
        unfold vG
        have t1 : a < b := hab
        have t2 : a < b + 1 := by omega
        by_cases q : A (32 + 3 * b) = n <;> by_cases q2 : 0 < ld b <;> simp [q, q2, t1, t2]
      · have z := h k (by omega) (by omega) (by omega)
        rw [if_neg (show ¬(_ ∧ 0 < ld k) by omega)]
        have t1 : a < k + 1 ↔ a < k := by omega
        have t2 : b < k + 1 ↔ b < k := by omega
        simp only [t1, t2, Int.add_zero]

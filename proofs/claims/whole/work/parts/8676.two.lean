/-! LOADS OF TWO GOODS: whole numbers only -/
theorem flg_one {W : Nat → Int} {p : Nat} : ∀ {n : Nat}, p < n → 0 < W p → (∀ k, k < n → k ≠ p → W k < W p) → flg W n = (p : Int)
  | n + 1, hp, h0, h => by
    rw [flg_s]
    by_cases e : p = n
    · subst e
      have : mx W p ≤ W p - 1 := mx_bd (by omega) fun k hk => by have := h k (by omega) (by omega); omega
      rw [if_pos (by omega)]
    · have := mx_ge W (n := n) (k := p) (by omega)
      have := h n (by omega) (by omega)
      rw [if_neg (by omega), if_neg (by omega)]
      exact flg_one (by omega) h0 fun k hk hk' => h k (by omega) hk'
theorem flg_max {W : Nat → Int} : ∀ {n p : Nat}, flg W n = (p : Int) → p < n ∧ mx W n = W p ∧ 0 < W p ∧ ∀ k, k < n → k ≠ p → W k < W p
  | 0, p, h => by
    have : flg W 0 = -1 := rfl
    omega
  | n + 1, p, h => by
    rw [flg_s] at h
    have a := mx_nn W n
    split at h
    · next e =>
      have : n = p := by omega
      subst this
      rw [mx_s]
      refine ⟨by omega, by omega, by omega, fun k hk hk' => ?_⟩
      have := mx_ge W (n := n) (k := k) (by omega)
      omega
    · next e =>
      split at h
      · omega
      · next e' =>
        obtain ⟨a1, a2, a3, a4⟩ := flg_max h
        rw [mx_s]
        refine ⟨by omega, by omega, a3, fun k hk hk' => ?_⟩
        by_cases q : k = n
        · subst q; omega
        · exact a4 k (by omega) hk'
theorem flg_tie {W : Nat → Int} {p q n : Nat} (hpq : p ≠ q) (e : W p = W q) (hp : p < n) (hq : q < n) (h : ∀ k, k < n → W k ≤ W p) : flg W n = -1 := by
  have a := flg_bd W n
  by_cases h1 : flg W n = -1
  · exact h1
  · obtain ⟨k, hk⟩ := Int.eq_ofNat_of_zero_le (show 0 ≤ flg W n by omega)
    obtain ⟨a1, a2, a3, a4⟩ := flg_max hk
    have b1 := h k a1
    by_cases e1 : p = k
    · have := a4 q hq (by omega)
      subst e1
      omega
    · have := a4 p hp e1
      omega
theorem flg_zero {W : Nat → Int} {n : Nat} (h : ∀ k, k < n → W k = 0) : flg W n = -1 := by
  have a := flg_bd W n
  by_cases h1 : flg W n = -1
  · exact h1
  · obtain ⟨k, hk⟩ := Int.eq_ofNat_of_zero_le (show 0 ≤ flg W n by omega)
    obtain ⟨a1, a2, a3, a4⟩ := flg_max hk
    have b1 := h k a1
    omega
/-- what one good weighs -/
def vG (A : Nat → Int) (r x : Int) (g : Nat) : Int := if 0 < x then (if r = 0 then x else if r = 1 then 1 else x * A (33 + 3 * g)) else 0
/-- the flag of x tons of a and y tons of b -/
def f2 (A : Nat → Int) (a : Nat) (x : Int) (b : Nat) (y : Int) : Int :=
  if x = 0 then (if y = 0 then -1 else A (32 + 3 * b)) else if y = 0 then A (32 + 3 * a) else if A (32 + 3 * a) = A (32 + 3 * b) then A (32 + 3 * a) else
  if vG A (A 4) x a = vG A (A 4) y b then -1 else if vG A (A 4) y b < vG A (A 4) x a then A (32 + 3 * a) else A (32 + 3 * b)
theorem wt_two {A ld : Nat → Int} {r n : Int} {a b : Nat} (hab : a < b) : ∀ {k : Nat}, (∀ g, g < k → g ≠ a → g ≠ b → ld g = 0) → wt A ld r n k = (if a < k ∧ A (32 + 3 * a) = n then vG A r (ld a) a else 0) + (if b < k ∧ A (32 + 3 * b) = n then vG A r (ld b) b else 0)
  | 0, _ => by simp [wt]
  | k + 1, h => by
    rw [wt_s, wt_two hab fun g hg => h g (by omega)]
    by_cases e1 : a = k
    · subst e1
      rw [if_neg (show ¬(a < a ∧ _) by omega), if_neg (show ¬(b < a ∧ _) by omega), if_neg (show ¬(b < a + 1 ∧ _) by omega)]
      unfold vG
      by_cases q : A (32 + 3 * a) = n <;> by_cases q2 : 0 < ld a <;> simp [q, q2]
    · by_cases e2 : b = k
      · subst e2
        rw [if_neg (show ¬(b < b ∧ _) by omega)]
        unfold vG
        have t1 : a < b := hab
        have t2 : a < b + 1 := by omega
        by_cases q : A (32 + 3 * b) = n <;> by_cases q2 : 0 < ld b <;> simp [q, q2, t1, t2]
      · have z := h k (by omega) (by omega) (by omega)
        rw [if_neg (show ¬(_ ∧ 0 < ld k) by omega)]
        have t1 : a < k + 1 ↔ a < k := by omega
        have t2 : b < k + 1 ↔ b < k := by omega
        simp only [t1, t2, Int.add_zero]
theorem vG_pos {A : Nat → Int} {r x : Int} {g : Nat} (hG : 1 ≤ A (33 + 3 * g)) (hx : 0 < x) : 0 < vG A r x g := by
  unfold vG
  rw [if_pos hx]
  split
  · exact hx
  · split
    · omega
    · exact Int.mul_pos hx (by omega)
theorem vG_0 {A : Nat → Int} {r : Int} {g : Nat} : vG A r 0 g = 0 := by
  unfold vG
  rw [if_neg (by omega)]
theorem flg_two {A ld : Nat → Int} {a b : Nat} (hC : Cn A) (hG : Gd A) (hab : a < b) (hb : (b : Int) < A 1) (h0 : ∀ g, g < 8 → 0 ≤ ld g) (hz : ∀ g, g < 8 → g ≠ a → g ≠ b → ld g = 0) : flg (fun n => wts A ld (A 4) n) (A 0).toNat = f2 A a (ld a) b (ld b) := by
  unfold Cn at hC
  obtain ⟨ga1, ga2, ga3, -⟩ := hG a (by omega)
  obtain ⟨gb1, gb2, gb3, -⟩ := hG b (by omega)
  have xa := h0 a (by omega)
  have xb := h0 b (by omega)
  obtain ⟨p, hp⟩ := Int.eq_ofNat_of_zero_le ga1
  obtain ⟨q, hq⟩ := Int.eq_ofNat_of_zero_le gb1
  have hW : ∀ n : Nat, wts A ld (A 4) (n : Int) = (if p = n then vG A (A 4) (ld a) a else 0) + (if q = n then vG A (A 4) (ld b) b else 0) := fun n => by
    unfold wts
    rw [wt_two hab fun g hg => hz g (by omega), hp, hq]
    have t1 : (a < (A 1).toNat ∧ (p : Int) = (n : Int)) ↔ p = n := by omega
    have t2 : (b < (A 1).toNat ∧ (q : Int) = (n : Int)) ↔ q = n := by omega
    simp only [t1, t2]
  unfold f2
  rw [hp, hq]
  generalize hU : vG A (A 4) (ld a) a = U at *
  generalize hV : vG A (A 4) (ld b) b = V at *
  have u0 : ld a = 0 → U = 0 := fun e => by rw [← hU, e]; exact vG_0
  have v0 : ld b = 0 → V = 0 := fun e => by rw [← hV, e]; exact vG_0
  have u1 : ld a ≠ 0 → 0 < U := fun e => by rw [← hU]; exact vG_pos ga3 (by omega)
  have v1 : ld b ≠ 0 → 0 < V := fun e => by rw [← hV]; exact vG_pos gb3 (by omega)
  have hpn : p < (A 0).toNat := by omega
  have hqn : q < (A 0).toNat := by omega
  have one : ∀ r : Nat, r < (A 0).toNat → 0 < (if p = r then U else 0) + (if q = r then V else 0) → (∀ k, k ≠ r → (if p = k then U else 0) + (if q = k then V else 0) < (if p = r then U else 0) + (if q = r then V else 0)) → flg (fun n => wts A ld (A 4) n) (A 0).toNat = (r : Int) := fun r r1 r2 r3 => by
    refine flg_one r1 ?_ fun k _ hk => ?_
    · show 0 < wts A ld (A 4) (r : Int)
      rw [hW]; exact r2
    · show wts A ld (A 4) (k : Int) < wts A ld (A 4) (r : Int)
      rw [hW, hW]; exact r3 k hk

  by_cases e1 : ld a = 0
  · rw [if_pos e1]
    have := u0 e1
    by_cases e2 : ld b = 0
    · rw [if_pos e2]
      have := v0 e2
      refine flg_zero fun k _ => ?_
      show wts A ld (A 4) (k : Int) = 0
      rw [hW]
      split <;> split <;> omega
    · rw [if_neg e2]
      have := v1 e2
      refine one q hqn ?_ fun k hk => ?_
      · rw [if_pos rfl]; split <;> omega
      · rw [if_pos rfl, if_neg (show ¬ q = k by omega)]; split <;> split <;> omega
  · rw [if_neg e1]
    have := u1 e1
    by_cases e2 : ld b = 0
    · rw [if_pos e2]
      have := v0 e2
      refine one p hpn ?_ fun k hk => ?_
      · rw [if_pos rfl]; split <;> omega
      · rw [if_pos rfl, if_neg (show ¬ p = k by omega)]; split <;> split <;> omega
    · rw [if_neg e2]
      have := v1 e2
      by_cases e3 : p = q
      · subst e3
        rw [if_pos rfl]
        refine one p hpn ?_ fun k hk => ?_
        · rw [if_pos rfl, if_pos rfl]; omega
        · rw [if_pos rfl, if_pos rfl, if_neg (show ¬ p = k by omega), if_neg (show ¬ p = k by omega)]; omega
      · rw [if_neg (show ¬ (p : Int) = q by omega)]
        by_cases e4 : U = V
        · rw [if_pos e4]
          refine flg_tie e3 ?_ hpn hqn fun k _ => ?_
          · show wts A ld (A 4) (p : Int) = wts A ld (A 4) (q : Int)
            rw [hW, hW, if_pos rfl, if_neg (show ¬ q = p by omega), if_neg e3, if_pos rfl]; omega
          · show wts A ld (A 4) (k : Int) ≤ wts A ld (A 4) (p : Int)
            rw [hW, hW, if_pos rfl, if_neg (show ¬ q = p by omega)]
            split <;> split <;> omega
        · rw [if_neg e4]
          by_cases e5 : V < U
          · rw [if_pos e5]
            refine one p hpn ?_ fun k hk => ?_
            · rw [if_pos rfl, if_neg (show ¬ q = p by omega)]; omega
            · rw [if_pos rfl, if_neg (show ¬ q = p by omega), if_neg (show ¬ p = k by omega)]; split <;> omega
          · rw [if_neg e5]
            refine one q hqn ?_ fun k hk => ?_
            · rw [if_pos rfl, if_neg e3]; omega
            · rw [if_pos rfl, if_neg e3, if_neg (show ¬ q = k by omega)]; split <;> omega

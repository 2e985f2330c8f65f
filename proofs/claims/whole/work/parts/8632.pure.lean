/-! WEIGHTS, FLAGS, CAPTAINS: whole numbers only -/
def Cn (A : Nat → Int) : Prop := 0 ≤ A 0 ∧ A 0 ≤ 6 ∧ 0 ≤ A 1 ∧ A 1 ≤ 8 ∧ 0 ≤ A 2 ∧ A 2 ≤ 6 ∧ 0 ≤ A 3 ∧ A 3 ≤ 4 ∧ 0 ≤ A 4 ∧ A 4 ≤ 2
def Gd (A : Nat → Int) : Prop := ∀ g : Nat, (g : Int) < A 1 → 0 ≤ A (32 + 3 * g) ∧ A (32 + 3 * g) < A 0 ∧ 1 ≤ A (33 + 3 * g) ∧ A (33 + 3 * g) ≤ 99 ∧ 0 ≤ A (34 + 3 * g) ∧ A (34 + 3 * g) ≤ 9
def Ld (ld : Nat → Int) : Prop := ∀ g : Nat, g < 8 → 0 ≤ ld g ∧ ld g ≤ 1000
def wt (A ld : Nat → Int) (r n : Int) : Nat → Int
  | 0 => 0
  | g + 1 => wt A ld r n g + (if A (32 + 3 * g) = n ∧ 0 < ld g then (if r = 0 then ld g else if r = 1 then 1 else ld g * A (33 + 3 * g)) else 0)
theorem wt_s (A ld : Nat → Int) (r n : Int) (g : Nat) : wt A ld r n (g + 1) = wt A ld r n g + (if A (32 + 3 * g) = n ∧ 0 < ld g then (if r = 0 then ld g else if r = 1 then 1 else ld g * A (33 + 3 * g)) else 0) := rfl
theorem mul_bd {a b x y : Int} (h1 : 0 ≤ a) (h2 : a ≤ x) (h3 : 0 ≤ b) (h4 : b ≤ y) : 0 ≤ a * b ∧ a * b ≤ x * y :=
  ⟨Int.mul_nonneg h1 h3, Int.mul_le_mul h2 h4 h3 (by omega)⟩
theorem wt_bd {A ld : Nat → Int} {r n : Int} (hG : Gd A) (hl : Ld ld) (h8 : A 1 ≤ 8) : ∀ k : Nat, (k : Int) ≤ A 1 → 0 ≤ wt A ld r n k ∧ wt A ld r n k ≤ 99000 * k
  | 0, _ => by simp [wt]
  | g + 1, h => by
    have ih := wt_bd (r := r) (n := n) hG hl h8 g (by omega)
    have a := hG g (by omega)
    have b := hl g (by omega)
    have m := mul_bd b.1 b.2 (show 0 ≤ A (33 + 3 * g) by omega) a.2.2.2.1
    rw [wt_s]
    split
    · split
      · omega
      · split <;> omega
    · omega
def wts (A ld : Nat → Int) (r n : Int) : Int := wt A ld r n (A 1).toNat
theorem wts_bd {A ld : Nat → Int} (r n : Int) (hG : Gd A) (hl : Ld ld) (hC : Cn A) : 0 ≤ wts A ld r n ∧ wts A ld r n ≤ 792000 := by
  unfold Cn at hC
  have := wt_bd (r := r) (n := n) hG hl (by omega) (A 1).toNat (by omega)
  unfold wts
  omega
def mx (W : Nat → Int) : Nat → Int
  | 0 => 0
  | n + 1 => max (mx W n) (W n)
theorem mx_s (W : Nat → Int) (n : Nat) : mx W (n + 1) = max (mx W n) (W n) := rfl
theorem mx_nn (W : Nat → Int) : ∀ n, 0 ≤ mx W n
  | 0 => by simp [mx]
  | n + 1 => by have := mx_nn W n; rw [mx_s]; omega
theorem mx_ge (W : Nat → Int) : ∀ {n k : Nat}, k < n → W k ≤ mx W n
  | n + 1, k, h => by
    rw [mx_s]
    by_cases hk : k = n
    · subst hk; omega
    · have := mx_ge W (n := n) (k := k) (by omega); omega
theorem mx_bd {W : Nat → Int} {b : Int} (hb : 0 ≤ b) : ∀ {n : Nat}, (∀ k, k < n → W k ≤ b) → mx W n ≤ b
  | 0, _ => by simp [mx]; exact hb
  | n + 1, h => by
    have := mx_bd hb (n := n) fun k hk => h k (by omega)
    have := h n (by omega)
    rw [mx_s]; omega
theorem n0 : ((0 : Nat) : Int) = 0 := rfl
/-- a set of small numbers, as the bits of one -/
def setb (p : Nat → Bool) : Nat → Int
  | 0 => 0
  | k + 1 => setb p k + cond (p k) (2 ^ k : Nat) 0
theorem setb_s (p : Nat → Bool) (k : Nat) : setb p (k + 1) = setb p k + cond (p k) (2 ^ k : Nat) 0 := rfl
theorem setb_bd (p : Nat → Bool) : ∀ k, 0 ≤ setb p k ∧ setb p k < (2 ^ k : Nat)
  | 0 => by simp [setb]
  | k + 1 => by
    have := setb_bd p k
    rw [setb_s, Nat.pow_succ]
    cases p k <;> simp only [cond] <;> omega
theorem setb_congr {p q : Nat → Bool} : ∀ {k : Nat}, (∀ j, j < k → p j = q j) → setb p k = setb q k
  | 0, _ => rfl
  | k + 1, h => by rw [setb_s, setb_s, setb_congr (fun j hj => h j (by omega)), h k (by omega)]
theorem setb_no {p : Nat → Bool} : ∀ {k : Nat}, (∀ j, j < k → p j = false) → setb p k = 0
  | 0, _ => rfl
  | k + 1, h => by rw [setb_s, setb_no (fun j hj => h j (by omega)), h k (by omega)]; rfl
theorem or_set : ∀ n : Fin 8, ∀ x : Fin (2 ^ n.val), or32 (x.val : Int) (shl32 1 (n.val : Int)) = (x.val : Int) + (2 ^ n.val : Nat) := by decide +kernel
theorem or_setb {x : Int} {n : Nat} (hn : n < 8) (h0 : 0 ≤ x) (h1 : x < (2 ^ n : Nat)) : or32 x (shl32 1 (n : Int)) = x + (2 ^ n : Nat) := by
  obtain ⟨k, rfl⟩ := Int.eq_ofNat_of_zero_le h0
  exact or_set ⟨n, hn⟩ ⟨k, by simpa using (by omega : k < 2 ^ n)⟩
theorem or_0s : ∀ x : Fin 256, or32 (x.val : Int) 0 = (x.val : Int) := by decide +kernel
theorem or_0 {x : Int} (h0 : 0 ≤ x) (h1 : x < 256) : or32 x 0 = x := by
  obtain ⟨k, rfl⟩ := Int.eq_ofNat_of_zero_le h0
  exact or_0s ⟨k, by omega⟩
theorem pow_le {k n : Nat} (h : k ≤ n) : (2 ^ k : Nat) ≤ 2 ^ n := Nat.pow_le_pow_right (by omega) h
/-- who rules: the one with the most, if one alone has it -/
def flg (W : Nat → Int) : Nat → Int
  | 0 => -1
  | n + 1 => if mx W n < W n then (n : Int) else if W n = mx W n then -1 else flg W n
theorem flg_s (W : Nat → Int) (n : Nat) : flg W (n + 1) = if mx W n < W n then (n : Int) else if W n = mx W n then -1 else flg W n := rfl
theorem flg_bd (W : Nat → Int) : ∀ n : Nat, -1 ≤ flg W n ∧ flg W n < n ∨ flg W n = -1
  | 0 => by right; rfl
  | n + 1 => by
    have := flg_bd W n
    rw [flg_s]
    split
    · left; omega
    · split
      · right; rfl
      · omega
def cap (W : Nat → Int) (n : Nat) : Int := if 0 < mx W n then setb (fun k => decide (W k = mx W n)) n else 0
theorem cap_s (W : Nat → Int) (n : Nat) : cap W (n + 1) = if mx W n < W n then ((2 ^ n : Nat) : Int) else if W n = mx W n ∧ 0 < mx W n then cap W n + (2 ^ n : Nat) else cap W n := by
  have h0 := mx_nn W n
  unfold cap
  rw [mx_s, setb_s]
  by_cases h : mx W n < W n
  · rw [if_pos h, if_pos (by omega), setb_no (fun j hj => ?_)]
    · have : W n = max (mx W n) (W n) := by omega
      simp [← this]
    · have := mx_ge W hj
      simp; omega
  · have e : max (mx W n) (W n) = mx W n := by omega
    rw [if_neg h, e]
    by_cases h1 : W n = mx W n
    · by_cases h2 : 0 < mx W n
      · rw [if_pos h2, if_pos ⟨h1, h2⟩, if_pos h2]
        simp [h1]
      · rw [if_neg h2, if_neg (by omega), if_neg h2]
    · have h3 : ¬(W n = mx W n ∧ 0 < mx W n) := fun c => h1 c.1
      simp only [h3, if_false, decide_eq_false h1, cond, n0, Int.add_zero]
theorem cap_bd (W : Nat → Int) (n : Nat) : 0 ≤ cap W n ∧ cap W n < (2 ^ n : Nat) := by
  unfold cap
  split
  · exact setb_bd _ n
  · have : 0 < 2 ^ n := Nat.two_pow_pos n
    omega
theorem cap_pos {W : Nat → Int} : ∀ {n : Nat}, 0 < mx W n → 0 < cap W n
  | 0, h => by simp [mx] at h
  | n + 1, h => by
    rw [cap_s]
    have hp : 0 < 2 ^ n := Nat.two_pow_pos n
    have b := cap_bd W n
    split
    · omega
    · split
      · omega
      · refine cap_pos (n := n) ?_
        rw [mx_s] at h; omega
/-- the bits of a small set, and its one member -/
def bitsF : Nat → Int → Int
  | 0, _ => 0
  | k + 1, x => if x = 0 then 0 else 1 + bitsF k (and32 x (w32 (x - 1)))
def lowF : Nat → Int → Int → Int
  | 0, _, k => k
  | j + 1, x, k => if and32 (shr32 x k) 1 = 0 then lowF j x (k + 1) else k
def oo (x : Int) : Int := if bitsF 7 x = 1 then lowF 7 x 0 else -1
theorem oo_0 : oo 0 = -1 := by decide +kernel
theorem oo_1s : ∀ n : Fin 6, oo ((2 ^ n.val : Nat) : Int) = (n.val : Int) := by decide +kernel
theorem oo_2s : ∀ n : Fin 6, ∀ x : Fin (2 ^ n.val), x.val ≠ 0 → oo ((x.val : Int) + (2 ^ n.val : Nat)) = -1 := by decide +kernel
theorem oo_2 {x : Int} {n : Nat} (hn : n < 6) (h0 : 0 < x) (h1 : x < (2 ^ n : Nat)) : oo (x + (2 ^ n : Nat)) = -1 := by
  obtain ⟨k, rfl⟩ := Int.eq_ofNat_of_zero_le (show 0 ≤ x by omega)
  exact oo_2s ⟨n, hn⟩ ⟨k, by simpa using (by omega : k < 2 ^ n)⟩ (by show k ≠ 0; omega)
theorem oo_cap {W : Nat → Int} : ∀ {n : Nat}, n ≤ 6 → (∀ k, k < n → 0 ≤ W k) → oo (cap W n) = flg W n
  | 0, _, _ => by simp [cap, mx, flg, oo_0]
  | n + 1, hn, h => by
    have ih := oo_cap (W := W) (n := n) (by omega) fun k hk => h k (by omega)
    rw [cap_s, flg_s]
    split
    · exact oo_1s ⟨n, by omega⟩
    · split
      · next h1 => rw [if_pos h1.1, oo_2 (by omega) (cap_pos h1.2) (cap_bd W n).2]
      · next h1 =>
        split
        · next h2 =>
          have hz : mx W n = 0 := by
            have := mx_nn W n
            omega
          have : cap W n = 0 := by unfold cap; rw [if_neg (by omega)]
          rw [this, oo_0]
        · exact ih

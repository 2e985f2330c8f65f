/-! WHO IS THERE: the tests that begin a call -/
def Q2 (xs : Nat → Int) (L : Nat) (r : Option AV) : Option AV → Sp → Mm → Prop := fun r' S2 M2 => r' = r ∧ S2 = SH L ∧ ∃ A' N' B' P', Rel xs M2 A' N' B' P'
def Q1 (xs : Nat → Int) (L y2 : Nat) (args : List AV) : Option AV → Sp → Mm → Prop := fun r S1 M1 => S1 = SH L ∧ Wp (callD 100 y2 (vR 12 0 271 :: args) (SH L) M1) (Q2 xs L r)
def Case (y1 y2 : Nat) (args : List AV) : Prop := ∀ (L : Nat) (xs : Nat → Int) (M : Mm) (A N : Nat → Int) (B P : Nat → Nat → Int), Rel xs M A N B P → Wp (callD 100 y1 (vR 11 0 3 :: args) (SH L) M) (Q1 xs L y2 args)
theorem wp_q1 {xs : Nat → Int} {L y2 : Nat} {args : List AV} {r : Option AV} {M : Mm} (h : Wp (callD 100 y2 (vR 12 0 271 :: args) (SH L) M) (Q2 xs L r)) : Wp (some (r, SH L, M)) (Q1 xs L y2 args) := ⟨_, _, _, rfl, rfl, h⟩
theorem wp_q2 {xs : Nat → Int} {L : Nat} {r : Option AV} {M : Mm} {A N : Nat → Int} {B P : Nat → Nat → Int} (h : Rel xs M A N B P) : Wp (some (r, SH L, M)) (Q2 xs L r) := ⟨_, _, _, rfl, rfl, rfl, _, _, _, _, h⟩
theorem wp_ask {xs : Nat → Int} {L : Nat} {r r' : Option AV} {M : Mm} {A N : Nat → Int} {B P : Nat → Nat → Int} (hr : r' = r) (h : RelS xs M A N B P) (hs : M 3 15 = M 271 2) : Wp (some (r', SH L, M)) (Q2 xs L r) := by rw [hr]; exact wp_q2 ⟨hs, h⟩
/-- a call that only asks: its answer, and what it leaves as it was -/
def QI (xs : Nat → Int) (L : Nat) (M : Mm) (A N : Nat → Int) (B P : Nat → Nat → Int) (x : Int) : Option AV → Sp → Mm → Prop := fun r S M' => r = some (vI x) ∧ S = SH L ∧ RelS xs M' A N B P ∧ M' 3 15 = M 3 15 ∧ M' 271 2 = M 271 2
theorem wp_qi {xs : Nat → Int} {L : Nat} {M : Mm} {A N : Nat → Int} {B P : Nat → Nat → Int} {x : Int} {o : Option Rs} {Q : Option AV → Sp → Mm → Prop} (h : Wp o (QI xs L M A N B P x)) (h' : ∀ M', RelS xs M' A N B P → M' 3 15 = M 3 15 → M' 271 2 = M 271 2 → Wp (some (some (vI x), SH L, M')) Q) : Wp o Q := by
  obtain ⟨r, S, M', e, rfl, rfl, h1, h2, h3⟩ := h
  rw [e]
  exact h' M' h1 h2 h3
theorem wp_ri {xs : Nat → Int} {L : Nat} {M M' : Mm} {A N : Nat → Int} {B P : Nat → Nat → Int} {x y : Int} (hx : y = x) (h : RelS xs M' A N B P) (h1 : M' 3 15 = M 3 15) (h2 : M' 271 2 = M 271 2) : Wp (some (some (vI y), SH L, M')) (QI xs L M A N B P x) := by
  subst hx
  exact ⟨_, _, _, rfl, rfl, rfl, h, h1, h2⟩
/-- a loop: k counts, a is what else there is -/
theorem wp_loop {α : Type} {G : Nat → α → Option Rs} {I : Nat → α → Prop} {Q : Option AV → Sp → Mm → Prop} (n : Nat) (hs : ∀ k a, k < n → I k a → (∀ a', I (k + 1) a' → Wp (G (k + 1) a') Q) → Wp (G k a) Q) (he : ∀ a, I n a → Wp (G n a) Q) : ∀ k a, k ≤ n → I k a → Wp (G k a) Q := by
  intro k a hk hI
  obtain ⟨j, hj⟩ : ∃ j, n = k + j := ⟨n - k, by omega⟩
  induction j generalizing k a with
  | zero => rw [show k = n by omega] at hI ⊢; exact he a hI
  | succ j ih => exact hs k a (by omega) hI fun a' h' => ih (k + 1) a' (by omega) h' (by omega)
def orS (p : Nat → Prop) (i : ∀ k, Decidable (p k)) : Nat → Int
  | 0 => 0
  | k + 1 => @ite _ (p k) (i k) (or32 (orS p i k) (shl32 1 k)) (orS p i k)
theorem orS_s (p : Nat → Prop) (i : ∀ k, Decidable (p k)) (k : Nat) : orS p i (k + 1) = @ite _ (p k) (i k) (or32 (orS p i k) (shl32 1 k)) (orS p i k) := rfl
theorem orS_bd (p : Nat → Prop) (i : ∀ k, Decidable (p k)) : ∀ k : Nat, k ≤ 8 → 0 ≤ orS p i k ∧ orS p i k < (2 ^ k : Nat)
  | 0, _ => by simp [orS]
  | k + 1, h => by
    have a := orS_bd p i k (by omega)
    rw [orS_s, Nat.pow_succ]
    split
    · rw [or_setb (by omega) a.1 a.2]; omega
    · omega
theorem orS_0 (p : Nat → Prop) (i : ∀ k, Decidable (p k)) {k : Nat} (h : k ≤ 8) : or32 (orS p i k) 0 = orS p i k := by
  have a := orS_bd p i k h
  have b : (2 ^ k : Nat) ≤ 2 ^ 8 := pow_le h
  exact or_0 a.1 (by omega)
theorem cmp_lt {x y : Int} (h : x < y) : cmp3 x y = -1 := by unfold cmp3; rw [if_pos h]
theorem cmp_eq {x y : Int} (h : x = y) : cmp3 x y = 0 := by unfold cmp3; rw [if_neg (by omega), if_pos h]
theorem cmp_gt {x y : Int} (h : y < x) : cmp3 x y = 1 := by unfold cmp3; rw [if_neg (by omega), if_neg (by omega)]
theorem cmp_neg {x y : Int} : cmp3 x y < 0 ↔ x < y := by
  unfold cmp3
  split
  · simp; assumption
  · split
    · simp; omega
    · simp; omega
theorem cmp_pos {x y : Int} : 0 < cmp3 x y ↔ y < x := by
  unfold cmp3
  split
  · simp; omega
  · split
    · simp; omega
    · simp; omega
theorem cmp_zero {x y : Int} : cmp3 x y = 0 ↔ x = y := by
  unfold cmp3
  split
  · simp; omega
  · split
    · simp; assumption
    · simp; omega

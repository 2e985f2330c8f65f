/-! WHO IS THERE: the tests that begin a call -/
def Q2 (xs : Nat → Int) (L : Nat) (r : Option AV) : Option AV → Sp → Mm → Prop := fun r' S2 M2 => r' = r ∧ S2 = SH L ∧ ∃ A' N' B' P', Rel xs M2 A' N' B' P'
def Q1 (xs : Nat → Int) (L y2 : Nat) (args : List AV) : Option AV → Sp → Mm → Prop := fun r S1 M1 => S1 = SH L ∧ Wp (callD 100 y2 (vR 12 0 271 :: args) (SH L) M1) (Q2 xs L r)
def Case (y1 y2 : Nat) (args : List AV) : Prop := ∀ (L : Nat) (xs : Nat → Int) (M : Mm) (A N : Nat → Int) (B P : Nat → Nat → Int), Rel xs M A N B P → Wp (callD 100 y1 (vR 11 0 3 :: args) (SH L) M) (Q1 xs L y2 args)
theorem wp_q1 {xs : Nat → Int} {L y2 : Nat} {args : List AV} {r : Option AV} {M : Mm} (h : Wp (callD 100 y2 (vR 12 0 271 :: args) (SH L) M) (Q2 xs L r)) : Wp (some (r, SH L, M)) (Q1 xs L y2 args) := ⟨_, _, _, rfl, rfl, h⟩
theorem wp_q2 {xs : Nat → Int} {L : Nat} {r : Option AV} {M : Mm} {A N : Nat → Int} {B P : Nat → Nat → Int} (h : Rel xs M A N B P) : Wp (some (r, SH L, M)) (Q2 xs L r) := ⟨_, _, _, rfl, rfl, rfl, _, _, _, _, h⟩
theorem wp_ask {xs : Nat → Int} {L : Nat} {r : Option AV} {M M' : Mm} {A N : Nat → Int} {B P : Nat → Nat → Int} (h : Rel xs M A N B P) (e : ∀ b j, core b j → M' b j = M b j) (hs : M' 3 15 = M' 271 2) : Wp (some (r, SH L, M')) (Q2 xs L r) := wp_q2 (h.ask e hs)
theorem cmp_lt {x y : Int} (h : x < y) : cmp3 x y = -1 := by unfold cmp3; rw [if_pos h]
theorem cmp_eq {x y : Int} (h : x = y) : cmp3 x y = 0 := by unfold cmp3; rw [if_neg (by omega), if_pos h]
theorem cmp_gt {x y : Int} (h : y < x) : cmp3 x y = 1 := by unfold cmp3; rw [if_neg (by omega), if_neg (by omega)]
theorem cmp_neg {x y : Int} : cmp3 x y < 0 ↔ x < y := by
  unfold cmp3
  split
  · simp; assumption
  · split
    · simp; omega
    · simp; omega
theorem cmp_pos {x y : Int} : 0 < cmp3 x y ↔ y < x := by
  unfold cmp3
  split
  · simp; omega
  · split
    · simp; omega
    · simp; omega
theorem cmp_zero {x y : Int} : cmp3 x y = 0 ↔ x = y := by
  unfold cmp3
  split
  · simp; omega
  · split
    · simp; assumption
    · simp; omega

/-! A LIFE: whole numbers only -/
def drN (x : Int) : Int := Int.tmod (w32 ((w32 (x * 3023)) + 11251)) 65536
def drV (x n : Int) : Int := Int.tmod (w32 (Int.tdiv x 8)) n
theorem drN_bd {x : Int} (h0 : 0 ≤ x) (h1 : x ≤ 65535) : 0 ≤ drN x ∧ drN x ≤ 65535 := by
  unfold drN
  rw [w32_id (x := x * 3023) (by omega) (by omega), w32_id (by omega) (by omega), Int.tmod_eq_emod_of_nonneg (by omega)]
  omega
theorem drV_bd {x n : Int} (h0 : 0 ≤ x) (h1 : x ≤ 65535) (hn : 0 < n) : 0 ≤ drV x n ∧ drV x n < n := by
  have e : Int.tdiv x 8 = x / 8 := Int.tdiv_eq_ediv_of_nonneg h0
  unfold drV
  rw [e, w32_id (by omega) (by omega), Int.tmod_eq_emod_of_nonneg (by omega)]
  exact ⟨Int.emod_nonneg _ (by omega), Int.emod_lt_of_pos _ hn⟩
/-- one END is passed -/
def eS (A : Nat → Int) (p : (Nat → Int) × Nat) : (Nat → Int) × Nat :=
  if A (206 + 6 * (A (210 + 6 * p.2)).toNat) = 26 ∧ 1 < p.1 (A (210 + 6 * p.2)).toNat then (wU p.1 (A (210 + 6 * p.2)).toNat (p.1 (A (210 + 6 * p.2)).toNat - 1), (A (210 + 6 * p.2)).toNat + 1) else (p.1, p.2 + 1)
abbrev isE (A : Nat → Int) (k : Nat) : Prop := (k : Int) < A 6 ∧ A (206 + 6 * k) = 27
def eN (A : Nat → Int) : Nat → (Nat → Int) × Nat → (Nat → Int) × Nat
  | 0, p => p
  | j + 1, p => if isE A p.2 then eN A j (eS A p) else p
theorem eN_s (A : Nat → Int) (j : Nat) (p : (Nat → Int) × Nat) : eN A (j + 1) p = if isE A p.2 then eN A j (eS A p) else p := rfl
theorem eN_no {A : Nat → Int} {p : (Nat → Int) × Nat} (h : ¬isE A p.2) : ∀ j, eN A j p = p
  | 0 => rfl
  | j + 1 => by rw [eN_s, if_neg h]
/-- what a plan is -/
def PF (A : Nat → Int) : Prop := (0 ≤ A 6 ∧ A 6 ≤ 60) ∧ ∀ k : Nat, (k : Int) < A 6 → A (206 + 6 * k) = 27 → 0 ≤ A (210 + 6 * k) ∧ A (210 + 6 * k) < (k : Int) ∧ A (210 + 6 * (A (210 + 6 * k)).toNat) = (k : Int) ∧ (A (206 + 6 * (k - 1)) = 26 → A (210 + 6 * k) = ((k - 1 : Nat) : Int))
def RO (r : Nat → Int) : Prop := ∀ o, 0 ≤ r o ∧ r o ≤ 99
def mE (A : Nat → Int) (p : (Nat → Int) × Nat) : Int := (A 6 - p.2) + if 1 ≤ p.2 ∧ A (206 + 6 * (p.2 - 1)) = 26 then p.1 (p.2 - 1) else 0
theorem eS_ro {A : Nat → Int} {p : (Nat → Int) × Nat} (h : RO p.1) : RO (eS A p).1 := by
  unfold eS
  split
  · next e =>
    intro o
    dsimp only
    unfold wU
    split
    · have := h (A (210 + 6 * p.2)).toNat
      omega
    · exact h o
  · exact h
theorem eN_ro {A : Nat → Int} : ∀ (j : Nat) {p : (Nat → Int) × Nat}, RO p.1 → RO (eN A j p).1
  | 0, _, h => h
  | j + 1, p, h => by
    rw [eN_s]
    split
    · exact eN_ro j (eS_ro h)
    · exact h
theorem mE_dn {A : Nat → Int} {p : (Nat → Int) × Nat} (hP : PF A) (h : RO p.1) (e : isE A p.2) : ¬isE A (eS A p).2 ∨ mE A (eS A p) < mE A p := by
  obtain ⟨l1, l2, l3, l4⟩ := hP.2 p.2 e.1 e.2
  unfold eS
  split
  · next c =>
    dsimp only
    by_cases q : isE A ((A (210 + 6 * p.2)).toNat + 1)
    · right
      obtain ⟨k1, k2, k3, k4⟩ := hP.2 _ q.1 q.2
      rw [Nat.add_sub_cancel] at k4
      have k4 := k4 c.1
      rw [show (A (210 + 6 * ((A (210 + 6 * p.2)).toNat + 1))).toNat = (A (210 + 6 * p.2)).toNat by omega, l3] at k3
      have pe : p.2 = (A (210 + 6 * p.2)).toNat + 1 := by omega
      unfold mE
      dsimp only
      rw [Nat.add_sub_cancel, if_pos ⟨by omega, c.1⟩]
      unfold wU
      rw [if_pos rfl, show p.2 - 1 = (A (210 + 6 * p.2)).toNat by omega, if_pos ⟨by omega, c.1⟩]
      omega
    · exact Or.inl q
  · right
    unfold mE
    dsimp only
    have a : (0 : Int) ≤ if 1 ≤ p.2 ∧ A (206 + 6 * (p.2 - 1)) = 26 then p.1 (p.2 - 1) else 0 := by
      split
      · exact (h _).1
      · omega
    rw [Nat.add_sub_cancel, if_neg (show ¬(1 ≤ p.2 + 1 ∧ A (206 + 6 * p.2) = 26) by rw [e.2]; omega)]
    omega
theorem mE_bd {A : Nat → Int} {p : (Nat → Int) × Nat} (hP : PF A) (h : RO p.1) : mE A p < 200 := by
  have a : (if 1 ≤ p.2 ∧ A (206 + 6 * (p.2 - 1)) = 26 then p.1 (p.2 - 1) else 0) ≤ (99 : Int) := by
    split
    · exact (h _).2
    · omega
  have := hP.1
  unfold mE
  omega
theorem mE_nn {A : Nat → Int} {p : (Nat → Int) × Nat} (h : RO p.1) (e : isE A p.2) : 0 < mE A p := by
  have a : (0 : Int) ≤ if 1 ≤ p.2 ∧ A (206 + 6 * (p.2 - 1)) = 26 then p.1 (p.2 - 1) else 0 := by
    split
    · exact (h _).1
    · omega
  have := e.1
  unfold mE
  omega
theorem eN_end {A : Nat → Int} (hP : PF A) : ∀ (j : Nat) {p : (Nat → Int) × Nat}, RO p.1 → mE A p ≤ j → ¬isE A (eN A j p).2
  | 0, p, h, hm => fun e => by
    have : 0 < mE A p := mE_nn h e
    omega
  | j + 1, p, h, hm => by
    rw [eN_s]
    split
    · next e =>
      rcases mE_dn hP h e with q | q
      · rw [eN_no q]; exact q
      · exact eN_end hP j (eS_ro h) (by omega)
    · next e => exact e
def eE (A : Nat → Int) (p : (Nat → Int) × Nat) : (Nat → Int) × Nat := eN A 200 p
theorem eE_end {A : Nat → Int} (hP : PF A) {p : (Nat → Int) × Nat} (h : RO p.1) : ¬isE A (eE A p).2 := eN_end hP 200 h (by have := mE_bd hP h; omega)
theorem eS_c {A A' : Nat → Int} (e : ∀ k, k = 6 ∨ 206 ≤ k → A' k = A k) (p : (Nat → Int) × Nat) : eS A' p = eS A p := by
  unfold eS
  rw [e (210 + 6 * p.2) (by omega), e (206 + 6 * (A (210 + 6 * p.2)).toNat) (by omega)]
theorem eN_c {A A' : Nat → Int} (e : ∀ k, k = 6 ∨ 206 ≤ k → A' k = A k) : ∀ (j : Nat) (p : (Nat → Int) × Nat), eN A' j p = eN A j p
  | 0, _ => rfl
  | j + 1, p => by
    have i : isE A' p.2 ↔ isE A p.2 := by unfold isE; rw [e 6 (by omega), e (206 + 6 * p.2) (by omega)]
    rw [eN_s, eN_s, eS_c e, eN_c e j]
    by_cases q : isE A p.2
    · rw [if_pos q, if_pos (i.2 q)]
    · rw [if_neg q, if_neg (fun z => q (i.1 z))]

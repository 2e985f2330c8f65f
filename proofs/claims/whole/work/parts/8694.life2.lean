/-! A LIFE: what a step does -/
noncomputable def iteP {α : Type} (p : Prop) (a b : α) : α := @ite α p (Classical.propDecidable p) a b
theorem iteP_1 {α : Type} {p : Prop} {a b : α} (h : p) : iteP p a b = a := by unfold iteP; exact if_pos h
theorem iteP_0 {α : Type} {p : Prop} {a b : α} (h : ¬p) : iteP p a b = b := by unfold iteP; exact if_neg h
def buyR (A B : Nat → Int) (g : Nat) (n : Int) : Nat → Int := wU (wU B 4 (B 4 - prc A B g * n)) (7 + g) (B (7 + g) + n)
def sellR (A B : Nat → Int) (g : Nat) (n : Int) : Nat → Int := wU (wU B 4 (min 9999 (B 4 + prc A B g * n))) (7 + g) (B (7 + g) - n)
def dumpR (B : Nat → Int) (g : Nat) (n : Int) : Nat → Int := wU B (7 + g) (B (7 + g) - n)
def sailR (A B : Nat → Int) (p : Nat) : Nat → Int := wU (wU (wU B 0 (-1)) 1 (p : Int)) 2 (way A B p)
def bdN (A : Nat → Int) (x : Int) : Nat → Int
  | 0 => x
  | n + 1 => w32 (bdN A x n + bitsF 7 (orV (dl (dyN A n)) (A 3).toNat))
theorem bdN_s (A : Nat → Int) (x : Int) (n : Nat) : bdN A x (n + 1) = w32 (bdN A x n + bitsF 7 (orV (dl (dyN A n)) (A 3).toNat)) := rfl
abbrev Do4 : Type := Int × (Nat → Int) × Int × (Nat → Int)
noncomputable def doB (A : Nat → Int) (s g : Nat) (n dr : Int) (T : Nat → Int) : Do4 := iteP (okBuy A (shp A s) g n) (1, putS A s (buyR A (shp A s) g n), dr, wU T 2 (w32 (T 2 + n))) (0, A, dr, T)
noncomputable def doS (A : Nat → Int) (s g : Nat) (n dr : Int) (T : Nat → Int) : Do4 := iteP (okSell A (shp A s) g n) (1, putS A s (sellR A (shp A s) g n), dr, T) (0, A, dr, T)
noncomputable def doD (A : Nat → Int) (s g : Nat) (n dr : Int) (T : Nat → Int) : Do4 := iteP (n ≤ shp A s (7 + g)) (1, putS A s (dumpR (shp A s) g n), dr, T) (0, A, dr, T)
noncomputable def doW (A : Nat → Int) (s p : Nat) (dr : Int) (T : Nat → Int) : Do4 := iteP (okSail A (shp A s) p) (1, putS A s (sailR A (shp A s) p), dr, T) (0, A, dr, T)
noncomputable def doY (A : Nat → Int) (n dr : Int) (T : Nat → Int) : Do4 := iteP (A 5 + n ≤ 9999) (1, dyN A n.toNat, dr, wU (wU T 3 (bdN A (T 3) n.toNat)) 1 (w32 (T 1 + n))) (0, A, dr, T)
noncomputable def doL (A : Nat → Int) (k : Nat) (dr : Int) (T : Nat → Int) : Do4 :=
  if A (206 + 6 * k) = 19 then doY A (A (207 + 6 * k)) dr T
  else if A (206 + 6 * k) = 20 then doB A (A (207 + 6 * k)).toNat (A (208 + 6 * k)).toNat (A (209 + 6 * k)) dr T
  else if A (206 + 6 * k) = 21 then doS A (A (207 + 6 * k)).toNat (A (208 + 6 * k)).toNat (A (209 + 6 * k)) dr T
  else if A (206 + 6 * k) = 22 then doD A (A (207 + 6 * k)).toNat (A (208 + 6 * k)).toNat (A (209 + 6 * k)) dr T
  else if A (206 + 6 * k) = 23 then doW A (A (207 + 6 * k)).toNat (A (208 + 6 * k)).toNat dr T
  else doW A (A (207 + 6 * k)).toNat (drV (drN dr) (A 2)).toNat (drN dr) T
def b01 (p : Prop) [Decidable p] : Int := if p then 1 else 0
theorem b01_1 {p : Prop} [Decidable p] (h : p) : b01 p = 1 := by unfold b01; rw [if_pos h]
theorem b01_0 {p : Prop} [Decidable p] (h : ¬p) : b01 p = 0 := by unfold b01; rw [if_neg h]
def hoL (A : Nat → Int) (k : Nat) : Int :=
  if A (206 + 6 * k) = 2529 then b01 (flB A (shp A (A (207 + 6 * k)).toNat) = A (208 + 6 * k))
  else if A (206 + 6 * k) = 2530 then b01 (shp A (A (207 + 6 * k)).toNat 0 = A (208 + 6 * k))
  else if A (211 + 6 * k) = 60 then b01 (shp A (A (207 + 6 * k)).toNat 4 < A (208 + 6 * k))
  else if A (211 + 6 * k) = 62 then b01 (A (208 + 6 * k) < shp A (A (207 + 6 * k)).toNat 4)
  else b01 (shp A (A (207 + 6 * k)).toNat 4 = A (208 + 6 * k))
/-- a step of the plan, by the model's row alone -/
def StA (A : Nat → Int) (k : Nat) : Prop :=
  (A (206 + 6 * k) = 19 ∧ 1 ≤ A (207 + 6 * k) ∧ A (207 + 6 * k) ≤ 20) ∨
  (20 ≤ A (206 + 6 * k) ∧ A (206 + 6 * k) ≤ 22 ∧ 0 ≤ A (207 + 6 * k) ∧ A (207 + 6 * k) < A 3 ∧ 0 ≤ A (208 + 6 * k) ∧ A (208 + 6 * k) < A 1 ∧ 1 ≤ A (209 + 6 * k) ∧ A (209 + 6 * k) ≤ 60) ∨
  (A (206 + 6 * k) = 23 ∧ 0 ≤ A (207 + 6 * k) ∧ A (207 + 6 * k) < A 3 ∧ 0 ≤ A (208 + 6 * k) ∧ A (208 + 6 * k) < A 2) ∨
  (A (206 + 6 * k) = 24 ∧ 0 ≤ A (207 + 6 * k) ∧ A (207 + 6 * k) < A 3) ∨
  ((A (206 + 6 * k) = 2529 ∨ A (206 + 6 * k) = 2530 ∨ A (206 + 6 * k) = 2518) ∧ 0 ≤ A (207 + 6 * k) ∧ A (207 + 6 * k) < A 3 ∧ (k : Int) < A (210 + 6 * k) ∧ A (210 + 6 * k) < A 6) ∨
  (A (206 + 6 * k) = 26 ∧ 1 ≤ A (207 + 6 * k) ∧ A (207 + 6 * k) ≤ 99) ∨
  A (206 + 6 * k) = 28 ∨
  (A (206 + 6 * k) = 27 ∧ 0 ≤ A (210 + 6 * k) ∧ A (210 + 6 * k) < (k : Int) ∧ A (210 + 6 * (A (210 + 6 * k)).toNat) = (k : Int) ∧ (A (206 + 6 * (k - 1)) = 26 → A (210 + 6 * k) = ((k - 1 : Nat) : Int)))
theorem StR.a {M : Mm} {p k : Nat} {A : Nat → Int} (h : StR M p A k) : StA A k := by
  unfold StA
  rcases h with h | h | h | h | h | h | h | h | h | h
  · exact Or.inl ⟨h.2.1, h.2.2.2.2.1, h.2.2.2.2.2⟩
  · exact Or.inr (Or.inl ⟨by omega, by omega, h.2.2.2.2.1, h.2.2.2.2.2.1, h.2.2.2.2.2.2.2.1, h.2.2.2.2.2.2.2.2.1, h.2.2.2.2.2.2.2.2.2.2.1, h.2.2.2.2.2.2.2.2.2.2.2⟩)
  · exact Or.inr (Or.inr (Or.inl ⟨h.2.1, h.2.2.2.1, h.2.2.2.2.1, h.2.2.2.2.2.2.1, h.2.2.2.2.2.2.2⟩))
  · exact Or.inr (Or.inr (Or.inr (Or.inl ⟨h.2.1, h.2.2.2.1, h.2.2.2.2⟩)))
  · exact Or.inr (Or.inr (Or.inr (Or.inr (Or.inl ⟨Or.inl h.2.1, h.2.2.2.1, h.2.2.2.2.1, h.2.2.2.2.2.2.2.2.2.1, h.2.2.2.2.2.2.2.2.2.2⟩))))
  · exact Or.inr (Or.inr (Or.inr (Or.inr (Or.inl ⟨Or.inr (Or.inl h.2.1), h.2.2.2.1, h.2.2.2.2.1, h.2.2.2.2.2.2.2.2.2.1, h.2.2.2.2.2.2.2.2.2.2⟩))))
  · exact Or.inr (Or.inr (Or.inr (Or.inr (Or.inl ⟨Or.inr (Or.inr h.2.1), h.2.2.2.1, h.2.2.2.2.1, h.2.2.2.2.2.2.2.1, h.2.2.2.2.2.2.2.2⟩))))
  · exact Or.inr (Or.inr (Or.inr (Or.inr (Or.inr (Or.inl ⟨h.2.1, h.2.2.2.1, h.2.2.2.2.1⟩)))))
  · exact Or.inr (Or.inr (Or.inr (Or.inr (Or.inr (Or.inr (Or.inl h.2))))))
  · exact Or.inr (Or.inr (Or.inr (Or.inr (Or.inr (Or.inr (Or.inr ⟨h.2.1, h.2.2.2.1, h.2.2.2.2.1, h.2.2.2.2.2.1, h.2.2.2.2.2.2.2⟩))))))
def PlA (A : Nat → Int) : Prop := (0 ≤ A 6 ∧ A 6 ≤ 60) ∧ ∀ k : Nat, (k : Int) < A 6 → StA A k
theorem PlA.pf {A : Nat → Int} (h : PlA A) : PF A := by
  refine ⟨h.1, fun k hk e => ?_⟩
  have := h.2 k hk
  unfold StA at this
  rcases this with q | q | q | q | q | q | q | q
  · omega
  · omega
  · omega
  · omega
  · omega
  · omega
  · omega
  · exact ⟨q.2.1, q.2.2.1, q.2.2.2.1, q.2.2.2.2⟩
/-- what steps leave as it is -/
def Ag (A A' : Nat → Int) : Prop := ∀ j, j < 5 ∨ j = 6 ∨ j = 7 ∨ 206 ≤ j → A' j = A j
theorem Ag.trans {A A' A'' : Nat → Int} (h : Ag A A') (h' : Ag A' A'') : Ag A A'' := fun j hj => (h' j hj).trans (h j hj)
theorem Ag.put {A B : Nat → Int} {s : Nat} (hs : s < 4) : Ag A (putS A s B) := fun j hj => putS_ne (by omega)
theorem Ag.dy {A : Nat → Int} (hI : Inv A) {n : Nat} (h : A 5 + n ≤ 9999) : Ag A (dyN A n) := fun j hj => (dyN_all hI n h).2.2 j (by omega) (by omega)
theorem StR.ag {M : Mm} {p k : Nat} {A A' : Nat → Int} (h : StR M p A k) (e : Ag A A') : StR M p A' k := by
  have a0 := e 0 (by omega)
  have a1 := e 1 (by omega)
  have a2 := e 2 (by omega)
  have a3 := e 3 (by omega)
  have a6 := e 6 (by omega)
  have ph : ∀ k, 206 ≤ k → A' k = A k := fun k hk => e k (by omega)
  unfold StR at *
  rw [a0, a1, a2, a3, a6, ph _ (by omega), ph _ (by omega), ph _ (by omega), ph _ (by omega), ph _ (by omega), ph _ (by omega), ph _ (by omega), ph _ (by omega), ph _ (by omega)]
  exact h
theorem StA.ag {k : Nat} {A A' : Nat → Int} (h : StA A k) (e : Ag A A') : StA A' k := by
  have a1 := e 1 (by omega)
  have a2 := e 2 (by omega)
  have a3 := e 3 (by omega)
  have a6 := e 6 (by omega)
  have ph : ∀ k, 206 ≤ k → A' k = A k := fun k hk => e k (by omega)
  unfold StA at *
  rw [a1, a2, a3, a6, ph _ (by omega), ph _ (by omega), ph _ (by omega), ph _ (by omega), ph _ (by omega), ph _ (by omega), ph _ (by omega)]
  exact h
theorem PlA.ag {A A' : Nat → Int} (h : PlA A) (e : Ag A A') : PlA A' := by
  have a6 := e 6 (by omega)
  refine ⟨by rw [a6]; exact h.1, fun k hk => (h.2 k (by rw [← a6]; exact hk)).ag e⟩
section
variable {A : Nat → Int} {k s g : Nat} {n dr : Int} {T : Nat → Int}
theorem Sh1.pt {B : Nat → Int} (h : Sh1 A B) : 1 ≤ A 2 := by
  have := h.1
  by_cases e : B 0 = -1
  · omega
  · omega
theorem buy_sh (hI : Inv A) (hs : (s : Int) < A 3) (hg : (g : Int) < A 1) (hn : 1 ≤ n) (hn' : n ≤ 60) (ok : okBuy A (shp A s) g n) : Sh1 A (buyR A (shp A s) g n) := by
  have hC := hI.1
  unfold Cn at hC
  have hB := hI.2.2.2.2.2.2.1 s hs
  have pb := prc_bd hI.2.2.2.2.1 hI.1 hB ok.1 (g := g) (by omega)
  have mb := mul_bd pb.1 pb.2 (show 0 ≤ n by omega) hn'
  obtain ⟨o1, o2, o3, o4⟩ := ok
  have a := hB.1
  have l := hB.2.1 g (by omega)
  exact hB.load hg (by omega) (by omega) (by omega) (by omega) (by omega)
theorem sell_sh (hI : Inv A) (hs : (s : Int) < A 3) (hg : (g : Int) < A 1) (hn : 1 ≤ n) (hn' : n ≤ 60) (ok : okSell A (shp A s) g n) : Sh1 A (sellR A (shp A s) g n) := by
  have hC := hI.1
  unfold Cn at hC
  have hB := hI.2.2.2.2.2.2.1 s hs
  have pb := prc_bd hI.2.2.2.2.1 hI.1 hB ok.1 (g := g) (by omega)
  have mb := mul_bd pb.1 pb.2 (show 0 ≤ n by omega) hn'
  obtain ⟨o1, o2, o3⟩ := ok
  have a := hB.1
  have l := hB.2.1 g (by omega)
  have c := hB.2.2.1
  exact hB.load hg (by omega) (by omega) (by have : sm (ld7 (shp A s)) 8 ≤ shp A s 3 := c; omega) (by omega) (by omega)
theorem dump_sh (hI : Inv A) (hs : (s : Int) < A 3) (hg : (g : Int) < A 1) (hn : 1 ≤ n) (ok : n ≤ shp A s (7 + g)) : Sh1 A (dumpR (shp A s) g n) := by
  have hC := hI.1
  unfold Cn at hC
  have hB := hI.2.2.2.2.2.2.1 s hs
  have c := hB.2.2.1
  exact hB.tons hg (by omega) (by omega) (by have : sm (ld7 (shp A s)) 8 ≤ shp A s 3 := c; omega)
theorem sail_sh (hI : Inv A) (hs : (s : Int) < A 3) {p : Nat} (hp : (p : Int) < A 2) (ok : okSail A (shp A s) p) : Sh1 A (sailR A (shp A s) p) := by
  have hC := hI.1
  unfold Cn at hC
  have hB := hI.2.2.2.2.2.2.1 s hs
  have a := hB.1
  have dy := hI.2.2.2.2.2.1 (shp A s 0).toNat p (by have := ok.1; omega) (by omega)
  have o2 := ok.2
  exact hB.sail hp (by unfold way; omega) (by unfold way; omega)
end

/-! WHAT THE CLASS AND THE MODEL SHARE -/
def Sps (M : Mm) (s : Nat) (A : Nat → Int) : Prop := ∀ i : Nat, (i : Int) < A 3 → (∀ w, w < 7 → M (s + 39 + 2 * i) w = A (146 + 15 * i + w)) ∧ (∀ g, g < 8 → M (s + 40 + 2 * i) g = A (153 + 15 * i + g))
def Nt (A : Nat → Int) : Prop := ∀ n : Nat, (n : Int) < A 0 → 0 ≤ A (8 + 4 * n) ∧ A (8 + 4 * n) ≤ 20 ∧ 0 ≤ A (9 + 4 * n) ∧ A (9 + 4 * n) ≤ 9 ∧ 0 ≤ A (10 + 4 * n) ∧ A (10 + 4 * n) ≤ 255 ∧ 0 ≤ A (11 + 4 * n) ∧ A (11 + 4 * n) < 64
def Pt (A : Nat → Int) : Prop := ∀ p : Nat, (p : Int) < A 2 → -1 ≤ A (56 + 15 * p) ∧ A (56 + 15 * p) < A 0
def Pr (A : Nat → Int) : Prop := ∀ p g : Nat, p < 6 → g < 8 → 0 ≤ A (57 + 15 * p + g) ∧ A (57 + 15 * p + g) ≤ 99
def Dy (A : Nat → Int) : Prop := ∀ p q : Nat, p < 6 → q < 6 → 0 ≤ A (65 + 15 * p + q) ∧ A (65 + 15 * p + q) ≤ 20 ∧ A (65 + 15 * p + q) = A (65 + 15 * q + p) ∧ A (65 + 15 * p + p) = 0
def Sh1 (A B : Nat → Int) : Prop := (-1 ≤ B 0 ∧ B 0 < A 2 ∧ -1 ≤ B 1 ∧ B 1 < A 2 ∧ 0 ≤ B 2 ∧ B 2 ≤ 20 ∧ 1 ≤ B 3 ∧ B 3 ≤ 60 ∧ 0 ≤ B 4 ∧ B 4 ≤ 9999 ∧ (B 0 = -1 → 0 ≤ B 1 ∧ 1 ≤ B 2) ∧ (0 ≤ B 0 → B 1 = -1 ∧ B 2 = 0)) ∧ (∀ g : Nat, g < 8 → 0 ≤ B (7 + g)) ∧ sm (fun g => B (7 + g)) 8 ≤ B 3 ∧ ∀ g : Nat, A 1 ≤ (g : Int) → g < 8 → B (7 + g) = 0
def shp (A : Nat → Int) (i : Nat) : Nat → Int := fun w => A (146 + 15 * i + w)
def Shs (A : Nat → Int) : Prop := ∀ i : Nat, (i : Int) < A 3 → Sh1 A (shp A i)
def Sym (A : Nat → Int) : Prop := ∀ a b : Nat, (a : Int) < A 0 → (b : Int) < A 0 → and32 (shr32 (A (11 + 4 * a)) (b : Int)) 1 = and32 (shr32 (A (11 + 4 * b)) (a : Int)) 1
def Inv (A : Nat → Int) : Prop := Cn A ∧ Gd A ∧ Nt A ∧ Pt A ∧ Pr A ∧ Dy A ∧ Shs A ∧ (0 ≤ A 5 ∧ A 5 ≤ 9999) ∧ Sym A
/-- a step of the VOYAGES, in the class and in the model -/
def StR (M : Mm) (p : Nat) (A : Nat → Int) (k : Nat) : Prop :=
  (M (p + 1) k = 0 ∧ A (206 + 6 * k) = 19 ∧ M (p + 2) k = 0 ∧ M (p + 4) k = A (207 + 6 * k) ∧ 1 ≤ A (207 + 6 * k) ∧ A (207 + 6 * k) ≤ 20) ∨
  (1 ≤ M (p + 1) k ∧ M (p + 1) k ≤ 3 ∧ A (206 + 6 * k) = 19 + M (p + 1) k ∧ M (p + 2) k = A (207 + 6 * k) ∧ 0 ≤ A (207 + 6 * k) ∧ A (207 + 6 * k) < A 3 ∧ M (p + 3) k = A (208 + 6 * k) ∧ 0 ≤ A (208 + 6 * k) ∧ A (208 + 6 * k) < A 1 ∧ M (p + 4) k = A (209 + 6 * k) ∧ 1 ≤ A (209 + 6 * k) ∧ A (209 + 6 * k) ≤ 60) ∨
  (M (p + 1) k = 4 ∧ A (206 + 6 * k) = 23 ∧ M (p + 2) k = A (207 + 6 * k) ∧ 0 ≤ A (207 + 6 * k) ∧ A (207 + 6 * k) < A 3 ∧ M (p + 3) k = A (208 + 6 * k) ∧ 0 ≤ A (208 + 6 * k) ∧ A (208 + 6 * k) < A 2) ∨
  (M (p + 1) k = 5 ∧ A (206 + 6 * k) = 24 ∧ M (p + 2) k = A (207 + 6 * k) ∧ 0 ≤ A (207 + 6 * k) ∧ A (207 + 6 * k) < A 3) ∨
  (M (p + 1) k = 6 ∧ A (206 + 6 * k) = 2529 ∧ M (p + 2) k = A (207 + 6 * k) ∧ 0 ≤ A (207 + 6 * k) ∧ A (207 + 6 * k) < A 3 ∧ M (p + 3) k = A (208 + 6 * k) ∧ 0 ≤ A (208 + 6 * k) ∧ A (208 + 6 * k) < A 0 ∧ M (p + 5) k = A (210 + 6 * k) ∧ (k : Int) < A (210 + 6 * k) ∧ A (210 + 6 * k) < A 6) ∨
  (M (p + 1) k = 7 ∧ A (206 + 6 * k) = 2530 ∧ M (p + 2) k = A (207 + 6 * k) ∧ 0 ≤ A (207 + 6 * k) ∧ A (207 + 6 * k) < A 3 ∧ M (p + 3) k = A (208 + 6 * k) ∧ 0 ≤ A (208 + 6 * k) ∧ A (208 + 6 * k) < A 2 ∧ M (p + 5) k = A (210 + 6 * k) ∧ (k : Int) < A (210 + 6 * k) ∧ A (210 + 6 * k) < A 6) ∨
  ((M (p + 1) k = 8 ∧ A (211 + 6 * k) = 60 ∨ M (p + 1) k = 9 ∧ A (211 + 6 * k) = 62 ∨ M (p + 1) k = 10 ∧ A (211 + 6 * k) = 61) ∧ A (206 + 6 * k) = 2518 ∧ M (p + 2) k = A (207 + 6 * k) ∧ 0 ≤ A (207 + 6 * k) ∧ A (207 + 6 * k) < A 3 ∧ M (p + 4) k = A (208 + 6 * k) ∧ M (p + 5) k = A (210 + 6 * k) ∧ (k : Int) < A (210 + 6 * k) ∧ A (210 + 6 * k) < A 6) ∨
  (M (p + 1) k = 11 ∧ A (206 + 6 * k) = 26 ∧ M (p + 4) k = A (207 + 6 * k) ∧ 1 ≤ A (207 + 6 * k) ∧ A (207 + 6 * k) ≤ 99 ∧ M (p + 5) k = A (210 + 6 * k) ∧ (k : Int) < A (210 + 6 * k) ∧ A (210 + 6 * k) < A 6) ∨
  (M (p + 1) k = 12 ∧ A (206 + 6 * k) = 28) ∨
  (M (p + 1) k = 13 ∧ A (206 + 6 * k) = 27 ∧ M (p + 5) k = A (210 + 6 * k) ∧ 0 ≤ A (210 + 6 * k) ∧ A (210 + 6 * k) < (k : Int) ∧ A (210 + 6 * (A (210 + 6 * k)).toNat) = (k : Int) ∧ (A (206 + 6 * (A (210 + 6 * k)).toNat) = 26 ∨ 2500 ≤ A (206 + 6 * (A (210 + 6 * k)).toNat)) ∧ (A (206 + 6 * (k - 1)) = 26 → A (210 + 6 * k) = ((k - 1 : Nat) : Int)))
def Pl (M : Mm) (s : Nat) (A : Nat → Int) : Prop := (M (s + 33) 7 = 0 ∧ A 6 = -1) ∨ (M (s + 33) 7 = 1 ∧ M (s + 33) 5 = A 6 ∧ 0 ≤ A 6 ∧ A 6 ≤ 60 ∧ ∀ k : Nat, (k : Int) < A 6 → StR M (s + 33) A k)
/-- a NAME, as a number in the class and in the model -/
def cod (b o : Int) : List Nat → Int → Int
  | [], x => x
  | w :: t, x => cod b o t (x * b + (w + o))
def nmR (x y : Int) : Prop := ∃ w : List Nat, 1 ≤ w.length ∧ w.length ≤ 8 ∧ (∀ z ∈ w, 1 ≤ z ∧ z ≤ 26) ∧ x = cod 32 0 w 0 ∧ y = cod 256 96 w 0
def Nms (M : Mm) (s : Nat) (A N : Nat → Int) : Prop :=
  (∀ i : Nat, (i : Int) < A 0 → nmR (M (s + 4) i) (N i)) ∧ (∀ i : Nat, (i : Int) < A 1 → nmR (M (s + 5) i) (N (6 + i))) ∧
  (∀ i : Nat, (i : Int) < A 2 → nmR (M (s + 6) i) (N (14 + i))) ∧ (∀ i : Nat, (i : Int) < A 3 → nmR (M (s + 7) i) (N (20 + i)))
def World (M : Mm) (s : Nat) (A N : Nat → Int) : Prop := ChW M (s + 1) A ∧ M s 3 = A 5 ∧ Sps M s A ∧ Pl M s A ∧ Nms M s A N ∧ Inv A
def R1 (M : Mm) : Prop := M 3 16 = M 271 3 ∧ M 3 17 = M 271 4 ∧ M 3 13 = M 271 16 ∧ M 3 14 = M 271 17
def RTr (M : Mm) : Prop := ∀ t : Nat, t < 4 → M 10 t = M 274 t ∧ 0 ≤ M 274 t ∧ M 274 t ≤ 3 ∧ M 11 t = M 275 t ∧ -1 ≤ M 275 t ∧ M 275 t ≤ 60 ∧ ∀ k : Nat, (k : Int) < M 275 t → M (6 + t) k = M 276 (60 * t + k)
def wcode (w : Nat) : Int := ([471475694, 754917, 153241, 4363411, 23602, 245220, 486, 24627848, 12748147, 540244, 17376357, 23609, 132915, 631088, 52, 277892, 3646931, 36144708, 611717, 4153, 2745, 628108, 153008, 623916, 1497, 762030, 19574948, 302, 409072, 5572, 643568] : List Int).getD w 0
def RTp (M : Mm) : Prop := M 12 2 = M 271 10 ∧ 0 ≤ M 271 10 ∧ M 271 10 ≤ 900 ∧ (∀ k : Nat, (k : Int) < M 271 10 → M 13 k = M 277 k ∧ -128 ≤ M 277 k ∧ M 277 k ≤ 127) ∧ ∀ w : Nat, w < 31 → M 14 w = wcode w
def RLv (M : Mm) : Prop := M 3 11 = M 271 40 ∧ (M 271 40 = 0 ∨ M 271 40 = 1 ∧ ∀ k : Nat, k < 5 → M 129 k = M 286 k)
def RLp (M : Mm) : Prop := ∀ o : Nat, o < 60 → M 128 o = 0 ∧ M 284 o = 0 ∨ M 128 o = M 284 o + 1 ∧ 0 ≤ M 284 o ∧ M 284 o ≤ 98
def RMk (M : Mm) (B P : Nat → Nat → Int) : Prop := M 3 12 = M 271 41 ∧ 0 ≤ M 271 41 ∧ M 271 41 ≤ 3 ∧ ∀ i : Nat, (i : Int) < M 271 41 → (∀ k, k < 572 → M 272 (572 * (i + 1) + k) = B i k) ∧ (∀ k, k < 24 → M 273 (24 * (i + 1) + k) = P i k) ∧ World M (130 + 47 * i) (B i) (P i)
def RNw (M : Mm) (A N : Nat → Int) : Prop := (∀ k, k < 572 → M 272 k = A k) ∧ (∀ k, k < 24 → M 273 k = N k) ∧ World M 18 A N
def RelS (xs : Nat → Int) (M : Mm) (A N : Nat → Int) (B P : Nat → Nat → Int) : Prop := (∀ j, M 0 j = xs j) ∧ R1 M ∧ RTr M ∧ RTp M ∧ (RLv M ∧ RLp M) ∧ RMk M B P ∧ RNw M A N
def Rel (xs : Nat → Int) (M : Mm) (A N : Nat → Int) (B P : Nat → Nat → Int) : Prop := M 3 15 = M 271 2 ∧ RelS xs M A N B P
/-! what leaves it as it is -/
theorem StR.frame {M M' : Mm} {p k : Nat} {A : Nat → Int} (h : StR M p A k) (e : ∀ b, p < b → b ≤ p + 5 → M' b k = M b k) : StR M' p A k := by
  unfold StR at *
  rw [e (p + 1) (by omega) (by omega), e (p + 2) (by omega) (by omega), e (p + 3) (by omega) (by omega), e (p + 4) (by omega) (by omega), e (p + 5) (by omega) (by omega)]
  exact h
theorem World.frame {M M' : Mm} {s : Nat} {A N : Nat → Int} (h : World M s A N) (e : ∀ b j, s ≤ b → b ≤ s + 46 → b ≠ s + 30 → b ≠ s + 31 → M' b j = M b j) : World M' s A N := by
  obtain ⟨⟨h1, h2, h3, h4, h5, h6, h7⟩, hd, hs, hp, ⟨n1, n2, n3, n4⟩, hI⟩ := h
  have hC := hI.1
  unfold Cn at hC
  refine ⟨⟨fun k hk => ?_, ?_, fun n hn => ?_, fun g hg => ?_, fun p hp => ?_, fun p g hp hg => ?_, fun p q hp hq => ?_⟩, ?_, fun i hi => ⟨fun w hw => ?_, fun g hg => ?_⟩, ?_, ⟨fun i hi => ?_, fun i hi => ?_, fun i hi => ?_, fun i hi => ?_⟩, hI⟩
  · rw [e _ _ (by omega) (by omega) (by omega) (by omega)]; exact h1 k hk
  · rw [e _ _ (by omega) (by omega) (by omega) (by omega)]; exact h2
  · rw [e _ _ (by omega) (by omega) (by omega) (by omega), e _ _ (by omega) (by omega) (by omega) (by omega), e _ _ (by omega) (by omega) (by omega) (by omega), e _ _ (by omega) (by omega) (by omega) (by omega)]; exact h3 n hn
  · rw [e _ _ (by omega) (by omega) (by omega) (by omega), e _ _ (by omega) (by omega) (by omega) (by omega), e _ _ (by omega) (by omega) (by omega) (by omega)]; exact h4 g hg
  · rw [e _ _ (by omega) (by omega) (by omega) (by omega)]; exact h5 p hp
  · rw [e _ _ (by omega) (by omega) (by omega) (by omega)]; exact h6 p g hp hg
  · rw [e _ _ (by omega) (by omega) (by omega) (by omega)]; exact h7 p q hp hq
  · rw [e _ _ (by omega) (by omega) (by omega) (by omega)]; exact hd
  · rw [e _ _ (by omega) (by omega) (by omega) (by omega)]; exact (hs i hi).1 w hw
  · rw [e _ _ (by omega) (by omega) (by omega) (by omega)]; exact (hs i hi).2 g hg
  · unfold Pl at *
    rw [e _ _ (by omega) (by omega) (by omega) (by omega), e _ _ (by omega) (by omega) (by omega) (by omega)]
    rcases hp with hp | ⟨a, b, c, d, f⟩
    · exact Or.inl hp
    · exact Or.inr ⟨a, b, c, d, fun k hk => (f k hk).frame fun b hb hb' => e b k (by omega) (by omega) (by omega) (by omega)⟩
  · rw [e _ _ (by omega) (by omega) (by omega) (by omega)]; exact n1 i hi
  · rw [e _ _ (by omega) (by omega) (by omega) (by omega)]; exact n2 i hi
  · rw [e _ _ (by omega) (by omega) (by omega) (by omega)]; exact n3 i hi
  · rw [e _ _ (by omega) (by omega) (by omega) (by omega)]; exact n4 i hi
def k1 (b j : Nat) : Prop := b = 3 ∧ (j = 16 ∨ j = 17 ∨ j = 13 ∨ j = 14) ∨ b = 271 ∧ (j = 3 ∨ j = 4 ∨ j = 16 ∨ j = 17)
def kTr (b _j : Nat) : Prop := 6 ≤ b ∧ b ≤ 11 ∨ 274 ≤ b ∧ b ≤ 276
def kTp (b j : Nat) : Prop := b = 12 ∧ j = 2 ∨ b = 13 ∨ b = 14 ∨ b = 271 ∧ j = 10 ∨ b = 277
def kLv (b j : Nat) : Prop := b = 3 ∧ j = 11 ∨ b = 271 ∧ j = 40 ∨ b = 129 ∨ b = 286
def kLp (b j : Nat) : Prop := b = 128 ∧ j < 60 ∨ b = 284 ∧ j < 60
def kMk (b j : Nat) : Prop := b = 3 ∧ j = 12 ∨ b = 271 ∧ j = 41 ∨ 130 ≤ b ∧ b ≤ 270 ∧ b ≠ 160 ∧ b ≠ 161 ∧ b ≠ 207 ∧ b ≠ 208 ∧ b ≠ 254 ∧ b ≠ 255 ∨ b = 272 ∧ 572 ≤ j ∧ j < 2288 ∨ b = 273 ∧ 24 ≤ j ∧ j < 96
def kNw (b j : Nat) : Prop := 18 ≤ b ∧ b ≤ 64 ∧ b ≠ 48 ∧ b ≠ 49 ∨ b = 272 ∧ j < 572 ∨ b = 273 ∧ j < 24
theorem RNw.frame {M M' : Mm} {A N : Nat → Int} (h : RNw M A N) (e : ∀ b j, kNw b j → M' b j = M b j) : RNw M' A N := by
  unfold kNw at e
  exact ⟨fun k hk => by rw [e _ _ (by omega)]; exact h.1 k hk, fun k hk => by rw [e _ _ (by omega)]; exact h.2.1 k hk, h.2.2.frame fun b j h1 h2 h3 h4 => e b j (by omega)⟩
theorem RMk.frame {M M' : Mm} {B P : Nat → Nat → Int} (h : RMk M B P) (e : ∀ b j, kMk b j → M' b j = M b j) : RMk M' B P := by
  obtain ⟨h1, h2, h3, h4⟩ := h
  unfold kMk at e
  unfold RMk
  rw [e 3 12 (Or.inl ⟨rfl, rfl⟩), e 271 41 (Or.inr (Or.inl ⟨rfl, rfl⟩))]
  refine ⟨h1, h2, h3, fun i hi => ⟨fun k hk => ?_, fun k hk => ?_, (h4 i hi).2.2.frame fun b j a1 a2 a3 a4 => e b j (Or.inr (Or.inr (Or.inl ?_)))⟩⟩
  · rw [e _ _ (Or.inr (Or.inr (Or.inr (Or.inl (by omega)))))]; exact (h4 i hi).1 k hk
  · rw [e _ _ (Or.inr (Or.inr (Or.inr (Or.inr (by omega)))))]; exact (h4 i hi).2.1 k hk
  · omega
theorem RTr.frame {M M' : Mm} (h : RTr M) (e : ∀ b j, kTr b j → M' b j = M b j) : RTr M' := by
  intro t ht
  obtain ⟨a, b, c, d, f, g, i⟩ := h t ht
  unfold kTr at e
  rw [e _ _ (by omega), e 274 _ (by omega), e 11 _ (by omega), e 275 _ (by omega)]
  exact ⟨a, b, c, d, f, g, fun k hk => by rw [e _ _ (by omega), e 276 _ (by omega)]; exact i k hk⟩
theorem RTp.frame {M M' : Mm} (h : RTp M) (e : ∀ b j, kTp b j → M' b j = M b j) : RTp M' := by
  obtain ⟨a, b, c, d, f⟩ := h
  unfold kTp at e
  unfold RTp
  rw [e 12 2 (by omega), e 271 10 (by omega)]
  exact ⟨a, b, c, fun k hk => by rw [e 13 _ (by omega), e 277 _ (by omega)]; exact d k hk, fun w hw => by rw [e 14 _ (by omega)]; exact f w hw⟩
theorem RLv.frame {M M' : Mm} (h : RLv M) (e : ∀ b j, kLv b j → M' b j = M b j) : RLv M' := by
  obtain ⟨a, b⟩ := h
  unfold kLv at e
  unfold RLv
  rw [e 3 11 (by omega), e 271 40 (by omega)]
  refine ⟨a, ?_⟩
  rcases b with b | ⟨b, c⟩
  · exact Or.inl b
  · exact Or.inr ⟨b, fun k hk => by rw [e 129 _ (by omega), e 286 _ (by omega)]; exact c k hk⟩
theorem RLp.frame {M M' : Mm} (h : RLp M) (e : ∀ b j, kLp b j → M' b j = M b j) : RLp M' := by
  intro o ho
  rw [e 128 o (Or.inl ⟨rfl, ho⟩), e 284 o (Or.inr ⟨rfl, ho⟩)]
  exact h o ho
theorem R1.frame {M M' : Mm} (h : R1 M) (e : ∀ b j, k1 b j → M' b j = M b j) : R1 M' := by
  unfold R1 at *
  unfold k1 at e
  rw [e _ _ (by omega), e 271 3 (by omega), e 3 17 (by omega), e 271 4 (by omega), e 3 13 (by omega), e 271 16 (by omega), e 3 14 (by omega), e 271 17 (by omega)]
  exact h
/-- places that calls which only ask leave as they are -/
def core (b j : Nat) : Prop := b = 0 ∨ k1 b j ∨ kTr b j ∨ kTp b j ∨ kLv b j ∨ kLp b j ∨ kMk b j ∨ kNw b j
section
variable {b j : Nat}
theorem in0 (h : b = 0) : core b j := Or.inl h
theorem in1 (h : k1 b j) : core b j := Or.inr (Or.inl h)
theorem inTr (h : kTr b j) : core b j := Or.inr (Or.inr (Or.inl h))
theorem inTp (h : kTp b j) : core b j := Or.inr (Or.inr (Or.inr (Or.inl h)))
theorem inLv (h : kLv b j) : core b j := Or.inr (Or.inr (Or.inr (Or.inr (Or.inl h))))
theorem inLp (h : kLp b j) : core b j := Or.inr (Or.inr (Or.inr (Or.inr (Or.inr (Or.inl h)))))
theorem inMk (h : kMk b j) : core b j := Or.inr (Or.inr (Or.inr (Or.inr (Or.inr (Or.inr (Or.inl h))))))
theorem inNw (h : kNw b j) : core b j := Or.inr (Or.inr (Or.inr (Or.inr (Or.inr (Or.inr (Or.inr h))))))
end
theorem RelS.ask {xs : Nat → Int} {M M' : Mm} {A N : Nat → Int} {B P : Nat → Nat → Int} (h : RelS xs M A N B P) (e : ∀ b j, core b j → M' b j = M b j) : RelS xs M' A N B P := by
  obtain ⟨h0, h1, h2, h3, h4, h5, h6⟩ := h
  exact ⟨fun j => by rw [e 0 j (in0 rfl)]; exact h0 j, h1.frame fun b j hb => e b j (in1 hb), h2.frame fun b j hb => e b j (inTr hb), h3.frame fun b j hb => e b j (inTp hb), ⟨h4.1.frame fun b j hb => e b j (inLv hb), h4.2.frame fun b j hb => e b j (inLp hb)⟩, h5.frame fun b j hb => e b j (inMk hb), h6.frame fun b j hb => e b j (inNw hb)⟩
theorem RelS.up {xs : Nat → Int} {M : Mm} {A N : Nat → Int} {B P : Nat → Nat → Int} {a k : Nat} {v : Int} (h : RelS xs M A N B P) (hk : ¬core a k) : RelS xs (up M a k v) A N B P := h.ask fun b j hb => upN (by
  by_cases e : b = a ∧ j = k
  · rw [e.1, e.2] at hb; exact absurd hb hk
  · omega)
theorem RelS.fill {xs : Nat → Int} {M : Mm} {A N : Nat → Int} {B P : Nat → Nat → Int} {a n : Nat} {f : Nat → Int} (h : RelS xs M A N B P) (hk : ∀ j, j < n → ¬core a j) : RelS xs (fillP M a f n) A N B P := h.ask fun b j hb => fill_ne (by
  by_cases e : b = a ∧ j < n
  · rw [e.1] at hb; exact absurd hb (hk j e.2)
  · omega)
/-- a change of the world as it is now -/
theorem RelS.now {xs : Nat → Int} {M M' : Mm} {A N A' N' : Nat → Int} {B P : Nat → Nat → Int} (h : RelS xs M A N B P) (e : ∀ b j, core b j → ¬kNw b j → M' b j = M b j) (hn : RNw M' A' N') : RelS xs M' A' N' B P := by
  obtain ⟨h0, h1, h2, h3, h4, h5, -⟩ := h
  exact ⟨fun j => by rw [e 0 j (in0 rfl) (by unfold kNw; omega)]; exact h0 j, h1.frame fun b j hb => e b j (in1 hb) (by unfold k1 at hb; unfold kNw; omega), h2.frame fun b j hb => e b j (inTr hb) (by unfold kTr at hb; unfold kNw; omega), h3.frame fun b j hb => e b j (inTp hb) (by unfold kTp at hb; unfold kNw; omega), ⟨h4.1.frame fun b j hb => e b j (inLv hb) (by unfold kLv at hb; unfold kNw; omega), h4.2.frame fun b j hb => e b j (inLp hb) (by unfold kLp at hb; unfold kNw; omega)⟩, h5.frame fun b j hb => e b j (inMk hb) (by unfold kMk at hb; unfold kNw; omega), hn⟩

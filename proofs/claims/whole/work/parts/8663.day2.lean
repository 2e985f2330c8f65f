/-! A DAY OF ALL SHIPS -/
def RelC (M : Mm) (A : Nat → Int) : Prop := ChW M 19 A ∧ M 18 3 = A 5 ∧ Sps M 18 A ∧ Inv A
def FrC (M M' : Mm) : Prop := ∀ b j, ¬(57 ≤ b ∧ b ≤ 64) → b ≠ 48 → ¬(b = 18 ∧ j = 3) → M' b j = M b j
def FrM (M M' : Mm) : Prop := ∀ b j, b ≠ 280 → ¬(b = 272 ∧ j < 206) → M' b j = M b j
theorem FrC.trans {M M1 M2 : Mm} (h1 : FrC M M1) (h2 : FrC M1 M2) : FrC M M2 := fun b j q1 q2 q3 => (h2 b j q1 q2 q3).trans (h1 b j q1 q2 q3)
theorem FrM.trans {M M1 M2 : Mm} (h1 : FrM M M1) (h2 : FrM M1 M2) : FrM M M2 := fun b j q1 q2 => (h2 b j q1 q2).trans (h1 b j q1 q2)
def dyS (A : Nat → Int) : Nat → Nat → Int
  | 0 => A
  | k + 1 => putS (dyS A k) k (dayB (dyS A k) (shp (dyS A k) k))
def dl (A : Nat → Int) (k : Nat) : Int := landB (dyS A k) (shp (dyS A k) k)
def dyD (A : Nat → Int) : Nat → Int := wU (dyS A (A 3).toNat) 5 (A 5 + 1)
theorem dyS_lo (A : Nat → Int) : ∀ (n k : Nat), k < 146 ∨ 206 ≤ k → n ≤ 4 → dyS A n k = A k
  | 0, _, _, _ => rfl
  | n + 1, k, h, hn => by
    show putS (dyS A n) n _ k = A k
    rw [putS_ne (by omega)]
    exact dyS_lo A n k h (by omega)
section
variable {M M' : Mm} {A B : Nat → Int} {L d : Nat}
theorem Sh1.leak (h : Sh1 A B) (hG : Gd A) (hC : Cn A) (hp : 0 ≤ B 0) : Sh1 A (lkB A B) := by
  have hL := h.ldl
  obtain ⟨a, b, c, e⟩ := h
  have o : ∀ w, w < 7 → lkB A B w = B w := fun w hw => by unfold lkB; rw [if_neg (by omega)]
  have lb : ∀ g, g < 8 → 0 ≤ lkB A B (7 + g) ∧ lkB A B (7 + g) ≤ B (7 + g) := fun g hg => by
    have := b g hg
    unfold lkB
    split
    · next q =>
      have := hG g (by rw [show 7 + g - 7 = g by omega] at q; exact q.2.2)
      rw [show 7 + g - 7 = g by omega]
      omega
    · omega
  unfold Sh1
  rw [o 0 (by omega), o 1 (by omega), o 2 (by omega), o 3 (by omega), o 4 (by omega)]
  refine ⟨a, fun g hg => (lb g hg).1, ?_, fun g h1 h2 => ?_⟩
  · have : ∀ n, n ≤ 8 → sm (fun g => lkB A B (7 + g)) n ≤ sm (fun g => B (7 + g)) n := fun n => by
      induction n with
      | zero => intro _; exact Int.le_refl _
      | succ n ih =>
        intro hn
        rw [sm_s, sm_s]
        have := ih (by omega)
        have := lb n (by omega)
        omega
    have := this 8 (by omega)
    omega
  · unfold lkB
    rw [if_neg (by omega)]
    exact e g h1 h2
theorem sd_ld (hS : Sh1 A B) (hG : Gd A) : (∀ g, g < 8 → 0 ≤ sdB A B (7 + g)) ∧ sm (fun g => sdB A B (7 + g)) 8 ≤ B 3 ∧ ∀ g : Nat, A 1 ≤ (g : Int) → g < 8 → sdB A B (7 + g) = 0 := by
  obtain ⟨a, b, c, e⟩ := hS
  have lb : ∀ g, g < 8 → 0 ≤ sdB A B (7 + g) ∧ sdB A B (7 + g) ≤ B (7 + g) := fun g hg => by
    have := b g hg
    unfold sdB lkB
    rw [pay_o (by omega) (by omega)]
    split
    · next q =>
      have := hG g (by rw [show 7 + g - 7 = g by omega] at q; exact q.2.2)
      rw [show 7 + g - 7 = g by omega]
      omega
    · omega
  refine ⟨fun g hg => (lb g hg).1, ?_, fun g h1 h2 => ?_⟩
  · have : ∀ n, n ≤ 8 → sm (fun g => sdB A B (7 + g)) n ≤ sm (fun g => B (7 + g)) n := fun n => by
      induction n with
      | zero => intro _; exact Int.le_refl _
      | succ n ih =>
        intro hn
        rw [sm_s, sm_s]
        have := ih (by omega)
        have := lb n (by omega)
        omega
    have := this 8 (by omega)
    omega
  · unfold sdB lkB
    rw [if_neg (by omega), pay_o (by omega) (by omega)]
    exact e g h1 h2
/-- what holds behind a day at sea, by the parts that it may have -/
theorem Sh1.mk7 {B' : Nat → Int} (h : (-1 ≤ B' 0 ∧ B' 0 < A 2 ∧ -1 ≤ B' 1 ∧ B' 1 < A 2 ∧ 0 ≤ B' 2 ∧ B' 2 ≤ 20 ∧ 1 ≤ B' 3 ∧ B' 3 ≤ 60 ∧ 0 ≤ B' 4 ∧ B' 4 ≤ 9999 ∧ (B' 0 = -1 → 0 ≤ B' 1 ∧ 1 ≤ B' 2) ∧ (0 ≤ B' 0 → B' 1 = -1 ∧ B' 2 = 0))) (hb : ∀ g, g < 8 → B' (7 + g) = sdB A B (7 + g)) (hS : Sh1 A B) (hG : Gd A) (h3 : B' 3 = B 3) : Sh1 A B' := by
  obtain ⟨a, b, c⟩ := sd_ld hS hG
  refine ⟨h, fun g hg => by rw [hb g hg]; exact a g hg, ?_, fun g h1 h2 => by rw [hb g h2]; exact c g h1 h2⟩
  rw [sm_congr (f := fun g => B' (7 + g)) (g := fun g => sdB A B (7 + g)) fun k hk => hb k hk, h3]
  exact b
theorem Sh1.day (h : Sh1 A B) (hI : Inv A) : Sh1 A (dayB A B) := by
  obtain ⟨hC, hG, hN, hPt, -⟩ := hI
  have a := h.1
  unfold dayB
  by_cases e0 : B 0 = -1
  · rw [if_pos e0]
    have hS : SeaI B := ⟨by omega, h.ldl⟩
    have s4 := (hS.sd hC hG hN).1
    have o : ∀ w, w ≠ 4 → w ≠ 5 → w < 7 → sdB A B w = B w := fun w h4 h5 h7 => sd_o h4 h5 h7
    have o1 : sdN A B 1 = sdB A B := rfl
    unfold sonB
    rw [o1]
    have c1 : ((1 : Nat) : Int) = 1 := rfl
    rw [c1]
    by_cases q : 0 < B 2 - 1
    · rw [if_pos q]
      refine Sh1.mk7 (B := B) ?_ (fun g hg => wUN (by omega)) h hG (by rw [wUN (by omega)]; exact o 3 (by omega) (by omega) (by omega))
      rw [wUN (by omega), wUN (j := 1) (by omega), wUE (j := 2) rfl, wUN (j := 3) (by omega), wUN (j := 4) (by omega), o 0 (by omega) (by omega) (by omega), o 1 (by omega) (by omega) (by omega), o 3 (by omega) (by omega) (by omega)]
      omega
    · rw [if_neg q]
      have c0 : (wU (wU (wU (sdB A B) 2 (B 2 - 1)) 0 (B 1)) 1 (-1)) 0 = B 1 := by rw [wUN (by omega), wUE rfl]
      have c2 : (wU (wU (wU (sdB A B) 2 (B 2 - 1)) 0 (B 1)) 1 (-1)) 2 = B 2 - 1 := by rw [wUN (by omega), wUN (by omega), wUE rfl]
      have c3 : (wU (wU (wU (sdB A B) 2 (B 2 - 1)) 0 (B 1)) 1 (-1)) 3 = B 3 := by rw [wUN (by omega), wUN (by omega), wUN (by omega)]; exact o 3 (by omega) (by omega) (by omega)
      have c4 : (wU (wU (wU (sdB A B) 2 (B 2 - 1)) 0 (B 1)) 1 (-1)) 4 = sdB A B 4 := by rw [wUN (by omega), wUN (by omega), wUN (by omega)]
      have c7 : ∀ g, g < 8 → (wU (wU (wU (sdB A B) 2 (B 2 - 1)) 0 (B 1)) 1 (-1)) (7 + g) = sdB A B (7 + g) := fun g hg => by rw [wUN (by omega), wUN (by omega), wUN (by omega)]
      have cc1 : (wU (wU (wU (sdB A B) 2 (B 2 - 1)) 0 (B 1)) 1 (-1)) 1 = -1 := wUE rfl
      generalize wU (wU (wU (sdB A B) 2 (B 2 - 1)) 0 (B 1)) 1 (-1) = B1 at *
      have base : Sh1 A B1 := Sh1.mk7 (B := B) (by rw [c0, cc1, c2, c3, c4]; omega) c7 h hG c3
      unfold dutyB
      split
      · exact base
      · split
        · exact base
        · next e1 e2 =>
          have ob := hPt (B1 0).toNat (by unfold Cn at hC; omega)
          have nb := hN (A (56 + 15 * (B1 0).toNat)).toNat (by omega)
          have lb := sm_bd base.ldl 8 (by omega)
          have mb := mul_bd nb.2.2.1 nb.2.2.2.1 lb.1 lb.2
          generalize A (9 + 4 * (A (56 + 15 * (B1 0).toNat)).toNat) * sm (ld7 B1) 8 = due at *
          refine Sh1.mk7 (B := B) ?_ (fun g hg => by rw [wUN (by omega), wUN (by omega)]; exact c7 g hg) h hG (by rw [wUN (by omega), wUN (by omega)]; exact c3)
          rw [wUN (by omega), wUN (by omega), wUN (j := 1) (by omega), wUN (j := 1) (by omega), wUN (j := 2) (by omega), wUN (j := 2) (by omega), wUN (j := 3) (by omega), wUN (j := 3) (by omega), wUN (j := 4) (by omega), wUE (j := 4) rfl, c0, cc1, c2, c3, c4]
          omega
  · rw [if_neg e0]
    exact h.leak hG hC (by omega)
theorem Inv.put (hI : Inv A) {s : Nat} (hs : s < 4) {B' : Nat → Int} (hB : Sh1 A B') : Inv (putS A s B') := hI.ship s (fun k hk => putS_ne (by omega)) (fun i hi _ w hw => putS_ne (by omega)) (hB.congr rfl rfl fun w hw => by unfold shp; exact putS_in hw)
theorem dyS_inv (hI : Inv A) : ∀ n : Nat, (n : Int) ≤ A 3 → Inv (dyS A n)
  | 0, _ => hI
  | n + 1, hn => by
    have hC := hI.1
    unfold Cn at hC
    have ih := dyS_inv hI n (by omega)
    have a3 := dyS_lo A n 3 (by omega) (by omega)
    exact ih.put (by omega) ((ih.2.2.2.2.2.2.1 n (by omega)).day ih)
theorem RelC.put (h : RelC M A) {s : Nat} (hs : s < 4) {B' : Nat → Int} (hB : Sh1 A B') (hV : VsW M' (57 + 2 * s) B') (hf : ∀ b j, b ≠ 57 + 2 * s → b ≠ 57 + 2 * s + 1 → b ≠ 19 + 29 → M' b j = M b j) : RelC M' (putS A s B') := by
  obtain ⟨h1, h2, h3, h4⟩ := h
  have hC := h4.1
  have lo : ∀ k, k < 146 → putS A s B' k = A k := fun k hk => putS_ne (by omega)
  have hI := h4.put hs hB
  have hC2 := hI.1
  have h1' : ChW M' 19 A := h1.frame hC fun b j q1 q2 => hf b j (by omega) (by omega) (by omega)
  have hC' := hC
  unfold Cn at hC'
  refine ⟨?_, ?_, fun i hi => ?_, hI⟩
  · obtain ⟨c1, c2, c3, c4, c5, c6, c7⟩ := h1'
    refine ⟨fun k hk => by rw [lo k (by omega)]; exact c1 k hk, by rw [lo 4 (by omega)]; exact c2, fun n hn => ?_, fun g hg => ?_, fun p hp => ?_, fun p g hp hg => ?_, fun p q hp hq => ?_⟩
    · rw [lo 0 (by omega)] at hn
      rw [lo _ (by omega), lo _ (by omega), lo _ (by omega), lo _ (by omega)]
      exact c3 n hn
    · rw [lo 1 (by omega)] at hg
      rw [lo _ (by omega), lo _ (by omega), lo _ (by omega)]
      exact c4 g hg
    · rw [lo 2 (by omega)] at hp
      rw [lo _ (by omega)]
      exact c5 p hp
    · rw [lo _ (by omega)]; exact c6 p g hp hg
    · rw [lo _ (by omega)]; exact c7 p q hp hq
  · rw [lo 5 (by omega), hf 18 3 (by omega) (by omega) (by omega)]
    exact h2
  · rw [lo 3 (by omega)] at hi
    by_cases e : i = s
    · subst e
      refine ⟨fun w hw => ?_, fun g hg => ?_⟩
      · rw [putS_in (by omega)]
        exact hV.1 w hw
      · rw [show 153 + 15 * i + g = 146 + 15 * i + (7 + g) by omega, putS_in (by omega), show 18 + 40 + 2 * i = 57 + 2 * i + 1 by omega]
        exact hV.2 g hg
    · refine ⟨fun w hw => ?_, fun g hg => ?_⟩
      · rw [putS_ne (by omega), hf _ _ (by omega) (by omega) (by omega)]
        exact (h3 i hi).1 w hw
      · rw [putS_ne (by omega), hf _ _ (by omega) (by omega) (by omega)]
        exact (h3 i hi).2 g hg
theorem RelC.vs (h : RelC M A) {s : Nat} (hs : (s : Int) < A 3) : VsW M (57 + 2 * s) (_root_.Jvm.Pilot.@@N@@.shp A s) := ⟨fun w hw => (h.2.2.1 s hs).1 w hw, fun g hg => by
  have := (h.2.2.1 s hs).2 g hg
  rw [show 57 + 2 * s + 1 = 58 + 2 * s by omega]
  unfold _root_.Jvm.Pilot.@@N@@.shp
  rw [show 146 + 15 * s + (7 + g) = 153 + 15 * s + g by omega]
  exact this⟩
end

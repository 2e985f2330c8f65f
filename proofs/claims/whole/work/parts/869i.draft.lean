/-! THE DRAFT OF A WORLD -/
def dA (M : Mm) : Nat → Int := fun k => M 272 (2288 + k)
def dN (M : Mm) : Nat → Int := fun k => M 273 (96 + k)
def vd (A : Nat → Int) (k : Nat) : Prop := k = 4 ∨ k = 5 ∨ (8 ≤ k ∧ k < 32 ∧ (((k - 8) / 4 : Nat) : Int) < A 0) ∨ (32 ≤ k ∧ k < 56 ∧ (((k - 32) / 3 : Nat) : Int) < A 1) ∨ (56 ≤ k ∧ k < 146 ∧ ((k - 56) % 15 ≠ 0 ∨ (((k - 56) / 15 : Nat) : Int) < A 2)) ∨ (146 ≤ k ∧ k < 206 ∧ (((k - 146) / 15 : Nat) : Int) < A 3)
theorem vd_VV {A : Nat → Int} {k : Nat} (h : vd A k) : VV k := by unfold vd at h; unfold VV; omega
def DX (M : Mm) (A : Nat → Int) : Prop := (∀ k, k < 4 → M 67 k = A k) ∧ ∀ k, vd A k → M (cl k + 47) (pl k) = A k
theorem cl_20 {k : Nat} (h : VV k) : cl k ≤ 19 ∨ 26 ≤ cl k := by
  unfold VV at h
  unfold cl
  split
  · omega
  split
  · omega
  split
  · omega
  split
  · omega
  split
  · split
    · omega
    split
    · omega
    · omega
  split
  · omega
  · omega
theorem DX.upd {M M' : Mm} {A A' : Nat → Int} (h : DX M A) (D : Nat → Prop) (hD : ∀ k, D k → VV k) (c : ∀ k, k < 4 → M' 67 k = A' k) (m1 : ∀ k, D k → M' (cl k + 47) (pl k) = A' k) (hA : ∀ k, vd A' k → ¬D k → vd A k ∧ A' k = A k) (me : ∀ b j, 65 ≤ b → b ≤ 111 → ¬(67 ≤ b ∧ b ≤ 72) → (∀ k, D k → ¬(b = cl k + 47 ∧ j = pl k)) → M' b j = M b j) : DX M' A' := by
  refine ⟨c, fun k hk => ?_⟩
  by_cases z : D k
  · exact m1 k z
  · have v := vd_VV hk
    have r := cl_rng v
    have r2 := cl_20 v
    obtain ⟨a, b⟩ := hA k hk z
    rw [me _ _ (by omega) (by omega) (by omega) fun k' hk' q => ?_, b]
    · exact h.2 k a
    · have i1 := ix_cl v
      have i2 := ix_cl (hD k' hk')
      rw [show cl k = cl k' by omega, q.2] at i1
      rw [i1] at i2
      exact z (i2 ▸ hk')
/-- rows that are not yet told -/
def ZR (A : Nat → Int) : Prop := (∀ n : Nat, n < 6 → A 0 ≤ n → A (9 + 4 * n) = 0 ∧ A (10 + 4 * n) = 0 ∧ A (11 + 4 * n) = 0) ∧ (∀ g : Nat, g < 8 → A 1 ≤ g → A (34 + 3 * g) = 0) ∧ ∀ s : Nat, s < 4 → A 3 ≤ s → A (148 + 15 * s) = 0 ∧ A (151 + 15 * s) = 0 ∧ A (152 + 15 * s) = 0 ∧ ∀ g, g < 8 → A (153 + 15 * s + g) = 0
def FB (A : Nat → Int) : Prop := ∀ n : Nat, (n : Int) < A 0 → A (11 + 4 * n) < (2 ^ (A 0).toNat : Nat)
def DD (M1 M2 : Mm) : Prop := DX M1 (dA M2) ∧ Inv (dA M2) ∧ ZR (dA M2) ∧ FB (dA M2) ∧ (∀ n : Nat, n < 6 → dA M2 0 ≤ n → M1 76 n = 0) ∧ (M1 98 7 = 0 ∧ dA M2 6 = -1) ∧ Nms M1 65 (dA M2) (dN M2) ∧ M1 15 0 = M2 271 20 ∧ (M2 271 20 = 0 ∨ M2 271 20 = 1)
def FcW (M M' : Mm) : Prop := ∀ b j, ¬(b = 12 ∧ 4 ≤ j) → b ≠ 15 → ¬(65 ≤ b ∧ b ≤ 111) → M' b j = M b j
def FmW (M M' : Mm) : Prop := ∀ b j, ¬(b = 271 ∧ (12 ≤ j ∧ j ≤ 15 ∨ j = 17 ∨ j = 18 ∨ j = 20)) → ¬(b = 272 ∧ 2288 ≤ j ∧ j < 2860) → ¬(b = 273 ∧ 96 ≤ j ∧ j < 120) → M' b j = M b j
theorem FcW.trans {M M1 M2 : Mm} (h1 : FcW M M1) (h2 : FcW M1 M2) : FcW M M2 := fun b j q1 q2 q3 => (h2 b j q1 q2 q3).trans (h1 b j q1 q2 q3)
theorem FmW.trans {M M1 M2 : Mm} (h1 : FmW M M1) (h2 : FmW M1 M2) : FmW M M2 := fun b j q1 q2 q3 => (h2 b j q1 q2 q3).trans (h1 b j q1 q2 q3)
theorem FrA.w {M M' : Mm} (h : FrA M M') : FcW M M' := fun b j q1 _ _ => h b j q1
theorem FrB.w {M M' : Mm} (h : FrB M M') : FmW M M' := fun b j q1 _ _ => h b j (by omega)
theorem FrT.w {M M' : Mm} {t : Nat} (h : FrT t M M') (ht : 2288 ≤ t ∧ t < 2860) : FmW M M' := fun b j q1 q2 _ => h b j (by omega) (by omega)
/-! what holds as long as its rows stay -/
section
variable {A A' : Nat → Int}
theorem Gd.cg (h : Gd A) (a0 : A 0 ≤ A' 0) (a1 : A' 1 = A 1) (e : ∀ k, 32 ≤ k → k < 56 → A' k = A k) (hC : Cn A) : Gd A' := fun g hg => by
  unfold Cn at hC
  rw [a1] at hg
  have := h g hg
  rw [e (32 + 3 * g) (by omega) (by omega), e (33 + 3 * g) (by omega) (by omega), e (34 + 3 * g) (by omega) (by omega)]
  omega
theorem Nt.cg (h : Nt A) (a0 : A' 0 = A 0) (e : ∀ k, 8 ≤ k → k < 32 → A' k = A k) (hC : Cn A) : Nt A' := fun n hn => by
  unfold Cn at hC
  rw [a0] at hn
  rw [e _ (by omega) (by omega), e _ (by omega) (by omega), e _ (by omega) (by omega), e _ (by omega) (by omega)]
  exact h n hn
theorem Pt.cg (h : Pt A) (a0 : A 0 ≤ A' 0) (a2 : A' 2 = A 2) (e : ∀ p : Nat, p < 6 → A' (56 + 15 * p) = A (56 + 15 * p)) (hC : Cn A) : Pt A' := fun p hp => by
  unfold Cn at hC
  rw [a2] at hp
  have := h p hp
  rw [e _ (by omega)]
  omega
theorem Pr.cg (h : Pr A) (e : ∀ k, 56 ≤ k → k < 146 → (k - 56) % 15 ≠ 0 → A' k = A k) : Pr A' := fun p g hp hg => by
  rw [e _ (by omega) (by omega) (by omega)]
  exact h p g hp hg
theorem Dy.cg (h : Dy A) (e : ∀ k, 56 ≤ k → k < 146 → (k - 56) % 15 ≠ 0 → A' k = A k) : Dy A' := fun p q hp hq => by
  rw [e _ (by omega) (by omega) (by omega), e (65 + 15 * q + p) (by omega) (by omega) (by omega), e (65 + 15 * p + p) (by omega) (by omega) (by omega)]
  exact h p q hp hq
theorem Sh1.wk {B : Nat → Int} (h : Sh1 A B) (a1 : A 1 ≤ A' 1) (a2 : A 2 ≤ A' 2) : Sh1 A' B := by
  obtain ⟨a, b, c, d⟩ := h
  exact ⟨by omega, b, c, fun g h1 h2 => d g (by omega) h2⟩
theorem Shs.cg (h : Shs A) (a1 : A 1 ≤ A' 1) (a2 : A 2 ≤ A' 2) (a3 : A' 3 = A 3) (e : ∀ k, 146 ≤ k → k < 206 → A' k = A k) (hC : Cn A) : Shs A' := fun i hi => by
  unfold Cn at hC
  rw [a3] at hi
  have := (h i hi).wk a1 a2
  obtain ⟨a, b, c, d⟩ := this
  have o : ∀ w, w < 15 → shp A' i w = shp A i w := fun w hw => e _ (by omega) (by omega)
  unfold Sh1
  rw [o 0 (by omega), o 1 (by omega), o 2 (by omega), o 3 (by omega), o 4 (by omega), sm_congr (f := fun g => shp A' i (7 + g)) (g := fun g => shp A i (7 + g)) fun g hg => o _ (by omega)]
  exact ⟨a, fun g hg => by rw [o _ (by omega)]; exact b g hg, c, fun g h1 h2 => by rw [o _ (by omega)]; exact d g h1 h2⟩
theorem Sym.cg (h : Sym A) (a0 : A' 0 = A 0) (e : ∀ n : Nat, n < 6 → A' (11 + 4 * n) = A (11 + 4 * n)) (hC : Cn A) : Sym A' := fun a b ha hb => by
  unfold Cn at hC
  rw [a0] at ha hb
  rw [e _ (by omega), e _ (by omega)]
  exact h a b ha hb
end
/-- from the draft to the world -/
theorem DX.world {M : Mm} {A N : Nat → Int} (h : DX M A) (hI : Inv A) (hP : Pl M 65 A) (hN : Nms M 65 A N) : World M 65 A N := by
  have hC := hI.1
  unfold Cn at hC
  have g : ∀ k b j, vd A k → cl k = b ∧ pl k = j → M (b + 47) j = A k := fun k b j hk hb => by rw [← hb.1, ← hb.2]; exact h.2 k hk
  refine ⟨⟨h.1, ?_, fun n hn => ⟨?_, ?_, ?_, ?_⟩, fun n hn => ⟨?_, ?_, ?_⟩, fun p hp => ?_, fun p x hp hx => ?_, fun p x hp hx => ?_⟩, ?_, fun i hi => ⟨fun w hw => ?_, fun w hw => ?_⟩, hP, hN, hI⟩
  · exact g 4 19 12 (Or.inl rfl) ⟨rfl, rfl⟩
  · exact g (8 + 4 * n) 26 n (by unfold vd; omega) (cl_n (w := 0) rfl (by omega) (by omega))
  · exact g (9 + 4 * n) 27 n (by unfold vd; omega) (cl_n (w := 1) (by omega) (by omega) (by omega))
  · exact g (10 + 4 * n) 28 n (by unfold vd; omega) (cl_n (w := 2) (by omega) (by omega) (by omega))
  · exact g (11 + 4 * n) 29 n (by unfold vd; omega) (cl_n (w := 3) (by omega) (by omega) (by omega))
  · exact g (32 + 3 * n) 30 n (by unfold vd; omega) (cl_g (w := 0) rfl (by omega) (by omega))
  · exact g (33 + 3 * n) 31 n (by unfold vd; omega) (cl_g (w := 1) (by omega) (by omega) (by omega))
  · exact g (34 + 3 * n) 32 n (by unfold vd; omega) (cl_g (w := 2) (by omega) (by omega) (by omega))
  · exact g (56 + 15 * p) 33 p (by unfold vd; omega) (cl_o rfl (by omega))
  · have := g (57 + 15 * p + x) (35 + p) x (by unfold vd; omega) (cl_p rfl hx hp)
    rwa [show 35 + p + 47 = 65 + 1 + 16 + p by omega] at this
  · have := g (65 + 15 * p + x) (42 + p) x (by unfold vd; omega) (cl_d rfl hx hp)
    rwa [show 42 + p + 47 = 65 + 1 + 23 + p by omega] at this
  · exact g 5 18 3 (Or.inr (Or.inl rfl)) ⟨rfl, rfl⟩
  · have := g (146 + 15 * i + w) (57 + 2 * i) w (by unfold vd; omega) (cl_s rfl hw)
    rwa [show 57 + 2 * i + 47 = 65 + 39 + 2 * i by omega] at this
  · have := g (153 + 15 * i + w) (58 + 2 * i) w (by unfold vd; omega) (cl_l rfl hw)
    rwa [show 58 + 2 * i + 47 = 65 + 40 + 2 * i by omega] at this
section
variable {bt : Nat → Int} {n q e : Nat} {M M1 M2 : Mm} {L d d1 d2 d3 : Nat}
theorem DD.nm (h : DD M1 M2) : NmD M1 M2 (dA M2) := by
  obtain ⟨dx, hI, -, -, -, -, hN, -⟩ := h
  have hC := hI.1
  unfold Cn at hC
  obtain ⟨n0, n1, n2, n3⟩ := hN
  have c0 := dx.1 0 (by omega)
  have c1 := dx.1 1 (by omega)
  have c2 := dx.1 2 (by omega)
  have c3 := dx.1 3 (by omega)
  refine ⟨fun k _ => rfl, by omega, ⟨?_, by omega, by omega, fun i hi => ?_⟩, ⟨?_, by omega, by omega, fun i hi => ?_⟩, ⟨?_, by omega, by omega, fun i hi => ?_⟩, ⟨?_, by omega, by omega, fun i hi => ?_⟩⟩
  · exact c0.trans (by omega)
  · exact n0 i (by omega)
  · exact c1.trans (by omega)
  · have := n1 i (by omega)
    unfold dN at this
    rwa [show 96 + (6 + i) = 102 + i by omega] at this
  · exact c2.trans (by omega)
  · have := n2 i (by omega)
    unfold dN at this
    rwa [show 96 + (14 + i) = 110 + i by omega] at this
  · exact c3.trans (by omega)
  · have := n3 i (by omega)
    unfold dN at this
    rwa [show 96 + (20 + i) = 116 + i by omega] at this
/-- how a part of the text is taken: y1 in the class, y2 and the sign behind it in the model -/
def PO (bt : Nat → Int) (n q L d1 d2 : Nat) (o1 o2 : Option Rs) (M1 M2 : Mm) : Prop :=
  (∃ (q' e' : Nat) (M1' Mx M2' : Mm), o1 = some (some (vI 1), SH L, M1') ∧ o2 = some (some (vI 1), SH L, Mx) ∧ callD d2 m_Mo_wantSign [vR 12 0 271, vI 59] (SH L) Mx = some (some (vI 1), SH L, M2') ∧ TK bt n q' e' M1' M2' ∧ q < q' ∧ DD M1' M2' ∧ FcW M1 M1' ∧ FmW M2 M2') ∨
  (∃ M1' M2', o1 = some (some (vI 0), SH L, M1') ∧ o2 = some (some (vI 0), SH L, M2') ∧ FL M1' M2' ∧ FcW M1 M1' ∧ FmW M2 M2') ∨
  (∃ M1' Mx M2', o1 = some (some (vI 0), SH L, M1') ∧ o2 = some (some (vI 1), SH L, Mx) ∧ callD d2 m_Mo_wantSign [vR 12 0 271, vI 59] (SH L) Mx = some (some (vI 0), SH L, M2') ∧ FL M1' M2' ∧ FcW M1 M1' ∧ FmW M2 M2')
/-- an option of the model: left out, or taken -/
def MOp (L d2 : Nat) (k : Int) (to : Nat) (lo hi : Int) (M2 M2' : Mm) : Prop := (callD d2 m_Mo_isThere [vR 12 0 271, vI k] (SH L) M2 = some (some (vI 0), SH L, M2) ∧ M2' = M2) ∨ ∃ Ma, callD d2 m_Mo_isThere [vR 12 0 271, vI k] (SH L) M2 = some (some (vI 1), SH L, Ma) ∧ FrB M2 Ma ∧ ∀ x : Int, x = (to : Int) → callD d2 m_Mo_number [vR 12 0 271, vI x, vI lo, vI hi] (SH L) Ma = some (some (vI 1), SH L, M2')
theorem k_op3 (h1 : 6 ≤ d1) (h2 : 6 ≤ d2) (h : TK bt n q e M1 M2) {w k : Int} (hw : 0 ≤ w ∧ w < 31) (hk : kM w = k) (lo hi x0 : Int) {to : Nat} (ht : to < 4004) (hx : M2 272 to = x0) (hx' : lo ≤ x0 ∧ x0 ≤ hi ∧ 0 ≤ x0) :
    (∃ q' e' v M1' M2', callD d1 m_Tape_takeOption [vR 6 0 12, vI w, vI lo, vI hi, vI x0] (SH L) M1 = some (some (vI v), SH L, M1') ∧ MOp L d2 k to lo hi M2 M2' ∧ (lo ≤ v ∧ v ≤ hi ∧ 0 ≤ v) ∧ TK bt n q' e' M1' M2' ∧ q ≤ q' ∧ FrA M1 M1' ∧ FrT to M2 M2' ∧ M2' 272 to = v) ∨
    (∃ M1' Ma M2', callD d1 m_Tape_takeOption [vR 6 0 12, vI w, vI lo, vI hi, vI x0] (SH L) M1 = some (some (vI (-1)), SH L, M1') ∧ callD d2 m_Mo_isThere [vR 12 0 271, vI k] (SH L) M2 = some (some (vI 1), SH L, Ma) ∧ (∀ x : Int, x = (to : Int) → callD d2 m_Mo_number [vR 12 0 271, vI x, vI lo, vI hi] (SH L) Ma = some (some (vI 0), SH L, M2')) ∧ FL M1' M2' ∧ FrA M1 M1' ∧ FrB M2 Ma ∧ FrB M2 M2') := by
  rcases k_opt (L := L) h1 h2 h hw hk lo hi x0 ht with ⟨c1, c2⟩ | ⟨q', e', v, M1', Ma, M2', c1, c2, c3, hv, t, le, fa, fb, ft, ev⟩ | z
  · exact Or.inl ⟨q, e, x0, M1, M2, c1, Or.inl ⟨c2, rfl⟩, hx', h, Nat.le_refl _, FrA.refl M1, fun _ _ _ _ => rfl, hx⟩
  · exact Or.inl ⟨q', e', v, M1', M2', c1, Or.inr ⟨Ma, c2, fb, c3⟩, hv, t, by have := h.2.2.2.2.1.bd; omega, fa, ft, ev⟩
  · exact Or.inr z
end

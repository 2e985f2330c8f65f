/-! THE CALL voyages (DRAFT, never built): the text from its beginning; the case goes as 869t's -/
section
variable {bt : Nat → Int} {n q e : Nat} {M M' M1 M2 M1' M2' : Mm} {L d d1 d2 k c dp x : Nat} {s : Nat → Nat} {d5 d6 : AV} {c0 c1 c2 c3 : Nat}
def FcP (M M' : Mm) : Prop := ∀ b j, ¬(b = 12 ∧ 3 ≤ j) → b ≠ 16 → b ≠ 17 → ¬(98 ≤ b ∧ b ≤ 103) → M' b j = M b j
def FmP (M M' : Mm) : Prop := ∀ b j, ¬(b = 271 ∧ 10 ≤ j ∧ j ≤ 23 ∧ j ≠ 16) → ¬(b = 272 ∧ 2294 ≤ j ∧ j < 2860) → b ≠ 278 → b ≠ 279 → M' b j = M b j
theorem k_voyages (h1 : 15 ≤ d1) (h2 : 17 ≤ d2) (h9 : n ≤ 300) (hb : ∀ k, k < n → M1 13 k = bt k ∧ -128 ≤ bt k ∧ bt k ≤ 127) (hb' : ∀ k, k < n → M2 277 k = bt k ∧ -128 ≤ bt k ∧ bt k ≤ 127) (hw : ∀ w, w < 31 → M1 14 w = wcode w) (ht : (n : Int) ≤ M2 271 10) (hN : NV M1 M2 c0 c1 c2 c3) : ∃ Ma, callD d1 m_Tape_begin [vR 6 0 12, vI (n : Int)] (SH L) M1 = some (none, SH L, Ma) ∧
    ((∃ (M1' M2' : Mm) (k c : Nat) (s : Nat → Nat), callD d1 m_VoyageText_takes [vR 9 0 16, vR 6 0 12, vR 0 0 19, vR 3 0 98] (SH L) Ma = some (some (vI 1), SH L, up M1' 98 7 1) ∧ callD d2 m_Mo_voyages [vR 12 0 271, vI (n : Int)] (SH L) M2 = Run (callD (d2 - 1)) tb_Mo_voyages 103 [vR 12 0 271, vI (n : Int), vI 1, vI 206] [] (SH L) (up M2' 272 6 (k : Int)) ∧ VI M1' M2' k c 0 s ∧ (M1' 12 5 = 0 ∧ M2' 271 18 = 0 ∧ M2' 271 17 = -1 ∧ M2' 271 10 = 0) ∧ FcP M1 M1' ∧ FmP M2 M2') ∨
     (∃ M1' M2', callD d1 m_VoyageText_takes [vR 9 0 16, vR 6 0 12, vR 0 0 19, vR 3 0 98] (SH L) Ma = some (some (vI 0), SH L, M1') ∧ callD d2 m_Mo_voyages [vR 12 0 271, vI (n : Int)] (SH L) M2 = (bndI (callD (d2 - 1) m_Mo_taken [vR 12 0 271, vI (M2' 271 23)] (SH L) M2') fun r S M => some (some (vI r), S, M)) ∧ FL M1' M2' ∧ M2' 271 10 = 0 ∧ FcP M1 M1' ∧ FmP M2 M2')) := by
  obtain ⟨q, e, hT⟩ := ex_nt bt n 0 (by omega)
  obtain ⟨Ma, a1, tb1, tc, z5, f1⟩ := c_begin (L := L) (d := d1) (by omega) (by omega) hb hw hT
  obtain ⟨Mb, a2, tb2, tm, ⟨y18, y17, y10⟩, f2⟩ := m_begins (L := L) (d := d2 - 1) (by omega) (by omega) (most := 300) (by omega) ht hb' hT
  have tk0 : TK bt n q e Ma Mb := ⟨tb1, tb2, tc, tm, hT.2.2.2.2, z5, y18, y17⟩
  generalize hX : up (up (up (up Ma 98 5 0) 98 6 0) 98 7 0) 16 1 0 = X
  generalize hY : up (up (up Mb 272 2294 0) 271 22 0) 271 23 0 = Y
  have fX : ∀ b j, ¬(b = 98 ∧ 5 ≤ j) → ¬(b = 16 ∧ j = 1) → X b j = Ma b j := fun b j y1 y2 => by rw [← hX, upN (by omega), upN (by omega), upN (by omega), upN (by omega)]
  have fY : ∀ b j, ¬(b = 272 ∧ j = 2294) → ¬(b = 271 ∧ (j = 22 ∨ j = 23)) → Y b j = Mb b j := fun b j y1 y2 => by rw [← hY, upN (by omega), upN (by omega), upN (by omega)]
  have tk : TK bt n q e X Y := tk0.fr (fun b j hb => fX b j (by omega) (by omega)) fun b j hb => fY b j (by omega) (by omega)
  have nv : NV X Y c0 c1 c2 c3 := hN.fr (fun b j _ _ => by rw [fX _ _ (by omega) (by omega), f1 _ _ (by omega)]) (fun j => by rw [fY _ _ (by omega) (by omega), f2 _ _ (by omega) (by omega)]) fun j _ => by rw [fY _ _ (by omega) (by omega), f2 _ _ (by omega) (by omega)]
  have vi : VI X Y 0 0 0 (fun _ => 0) := by
    refine ⟨⟨?_, ?_, ?_⟩, ⟨?_, ?_, ?_⟩, by omega, fun i hi => by omega, fun i j y1 y2 => by omega, fun j hj => by omega, fun y => by omega⟩
    · rw [← hX, upN (by omega), upN (by omega), upN (by omega), upE rfl rfl]; rfl
    · rw [← hX, upN (by omega), upN (by omega), upE rfl rfl]; rfl
    · rw [← hX, upE rfl rfl]; rfl
    · rw [← hY, upN (by omega), upN (by omega), upE rfl rfl]; rfl
    · rw [← hY, upE rfl rfl]; rfl
    · rw [← hY, upN (by omega), upE rfl rfl]; rfl
  have pc : callD (d1 - 1) m_Plan_clear [vR 3 0 98] (SH L) Ma = some (none, SH L, up (up (up Ma 98 5 0) 98 6 0) 98 7 0) := by rw [c_Plan_clear (by omega), b_Plan_clear_0]
  have s1 : ∀ o, Run (callD (d1 - 1)) tb_VoyageText_takes 12 [vR 9 0 16, vR 6 0 12, vR 0 0 19, vR 3 0 98, vI ((0 : Nat) : Int), vU, vU] [] (SH L) X = o → callD d1 m_VoyageText_takes [vR 9 0 16, vR 6 0 12, vR 0 0 19, vR 3 0 98] (SH L) Ma = o := fun o ho => by
    rw [c_VoyageText_takes (by omega), b_VoyageText_takes_0, pc]
    rw [← hX] at ho
    exact ho
  have s2 : ∀ o, Run (callD (d2 - 1)) tb_Mo_voyages 38 [vR 12 0 271, vI (n : Int), vI 1, vU] [] (SH L) Y = o → callD d2 m_Mo_voyages [vR 12 0 271, vI (n : Int)] (SH L) M2 = o := fun o ho => by
    rw [c_Mo_voyages (by omega), b_Mo_voyages_0, a2]
    show bR (refOf (SH L) 271 0) (fun b3 => Run (callD (d2 - 1)) tb_Mo_voyages 38 [vR 12 0 271, vI (n : Int), vI 1, vU] [] (SH L) (up (up (up Mb b3 2294 0) 271 22 0) 271 23 0)) = o
    rw [(rM L).1]
    rw [← hY] at ho
    exact ho
  have d10 : Y 271 10 = 0 := by rw [fY _ _ (by omega) (by omega)]; exact y10
  have fc : FcP M1 X := fun b j q1 q2 q3 q4 => by rw [fX _ _ (by omega) (by omega), f1 _ _ q1]
  have fm : FmP M2 Y := fun b j q1 q2 q3 q4 => by rw [fY _ _ (by omega) (by omega), f2 _ _ (by omega) q3]
  refine ⟨Ma, a1, ?_⟩
  rcases v_loop (L := L) (d1 := d1 - 1) (d2 := d2) (bt := bt) (n := n) (y := (n : Int)) (d3 := vU) (by omega) (by omega) h9 n q e X Y 0 0 0 0 (fun _ => 0) vU vU (by omega) (by omega) tk nv vi with ⟨M1', M2', k, c, s, r1, r2, v, ⟨u1, u2, u3⟩, g1, g2⟩ | ⟨M1', M2', r1, r2, v, g1, g2⟩
  · left
    exact ⟨M1', M2', k, c, s, s1 _ r1, s2 _ r2, v, ⟨u1, u2, u3, by rw [g2 _ _ (by omega) (by omega) (by omega)]; exact d10⟩, fun b j q1 q2 q3 q4 => by rw [g1 b j (by omega) q2 q3 q4]; exact fc b j q1 q2 q3 q4, fun b j q1 q2 q3 q4 => by rw [g2 b j (by omega) q2 q4]; exact fm b j q1 q2 q3 q4⟩
  · right
    exact ⟨M1', M2', s1 _ r1, s2 _ r2, v, by rw [g2 _ _ (by omega) (by omega) (by omega)]; exact d10, fun b j q1 q2 q3 q4 => by rw [g1 b j (by omega) q2 q3 q4]; exact fc b j q1 q2 q3 q4, fun b j q1 q2 q3 q4 => by rw [g2 b j (by omega) q2 q4]; exact fm b j q1 q2 q3 q4⟩
/-- the plan behind it all -/
theorem VI.pl {A : Nat → Int} (h : VI M1 M2 k c 0 s) (hA : ∀ i, i < 4 → A i = M2 272 i) (h6 : A 6 = (k : Int)) (hr : ∀ i, 206 ≤ i → i < 566 → A i = M2 272 (2288 + i)) : (k : Int) ≤ 60 ∧ ∀ j : Nat, (j : Int) < A 6 → StR M1 98 A j := by
  obtain ⟨-, ⟨h94, -, -⟩, ⟨b1, b2, b3⟩, -, -, ent, -⟩ := h
  refine ⟨by omega, fun j hj => ?_⟩
  refine (ent j (by omega) fun i hi => by omega).cg (k := k) (o := k) (by omega) (by omega) (fun y => by omega) (fun _ _ _ => rfl) (fun i hi => by rw [hA i hi, vA_lo hi]) ?_ fun i y1 y2 y3 => ?_
  · rw [vA_hi (i := 6) (j := 2294) (by omega) (by omega), h94, h6]; exact Int.le_refl _
  · rw [vA_hi (i := i) (by omega) rfl, hr i y1 (by omega)]
end

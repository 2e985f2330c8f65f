/-! THE PLAN'S TEXT, a part at a time: an END, and what fits nowhere -/
def FcL (M M' : Mm) : Prop := ∀ b j, ¬(b = 12 ∧ 4 ≤ j) → b ≠ 16 → b ≠ 17 → ¬(98 ≤ b ∧ b ≤ 103) → M' b j = M b j
def FmL (M M' : Mm) : Prop := ∀ b j, ¬(b = 271 ∧ (12 ≤ j ∧ j ≤ 15 ∨ j = 17 ∨ j = 18 ∨ j = 22 ∨ j = 23)) → ¬(b = 272 ∧ 2294 ≤ j ∧ j < 2860) → b ≠ 279 → M' b j = M b j
def VS (bt : Nat → Int) (n q L d1 x : Nat) (o1 o2 : Option Rs) (M1 M2 : Mm) : Prop :=
  (∃ (q' e' k c dp : Nat) (s : Nat → Nat) (d5 d6 : AV) (M1' M2' : Mm), o1 = Run (callD d1) tb_VoyageText_takes 12 [vR 9 0 16, vR 6 0 12, vR 0 0 19, vR 3 0 98, vI ((x + 1 : Nat) : Int), d5, d6] [] (SH L) M1' ∧ o2 = some (some (vI 1), SH L, M2') ∧ TK bt n q' e' M1' M2' ∧ q ≤ q' ∧ VI M1' M2' k c dp s ∧ FcL M1 M1' ∧ FmL M2 M2') ∨
  (∃ M1' M2', o1 = some (some (vI 0), SH L, M1') ∧ o2 = some (some (vI 0), SH L, M2') ∧ FL M1' M2' ∧ FcL M1 M1' ∧ FmL M2 M2')
theorem kM_rng1 : ∀ c : Fin 31, 19 ≤ c.val ∧ c.val ≤ 25 ∨ c.val = 28 ∨ c.val = 29 ∨ c.val = 30 ∨ (kM (c.val : Int) < 19 ∨ 28 < kM (c.val : Int)) := by decide +kernel
theorem kM_rng {w : Int} (hw : -1 ≤ w ∧ w < 31) (h : ¬(19 ≤ w ∧ w ≤ 25 ∨ w = 28 ∨ w = 29 ∨ w = 30)) : kM w < 19 ∨ 28 < kM w := by
  by_cases z : w = -1
  · subst z
    exact Or.inl (by decide)
  · obtain ⟨u, rfl⟩ := Int.eq_ofNat_of_zero_le (show 0 ≤ w by omega)
    have := kM_rng1 ⟨u, by omega⟩
    dsimp only at this
    omega
section
variable {bt : Nat → Int} {n q e : Nat} {M M' M1 M2 M1' M2' : Mm} {L d d1 d2 k c dp x : Nat} {s : Nat → Nat} {d5 d6 : AV}
theorem FrA.l (h : FrA M M') : FcL M M' := fun b j y1 _ _ _ => h b j y1
theorem FrB.l (h : FrB M M') : FmL M M' := fun b j y1 _ _ => h b j (by omega)
theorem FcL.trans {Ma : Mm} (h1 : FcL M Ma) (h2 : FcL Ma M') : FcL M M' := fun b j y1 y2 y3 y4 => (h2 b j y1 y2 y3 y4).trans (h1 b j y1 y2 y3 y4)
theorem FmL.trans {Ma : Mm} (h1 : FmL M Ma) (h2 : FmL Ma M') : FmL M M' := fun b j y1 y2 y3 => (h2 b j y1 y2 y3).trans (h1 b j y1 y2 y3)
theorem TK.w7 (h : TK bt n q e M1 M2) (hw : cwx bt n q e ≠ -1) : M1 12 7 = 1 := by
  have wd := h.wd
  rcases h.2.2.1.2.2 with c | c | c | c
  · omega
  · exact c.2.2.1
  · omega
  · omega
end

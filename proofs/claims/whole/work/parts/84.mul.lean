/-! ARRAYS OF ARRAYS: the shape behind them -/
def mnaL (S : Sp) (t n : Nat) : Sp := (t, n, (List.range n).map fun j => some (S.length + 1 + j)) :: List.replicate n ((elT t).1, (elT t).2, [])
theorem elT_in {t : Nat} (ht : 25 ≤ t ∧ t ≤ 28) : ((elT t).1 = 20 ∨ (elT t).1 = 21) ∧ (elT t).2 ≤ 60 ∧ ∀ k, rT t k = elT t := by
  rcases (show t = 25 ∨ t = 26 ∨ t = 27 ∨ t = 28 by omega) with rfl | rfl | rfl | rfl
  · exact ⟨by decide, by decide, fun k => rfl⟩
  · exact ⟨by decide, by decide, fun k => rfl⟩
  · exact ⟨by decide, by decide, fun k => rfl⟩
  · exact ⟨by decide, by decide, fun k => rfl⟩
theorem mna_in {S : Sp} {t n j : Nat} (hj : j < n) : (S ++ mnaL S t n)[S.length + 1 + j]? = some ((elT t).1, (elT t).2, []) := by
  rw [List.getElem?_append_right (by omega), show S.length + 1 + j - S.length = j + 1 by omega]
  unfold mnaL
  rw [List.getElem?_cons_succ, List.getElem?_replicate, if_pos hj]
theorem mna_okS {L : Nat} {S : Sp} {t n : Nat} (o1 : okS L S) (ht : 25 ≤ t ∧ t ≤ 28) (hn : n ≤ 100) : okS L (S ++ mnaL S t n) := by
  have l2 : 2 < S.length := (List.getElem?_eq_some_iff.mp o1.2.2.1).1
  obtain ⟨e1, e2, e3⟩ := elT_in ht
  refine ⟨by rw [List.getElem?_append_left (by omega)]; exact o1.1, by rw [List.getElem?_append_left (by omega)]; exact o1.2.1, by rw [List.getElem?_append_left (by omega)]; exact o1.2.2.1, o1.2.2.2.1, fun a t' m rf ha hs => ?_⟩
  rcases Nat.lt_trichotomy a S.length with h | h | h
  · rw [List.getElem?_append_left h] at hs
    obtain ⟨c1, c2, c3⟩ := o1.2.2.2.2 a t' m rf ha hs
    refine ⟨c1, c2, fun k b hb => ?_⟩
    obtain ⟨mm, r2, g1, g2⟩ := c3 k b hb
    exact ⟨mm, r2, by rw [List.getElem?_append_left (List.getElem?_eq_some_iff.mp g1).1]; exact g1, g2⟩
  · subst h
    rw [List.getElem?_append_right (Nat.le_refl _), Nat.sub_self] at hs
    cases hs
    refine ⟨Or.inr (Or.inr ⟨by omega, by omega, by simp⟩), by omega, fun k b hb => ?_⟩
    rw [List.getElem?_map] at hb
    obtain ⟨j, hj, e⟩ := Option.map_eq_some_iff.mp hb
    cases e
    have hjn : j < n := List.mem_range.mp (List.mem_of_getElem? hj)
    rw [e3 k]
    exact ⟨(elT t).2, [], mna_in hjn, rfl⟩
  · obtain ⟨j, rfl⟩ : ∃ j, a = S.length + 1 + j := ⟨a - S.length - 1, by omega⟩
    by_cases hj : j < n
    · rw [mna_in hj] at hs
      cases hs
      refine ⟨Or.inr (Or.inl ⟨by omega, by omega, rfl⟩), by omega, fun k b hb => by simp at hb⟩
    · rw [List.getElem?_eq_none (by simp only [List.length_append, mnaL, List.length_cons, List.length_replicate]; omega)] at hs
      cases hs
theorem okM.app {xs : Nat → Int} {S : Sp} {M : Mm} (h : okM xs S M) (l : Sp) : okM xs (S ++ l) M := by
  refine ⟨fun j t' m' rf' hj i => ?_, fun j hj i => ?_, h.2.2⟩
  · rcases Nat.lt_or_ge j S.length with e | e
    · rw [List.getElem?_append_left e] at hj
      exact h.1 _ _ _ _ hj i
    · rw [h.2.1 j e i]
      exact okX_0 _
  · exact h.2.1 j (by simp only [List.length_append] at hj; omega) i
theorem mna_len (S : Sp) (t n : Nat) : (S ++ mnaL S t n).length = S.length + 1 + n := by
  simp only [List.length_append, mnaL, List.length_cons, List.length_replicate]; omega
theorem HP.app {dC : Nat → ClassId} {dI : Nat → Nat → Nat} {dA : Nat → ClassId} {cv : Nat → Nat} {base : Nat} {S : Sp} {M : Mm} {H H1 : Heap} {l : Sp} (hA : HP dC dI dA cv base S M H) (h3 : 3 ≤ S.length) (z : H1.size = H.size + l.length) (oq : ∀ q : Nat, q < H.size → H1[q]? = H[q]?) (he : ∀ (j : Nat) (dd : Ds), l[j]? = some dd → va_at (dC, dI) clT (H.size + j, enE cv dA dd (M (S.length + j))) H1) : HP dC dI dA cv base (S ++ l) M H1 := by
  refine ⟨fun k q hk => ?_, by rw [z, hA.2, List.length_append]; omega⟩
  rw [wsO_at] at hk
  split at hk
  · next hlt =>
    cases hk
    rw [List.length_append] at hlt
    rcases Nat.lt_or_ge (k + 3) S.length with e | e
    · have h0 : (wsO cv dA base S M)[k]? = some (base + k, enE cv dA (S.getD (k + 3) (0, 0, [])) (M (k + 3))) := by rw [wsO_at, if_pos (by omega)]
      rw [List.getD_eq_getElem?_getD, List.getElem?_append_left e, ← List.getD_eq_getElem?_getD]
      exact (hA.1.kept fun k q hk => oq q.1 (hA.1 k q hk).lt) k _ h0
    · obtain ⟨j, hj⟩ : ∃ j, k + 3 = S.length + j := ⟨k + 3 - S.length, by omega⟩
      have hjl : j < l.length := by omega
      have := he j l[j] (List.getElem?_eq_getElem hjl)
      rw [hj, List.getD_eq_getElem?_getD, List.getElem?_append_right (by omega), show S.length + j - S.length = j by omega, List.getElem?_eq_getElem hjl]
      rw [hA.2, show base + (S.length - 3) + j = base + k by omega] at this
      exact this
  · cases hk
theorem mna_slO (S : Sp) {t : Nat} (n : Nat) (ht : 25 ≤ t ∧ t ≤ 28) : slO (S ++ mnaL S t n) = slO S + n + n * (elT t).2 := by
  obtain ⟨e1, e2, e3⟩ := elT_in ht
  have h13 : ¬ (elT t).1 < 13 := by omega
  have h14 : ¬ t < 13 := by omega
  simp only [slO, mnaL, List.map_append, List.sum_append_nat, List.map_cons, List.sum_cons, List.map_replicate, List.sum_replicate_nat, if_neg h13, if_neg h14]
  omega

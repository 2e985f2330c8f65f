/-! ARRAYS OF ARRAYS: the instruction -/
theorem arrV_congr {cA : ClassId} {N : Nat} {f g : Nat → Value} (h : ∀ j, j < N → f j = g j) : arrV cA N f = arrV cA N g := by
  unfold arrV
  have : (fun j : Fin N => f j.val) = fun j : Fin N => g j.val := funext fun j => h j.val j.isLt
  rw [this]
set_option maxHeartbeats 4000000 in
theorem mulOK (hM : MnaStep) (dC : Nat → ClassId) (dI : Nat → Nat → Nat) (dA : Nat → ClassId) (cv adV : Nat → Nat) (base L : Nat) (xs : Nat → Int) : MulOK dC dI dA cv adV base L xs := by
  intro p l e R s m args below meth c Q cc own nL d n0 m0 Ls S' X hY hcc hss pc ls r S M t idx k n kk hd ht hw hk hkk hn hLE hk1 H locs lsC o1 o2 o3 o4 o5 o6 hA hS hR
  subst hkk
  subst hk
  obtain ⟨⟨q1, -⟩, o4'⟩ := OKs.cons.mp o4
  obtain ⟨⟨q2, -⟩, q4⟩ := OKs.cons.mp o4'
  have q1 : i32 ((elT t).2 : Int) := q1
  have q2 : i32 n := q2
  have l2 : 2 < S.length := (List.getElem?_eq_some_iff.mp o1.2.2.1).1
  obtain ⟨e1, e2, e3⟩ := elT_in ht
  have hk1 : WW p l e R s m args below meth c Q nL n0 m0 L base Ls dC dI dA cv xs (pc + 4) ls (vR t n S.length :: r) (S ++ mnaL S t n.toNat) M := hk1
  have hLE : LE (S ++ mnaL S t n.toNat) S' := hLE
  have g1 := hLE.1
  have g2 := hLE.2
  rw [mna_len] at g1
  rw [mna_slO S _ ht] at g2
  intro T hT Xs
  have main : ∀ ty : FieldType, (ty = .int ∨ ty = .long) → mlN t = "[" ++ (FieldType.array ty).toString → AOa ty s → Jvm.Cond.arrayClass ty ∈ lw_tbl → s.vm.findClass ("[" ++ (FieldType.array ty).toString) = some (aid dA t) → s.vm.findClass (FieldType.array ty).toString = some (dA (elT t).1) →
      (∀ (f : Nat → Int), (∀ j, f j = 0) → vp_cell (aid dA (elT t).1) ((elT t).2, payE cv ((elT t).1, (elT t).2, []) f) = arrV (dA (elT t).1) (elT t).2 (fun _ => defaultValue ty)) → ∃ t', Steps p.tables e below (T.setTop (F0 m pc lsC (((vI ((elT t).2 : Int)) :: vI n :: r).map (cV cv)))) t' ∧ Q t' := by
    intro ty hty hml hao hac hfa hfc hpay
    rw [hml] at hw
    obtain ⟨cA, comp, T', a1, a2, a3, a4, a5, a6, a7, a8⟩ := hM p l e R s m args below meth c T locs (S.length - n0) (slO S - m0) own idx ty (F0 m pc lsC (((vI ((elT t).2 : Int)) :: vI n :: r).map (cV cv))) (Int32.ofInt n) (Int32.ofInt ((elT t).2 : Int)) (r.map (cV cv)) Xs X.1.1 X.1.2.2.2.1 (X.1.2.2.2.2 _ hw rfl) hao (X.1.2.2.2.2 _ hac rfl) rfl (by rw [X.1.2.1]; exact hd) rfl (fun q => by rw [o_lt0 q2] at q; omega) (fun q => by rw [o_lt0 q1] at q; omega) (by rw [o_cl q2]; omega) (by rw [o_cl q1]; omega) hty (by rw [o_cl q2]; omega) (by rw [o_cl q2, o_cl q1, Int.toNat_natCast]; omega)
    rw [o_cl q2] at a3 a5 a6 a7
    rw [o_cl q1, Int.toNat_natCast] at a6 a7
    rw [hT] at a3 a4 a5 a6 a8
    cases a1.symm.trans hfa
    cases a2.symm.trans hfc
    have hE := Ext.app S (mnaL S t n.toNat)
    have hHs : H.size = base + (S.length - 3) := hA.2
    have hA1 : HP dC dI dA cv base (S ++ mnaL S t n.toNat) M T'.heap := by
      refine hA.app (by omega) (by rw [a3]; simp only [mnaL, List.length_cons, List.length_replicate]; omega) a4 (fun j dd hj => ?_)
      cases j with
      | zero =>
        cases hj
        unfold enE
        rw [if_neg (show ¬ t < 13 by omega)]
        show T'.heap[H.size + 0]? = some (vp_cell (aid dA t) (n.toNat, payE cv (t, n.toNat, (List.range n.toNat).map fun j => some (S.length + 1 + j)) (M (S.length + 0))))
        unfold payE
        rw [if_neg (show ¬ t = 21 by omega), if_neg (show ¬ t ≤ 22 by omega), Nat.add_zero, a5]
        refine congrArg some ?_
        rw [vp_cell_q]
        refine arrV_congr fun j hj => ?_
        rw [List.getD_eq_getElem?_getD, List.getElem?_map, List.getElem?_range hj]
        show Value.ref (H.size + 1 + j) = Value.ref (cv (S.length + 1 + j))
        rw [X.2.2.2.1 _ (by omega), hHs, show base + (S.length - 3) + 1 + j = base + (S.length + 1 + j - 3) by omega]
      | succ j =>
        have hjn : j < n.toNat := by
          have := (List.getElem?_eq_some_iff.mp hj).1
          simp only [mnaL, List.length_cons, List.length_replicate] at this
          omega
        have hj : (List.replicate n.toNat (((elT t).1, (elT t).2, []) : Ds))[j]? = some dd := hj
        rw [List.getElem?_replicate, if_pos hjn] at hj
        cases hj
        unfold enE
        rw [if_neg (show ¬ (elT t).1 < 13 by omega)]
        show T'.heap[H.size + (j + 1)]? = some (vp_cell (aid dA (elT t).1) ((elT t).2, payE cv ((elT t).1, (elT t).2, []) (M (S.length + (j + 1)))))
        rw [hpay _ (fun i => o2.2.1 _ (by omega) i), ← a6 j hjn, show H.size + (j + 1) = H.size + 1 + j by omega]
    have hnew : (S ++ mnaL S t n.toNat)[S.length]? = some (t, n.toNat, (List.range n.toNat).map fun j => some (S.length + 1 + j)) := by rw [List.getElem?_append_right (Nat.le_refl _), Nat.sub_self]; rfl
    have hrf : cV cv (vR t n S.length) = .ref H.size := by
      show Value.ref (cv S.length) = _
      rw [X.2.2.2.1 _ (by omega), hHs]
    have hfn := hk1 T'.heap locs lsC (mna_okS o1 ht (by omega)) (o2.app _) (o3.ext hE) (OKs.cons.mpr ⟨⟨⟨n.toNat, _, hnew, by show n = _; omega⟩, nofun⟩, q4.ext hE⟩) (by rw [mna_len]; omega) (by rw [mna_slO S _ ht]; omega) hA1 ⟨by have := hS.1; omega, fun q h1 h2 => (a4 q (Nat.lt_of_lt_of_le h1 hS.1)).trans (hS.2.1 q h1 h2), hS.2.2⟩ hR
    rw [mna_len, mna_slO S _ ht, show S.length + 1 + n.toNat - n0 = S.length - n0 + 1 + n.toNat by omega, show slO S + n.toNat + n.toNat * (elT t).2 - m0 = slO S - m0 + n.toNat + n.toNat * (elT t).2 by omega, List.map_cons, hrf] at hfn
    obtain ⟨t2, b1, b2⟩ := hfn T' rfl a7
    exact ⟨t2, a8 t2 b1, b2⟩
  have k5 := (X.2.1.2 5 _ rfl).2
  have k6 := (X.2.1.2 6 _ rfl).2
  have k0 := (X.2.1.2 0 _ rfl).2
  have k1 := (X.2.1.2 1 _ rfl).2
  have p21 : ∀ (c : ClassId) (w : Nat) (f : Nat → Int), (∀ j, f j = 0) → arrV c w (fun j => .long (Int64.ofInt (f j))) = arrV c w (fun _ => defaultValue .long) := fun c w f hf => arrV_congr fun j _ => by rw [hf j]; rfl
  have p20 : ∀ (c : ClassId) (w : Nat) (f : Nat → Int), (∀ j, f j = 0) → arrV c w (fun j => .int (Int32.ofInt (f j))) = arrV c w (fun _ => defaultValue .int) := fun c w f hf => arrV_congr fun j _ => by rw [hf j]; rfl
  clear hk1 hA hS hR hM
  rcases (show t = 25 ∨ t = 26 ∨ t = 27 ∨ t = 28 by omega) with rfl | rfl | rfl | rfl
  · refine main .long (Or.inr rfl) (by decide) hY.2.2.2.1 k_AC.2.1 ?_ ?_ (fun f hf => p21 _ _ f hf)
    · exact k5
    · exact k1
  · refine main .long (Or.inr rfl) (by decide) hY.2.2.2.1 k_AC.2.1 ?_ ?_ (fun f hf => p21 _ _ f hf)
    · exact k5
    · exact k1
  · refine main .int (Or.inl rfl) (by decide) hY.2.2.2.2 k_AC.1 ?_ ?_ (fun f hf => p20 _ _ f hf)
    · exact k6
    · exact k0
  · refine main .int (Or.inl rfl) (by decide) hY.2.2.2.2 k_AC.1 ?_ ?_ (fun f hf => p20 _ _ f hf)
    · exact k6
    · exact k0

/-! THE MACHINE IS SOUND: references, fields, new cells -/
theorem refOf_some {S : Sp} {a k b : Nat} (h : refOf S a k = some b) : ∃ (t m : Nat) (rf : List (Option Nat)), S[a]? = some (t, m, rf) ∧ rf[k]? = some (some b) := by
  unfold refOf at h
  split at h
  · cases h
  · next d hd =>
    obtain ⟨t, m, rf⟩ := d
    split at h
    · next b' hb => cases h; exact ⟨t, m, rf, hd, hb⟩
    · cases h
theorem rT_arr {t k : Nat} (ht : ¬ t < 13) : rT t k = elT t := if_neg ht
theorem rT_obj {t k : Nat} (ht : t < 13) : rT t k = (fR.getD t []).getD k (0, 0) := if_pos ht
theorem okS.ref {L : Nat} {S : Sp} (h : okS L S) {a k b v t m : Nat} {rf : List (Option Nat)} (h3 : 3 ≤ a) (hm : S[a]? = some (t, m, rf)) (hv : okR S ((rT t k).1, ((rT t k).2 : Int), b)) : okS L (setRef S a k b) := by
  have hE := Ext.ref S a k b
  have ext : ∀ q, okR S q → okR (setRef S a k b) q := fun q hq => okV_ext (v := .inr (.inr (.inl q))) hE.1 hq
  refine ⟨?_, ?_, ?_, h.2.2.2.1, fun j t' m' rf' hj hs => ?_⟩
  · rw [setRef_at S a k b hm, if_neg (by omega)]; exact h.1
  · rw [setRef_at S a k b hm, if_neg (by omega)]; exact h.2.1
  · rw [setRef_at S a k b hm, if_neg (by omega)]; exact h.2.2.1
  · rw [setRef_at S a k b hm] at hs
    split at hs
    · next e =>
      cases hs
      obtain ⟨g1, g2, g3⟩ := h.2.2.2.2 a _ _ _ h3 hm
      refine ⟨?_, g2, fun i c hi => ?_⟩
      · rcases g1 with ⟨x1, x2, x3⟩ | ⟨x1, x2, x3⟩ | ⟨x1, x2, x3⟩
        · exact Or.inl ⟨x1, x2, by rw [List.length_set]; exact x3⟩
        · subst x3; exact Or.inr (Or.inl ⟨x1, x2, by simp⟩)
        · exact Or.inr (Or.inr ⟨x1, x2, by rw [List.length_set]; exact x3⟩)
      · by_cases e2 : i = k
        · subst e2
          by_cases hl : i < rf.length
          · rw [List.getElem?_set_self hl] at hi
            cases hi
            exact ext _ hv
          · rw [List.getElem?_eq_none (by rw [List.length_set]; omega)] at hi
            cases hi
        · rw [List.getElem?_set_ne (Ne.symm e2)] at hi
          exact ext _ (g3 i c hi)
    · obtain ⟨g1, g2, g3⟩ := h.2.2.2.2 j _ _ _ hj hs
      exact ⟨g1, g2, fun i c hi => ext _ (g3 i c hi)⟩
theorem okM.ref {xs : Nat → Int} {S : Sp} {M : Mm} (h : okM xs S M) {a k b t m : Nat} {rf : List (Option Nat)} (hm : S[a]? = some (t, m, rf)) : okM xs (setRef S a k b) M := by
  refine ⟨fun j t' m' rf' hj i => ?_, fun j hj i => ?_, h.2.2⟩
  · rw [setRef_at S a k b hm] at hj
    split at hj
    · next e => cases hj; rw [e]; exact h.1 _ _ _ _ hm i
    · exact h.1 _ _ _ _ hj i
  · have : (setRef S a k b).length = S.length := by unfold setRef; rw [hm]; exact List.length_set
    exact h.2.1 j (by omega) i
theorem setRef_len (S : Sp) (a k b : Nat) : (setRef S a k b).length = S.length := by
  unfold setRef
  split
  · rfl
  · exact List.length_set
theorem setRef_slO (S : Sp) (a k b : Nat) : slO (setRef S a k b) = slO S := by
  unfold setRef
  split
  · rfl
  · next d h => exact slO_set (t := d.1) (m := d.2.1) (rf := d.2.2) h
theorem OKs.ext {S S' : Sp} {st : List AV} (h : Ext S S') (hs : OKs S st) : OKs S' st := fun v hv => ⟨okV_ext h.1 (hs v hv).1, (hs v hv).2⟩
theorem OKa.ext {S S' : Sp} {Ls : List Nat} {nL : Nat} {als : List AV} (h : Ext S S') (hs : OKa S Ls nL als) : OKa S' Ls nL als := ⟨fun v hv => okV_ext h.1 (hs.1 v hv), hs.2⟩
theorem okX_0 (c : Nat) : okX c 0 := by
  unfold okX
  split
  · exact i32_0
  · exact i64_of_32 i32_0
  · exact Or.inl rfl
  · omega
  · trivial
theorem okS.push {L : Nat} {S : Sp} (h : okS L S) {t m : Nat} {rf : List (Option Nat)} (hk : (t < 13 ∧ m = 0 ∧ rf.length = nF t) ∨ (20 ≤ t ∧ t ≤ 22 ∧ rf = []) ∨ (23 ≤ t ∧ t ≤ 28 ∧ rf.length = m)) (hm : m ≤ 10000) (hn : ∀ k b : Nat, rf[k]? ≠ some (some b)) : okS L (S ++ [(t, m, rf)]) := by
  have ext : ∀ q, okR S q → okR (S ++ [(t, m, rf)]) q := fun q hq => okV_ext (v := .inr (.inr (.inl q))) (Ext.app S _).1 hq
  have l2 : 2 < S.length := (List.getElem?_eq_some_iff.mp h.2.2.1).1
  refine ⟨?_, ?_, ?_, h.2.2.2.1, fun j t' m' rf' hj hs => ?_⟩
  · rw [List.getElem?_append_left (by omega)]; exact h.1
  · rw [List.getElem?_append_left (by omega)]; exact h.2.1
  · rw [List.getElem?_append_left (by omega)]; exact h.2.2.1
  · rcases Nat.lt_trichotomy j S.length with e | e | e
    · rw [List.getElem?_append_left e] at hs
      obtain ⟨g1, g2, g3⟩ := h.2.2.2.2 j _ _ _ hj hs
      exact ⟨g1, g2, fun i c hi => ext _ (g3 i c hi)⟩
    · subst e
      rw [List.getElem?_append_right (Nat.le_refl _), Nat.sub_self] at hs
      cases hs
      exact ⟨hk, hm, fun i c hi => absurd hi (hn i c)⟩
    · rw [List.getElem?_eq_none (by simp only [List.length_append, List.length_singleton]; omega)] at hs
      cases hs
theorem okM.push {xs : Nat → Int} {S : Sp} {M : Mm} (h : okM xs S M) (dd : Ds) : okM xs (S ++ [dd]) M := by
  refine ⟨fun j t' m' rf' hj i => ?_, fun j hj i => ?_, h.2.2⟩
  · rcases Nat.lt_or_ge j S.length with e | e
    · rw [List.getElem?_append_left e] at hj
      exact h.1 _ _ _ _ hj i
    · rw [h.2.1 j e i]
      exact okX_0 _
  · exact h.2.1 j (by simp only [List.length_append, List.length_singleton] at hj; omega) i
theorem slO_push (S : Sp) (t m : Nat) (rf : List (Option Nat)) : slO (S ++ [(t, m, rf)]) = slO S + (if t < 13 then nF t else m) := by
  simp [slO]
theorem HP.push {dC : Nat → ClassId} {dI : Nat → Nat → Nat} {dA : Nat → ClassId} {cv : Nat → Nat} {base : Nat} {S : Sp} {M : Mm} {H H1 : Heap} {dd : Ds} (hA : HP dC dI dA cv base S M H) (h3 : 3 ≤ S.length) (z : H1.size = H.size + 1) (oq : ∀ q : Nat, q < H.size → H1[q]? = H[q]?) (he : va_at (dC, dI) clT (H.size, enE cv dA dd (M S.length)) H1) : HP dC dI dA cv base (S ++ [dd]) M H1 := by
  refine ⟨?_, by rw [z, hA.2, List.length_append, List.length_singleton]; omega⟩
  rw [wsO_push h3]
  refine va_P.app (hA.1.kept fun k q hk => oq q.1 (hA.1 k q hk).lt) fun k q hk => ?_
  have hz : k < 1 := (List.getElem?_eq_some_iff.mp hk).1
  rw [show k = 0 by omega] at hk
  cases hk
  rw [← hA.2]
  exact he
theorem rf_rep {n k b : Nat} : (List.replicate n (none : Option Nat))[k]? ≠ some (some b) := by
  intro h
  rw [List.getElem?_replicate] at h
  split at h <;> cases h
section SND
variable {p : Program} {l : Launch} {e : Env} {R : Room} {s : State} {m : MethodId} {args : Array Value} {below : List Frame} {meth : Method} {c : Code} {Q : State → Prop}
variable {cc : ByteArray} {own : String} {nL d n0 m0 L base : Nat} {Ls : List Nat} {dC : Nat → ClassId} {dI : Nat → Nat → Nat} {dA : Nat → ClassId} {cv adV : Nat → Nat} {xs : Nat → Int}
variable {pc : Nat} {ls r : List AV} {S : Sp} {M : Mm}
theorem s_aaload (X : CX p R s m args c cc own nL d L base dC dI dA cv adV xs) {i n : Int} {t a b : Nat} (hd : decode cc pc = .ok (.aaload, 1)) (ht : 23 ≤ t ∧ t ≤ 28) (hi : 0 ≤ i ∧ i < n) (hb : refOf S a i.toNat = some b) (hk : WW p l e R s m args below meth c Q nL n0 m0 L base Ls dC dI dA cv xs (pc + 1) ls (vR (elT t).1 (elT t).2 b :: r) S M) : WW p l e R s m args below meth c Q nL n0 m0 L base Ls dC dI dA cv xs pc ls (vI i :: vR t n a :: r) S M := by
  intro H locs lsC o1 o2 o3 o4 o5 o6 hA hS hR
  obtain ⟨⟨q1, -⟩, q2⟩ := OKs.cons.mp o4
  obtain ⟨⟨⟨mm, rf, hm, hn⟩, -⟩, q4⟩ := OKs.cons.mp q2
  have hn : n = (mm : Int) := hn
  have hm : S[a]? = some (t, mm, rf) := hm
  have h3 := o1.ge3 hm (by omega) (by omega)
  obtain ⟨t', m', rf', hs, hr⟩ := refOf_some hb
  rw [hm] at hs
  cases hs
  have hok := (o1.2.2.2.2 a _ _ _ h3 hm).2.2 _ _ hr
  rw [rT_arr (by omega)] at hok
  have hA0 := hA.1 (a - 3) _ (wsO_get h3 hm)
  rw [← X.2.2.2.1 a h3] at hA0
  unfold enE at hA0
  rw [if_neg (show ¬ (t, mm, rf).1 < 13 from Nat.not_lt.mpr (by show 13 ≤ t; omega))] at hA0
  have hlt : i.toNat < mm := by omega
  have hv : va_rf ((rf.getD i.toNat none).map cv) = .ref (cv b) := by rw [List.getD_eq_getElem?_getD, hr]; rfl
  have hin : ∀ z : Nat → Value, ∀ cA : ClassId, ¬ (Int32.ofInt i < 0 ∨ (arrV cA mm z).slots.size ≤ (Int32.ofInt i).toNatClampNeg) := fun z cA => by rw [arrV_size]; exact o_in q1 ⟨hi.1, by omega⟩
  have kk := hk H locs lsC o1 o2 o3 (OKs.cons.mpr ⟨⟨hok, nofun⟩, q4⟩) o5 o6 hA hS hR
  have key : ∀ (k : Nat) (q : ClassId × FieldType), (tysT dA)[k]? = some q → q.2.isReference = true → H[cv a]? = some (arrV q.1 mm (fun j => va_rf ((rf.getD j none).map cv))) → W p l e R s m args below meth c H locs (S.length - n0) (slO S - m0) Q (F0 m pc lsC (.int (Int32.ofInt i) :: .ref (cv a) :: r.map (cV cv))) := fun k q hq hr2 hc =>
    W.aald (v := .ref (cv b)) (ty := q.2) X.1.1 X.1.2.1 hc ((X.2.1.2 k q hq).1 mm _) hr2 (fun q => by cases q) (hin _ _) (by rw [o_cl q1, arrV_read _ _ hlt, hv]) rfl rfl hd kk
  have hcase : t = 23 ∨ t = 24 ∨ t = 25 ∨ t = 26 ∨ t = 27 ∨ t = 28 := by omega
  rcases hcase with rfl | rfl | rfl | rfl | rfl | rfl
  · exact key 3 (dA 23, .object "CargoFlag$State") rfl rfl hA0
  · exact key 4 (dA 24, .object "CargoFlag$Vessel") rfl rfl hA0
  · exact key 5 (dA 25, .array .long) rfl rfl hA0
  · exact key 5 (dA 25, .array .long) rfl rfl hA0
  · exact key 6 (dA 27, .array .int) rfl rfl hA0
  · exact key 6 (dA 27, .array .int) rfl rfl hA0
theorem s_aastore (X : CX p R s m args c cc own nL d L base dC dI dA cv adV xs) {i n n2 : Int} {t a b t2 : Nat} (hd : decode cc pc = .ok (.aastore, 1)) (ht : 23 ≤ t ∧ t ≤ 24) (hi : 0 ≤ i ∧ i < n) (ht2 : t2 = (elT t).1) (hk : WW p l e R s m args below meth c Q nL n0 m0 L base Ls dC dI dA cv xs (pc + 1) ls r (setRef S a i.toNat b) M) : WW p l e R s m args below meth c Q nL n0 m0 L base Ls dC dI dA cv xs pc ls (vR t2 n2 b :: vI i :: vR t n a :: r) S M := by
  intro H locs lsC o1 o2 o3 o4 o5 o6 hA hS hR
  obtain ⟨⟨⟨mb, rfb, hmb, hnb⟩, -⟩, q6⟩ := OKs.cons.mp o4
  obtain ⟨⟨q1, -⟩, q2⟩ := OKs.cons.mp q6
  obtain ⟨⟨⟨mm, rf, hm, hn⟩, -⟩, q4⟩ := OKs.cons.mp q2
  have hn : n = (mm : Int) := hn
  have hnb : n2 = (mb : Int) := hnb
  have hm : S[a]? = some (t, mm, rf) := hm
  have hmb : S[b]? = some (t2, mb, rfb) := hmb
  have h3 := o1.ge3 hm (by omega) (by omega)
  have h13 : t2 < 13 := by rcases (show t = 23 ∨ t = 24 by omega) with rfl | rfl <;> rw [ht2] <;> decide
  have h3b := o1.ge3 hmb (by omega) (by omega)
  have e2 : (elT t).2 = 0 := by rcases (show t = 23 ∨ t = 24 by omega) with rfl | rfl <;> rfl
  have hmb0 : mb = 0 := by rcases (o1.2.2.2.2 b _ _ _ h3b hmb).1 with g | g | g <;> omega
  have hokb : okR S ((rT t i.toNat).1, ((rT t i.toNat).2 : Int), b) := by rw [rT_arr (by omega)]; exact ⟨mb, rfb, by rw [← ht2]; exact hmb, by rw [e2, hmb0]⟩
  have hc := X.2.2.2.1 a h3
  have hcb := X.2.2.2.1 b h3b
  have hlt : i.toNat < mm := by omega
  have hrl : rf.length = mm := by rcases (o1.2.2.2.2 a _ _ _ h3 hm).1 with g | g | g <;> omega
  have hP0 := hA.1 (b - 3) _ (wsO_get h3b hmb)
  rw [enE_obj cv dA h13] at hP0
  obtain ⟨r', hr', cellV, g1, g2, g3, -⟩ := hP0
  obtain ⟨-, hcls⟩ := X.2.1.1 t2 _ (cl_at h13)
  obtain ⟨kC, hkC, -⟩ := hcls.2
  have hS2 : (setRef S a i.toNat b)[a]? = some (t, mm, rf.set i.toNat (some b)) := by rw [setRef_at S a _ b hm, if_pos rfl]
  have key : ∀ (k : Nat) (C : String), (tysT dA)[k]? = some (dA t, .object C) → clN.getD t2 "" = C → aid dA t = dA t → W p l e R s m args below meth c H locs (S.length - n0) (slO S - m0) Q (F0 m pc lsC (.ref (cv b) :: .int (Int32.ofInt i) :: .ref (cv a) :: r.map (cV cv))) := fun k C hq hC hai => by
    have hA0 := hA.1 (a - 3) _ (wsO_get h3 hm)
    unfold enE at hA0
    rw [if_neg (show ¬ (t, mm, rf).1 < 13 from Nat.not_lt.mpr (by show 13 ≤ t; omega))] at hA0
    have hA1 : H[cv a]? = some (arrV (dA t) mm (fun j => va_rf ((rf.getD j none).map cv))) := by
      rw [hc, ← hai]
      have hp : payE cv (t, mm, rf) (M a) = .inr (.inr (.inr (.inr fun j => (rf.getD j none).map cv))) := by unfold payE; rw [if_neg (by show ¬ t = 21; omega), if_neg (by show ¬ t ≤ 22; omega)]
      have hA0 : H[base + (a - 3)]? = some (vp_cell (aid dA t) (mm, payE cv (t, mm, rf) (M a))) := hA0
      rw [hp] at hA0
      exact hA0
    obtain ⟨kA, comp, k1, k2, k3, -⟩ := (X.2.1.2 k _ hq).2
    have hcomp : comp = dC t2 := Option.some.inj (k3.symm.trans (hC ▸ hcls.1))
    subst hcomp
    refine W.aast X.1.1 X.1.2.1 hA1 (fun q h => by cases h) (fun h => by cases h) k1 k2 rfl hkC ⟨fun q => by rw [o_lt0 q1] at q; omega, by rw [arrV_size, o_cl q1]; exact hlt⟩ (by rw [hcb]; exact g1) (fun q h => by rw [g3] at h; cases h) (by rw [g2]; exact hkC) (by rw [g2]; exact va_assign hcls) rfl rfl hd fun H1 he z oq => ?_
    have hfin := hk H1 (locs ++ [⟨cv a, (Int32.ofInt i).toNatClampNeg⟩]) lsC (o1.ref (v := 0) h3 hm hokb) (o2.ref hm) (o3.ext (Ext.ref S a _ b)) (q4.ext (Ext.ref S a _ b)) (by rw [setRef_len]; exact o5) (by rw [setRef_slO]; exact o6) (hA.upd h3 hm hS2 (setRef_len S a _ b) (fun j hj => by rw [setRef_at S a _ b hm, if_neg hj]) (fun _ _ => rfl) z (by rw [← hc]; exact oq) ?_) (hS.put z oq (by show base ≤ cv a; omega)) hR
    · rw [setRef_len, setRef_slO] at hfin
      exact hfin
    · unfold enE
      rw [if_neg (show ¬ (t, mm, rf.set i.toNat (some b)).1 < 13 from Nat.not_lt.mpr (by show 13 ≤ t; omega))]
      have hp : payE cv (t, mm, rf.set i.toNat (some b)) (M a) = .inr (.inr (.inr (.inr fun j => ((rf.set i.toNat (some b)).getD j none).map cv))) := by unfold payE; rw [if_neg (by show ¬ t = 21; omega), if_neg (by show ¬ t ≤ 22; omega)]
      show H1[base + (a - 3)]? = some (vp_cell (aid dA t) (mm, payE cv (t, mm, rf.set i.toNat (some b)) (M a)))
      rw [hp, vp_cell_q, hai, ← hc, he, arrV_store]
      congr 2
      funext j
      rw [o_cl q1]
      unfold updV
      by_cases hj : j = i.toNat
      · rw [if_pos hj, List.getD_eq_getElem?_getD, hj, List.getElem?_set_self (by omega)]; rfl
      · rw [if_neg hj]
        show va_rf (Option.map cv (rf.getD j none)) = _
        rw [List.getD_eq_getElem?_getD, List.getD_eq_getElem?_getD, List.getElem?_set_ne (Ne.symm hj)]
  rcases (show t = 23 ∨ t = 24 by omega) with rfl | rfl
  · exact key 3 "CargoFlag$State" rfl (by rw [ht2]; rfl) rfl
  · exact key 4 "CargoFlag$Vessel" rfl (by rw [ht2]; rfl) rfl
theorem CX.get (X : CX p R s m args c cc own nL d L base dC dI dA cv adV xs) {H : Heap} {locs : List Loc} {lsC : Array Slot} {cells slots : Nat} {rest : List Value} {t k a mm idx : Nat} {rf : List (Option Nat)} (h3 : 3 ≤ a) (ht : t < 13) (hkn : k < nF t) (hm : S[a]? = some (t, mm, rf)) (hw : Jvm.Cond.fieldLink own idx (TT t k).1 (TT t k).2.1 (TT t k).2.2.1 ∈ lw_tbl) (hA : HP dC dI dA cv base S M H) (hd : decode cc pc = .ok (.getfield idx, 3))
    (kk : W p l e R s m args below meth c H locs cells slots Q (F0 m (pc + 3) lsC (sv cv t rf (M a) k :: rest))) : W p l e R s m args below meth c H locs cells slots Q (F0 m pc lsC (.ref (cv a) :: rest)) := by
  have hw0 := wsO_get (cv := cv) (dA := dA) (base := base) (M := M) h3 hm
  rw [enE_obj cv dA ht, ← X.2.2.2.1 a h3] at hw0
  exact va_get X.1.1 X.1.2.1 (X.lays ht) (fun _ h => h) X.1.2.2.2.1 X.2.1 hA.1 (a - 3) hw0 (cl_at ht) k hkn (X.1.2.2.2.2 _ hw rfl) (fun _ h => h) (by rw [List.getElem?_map, List.getElem?_range hkn]; rfl) hd kk
theorem s_getI (X : CX p R s m args c cc own nL d L base dC dI dA cv adV xs) {n : Int} {t k a idx : Nat} (hd : decode cc pc = .ok (.getfield idx, 3)) (ht : t < 13) (hkn : k < nF t) (hw : Jvm.Cond.fieldLink own idx (TT t k).1 (TT t k).2.1 (TT t k).2.2.1 ∈ lw_tbl) (hf : nthN (fK.getD t []) k = 0 ∨ nthN (fK.getD t []) k = 3) (hk : WW p l e R s m args below meth c Q nL n0 m0 L base Ls dC dI dA cv xs (pc + 3) ls (vI (M a k) :: r) S M) : WW p l e R s m args below meth c Q nL n0 m0 L base Ls dC dI dA cv xs pc ls (vR t n a :: r) S M := by
  intro H locs lsC o1 o2 o3 o4 o5 o6 hA hS hR
  obtain ⟨⟨⟨mm, rf, hm, hn⟩, -⟩, q4⟩ := OKs.cons.mp o4
  have hm : S[a]? = some (t, mm, rf) := hm
  have h3 := o1.ge3 hm (by omega) (by omega)
  refine X.get h3 ht hkn hm hw hA hd ?_
  have hx := o2.1 _ _ _ _ hm k
  rw [ck_obj ht] at hx
  have e : sv cv t rf (M a) k = .int (Int32.ofInt (M a k)) := by
    unfold sv
    rw [ck_obj ht]
    rcases hf with hf | hf <;> rw [hf] <;> rfl
  rw [e]
  refine hk H locs lsC o1 o2 o3 (OKs.cons.mpr ⟨⟨?_, nofun⟩, q4⟩) o5 o6 hA hS hR
  rcases hf with hf | hf <;> rw [hf] at hx
  · exact hx
  · have hx : M a k = 0 ∨ M a k = 1 := hx
    show i32 _
    unfold i32
    omega
theorem s_getL (X : CX p R s m args c cc own nL d L base dC dI dA cv adV xs) {n : Int} {t k a idx : Nat} (hd : decode cc pc = .ok (.getfield idx, 3)) (ht : t < 13) (hkn : k < nF t) (hw : Jvm.Cond.fieldLink own idx (TT t k).1 (TT t k).2.1 (TT t k).2.2.1 ∈ lw_tbl) (hf : nthN (fK.getD t []) k = 1) (hk : WW p l e R s m args below meth c Q nL n0 m0 L base Ls dC dI dA cv xs (pc + 3) ls (vL (M a k) :: r) S M) : WW p l e R s m args below meth c Q nL n0 m0 L base Ls dC dI dA cv xs pc ls (vR t n a :: r) S M := by
  intro H locs lsC o1 o2 o3 o4 o5 o6 hA hS hR
  obtain ⟨⟨⟨mm, rf, hm, hn⟩, -⟩, q4⟩ := OKs.cons.mp o4
  have hm : S[a]? = some (t, mm, rf) := hm
  have h3 := o1.ge3 hm (by omega) (by omega)
  refine X.get h3 ht hkn hm hw hA hd ?_
  have hx := o2.1 _ _ _ _ hm k
  rw [ck_obj ht, hf] at hx
  have e : sv cv t rf (M a) k = .long (Int64.ofInt (M a k)) := by
    unfold sv
    rw [ck_obj ht, hf]
    rfl
  rw [e]
  exact hk H locs lsC o1 o2 o3 (OKs.cons.mpr ⟨⟨hx, nofun⟩, q4⟩) o5 o6 hA hS hR
theorem s_getR (X : CX p R s m args c cc own nL d L base dC dI dA cv adV xs) {n : Int} {t k a idx : Nat} (hd : decode cc pc = .ok (.getfield idx, 3)) (ht : t < 13) (hkn : k < nF t) (hw : Jvm.Cond.fieldLink own idx (TT t k).1 (TT t k).2.1 (TT t k).2.2.1 ∈ lw_tbl) {b : Nat} (hf : nthN (fK.getD t []) k = 2) (hb : refOf S a k = some b) (hk : WW p l e R s m args below meth c Q nL n0 m0 L base Ls dC dI dA cv xs (pc + 3) ls (vR ((fR.getD t []).getD k (0, 0)).1 ((fR.getD t []).getD k (0, 0)).2 b :: r) S M) : WW p l e R s m args below meth c Q nL n0 m0 L base Ls dC dI dA cv xs pc ls (vR t n a :: r) S M := by
  intro H locs lsC o1 o2 o3 o4 o5 o6 hA hS hR
  obtain ⟨⟨⟨mm, rf, hm, hn⟩, -⟩, q4⟩ := OKs.cons.mp o4
  have hm : S[a]? = some (t, mm, rf) := hm
  have h3 := o1.ge3 hm (by omega) (by omega)
  refine X.get h3 ht hkn hm hw hA hd ?_
  obtain ⟨t', m', rf', hs, hr⟩ := refOf_some hb
  rw [hm] at hs
  cases hs
  have hok := (o1.2.2.2.2 a _ _ _ h3 hm).2.2 _ _ hr
  rw [rT_obj ht] at hok
  have e : sv cv t rf (M a) k = .ref (cv b) := by
    unfold sv
    rw [ck_obj ht, hf]
    show va_rf ((rf.getD k none).map cv) = _
    rw [List.getD_eq_getElem?_getD, hr]
    rfl
  rw [e]
  exact hk H locs lsC o1 o2 o3 (OKs.cons.mpr ⟨⟨hok, nofun⟩, q4⟩) o5 o6 hA hS hR
theorem CX.put (X : CX p R s m args c cc own nL d L base dC dI dA cv adV xs) {H : Heap} {locs : List Loc} {lsC : Array Slot} {cells slots : Nat} {rest : List Value} {t k a mm idx : Nat} {rf rf' : List (Option Nat)} {S' : Sp} {M' : Mm} {v : Value} (h3 : 3 ≤ a) (ht : t < 13) (hkn : k < nF t) (hm : S[a]? = some (t, mm, rf)) (hw : Jvm.Cond.fieldLink own idx (TT t k).1 (TT t k).2.1 (TT t k).2.2.1 ∈ lw_tbl) (hfin : (TT t k).2.2.2 = false ∨ (meth.name = "<init>" ∧ (TT t k).1 = own)) (hn : narrow (fyT t k) v = v) (hfit : fits (fyT t k) v = true)
    (hA : HP dC dI dA cv base S M H) (hS : va_S (fun q => base ≤ q) s.heap H locs) (hd : decode cc pc = .ok (.putfield idx, 3)) (hm' : S'[a]? = some (t, mm, rf')) (hl : S'.length = S.length) (hs : ∀ b, b ≠ a → S'[b]? = S[b]?) (hM : ∀ b, b ≠ a → M' b = M b) (hv : ∀ j, j < nF t → sv cv t rf' (M' a) j = if j = k then v else sv cv t rf (M a) j)
    (kk : ∀ (H1 : Heap) (locs1 : List Loc), HP dC dI dA cv base S' M' H1 → va_S (fun q => base ≤ q) s.heap H1 locs1 → W p l e R s m args below meth c H1 locs1 cells slots Q (F0 m (pc + 3) lsC rest)) : W p l e R s m args below meth c H locs cells slots Q (F0 m pc lsC (v :: .ref (cv a) :: rest)) := by
  have hc := X.2.2.2.1 a h3
  have hP0 := hA.1 (a - 3) _ (wsO_get h3 hm)
  rw [enE_obj cv dA ht, ← hc] at hP0
  obtain ⟨r0, h1, cell, q1, q2, q3, q4⟩ := hP0
  have hr : r0 = (clN.getD t "", TT t, nF t) := Option.some.inj (h1.symm.trans (cl_at ht))
  subst hr
  obtain ⟨hSl, hfc, kC, hkC, hkind⟩ := X.2.1.1 t _ (cl_at ht)
  obtain ⟨cf, kf, fi, f, hi, hsl⟩ := hSl k hkn
  have hap : ∀ x y, x < nF t → y < nF t → x ≠ y → dI t x ≠ dI t y := va_apart (own := own) (X.lays ht) (fun _ h => h) (fyT t) (fun j hj => fy_parse ht hj) (fun a ha b hb hne => fy_name ht ha hb hne) X.2.1 (cl_at ht)
  have hst := (u_facts hfc hkC (u_lays (X.lays ht) (fun _ h => h) hkn) hi).1
  have hlink := X.1.2.2.2.2 _ hw rfl
  have hlay := X.lays ht _ (u_in_lay hkn)
  have hlt : f.slot < cell.slots.size := by rw [hsl]; exact k2_hasslot (q4 k hkn)
  have fin : ∀ H' : Heap, H'[cv a]? = some (cell.setSlot f.slot v) → H'.size = H.size → (∀ q, q ≠ cv a → H'[q]? = H[q]?) → W p l e R s m args below meth c H' (locs ++ [⟨cv a, f.slot⟩]) cells slots Q (F0 m (pc + 3) lsC rest) := by
    intro H1 e1 e2 e3
    refine kk H1 _ (hA.upd h3 hm hm' hl hs hM e2 (by rw [← hc]; exact e3) ?_) (hS.put e2 e3 (by show base ≤ cv a; omega))
    rw [enE_obj cv dA ht, ← hc]
    rw [hsl] at e1
    refine ⟨_, cl_at ht, t_OB.to (V := updV (vp_V ((List.range (nF t)).map (sv cv t rf (M a)))) k v) ⟨_, e1, q2, q3, t_set q4 hap hkn v⟩ fun j hj => ?_⟩
    have g : ∀ (z : List (Option Nat)) (w : Nat → Int), vp_V ((List.range (nF t)).map (sv cv t z w)) j = sv cv t z w j := fun z w => by
      unfold vp_V
      rw [List.getD_eq_getElem?_getD, List.getElem?_map, List.getElem?_range hj]
      rfl
    rw [g, hv j hj]
    unfold updV
    rw [g]
  by_cases hf : (TT t k).2.2.2 = true
  · obtain ⟨hin, hdecl⟩ := hfin.resolve_left (by rw [hf]; decide)
    unfold u_lay at hlay
    rw [if_pos hf] at hlay
    have hcf : m.cls = cf := by
      obtain ⟨_, _, c', _, _, _, -, -, hf', -, -, -, hown2, -⟩ := Cond.laysFinal_spec hlay
      have e1 : c' = cf := by have := hi.symm.trans hf'; simp at this; exact this.1.symm
      rw [hdecl] at hown2
      rw [← e1]; exact Option.some.inj (X.1.2.2.2.1.symm.trans hown2)
    have h6 := u_fits hfc hkC hkind (Or.inr hlay) hi (fy_parse ht hkn) hn hfit
    exact W.putFinK X.1.1 X.1.2.1 X.1.2.2.2.1 hlink hi hst hcf hin (by rw [q2]; exact h6) q1 q3 hlt rfl rfl hd fin
  · unfold u_lay at hlay
    rw [if_neg hf] at hlay
    have h6 := u_store hfc hkC hkind hlay hi (fy_parse ht hkn) hn hfit
    exact W.putK X.1.1 X.1.2.1 (f := f) ⟨X.1.2.2.2.1, hlink, ⟨_, _, _, hi⟩, hst⟩ (by rw [q2]; exact h6) q1 q3 hlt rfl rfl hd fin
theorem s_putI (X : CX p R s m args c cc own nL d L base dC dI dA cv adV xs) {n x : Int} {t k a idx : Nat} (hd : decode cc pc = .ok (.putfield idx, 3)) (ht : t < 13) (hkn : k < nF t) (hw : Jvm.Cond.fieldLink own idx (TT t k).1 (TT t k).2.1 (TT t k).2.2.1 ∈ lw_tbl) (hfin : (TT t k).2.2.2 = false ∨ (meth.name = "<init>" ∧ (TT t k).1 = own)) (hf : nthN (fK.getD t []) k = 0) (hk : WW p l e R s m args below meth c Q nL n0 m0 L base Ls dC dI dA cv xs (pc + 3) ls r S (up M a k x)) : WW p l e R s m args below meth c Q nL n0 m0 L base Ls dC dI dA cv xs pc ls (vI x :: vR t n a :: r) S M := by
  intro H locs lsC o1 o2 o3 o4 o5 o6 hA hS hR
  obtain ⟨⟨q5, -⟩, q6⟩ := OKs.cons.mp o4
  obtain ⟨⟨⟨mm, rf, hm, hn⟩, -⟩, q4⟩ := OKs.cons.mp q6
  have hm : S[a]? = some (t, mm, rf) := hm
  have h3 := o1.ge3 hm (by omega) (by omega)
  have ey : fyT t k = .int := by
    rcases fy_kind ht hkn with g | g | g | g
    all_goals first | exact g.2 | (have := g.1.symm.trans hf; omega)
  refine X.put (v := .int (Int32.ofInt x)) h3 ht hkn hm hw hfin (by rw [ey]; rfl) (by rw [ey]; rfl) hA hS hd hm rfl (fun _ _ => rfl) (up_ne M a k x) (fun j hj => ?_) fun H1 locs1 hA1 hS1 => ?_
  · unfold sv
    rw [up_at]
    by_cases e : j = k
    · subst e
      rw [if_pos rfl, if_pos rfl, ck_obj ht, hf]
      rfl
    · rw [if_neg e, if_neg e]
  · exact hk H1 locs1 lsC o1 (o2.up h3 hm (by rw [ck_obj ht, hf]; exact q5)) o3 q4 o5 o6 hA1 hS1 hR
theorem s_putL (X : CX p R s m args c cc own nL d L base dC dI dA cv adV xs) {n x : Int} {t k a idx : Nat} (hd : decode cc pc = .ok (.putfield idx, 3)) (ht : t < 13) (hkn : k < nF t) (hw : Jvm.Cond.fieldLink own idx (TT t k).1 (TT t k).2.1 (TT t k).2.2.1 ∈ lw_tbl) (hfin : (TT t k).2.2.2 = false ∨ (meth.name = "<init>" ∧ (TT t k).1 = own)) (hf : nthN (fK.getD t []) k = 1) (hk : WW p l e R s m args below meth c Q nL n0 m0 L base Ls dC dI dA cv xs (pc + 3) ls r S (up M a k x)) : WW p l e R s m args below meth c Q nL n0 m0 L base Ls dC dI dA cv xs pc ls (vL x :: vR t n a :: r) S M := by
  intro H locs lsC o1 o2 o3 o4 o5 o6 hA hS hR
  obtain ⟨⟨q5, -⟩, q6⟩ := OKs.cons.mp o4
  obtain ⟨⟨⟨mm, rf, hm, hn⟩, -⟩, q4⟩ := OKs.cons.mp q6
  have hm : S[a]? = some (t, mm, rf) := hm
  have h3 := o1.ge3 hm (by omega) (by omega)
  have ey : fyT t k = .long := by
    rcases fy_kind ht hkn with g | g | g | g
    all_goals first | exact g.2 | (have := g.1.symm.trans hf; omega)
  refine X.put (v := .long (Int64.ofInt x)) h3 ht hkn hm hw hfin (by rw [ey]; rfl) (by rw [ey]; rfl) hA hS hd hm rfl (fun _ _ => rfl) (up_ne M a k x) (fun j hj => ?_) fun H1 locs1 hA1 hS1 => ?_
  · unfold sv
    rw [up_at]
    by_cases e : j = k
    · subst e
      rw [if_pos rfl, if_pos rfl, ck_obj ht, hf]
      rfl
    · rw [if_neg e, if_neg e]
  · exact hk H1 locs1 lsC o1 (o2.up h3 hm (by rw [ck_obj ht, hf]; exact q5)) o3 q4 o5 o6 hA1 hS1 hR
theorem s_putZ (X : CX p R s m args c cc own nL d L base dC dI dA cv adV xs) {n x : Int} {t k a idx : Nat} (hd : decode cc pc = .ok (.putfield idx, 3)) (ht : t < 13) (hkn : k < nF t) (hw : Jvm.Cond.fieldLink own idx (TT t k).1 (TT t k).2.1 (TT t k).2.2.1 ∈ lw_tbl) (hfin : (TT t k).2.2.2 = false ∨ (meth.name = "<init>" ∧ (TT t k).1 = own)) (hf : nthN (fK.getD t []) k = 3) (hx : x = 0 ∨ x = 1) (hk : WW p l e R s m args below meth c Q nL n0 m0 L base Ls dC dI dA cv xs (pc + 3) ls r S (up M a k x)) : WW p l e R s m args below meth c Q nL n0 m0 L base Ls dC dI dA cv xs pc ls (vI x :: vR t n a :: r) S M := by
  intro H locs lsC o1 o2 o3 o4 o5 o6 hA hS hR
  obtain ⟨⟨q5, -⟩, q6⟩ := OKs.cons.mp o4
  obtain ⟨⟨⟨mm, rf, hm, hn⟩, -⟩, q4⟩ := OKs.cons.mp q6
  have hm : S[a]? = some (t, mm, rf) := hm
  have h3 := o1.ge3 hm (by omega) (by omega)
  have ey : fyT t k = .boolean := by
    rcases fy_kind ht hkn with g | g | g | g
    all_goals first | exact g.2 | (have := g.1.symm.trans hf; omega)
  refine X.put (v := .int (Int32.ofInt x)) h3 ht hkn hm hw hfin (by rw [ey]; rcases hx with rfl | rfl <;> rfl) (by rw [ey]; rcases hx with rfl | rfl <;> rfl) hA hS hd hm rfl (fun _ _ => rfl) (up_ne M a k x) (fun j hj => ?_) fun H1 locs1 hA1 hS1 => ?_
  · unfold sv
    rw [up_at]
    by_cases e : j = k
    · subst e
      rw [if_pos rfl, if_pos rfl, ck_obj ht, hf]
      rfl
    · rw [if_neg e, if_neg e]
  · exact hk H1 locs1 lsC o1 (o2.up h3 hm (by rw [ck_obj ht, hf]; exact hx)) o3 q4 o5 o6 hA1 hS1 hR
theorem s_putR (X : CX p R s m args c cc own nL d L base dC dI dA cv adV xs) {n n2 : Int} {t k a b t2 idx : Nat} (hd : decode cc pc = .ok (.putfield idx, 3)) (ht : t < 13) (hkn : k < nF t) (hw : Jvm.Cond.fieldLink own idx (TT t k).1 (TT t k).2.1 (TT t k).2.2.1 ∈ lw_tbl) (hfin : (TT t k).2.2.2 = false ∨ (meth.name = "<init>" ∧ (TT t k).1 = own)) (hf : nthN (fK.getD t []) k = 2) (ht2 : t2 = ((fR.getD t []).getD k (0, 0)).1) (hn2 : n2 = ((fR.getD t []).getD k (0, 0)).2) (hk : WW p l e R s m args below meth c Q nL n0 m0 L base Ls dC dI dA cv xs (pc + 3) ls r (setRef S a k b) M) : WW p l e R s m args below meth c Q nL n0 m0 L base Ls dC dI dA cv xs pc ls (vR t2 n2 b :: vR t n a :: r) S M := by
  intro H locs lsC o1 o2 o3 o4 o5 o6 hA hS hR
  obtain ⟨⟨q5, -⟩, q6⟩ := OKs.cons.mp o4
  obtain ⟨⟨⟨mm, rf, hm, hn⟩, -⟩, q4⟩ := OKs.cons.mp q6
  have hm : S[a]? = some (t, mm, rf) := hm
  have h3 := o1.ge3 hm (by omega) (by omega)
  have ey : (fyT t k).isReference = true := by
    rcases fy_kind ht hkn with g | g | g | g
    all_goals first | exact g.2 | (have := g.1.symm.trans hf; omega)
  have hok : okR S ((rT t k).1, ((rT t k).2 : Int), b) := by rw [rT_obj ht, ← ht2, ← hn2]; exact q5
  have hS2 : (setRef S a k b)[a]? = some (t, mm, rf.set k (some b)) := by rw [setRef_at S a _ b hm, if_pos rfl]
  have hrl : rf.length = nF t := by rcases (o1.2.2.2.2 a _ _ _ h3 hm).1 with g | g | g <;> omega
  refine X.put (v := .ref (cv b)) (S' := setRef S a k b) (M' := M) h3 ht hkn hm hw hfin (by revert ey; cases fyT t k <;> intro ey <;> first | rfl | cases ey) (by revert ey; cases fyT t k <;> intro ey <;> first | rfl | cases ey) hA hS hd hS2 (setRef_len S a k b) (fun j hj => by rw [setRef_at S a _ b hm, if_neg hj]) (fun _ _ => rfl) (fun j hj => ?_) fun H1 locs1 hA1 hS1 => ?_
  · unfold sv
    by_cases e : j = k
    · subst e
      rw [if_pos rfl, ck_obj ht, hf]
      show va_rf (((rf.set j (some b)).getD j none).map cv) = _
      rw [List.getD_eq_getElem?_getD, List.getElem?_set_self (by omega)]
      rfl
    · rw [if_neg e, List.getD_eq_getElem?_getD, List.getD_eq_getElem?_getD, List.getElem?_set_ne (Ne.symm e)]
  · have hfn := hk H1 locs1 lsC (o1.ref (v := 0) h3 hm hok) (o2.ref hm) (o3.ext (Ext.ref S a _ b)) (q4.ext (Ext.ref S a _ b)) (by rw [setRef_len]; exact o5) (by rw [setRef_slO]; exact o6) hA1 hS1 hR
    rw [setRef_len, setRef_slO] at hfn
    exact hfn
theorem s_new (X : CX p R s m args c cc own nL d L base dC dI dA cv adV xs) {t idx : Nat} (hd : decode cc pc = .ok (.new idx, 3)) (ht : t < 13) (hw : Jvm.Cond.classLink own idx (clN.getD t "") ∈ lw_tbl) (hrc : S.length + 1 ≤ R.cells + n0) (hrs : slO S + nF t ≤ R.slots + m0) (hk : WW p l e R s m args below meth c Q nL n0 m0 L base Ls dC dI dA cv xs (pc + 3) ls (vR t 0 S.length :: r) (S ++ [(t, 0, List.replicate (nF t) none)]) M) : WW p l e R s m args below meth c Q nL n0 m0 L base Ls dC dI dA cv xs pc ls r S M := by
  intro H locs lsC o1 o2 o3 o4 o5 o6 hA hS hR
  have l2 : 2 < S.length := (List.getElem?_eq_some_iff.mp o1.2.2.1).1
  obtain ⟨hSl, hfc, kC, hkC, hkind⟩ := X.2.1.1 t _ (cl_at ht)
  refine W.newcK (n := nF t) X.1.1 X.1.2.1 X.1.2.2.2.1 (X.1.2.2.2.2 _ hw rfl) (X.1.2.2.2.2 _ (cl_words ht).2.1 rfl) (X.1.2.2.2.2 _ (cl_words ht).2.2 rfl) rfl hd (by omega) (by omega) hfc rfl fun H1 kC' hkC' e1 z1 oq => ?_
  have hE := Ext.app S [(t, 0, List.replicate (nF t) none)]
  have hnew : (S ++ [(t, 0, List.replicate (nF t) (none : Option Nat))])[S.length]? = some (t, 0, List.replicate (nF t) none) := by rw [List.getElem?_append_right (Nat.le_refl _), Nat.sub_self]; rfl
  have hfn := hk H1 locs lsC (o1.push (Or.inl ⟨ht, rfl, List.length_replicate⟩) (by omega) (fun k b => rf_rep)) (o2.push _) (o3.ext hE) (OKs.cons.mpr ⟨⟨⟨0, _, hnew, rfl⟩, nofun⟩, o4.ext hE⟩) (Nat.le_trans o5 hE.2.1) (Nat.le_trans o6 hE.2.2) (hA.push (by omega) z1 oq ?_) ⟨Nat.le_trans hS.1 (by omega), fun q h1 h2 => (oq q (Nat.lt_of_lt_of_le h1 hS.1)).trans (hS.2.1 q h1 h2), hS.2.2⟩ hR
  · rw [List.length_append, List.length_singleton, slO_push, if_pos ht, show S.length + 1 - n0 = S.length - n0 + 1 by omega, show slO S + nF t - m0 = slO S - m0 + nF t by omega] at hfn
    have hcs : cV cv (vR t 0 S.length) = .ref H.size := by
      show Value.ref (cv S.length) = _
      rw [X.2.2.2.1 _ (by omega), hA.2]
    rw [List.map_cons, hcs] at hfn
    exact hfn
  · rw [enE_obj cv dA ht]
    refine ⟨_, cl_at ht, (u_born (fyT t) (X.lays ht) (fun _ h => h) (X.2.1.1 t _ (cl_at ht)) hkC' e1 (fun k hk => fy_parse ht hk)).to fun k hk => ?_⟩
    unfold vp_V
    rw [List.getD_eq_getElem?_getD, List.getElem?_map, List.getElem?_range hk]
    show _ = sv cv t _ (M S.length) k
    unfold sv
    rw [ck_obj ht, o2.2.1 S.length (Nat.le_refl _) k]
    rcases fy_kind ht hk with g | g | g | g <;> rw [g.1]
    · rw [g.2]; rfl
    · rw [g.2]; rfl
    · rw [g.2]; rfl
    · show _ = va_rf _
      rw [List.getD_eq_getElem?_getD, List.getElem?_replicate, if_pos hk]
      have g2 := g.2
      revert g2
      cases fyT t k <;> intro g2 <;> first | rfl | cases g2
theorem s_new_int (X : CX p R s m args c cc own nL d L base dC dI dA cv adV xs) {n : Int} (hd : decode cc pc = .ok (.newarray .int, 2)) (hw : Jvm.Cond.arrayClass .int ∈ lw_tbl) (hn : 0 ≤ n ∧ n ≤ 10000) (hrc : S.length + 1 ≤ R.cells + n0) (hrs : slO S + n.toNat ≤ R.slots + m0) (hk : WW p l e R s m args below meth c Q nL n0 m0 L base Ls dC dI dA cv xs (pc + 2) ls (vR 20 n S.length :: r) (S ++ [(20, n.toNat, [])]) M) : WW p l e R s m args below meth c Q nL n0 m0 L base Ls dC dI dA cv xs pc ls (vI n :: r) S M := by
  intro H locs lsC o1 o2 o3 o4 o5 o6 hA hS hR
  obtain ⟨⟨q1, -⟩, q2⟩ := OKs.cons.mp o4
  have l2 : 2 < S.length := (List.getElem?_eq_some_iff.mp o1.2.2.1).1
  refine va_newaK (atype := .int) (N := n.toNat) X.1.1 X.1.2.1 (X.1.2.2.2.2 _ hw rfl) rfl hd rfl (fun q => by rw [o_lt0 q1] at q; omega) (o_cl q1) (by show n.toNat * 4 ≤ 536870912; omega) (by omega) (by omega) rfl fun H1 cA e1 z1 oq hAr hfc => ?_
  have hcA : dA 20 = cA := Option.some.inj ((X.2.1.2 0 _ rfl).2.symm.trans hfc)
  have hE := Ext.app S [(20, n.toNat, [])]
  have hnew : (S ++ [((20, n.toNat, []) : Ds)])[S.length]? = some (20, n.toNat, []) := by rw [List.getElem?_append_right (Nat.le_refl _), Nat.sub_self]; rfl
  have hfn := hk H1 locs lsC (o1.push (Or.inr (Or.inl ⟨by omega, by omega, rfl⟩)) (by omega) (fun k b => nofun)) (o2.push _) (o3.ext hE) (OKs.cons.mpr ⟨⟨⟨n.toNat, [], hnew, by show n = _; omega⟩, nofun⟩, q2.ext hE⟩) (Nat.le_trans o5 hE.2.1) (Nat.le_trans o6 hE.2.2) (hA.push (by omega) z1 oq ?_) ⟨Nat.le_trans hS.1 (by omega), fun q h1 h2 => (oq q (Nat.lt_of_lt_of_le h1 hS.1)).trans (hS.2.1 q h1 h2), hS.2.2⟩ hR
  · rw [List.length_append, List.length_singleton, slO_push, if_neg (by omega), show S.length + 1 - n0 = S.length - n0 + 1 by omega, show slO S + n.toNat - m0 = slO S - m0 + n.toNat by omega] at hfn
    have hcs : cV cv (vR 20 n S.length) = .ref H.size := by
      show Value.ref (cv S.length) = _
      rw [X.2.2.2.1 _ (by omega), hA.2]
    rw [List.map_cons, hcs] at hfn
    exact hfn
  · show H1[H.size]? = some (arrV (dA 20) n.toNat (fun j => .int (Int32.ofInt (M S.length j))))
    rw [e1, hcA]
    congr 2
    funext j
    rw [o2.2.1 S.length (Nat.le_refl _) j]
    rfl
theorem s_new_long (X : CX p R s m args c cc own nL d L base dC dI dA cv adV xs) {n : Int} (hd : decode cc pc = .ok (.newarray .long, 2)) (hw : Jvm.Cond.arrayClass .long ∈ lw_tbl) (hn : 0 ≤ n ∧ n ≤ 10000) (hrc : S.length + 1 ≤ R.cells + n0) (hrs : slO S + n.toNat ≤ R.slots + m0) (hk : WW p l e R s m args below meth c Q nL n0 m0 L base Ls dC dI dA cv xs (pc + 2) ls (vR 21 n S.length :: r) (S ++ [(21, n.toNat, [])]) M) : WW p l e R s m args below meth c Q nL n0 m0 L base Ls dC dI dA cv xs pc ls (vI n :: r) S M := by
  intro H locs lsC o1 o2 o3 o4 o5 o6 hA hS hR
  obtain ⟨⟨q1, -⟩, q2⟩ := OKs.cons.mp o4
  have l2 : 2 < S.length := (List.getElem?_eq_some_iff.mp o1.2.2.1).1
  refine va_newaK (atype := .long) (N := n.toNat) X.1.1 X.1.2.1 (X.1.2.2.2.2 _ hw rfl) rfl hd rfl (fun q => by rw [o_lt0 q1] at q; omega) (o_cl q1) (by show n.toNat * 8 ≤ 536870912; omega) (by omega) (by omega) rfl fun H1 cA e1 z1 oq hAr hfc => ?_
  have hcA : dA 21 = cA := Option.some.inj ((X.2.1.2 1 _ rfl).2.symm.trans hfc)
  have hE := Ext.app S [(21, n.toNat, [])]
  have hnew : (S ++ [((21, n.toNat, []) : Ds)])[S.length]? = some (21, n.toNat, []) := by rw [List.getElem?_append_right (Nat.le_refl _), Nat.sub_self]; rfl
  have hfn := hk H1 locs lsC (o1.push (Or.inr (Or.inl ⟨by omega, by omega, rfl⟩)) (by omega) (fun k b => nofun)) (o2.push _) (o3.ext hE) (OKs.cons.mpr ⟨⟨⟨n.toNat, [], hnew, by show n = _; omega⟩, nofun⟩, q2.ext hE⟩) (Nat.le_trans o5 hE.2.1) (Nat.le_trans o6 hE.2.2) (hA.push (by omega) z1 oq ?_) ⟨Nat.le_trans hS.1 (by omega), fun q h1 h2 => (oq q (Nat.lt_of_lt_of_le h1 hS.1)).trans (hS.2.1 q h1 h2), hS.2.2⟩ hR
  · rw [List.length_append, List.length_singleton, slO_push, if_neg (by omega), show S.length + 1 - n0 = S.length - n0 + 1 by omega, show slO S + n.toNat - m0 = slO S - m0 + n.toNat by omega] at hfn
    have hcs : cV cv (vR 21 n S.length) = .ref H.size := by
      show Value.ref (cv S.length) = _
      rw [X.2.2.2.1 _ (by omega), hA.2]
    rw [List.map_cons, hcs] at hfn
    exact hfn
  · show H1[H.size]? = some (arrV (dA 21) n.toNat (fun j => .long (Int64.ofInt (M S.length j))))
    rw [e1, hcA]
    congr 2
    funext j
    rw [o2.2.1 S.length (Nat.le_refl _) j]
    rfl
theorem s_new_byte (X : CX p R s m args c cc own nL d L base dC dI dA cv adV xs) {n : Int} (hd : decode cc pc = .ok (.newarray .byte, 2)) (hw : Jvm.Cond.arrayClass .byte ∈ lw_tbl) (hn : 0 ≤ n ∧ n ≤ 10000) (hrc : S.length + 1 ≤ R.cells + n0) (hrs : slO S + n.toNat ≤ R.slots + m0) (hk : WW p l e R s m args below meth c Q nL n0 m0 L base Ls dC dI dA cv xs (pc + 2) ls (vR 22 n S.length :: r) (S ++ [(22, n.toNat, [])]) M) : WW p l e R s m args below meth c Q nL n0 m0 L base Ls dC dI dA cv xs pc ls (vI n :: r) S M := by
  intro H locs lsC o1 o2 o3 o4 o5 o6 hA hS hR
  obtain ⟨⟨q1, -⟩, q2⟩ := OKs.cons.mp o4
  have l2 : 2 < S.length := (List.getElem?_eq_some_iff.mp o1.2.2.1).1
  refine va_newaK (atype := .byte) (N := n.toNat) X.1.1 X.1.2.1 (X.1.2.2.2.2 _ hw rfl) rfl hd rfl (fun q => by rw [o_lt0 q1] at q; omega) (o_cl q1) (by show n.toNat * 1 ≤ 536870912; omega) (by omega) (by omega) rfl fun H1 cA e1 z1 oq hAr hfc => ?_
  have hcA : dA 22 = cA := Option.some.inj ((X.2.1.2 2 _ rfl).2.symm.trans hfc)
  have hE := Ext.app S [(22, n.toNat, [])]
  have hnew : (S ++ [((22, n.toNat, []) : Ds)])[S.length]? = some (22, n.toNat, []) := by rw [List.getElem?_append_right (Nat.le_refl _), Nat.sub_self]; rfl
  have hfn := hk H1 locs lsC (o1.push (Or.inr (Or.inl ⟨by omega, by omega, rfl⟩)) (by omega) (fun k b => nofun)) (o2.push _) (o3.ext hE) (OKs.cons.mpr ⟨⟨⟨n.toNat, [], hnew, by show n = _; omega⟩, nofun⟩, q2.ext hE⟩) (Nat.le_trans o5 hE.2.1) (Nat.le_trans o6 hE.2.2) (hA.push (by omega) z1 oq ?_) ⟨Nat.le_trans hS.1 (by omega), fun q h1 h2 => (oq q (Nat.lt_of_lt_of_le h1 hS.1)).trans (hS.2.1 q h1 h2), hS.2.2⟩ hR
  · rw [List.length_append, List.length_singleton, slO_push, if_neg (by omega), show S.length + 1 - n0 = S.length - n0 + 1 by omega, show slO S + n.toNat - m0 = slO S - m0 + n.toNat by omega] at hfn
    have hcs : cV cv (vR 22 n S.length) = .ref H.size := by
      show Value.ref (cv S.length) = _
      rw [X.2.2.2.1 _ (by omega), hA.2]
    rw [List.map_cons, hcs] at hfn
    exact hfn
  · show H1[H.size]? = some (arrV (dA 22) n.toNat (fun j => .int (Int32.ofInt (M S.length j))))
    rw [e1, hcA]
    congr 2
    funext j
    rw [o2.2.1 S.length (Nat.le_refl _) j]
    rfl
end SND

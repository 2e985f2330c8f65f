/-! THE MACHINE IS SOUND: arrays of references, switch, Object(), arraycopy, Math -/
section SND
variable {p : Program} {l : Launch} {e : Env} {R : Room} {s : State} {m : MethodId} {args : Array Value} {below : List Frame} {meth : Method} {c : Code} {Q : State → Prop}
variable {cc : ByteArray} {own : String} {nL d n0 m0 L base : Nat} {Ls : List Nat} {dC : Nat → ClassId} {dI : Nat → Nat → Nat} {dA : Nat → ClassId} {cv adV : Nat → Nat} {xs : Nat → Int}
variable {pc : Nat} {ls r : List AV} {S : Sp} {M : Mm}
theorem s_anew_23 (X : CX p R s m args c cc own nL d L base dC dI dA cv adV xs) {n : Int} {idx : Nat} (hd : decode cc pc = .ok (.anewarray idx, 3)) (hw : Jvm.Cond.classLink own idx "CargoFlag$State" ∈ lw_tbl) (hov : va_AO "CargoFlag$State" s) (hn : 0 ≤ n ∧ n ≤ 10000) (hrc : S.length + 1 ≤ R.cells + n0) (hrs : slO S + n.toNat ≤ R.slots + m0) (hk : WW p l e R s m args below meth c Q nL n0 m0 L base Ls dC dI dA cv xs (pc + 3) ls (vR 23 n S.length :: r) (S ++ [(23, n.toNat, List.replicate n.toNat none)]) M) : WW p l e R s m args below meth c Q nL n0 m0 L base Ls dC dI dA cv xs pc ls (vI n :: r) S M := by
  intro H locs lsC o1 o2 o3 o4 o5 o6 hA hS hR
  obtain ⟨⟨q1, -⟩, q2⟩ := OKs.cons.mp o4
  have l2 : 2 < S.length := (List.getElem?_eq_some_iff.mp o1.2.2.1).1
  refine W.anew X.1.1 X.1.2.1 X.1.2.2.2.1 (X.1.2.2.2.2 _ hw rfl) (va_AO.use hov) rfl hd rfl (fun q => by rw [o_lt0 q1] at q; omega) (by rw [o_cl q1]; omega) (by omega) (by rw [o_cl q1]; omega) fun cA kA comp hfc h2 h3 h4 => ?_
  rw [o_cl q1]
  obtain ⟨kA0, comp0, g1, g2, g3, g4⟩ := (X.2.1.2 3 _ rfl).2
  have hcA : dA 23 = cA := Option.some.inj (g4.symm.trans hfc)
  have hE := Ext.app S [(23, n.toNat, List.replicate n.toNat none)]
  have hnew : (S ++ [((23, n.toNat, List.replicate n.toNat none) : Ds)])[S.length]? = some (23, n.toNat, List.replicate n.toNat none) := by rw [List.getElem?_append_right (Nat.le_refl _), Nat.sub_self]; rfl
  have z1 : (H.push { cls := cA, slots := Array.replicate n.toNat .null, vm := .none }).size = H.size + 1 := by simp
  have oq : ∀ q : Nat, q < H.size → (H.push { cls := cA, slots := Array.replicate n.toNat .null, vm := .none })[q]? = H[q]? := fun q hq => by rw [Array.getElem?_push, if_neg (Nat.ne_of_lt hq)]
  have hfn := hk _ locs lsC (o1.push (Or.inr (Or.inr ⟨by omega, by omega, List.length_replicate⟩)) (by omega) (fun k b => rf_rep)) (o2.push _) (o3.ext hE) (OKs.cons.mpr ⟨⟨⟨n.toNat, _, hnew, by show n = _; omega⟩, nofun⟩, q2.ext hE⟩) (Nat.le_trans o5 hE.2.1) (Nat.le_trans o6 hE.2.2) (hA.push (by omega) z1 oq ?_) ⟨Nat.le_trans hS.1 (by omega), fun q h1 h2 => (oq q (Nat.lt_of_lt_of_le h1 hS.1)).trans (hS.2.1 q h1 h2), hS.2.2⟩ hR
  · rw [List.length_append, List.length_singleton, slO_push, if_neg (by omega), show S.length + 1 - n0 = S.length - n0 + 1 by omega, show slO S + n.toNat - m0 = slO S - m0 + n.toNat by omega] at hfn
    have hcs : cV cv (vR 23 n S.length) = .ref H.size := by
      show Value.ref (cv S.length) = _
      rw [X.2.2.2.1 _ (by omega), hA.2]
    rw [List.map_cons, hcs] at hfn
    exact hfn
  · show (H.push _)[H.size]? = some (arrV (dA 23) n.toNat (fun j => va_rf (((List.replicate n.toNat (none : Option Nat)).getD j none).map cv)))
    rw [hcA, Array.getElem?_push, if_pos rfl, arrV_new]
    congr 2
    funext j
    rw [List.getD_eq_getElem?_getD, List.getElem?_replicate]
    split <;> rfl
theorem s_anew_24 (X : CX p R s m args c cc own nL d L base dC dI dA cv adV xs) {n : Int} {idx : Nat} (hd : decode cc pc = .ok (.anewarray idx, 3)) (hw : Jvm.Cond.classLink own idx "CargoFlag$Vessel" ∈ lw_tbl) (hov : va_AO "CargoFlag$Vessel" s) (hn : 0 ≤ n ∧ n ≤ 10000) (hrc : S.length + 1 ≤ R.cells + n0) (hrs : slO S + n.toNat ≤ R.slots + m0) (hk : WW p l e R s m args below meth c Q nL n0 m0 L base Ls dC dI dA cv xs (pc + 3) ls (vR 24 n S.length :: r) (S ++ [(24, n.toNat, List.replicate n.toNat none)]) M) : WW p l e R s m args below meth c Q nL n0 m0 L base Ls dC dI dA cv xs pc ls (vI n :: r) S M := by
  intro H locs lsC o1 o2 o3 o4 o5 o6 hA hS hR
  obtain ⟨⟨q1, -⟩, q2⟩ := OKs.cons.mp o4
  have l2 : 2 < S.length := (List.getElem?_eq_some_iff.mp o1.2.2.1).1
  refine W.anew X.1.1 X.1.2.1 X.1.2.2.2.1 (X.1.2.2.2.2 _ hw rfl) (va_AO.use hov) rfl hd rfl (fun q => by rw [o_lt0 q1] at q; omega) (by rw [o_cl q1]; omega) (by omega) (by rw [o_cl q1]; omega) fun cA kA comp hfc h2 h3 h4 => ?_
  rw [o_cl q1]
  obtain ⟨kA0, comp0, g1, g2, g3, g4⟩ := (X.2.1.2 4 _ rfl).2
  have hcA : dA 24 = cA := Option.some.inj (g4.symm.trans hfc)
  have hE := Ext.app S [(24, n.toNat, List.replicate n.toNat none)]
  have hnew : (S ++ [((24, n.toNat, List.replicate n.toNat none) : Ds)])[S.length]? = some (24, n.toNat, List.replicate n.toNat none) := by rw [List.getElem?_append_right (Nat.le_refl _), Nat.sub_self]; rfl
  have z1 : (H.push { cls := cA, slots := Array.replicate n.toNat .null, vm := .none }).size = H.size + 1 := by simp
  have oq : ∀ q : Nat, q < H.size → (H.push { cls := cA, slots := Array.replicate n.toNat .null, vm := .none })[q]? = H[q]? := fun q hq => by rw [Array.getElem?_push, if_neg (Nat.ne_of_lt hq)]
  have hfn := hk _ locs lsC (o1.push (Or.inr (Or.inr ⟨by omega, by omega, List.length_replicate⟩)) (by omega) (fun k b => rf_rep)) (o2.push _) (o3.ext hE) (OKs.cons.mpr ⟨⟨⟨n.toNat, _, hnew, by show n = _; omega⟩, nofun⟩, q2.ext hE⟩) (Nat.le_trans o5 hE.2.1) (Nat.le_trans o6 hE.2.2) (hA.push (by omega) z1 oq ?_) ⟨Nat.le_trans hS.1 (by omega), fun q h1 h2 => (oq q (Nat.lt_of_lt_of_le h1 hS.1)).trans (hS.2.1 q h1 h2), hS.2.2⟩ hR
  · rw [List.length_append, List.length_singleton, slO_push, if_neg (by omega), show S.length + 1 - n0 = S.length - n0 + 1 by omega, show slO S + n.toNat - m0 = slO S - m0 + n.toNat by omega] at hfn
    have hcs : cV cv (vR 24 n S.length) = .ref H.size := by
      show Value.ref (cv S.length) = _
      rw [X.2.2.2.1 _ (by omega), hA.2]
    rw [List.map_cons, hcs] at hfn
    exact hfn
  · show (H.push _)[H.size]? = some (arrV (dA 24) n.toNat (fun j => va_rf (((List.replicate n.toNat (none : Option Nat)).getD j none).map cv)))
    rw [hcA, Array.getElem?_push, if_pos rfl, arrV_new]
    congr 2
    funext j
    rw [List.getD_eq_getElem?_getD, List.getElem?_replicate]
    split <;> rfl
theorem swt_spec {go : Nat → Option Rs} {x : Int} {dd : Nat} : ∀ {ts : List Nat} {lo : Int} {o : Option Rs}, swt go x dd lo ts = o → (∃ t : Nat, ts[(x - lo).toNat]? = some t ∧ lo ≤ x ∧ x < lo + ts.length ∧ go t = o) ∨ ((x < lo ∨ lo + ts.length ≤ x) ∧ go dd = o)
  | [], lo, o, h => Or.inr ⟨by simp; omega, h⟩
  | t :: ts, lo, o, h => by
    by_cases e : x = lo
    · rw [swt, if_pos e] at h
      refine Or.inl ⟨t, ?_, by omega, by simp; omega, h⟩
      rw [e, Int.sub_self]
      rfl
    · rw [swt, if_neg e] at h
      rcases swt_spec h with ⟨t', h1, h2, h3, h4⟩ | ⟨h1, h2⟩
      · refine Or.inl ⟨t', ?_, by omega, by simp; omega, h4⟩
        rw [show (x - lo).toNat = (x - (lo + 1)).toNat + 1 by omega]
        exact h1
      · refine Or.inr ⟨?_, h2⟩
        simp only [List.length_cons]
        omega
theorem s_swIn (X : CX p R s m args c cc own nL d L base dC dI dA cv adV xs) {x dflt lo hi : Int} {offs : Array Int} {len t : Nat} {ts : List Nat} (hd : decode cc pc = .ok (.tableswitch dflt lo hi offs, len)) (hhi : hi = lo + offs.size - 1) (hts : offs.toList.map (fun o => (pc : Int) + o) = ts.map (fun t : Nat => (t : Int))) (h1 : ts[(x - lo).toNat]? = some t) (h2 : lo ≤ x) (h3 : x < lo + ts.length) (hk : WW p l e R s m args below meth c Q nL n0 m0 L base Ls dC dI dA cv xs t ls r S M) : WW p l e R s m args below meth c Q nL n0 m0 L base Ls dC dI dA cv xs pc ls (vI x :: r) S M := by
  intro H locs lsC o1 o2 o3 o4 o5 o6 hA hS hR
  obtain ⟨⟨q1, -⟩, q2⟩ := OKs.cons.mp o4
  have hlen : offs.size = ts.length := by have := congrArg List.length hts; simpa using this
  have h4 : (offs.toList.map (fun o => (pc : Int) + o))[(x - lo).toNat]? = some (t : Int) := by rw [hts, List.getElem?_map, h1]; rfl
  rw [List.getElem?_map, Array.getElem?_toList] at h4
  have hx : (Int32.ofInt x).toInt = x := toInt_i q1
  cases ho : offs[(x - lo).toNat]? with
  | none => rw [ho] at h4; cases h4
  | some off =>
    rw [ho] at h4
    refine lv_tableIn X.1.1 X.1.2.1 hd (by rw [hx]; omega) (by rw [hx]; omega) (by rw [hx]; exact ho) (Option.some.inj h4) (hk H locs lsC o1 o2 o3 q2 o5 o6 hA hS hR)
theorem s_swOut (X : CX p R s m args c cc own nL d L base dC dI dA cv adV xs) {x dflt lo hi : Int} {offs : Array Int} {len t : Nat} {ts : List Nat} (hd : decode cc pc = .ok (.tableswitch dflt lo hi offs, len)) (hhi : hi = lo + offs.size - 1) (hts : offs.toList.map (fun o => (pc : Int) + o) = ts.map (fun t : Nat => (t : Int))) (ht : (pc : Int) + dflt = (t : Int)) (h1 : x < lo ∨ lo + ts.length ≤ x) (hk : WW p l e R s m args below meth c Q nL n0 m0 L base Ls dC dI dA cv xs t ls r S M) : WW p l e R s m args below meth c Q nL n0 m0 L base Ls dC dI dA cv xs pc ls (vI x :: r) S M := by
  intro H locs lsC o1 o2 o3 o4 o5 o6 hA hS hR
  obtain ⟨⟨q1, -⟩, q2⟩ := OKs.cons.mp o4
  have hlen : offs.size = ts.length := by have := congrArg List.length hts; simpa using this
  have hx : (Int32.ofInt x).toInt = x := toInt_i q1
  exact lv_tableOut X.1.1 X.1.2.1 hd (by rw [hx]; omega) ht (hk H locs lsC o1 o2 o3 q2 o5 o6 hA hS hR)
theorem s_obj (X : CX p R s m args c cc own nL d L base dC dI dA cv adV xs) {q : Nat × Int × Nat} {idx : Nat} (hd : decode cc pc = .ok (.invokespecial idx, 3)) (hw : Jvm.Cond.methodLink own idx objectInit ∈ lw_tbl) (hw2 : Jvm.Cond.instanceMethod objectInit ∈ lw_tbl) (hw3 : Jvm.Cond.code objectInit ⟨#[0xb1]⟩ 1 none ∈ lw_tbl) (h8 : Nat.ble (wds r) 8 = true) (hk : WW p l e R s m args below meth c Q nL n0 m0 L base Ls dC dI dA cv xs (pc + 3) ls r S M) : WW p l e R s m args below meth c Q nL n0 m0 L base Ls dC dI dA cv xs pc ls (.inr (.inr (.inl q)) :: r) S M := by
  intro H locs lsC o1 o2 o3 o4 o5 o6 hA hS hR
  obtain ⟨-, q2⟩ := OKs.cons.mp o4
  have h8 : wds r ≤ 8 := Nat.le_of_ble_eq_true h8
  have hl : lsC.size = c.maxLocals := by rw [hR.1, o3.2.1, X.1.2.2.1]
  have hf : 6 + d ≤ R.frames := X.2.2.2.2.2.1
  have hlo : 200 + 40 * d ≤ R.locals := X.2.2.2.2.2.2
  refine W.objInit X.1.1 X.1.2.1 X.1.2.2.2.1 (X.1.2.2.2.2 _ hw rfl) (X.1.2.2.2.2 _ hw2 rfl) (X.1.2.2.2.2 _ hw3 rfl) rfl hl rfl hd (by omega) ?_ (hk H locs lsC o1 o2 o3 q2 o5 o6 hA hS hR)
  show 2 * 0 + ((r.map (cV cv)).map fun v => v.category).sum + 12 ≤ R.locals
  rw [wds_le q2]
  omega
theorem s_mmax (X : CX p R s m args c cc own nL d L base dC dI dA cv adV xs) {x y : Int} {idx : Nat} (hd : decode cc pc = .ok (.invokestatic idx, 3)) (hw : Jvm.Cond.methodLink own idx Lib.Math.max.name ∈ lw_tbl) (hw1 : Jvm.Cond.static Lib.Math.max.name ∈ lw_tbl) (hw2 : Jvm.Cond.initialized "java/lang/Math" ∈ lw_tbl) (hw3 : Jvm.Cond.code Lib.Math.max.name Lib.Math.max.code 2 (some .int) ∈ lw_tbl) (h8 : Nat.ble (wds r) 8 = true) (hrc : S.length ≤ R.cells + n0) (hrs : slO S ≤ R.slots + m0) (hk : WW p l e R s m args below meth c Q nL n0 m0 L base Ls dC dI dA cv xs (pc + 3) ls (vI (max x y) :: r) S M) : WW p l e R s m args below meth c Q nL n0 m0 L base Ls dC dI dA cv xs pc ls (vI y :: vI x :: r) S M := by
  intro H locs lsC o1 o2 o3 o4 o5 o6 hA hS hR
  obtain ⟨⟨q1, -⟩, q2⟩ := OKs.cons.mp o4
  obtain ⟨⟨q3, -⟩, q4⟩ := OKs.cons.mp q2
  have q1 : i32 y := q1
  have q3 : i32 x := q3
  have h8 : wds r ≤ 8 := Nat.le_of_ble_eq_true h8
  have hf : 6 + d ≤ R.frames := X.2.2.2.2.2.1
  have hlo : 200 + 40 * d ≤ R.locals := X.2.2.2.2.2.2
  have hi : i32 (max x y) := by unfold i32 at *; omega
  refine va_mmax X.1.1 X.1.2.1 (by rw [X.1.2.2.1, hR.1, o3.2.1]) X.1.2.2.2.1 (X.1.2.2.2.2 _ hw rfl) (X.1.2.2.2.2 _ hw1 rfl) (X.1.2.2.2.2 _ hw2 rfl) (X.1.2.2.2.2 _ hw3 rfl) (by omega) (by rw [wds_le q4]; omega) (by omega) (by omega) hd ?_
  have e : (if Int32.ofInt x < Int32.ofInt y then Int32.ofInt y else Int32.ofInt x) = Int32.ofInt (max x y) := by
    by_cases h : Int32.ofInt x < Int32.ofInt y
    · rw [if_pos h]
      rw [o_lt q3 q1] at h
      congr 1
      omega
    · rw [if_neg h]
      rw [o_lt q3 q1] at h
      congr 1
      omega
  rw [e]
  exact hk H locs lsC o1 o2 o3 (OKs.cons.mpr ⟨⟨hi, nofun⟩, q4⟩) o5 o6 hA hS hR
theorem s_mmin (X : CX p R s m args c cc own nL d L base dC dI dA cv adV xs) {x y : Int} {idx : Nat} (hd : decode cc pc = .ok (.invokestatic idx, 3)) (hw : Jvm.Cond.methodLink own idx Lib.Math.min.name ∈ lw_tbl) (hw1 : Jvm.Cond.static Lib.Math.min.name ∈ lw_tbl) (hw2 : Jvm.Cond.initialized "java/lang/Math" ∈ lw_tbl) (hw3 : Jvm.Cond.code Lib.Math.min.name Lib.Math.min.code 2 (some .int) ∈ lw_tbl) (h8 : Nat.ble (wds r) 8 = true) (hrc : S.length ≤ R.cells + n0) (hrs : slO S ≤ R.slots + m0) (hk : WW p l e R s m args below meth c Q nL n0 m0 L base Ls dC dI dA cv xs (pc + 3) ls (vI (min x y) :: r) S M) : WW p l e R s m args below meth c Q nL n0 m0 L base Ls dC dI dA cv xs pc ls (vI y :: vI x :: r) S M := by
  intro H locs lsC o1 o2 o3 o4 o5 o6 hA hS hR
  obtain ⟨⟨q1, -⟩, q2⟩ := OKs.cons.mp o4
  obtain ⟨⟨q3, -⟩, q4⟩ := OKs.cons.mp q2
  have q1 : i32 y := q1
  have q3 : i32 x := q3
  have h8 : wds r ≤ 8 := Nat.le_of_ble_eq_true h8
  have hf : 6 + d ≤ R.frames := X.2.2.2.2.2.1
  have hlo : 200 + 40 * d ≤ R.locals := X.2.2.2.2.2.2
  have hi : i32 (min x y) := by unfold i32 at *; omega
  refine va_mmin X.1.1 X.1.2.1 (by rw [X.1.2.2.1, hR.1, o3.2.1]) X.1.2.2.2.1 (X.1.2.2.2.2 _ hw rfl) (X.1.2.2.2.2 _ hw1 rfl) (X.1.2.2.2.2 _ hw2 rfl) (X.1.2.2.2.2 _ hw3 rfl) (by omega) (by rw [wds_le q4]; omega) (by omega) (by omega) hd ?_
  have e : (if Int32.ofInt y < Int32.ofInt x then Int32.ofInt y else Int32.ofInt x) = Int32.ofInt (min x y) := by
    by_cases h : Int32.ofInt y < Int32.ofInt x
    · rw [if_pos h]
      rw [o_lt q1 q3] at h
      congr 1
      omega
    · rw [if_neg h]
      rw [o_lt q1 q3] at h
      congr 1
      omega
  rw [e]
  exact hk H locs lsC o1 o2 o3 (OKs.cons.mpr ⟨⟨hi, nofun⟩, q4⟩) o5 o6 hA hS hR
end SND

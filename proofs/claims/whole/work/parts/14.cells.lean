/-! THE MACHINE IS SOUND: fields, arrays, new cells -/
noncomputable def okF (t : Nat) : Bool := (List.range (nF t)).all fun k => decide (parseFieldDescriptor (TT t k).2.2.1 = some ((fY.getD t []).getD k .int)) && (match nthN (fK.getD t []) k with
  | 0 => decide ((fY.getD t []).getD k .int = .int)
  | 1 => decide ((fY.getD t []).getD k .int = .long)
  | 3 => decide ((fY.getD t []).getD k .int = .boolean)
  | 2 => ((fY.getD t []).getD k .int).isReference
  | _ => false) && (List.range (nF t)).all fun j => decide (j = k) || decide ((TT t j).2.1 ≠ (TT t k).2.1)
theorem okF_all : (List.range 13).all okF = true := by decide +kernel
def fyT (t k : Nat) : FieldType := (fY.getD t []).getD k .int
theorem fy_parse {t k : Nat} (ht : t < 13) (hk : k < nF t) : parseFieldDescriptor (TT t k).2.2.1 = some (fyT t k) := by
  have h := List.all_eq_true.mp (List.all_eq_true.mp okF_all t (List.mem_range.mpr ht)) k (List.mem_range.mpr hk)
  simp only [Bool.and_eq_true, decide_eq_true_eq] at h
  exact h.1.1
theorem fy_name {t j k : Nat} (ht : t < 13) (hj : j < nF t) (hk : k < nF t) (hne : j ≠ k) : (TT t j).2.1 ≠ (TT t k).2.1 := by
  have h := List.all_eq_true.mp (List.all_eq_true.mp okF_all t (List.mem_range.mpr ht)) k (List.mem_range.mpr hk)
  simp only [Bool.and_eq_true, decide_eq_true_eq] at h
  have h2 := List.all_eq_true.mp h.2 j (List.mem_range.mpr hj)
  simp only [Bool.or_eq_true, decide_eq_true_eq] at h2
  exact h2.resolve_left hne
theorem fy_kind {t k : Nat} (ht : t < 13) (hk : k < nF t) : (nthN (fK.getD t []) k = 0 ∧ fyT t k = .int) ∨ (nthN (fK.getD t []) k = 1 ∧ fyT t k = .long) ∨ (nthN (fK.getD t []) k = 3 ∧ fyT t k = .boolean) ∨ (nthN (fK.getD t []) k = 2 ∧ (fyT t k).isReference = true) := by
  have h := List.all_eq_true.mp (List.all_eq_true.mp okF_all t (List.mem_range.mpr ht)) k (List.mem_range.mpr hk)
  simp only [Bool.and_eq_true, decide_eq_true_eq] at h
  have h1 := h.1.2
  split at h1
  · next e => exact Or.inl ⟨e, of_decide_eq_true h1⟩
  · next e => exact Or.inr (Or.inl ⟨e, of_decide_eq_true h1⟩)
  · next e => exact Or.inr (Or.inr (Or.inl ⟨e, of_decide_eq_true h1⟩))
  · next e => exact Or.inr (Or.inr (Or.inr ⟨e, h1⟩))
  · cases h1
theorem cl_at : ∀ {t : Nat}, t < 13 → clT[t]? = some (clN.getD t "", TT t, nF t)
  | 0, _ => rfl
  | 1, _ => rfl
  | 2, _ => rfl
  | 3, _ => rfl
  | 4, _ => rfl
  | 5, _ => rfl
  | 6, _ => rfl
  | 7, _ => rfl
  | 8, _ => rfl
  | 9, _ => rfl
  | 10, _ => rfl
  | 11, _ => rfl
  | 12, _ => rfl
  | t + 13, h => absurd h (by omega)
theorem cl_words {t : Nat} (ht : t < 13) : (∀ w ∈ u_ws (clN.getD t "") (TT t) (nF t), w ∈ lw_tbl ∧ goodWord w = true) ∧ Jvm.Cond.instantiable (clN.getD t "") (nF t) ∈ lw_tbl ∧ Jvm.Cond.initialized (clN.getD t "") ∈ lw_tbl := by
  have h := List.all_eq_true.mp okC_all t (List.mem_range.mpr ht)
  unfold okC at h
  simp only [Bool.and_eq_true] at h
  refine ⟨fun w hw => ?_, wAt_mem h.1.2, wAt_mem h.2⟩
  unfold u_ws at hw
  obtain ⟨k, hk, rfl⟩ := List.mem_map.mp hw
  refine ⟨wAt_mem (List.all_eq_true.mp h.1.1 k hk), ?_⟩
  unfold u_lay
  split <;> rfl
theorem ck_obj {t k : Nat} (ht : t < 13) : ck t k = nthN (fK.getD t []) k := if_pos ht
theorem enE_obj (cv : Nat → Nat) (dA : Nat → ClassId) {t m : Nat} {rf : List (Option Nat)} (ht : t < 13) (f : Nat → Int) : enE cv dA (t, m, rf) f = .inr (t, (List.range (nF t)).map (sv cv t rf f)) := if_pos ht
theorem up_ne (M : Mm) (a k : Nat) (v : Int) (b : Nat) (h : b ≠ a) : up M a k v b = M b := by
  funext j
  unfold up
  rw [if_neg (fun q => h q.1)]
theorem up_at (M : Mm) (a k : Nat) (v : Int) (j : Nat) : up M a k v a j = if j = k then v else M a j := by
  unfold up
  by_cases h : j = k
  · rw [if_pos ⟨rfl, h⟩, if_pos h]
  · rw [if_neg (fun q => h q.2), if_neg h]
theorem okS.ge3 {L : Nat} {S : Sp} (h : okS L S) {a t m : Nat} {rf : List (Option Nat)} (hm : S[a]? = some (t, m, rf)) (h1 : t ≠ 29) (h2 : t ≠ 13) : 3 ≤ a := by
  rcases a with _ | _ | _ | a
  · rw [h.1] at hm; cases hm; exact absurd rfl h1
  · rw [h.2.1] at hm; cases hm; exact absurd rfl h2
  · rw [h.2.2.1] at hm; cases hm; exact absurd rfl h2
  · omega
theorem okM.up {xs : Nat → Int} {S : Sp} {M : Mm} (h : okM xs S M) {a t m k : Nat} {rf : List (Option Nat)} {v : Int} (h3 : 3 ≤ a) (hm : S[a]? = some (t, m, rf)) (hv : okX (ck t k) v) : okM xs S (up M a k v) := by
  refine ⟨fun b t' m' rf' hb j => ?_, fun b hb j => ?_, fun j => ?_⟩
  · by_cases e : b = a
    · subst e
      rw [hm] at hb
      cases hb
      rw [up_at]
      split
      · next e2 => rw [e2]; exact hv
      · exact h.1 _ _ _ _ hm j
    · rw [up_ne M a k v b e]
      exact h.1 _ _ _ _ hb j
  · have hl := (List.getElem?_eq_some_iff.mp hm).1
    rw [up_ne M a k v b (by omega)]
    exact h.2.1 b hb j
  · rw [up_ne M a k v 0 (by omega)]
    exact h.2.2 j
theorem HP.upd {dC : Nat → ClassId} {dI : Nat → Nat → Nat} {dA : Nat → ClassId} {cv : Nat → Nat} {base : Nat} {S S' : Sp} {M M' : Mm} {H H1 : Heap} {a : Nat} {d d' : Ds} (hA : HP dC dI dA cv base S M H) (h3 : 3 ≤ a) (hm : S[a]? = some d) (hm' : S'[a]? = some d') (hl : S'.length = S.length) (hs : ∀ b, b ≠ a → S'[b]? = S[b]?) (hM : ∀ b, b ≠ a → M' b = M b) (z : H1.size = H.size) (oq : ∀ q : Nat, q ≠ base + (a - 3) → H1[q]? = H[q]?) (he : va_at (dC, dI) clT (base + (a - 3), enE cv dA d' (M' a)) H1) : HP dC dI dA cv base S' M' H1 :=
  ⟨by rw [← wsO_set h3 hm' hl hs hM]; exact hA.1.set (wsO_D cv dA base S M) (wsO_get h3 hm) he oq, by rw [z, hl]; exact hA.2⟩
section SND
variable {p : Program} {l : Launch} {e : Env} {R : Room} {s : State} {m : MethodId} {args : Array Value} {below : List Frame} {meth : Method} {c : Code} {Q : State → Prop}
variable {cc : ByteArray} {own : String} {nL d n0 m0 L base : Nat} {Ls : List Nat} {dC : Nat → ClassId} {dI : Nat → Nat → Nat} {dA : Nat → ClassId} {cv adV : Nat → Nat} {xs : Nat → Int}
variable {pc : Nat} {ls r : List AV} {S : Sp} {M : Mm}
theorem CX.lays (X : CX p R s m args c cc own nL d L base dC dI dA cv adV xs) {t : Nat} (ht : t < 13) : ∀ w ∈ u_ws (clN.getD t "") (TT t) (nF t), w.before args s = true := fun w hw => X.1.2.2.2.2 w ((cl_words ht).1 w hw).1 ((cl_words ht).1 w hw).2
theorem s_iaload (X : CX p R s m args c cc own nL d L base dC dI dA cv adV xs) {i n : Int} {a : Nat} (hd : decode cc pc = .ok (.iaload, 1)) (hi : 0 ≤ i ∧ i < n) (hk : WW p l e R s m args below meth c Q nL n0 m0 L base Ls dC dI dA cv xs (pc + 1) ls (vI (M a i.toNat) :: r) S M) : WW p l e R s m args below meth c Q nL n0 m0 L base Ls dC dI dA cv xs pc ls (vI i :: vR 20 n a :: r) S M := by
  intro H locs lsC o1 o2 o3 o4 o5 o6 hA hS hR
  obtain ⟨⟨q1, -⟩, q2⟩ := OKs.cons.mp o4
  obtain ⟨⟨⟨mm, rf, hm, hn⟩, -⟩, q4⟩ := OKs.cons.mp q2
  have hn : n = (mm : Int) := hn
  have hm : S[a]? = some (20, mm, rf) := hm
  have h3 := o1.ge3 hm (by decide) (by decide)
  have hw : (wsO cv dA base S M)[a - 3]? = some (cv a, .inl (dA 20, mm, .inl fun j => Int32.ofInt (M a j))) := by rw [X.2.2.2.1 a h3]; exact wsO_get h3 hm
  have hh : 0 ≤ i ∧ i < (mm : Int) := by rw [← hn]; exact hi
  refine va_iald X.1.1 X.1.2.1 X.2.1 hA.1 (a - 3) 0 hw rfl (o_in q1 hh) hd ?_
  rw [o_cl q1]
  exact hk H locs lsC o1 o2 o3 (OKs.cons.mpr ⟨⟨o2.1 _ _ _ _ hm i.toNat, nofun⟩, q4⟩) o5 o6 hA hS hR
theorem s_baload (X : CX p R s m args c cc own nL d L base dC dI dA cv adV xs) {i n : Int} {a : Nat} (hd : decode cc pc = .ok (.baload, 1)) (hi : 0 ≤ i ∧ i < n) (hk : WW p l e R s m args below meth c Q nL n0 m0 L base Ls dC dI dA cv xs (pc + 1) ls (vI (M a i.toNat) :: r) S M) : WW p l e R s m args below meth c Q nL n0 m0 L base Ls dC dI dA cv xs pc ls (vI i :: vR 22 n a :: r) S M := by
  intro H locs lsC o1 o2 o3 o4 o5 o6 hA hS hR
  obtain ⟨⟨q1, -⟩, q2⟩ := OKs.cons.mp o4
  obtain ⟨⟨⟨mm, rf, hm, hn⟩, -⟩, q4⟩ := OKs.cons.mp q2
  have hn : n = (mm : Int) := hn
  have hm : S[a]? = some (22, mm, rf) := hm
  have h3 := o1.ge3 hm (by decide) (by decide)
  have hw : (wsO cv dA base S M)[a - 3]? = some (cv a, .inl (dA 22, mm, .inl fun j => Int32.ofInt (M a j))) := by rw [X.2.2.2.1 a h3]; exact wsO_get h3 hm
  have hh : 0 ≤ i ∧ i < (mm : Int) := by rw [← hn]; exact hi
  refine va_bald X.1.1 X.1.2.1 X.2.1 hA.1 (a - 3) 2 hw rfl (o_in q1 hh) hd ?_
  rw [o_cl q1]
  exact hk H locs lsC o1 o2 o3 (OKs.cons.mpr ⟨⟨by have hb : -128 ≤ M a i.toNat ∧ M a i.toNat < 128 := o2.1 _ _ _ _ hm i.toNat; show i32 _; unfold i32; omega, nofun⟩, q4⟩) o5 o6 hA hS hR
theorem s_laload (X : CX p R s m args c cc own nL d L base dC dI dA cv adV xs) {i n : Int} {a : Nat} (hd : decode cc pc = .ok (.laload, 1)) (hi : 0 ≤ i ∧ i < n) (hk : WW p l e R s m args below meth c Q nL n0 m0 L base Ls dC dI dA cv xs (pc + 1) ls (vL (M a i.toNat) :: r) S M) : WW p l e R s m args below meth c Q nL n0 m0 L base Ls dC dI dA cv xs pc ls (vI i :: vR 21 n a :: r) S M := by
  intro H locs lsC o1 o2 o3 o4 o5 o6 hA hS hR
  obtain ⟨⟨q1, -⟩, q2⟩ := OKs.cons.mp o4
  obtain ⟨⟨⟨mm, rf, hm, hn⟩, -⟩, q4⟩ := OKs.cons.mp q2
  have hn : n = (mm : Int) := hn
  have hm : S[a]? = some (21, mm, rf) := hm
  have h3 := o1.ge3 hm (by decide) (by decide)
  have hw : (wsO cv dA base S M)[a - 3]? = some (cv a, .inl (dA 21, mm, .inr (.inl fun j => Int64.ofInt (M a j)))) := by rw [X.2.2.2.1 a h3]; exact wsO_get h3 hm
  have hh : 0 ≤ i ∧ i < (mm : Int) := by rw [← hn]; exact hi
  refine va_lald X.1.1 X.1.2.1 X.2.1 hA.1 (a - 3) 1 hw rfl (o_in q1 hh) hd ?_
  rw [o_cl q1]
  exact hk H locs lsC o1 o2 o3 (OKs.cons.mpr ⟨⟨o2.1 _ _ _ _ hm i.toNat, nofun⟩, q4⟩) o5 o6 hA hS hR
theorem s_scr (X : CX p R s m args c cc own nL d L base dC dI dA cv adV xs) {i n : Int} {a : Nat} (hd : decode cc pc = .ok (.iaload, 1)) (hi : 0 ≤ i ∧ i < n) (hk : WW p l e R s m args below meth c Q nL n0 m0 L base Ls dC dI dA cv xs (pc + 1) ls (vI (M a i.toNat) :: r) S M) : WW p l e R s m args below meth c Q nL n0 m0 L base Ls dC dI dA cv xs pc ls (vI i :: vR 29 n a :: r) S M := by
  intro H locs lsC o1 o2 o3 o4 o5 o6 hA hS hR
  obtain ⟨⟨q1, -⟩, q2⟩ := OKs.cons.mp o4
  obtain ⟨⟨⟨mm, rf, hm, hn⟩, -⟩, q4⟩ := OKs.cons.mp q2
  have hn : n = (mm : Int) := hn
  have hm : S[a]? = some (29, mm, rf) := hm
  have ha : a = 0 := by
    rcases a with _ | _ | _ | a
    · rfl
    · rw [o1.2.1] at hm; cases hm
    · rw [o1.2.2.1] at hm; cases hm
    · rcases (o1.2.2.2.2 (a + 1 + 1 + 1) _ _ _ (by omega) hm).1 with h | h | h <;> omega
  subst ha
  rw [o1.1] at hm
  cases hm
  have hh : 0 ≤ i ∧ i < (L : Int) := by rw [← hn]; exact hi
  have hlt : i.toNat < L := by omega
  obtain ⟨cell, g1, g2, g3, g4, -, g5, -⟩ := X.2.2.1.1.kept (H1 := H) hS.2.1
  have hv : cell.slots[i.toNat]? = some (.int (Int32.ofInt (xs i.toNat))) := g5 i.toNat hlt
  rw [← o2.2.2] at hv
  exact W.iald (v := .int (Int32.ofInt (M 0 i.toNat))) X.1.1 X.1.2.1 g1 g2 g3 (fun q => by
    rcases q with q | q
    · rw [o_lt0 q1] at q; omega
    · rw [o_cl q1] at q; omega) (by rw [o_cl q1]; exact hv) rfl rfl hd (hk H locs lsC o1 o2 o3 (OKs.cons.mpr ⟨⟨o2.1 _ _ _ _ o1.1 i.toNat, nofun⟩, q4⟩) o5 o6 hA hS hR)
theorem s_alen (X : CX p R s m args c cc own nL d L base dC dI dA cv adV xs) {n : Int} {t a : Nat} (hd : decode cc pc = .ok (.arraylength, 1)) (ht : Nat.blt 19 t = true) (hk : WW p l e R s m args below meth c Q nL n0 m0 L base Ls dC dI dA cv xs (pc + 1) ls (vI n :: r) S M) : WW p l e R s m args below meth c Q nL n0 m0 L base Ls dC dI dA cv xs pc ls (vR t n a :: r) S M := by
  intro H locs lsC o1 o2 o3 o4 o5 o6 hA hS hR
  obtain ⟨⟨⟨mm, rf, hm, hn⟩, -⟩, q4⟩ := OKs.cons.mp o4
  have hn : n = (mm : Int) := hn
  have hm : S[a]? = some (t, mm, rf) := hm
  have ht : 19 < t := by simpa using ht
  subst hn
  have hi : i32 (mm : Int) := by
    rcases Nat.lt_or_ge a 3 with h | h
    · rcases a with _ | _ | _ | a
      · rw [o1.1] at hm; cases hm; exact sub_tn o1.2.2.2.1
      · rw [o1.2.1] at hm; cases hm; exact absurd ht (by decide)
      · rw [o1.2.2.1] at hm; cases hm; exact absurd ht (by decide)
      · omega
    · have := (o1.2.2.2.2 _ _ _ _ h hm).2.1
      exact sub_tn (by omega)
  have kk := hk H locs lsC o1 o2 o3 (OKs.cons.mpr ⟨⟨hi, nofun⟩, q4⟩) o5 o6 hA hS hR
  have kk : W p l e R s m args below meth c H locs (S.length - n0) (slO S - m0) Q (F0 m (pc + 1) lsC (.int (Int32.ofNat mm) :: r.map (cV cv))) := kk
  by_cases h : t = 29
  · subst h
    have ha : a = 0 := by
      rcases a with _ | _ | _ | a
      · rfl
      · rw [o1.2.1] at hm; cases hm
      · rw [o1.2.2.1] at hm; cases hm
      · rcases (o1.2.2.2.2 (a + 1 + 1 + 1) _ _ _ (by omega) hm).1 with h | h | h <;> omega
    subst ha
    rw [o1.1] at hm
    cases hm
    obtain ⟨cell, g1, g2, g3, g4, g6, g5, -⟩ := X.2.2.1.1.kept (H1 := H) hS.2.1
    exact W.alen (n := Int32.ofNat L) X.1.1 X.1.2.1 g1 g2 g6 rfl rfl hd kk
  · have h3 := o1.ge3 hm h (by omega)
    have hw := wsO_get (cv := cv) (dA := dA) (base := base) (M := M) h3 hm
    have hA0 := hA.1 (a - 3) _ hw
    rw [← X.2.2.2.1 a h3] at hA0
    unfold enE at hA0
    rw [if_neg (show ¬ (t, mm, rf).1 < 13 from Nat.not_lt.mpr (by show 13 ≤ t; omega))] at hA0
    have h28 : t ≤ 28 := by rcases (o1.2.2.2.2 _ _ _ _ h3 hm).1 with h | h | h <;> omega
    have hcase : t = 20 ∨ t = 21 ∨ t = 22 ∨ t = 23 ∨ t = 24 ∨ t = 25 ∨ t = 26 ∨ t = 27 ∨ t = 28 := by omega
    have key : ∀ (k : Nat) (q : ClassId × FieldType) (z : Nat → Value), (tysT dA)[k]? = some q → H[cv a]? = some (arrV q.1 mm z) → W p l e R s m args below meth c H locs (S.length - n0) (slO S - m0) Q (F0 m pc lsC (.ref (cv a) :: r.map (cV cv))) := fun k q z hq hc =>
      W.alen (n := Int32.ofNat mm) X.1.1 X.1.2.1 hc ((X.2.1.2 k q hq).1 mm z) (by rw [arrV_size]) rfl rfl hd kk
    rcases hcase with rfl | rfl | rfl | rfl | rfl | rfl | rfl | rfl | rfl
    · exact key 0 (dA 20, .int) (fun j => .int (Int32.ofInt (M a j))) rfl hA0
    · exact key 1 (dA 21, .long) (fun j => .long (Int64.ofInt (M a j))) rfl hA0
    · exact key 2 (dA 22, .byte) (fun j => .int (Int32.ofInt (M a j))) rfl hA0
    · exact key 3 (dA 23, .object "CargoFlag$State") (fun j => va_rf ((rf.getD j none).map cv)) rfl hA0
    · exact key 4 (dA 24, .object "CargoFlag$Vessel") (fun j => va_rf ((rf.getD j none).map cv)) rfl hA0
    · exact key 5 (dA 25, .array .long) (fun j => va_rf ((rf.getD j none).map cv)) rfl hA0
    · exact key 5 (dA 25, .array .long) (fun j => va_rf ((rf.getD j none).map cv)) rfl hA0
    · exact key 6 (dA 27, .array .int) (fun j => va_rf ((rf.getD j none).map cv)) rfl hA0
    · exact key 6 (dA 27, .array .int) (fun j => va_rf ((rf.getD j none).map cv)) rfl hA0
theorem s_iastore (X : CX p R s m args c cc own nL d L base dC dI dA cv adV xs) {i n x : Int} {a : Nat} (hd : decode cc pc = .ok (.iastore, 1)) (hi : 0 ≤ i ∧ i < n) (hk : WW p l e R s m args below meth c Q nL n0 m0 L base Ls dC dI dA cv xs (pc + 1) ls r S (up M a i.toNat (x))) : WW p l e R s m args below meth c Q nL n0 m0 L base Ls dC dI dA cv xs pc ls (vI x :: vI i :: vR 20 n a :: r) S M := by
  intro H locs lsC o1 o2 o3 o4 o5 o6 hA hS hR
  obtain ⟨⟨q5, -⟩, q6⟩ := OKs.cons.mp o4
  obtain ⟨⟨q1, -⟩, q2⟩ := OKs.cons.mp q6
  obtain ⟨⟨⟨mm, rf, hm, hn⟩, -⟩, q4⟩ := OKs.cons.mp q2
  have hn : n = (mm : Int) := hn
  have hm : S[a]? = some (20, mm, rf) := hm
  have h3 := o1.ge3 hm (by decide) (by decide)
  have hc := X.2.2.2.1 a h3
  have hA0 : H[cv a]? = some (arrV (dA 20) mm (fun j => .int (Int32.ofInt (M a j)))) := by rw [hc]; exact hA.1 (a - 3) _ (wsO_get h3 hm)
  have hh : 0 ≤ i ∧ i < (mm : Int) := by rw [← hn]; exact hi
  refine W.iast X.1.1 X.1.2.1 hA0 ((X.2.1.2 0 _ rfl).1 mm _) (fun q => by cases q) (by rw [arrV_size]; exact o_in q1 hh) rfl rfl hd fun H1 he z oq => ?_
  refine hk H1 _ lsC o1 (o2.up h3 hm (q5)) o3 q4 o5 o6 (hA.upd h3 hm hm rfl (fun _ _ => rfl) (up_ne M a _ _) z (by rw [← hc]; exact oq) ?_) (hS.put z oq (by show base ≤ cv a; omega)) hR
  show H1[base + (a - 3)]? = some (arrV (dA 20) mm (fun j => .int (Int32.ofInt (up M a i.toNat (x) a j))))
  rw [← hc, he, arrV_store]
  congr 2
  funext j
  rw [o_cl q1, up_at]
  unfold updV
  split
  · rfl
  · rfl
theorem s_lastore (X : CX p R s m args c cc own nL d L base dC dI dA cv adV xs) {i n x : Int} {a : Nat} (hd : decode cc pc = .ok (.lastore, 1)) (hi : 0 ≤ i ∧ i < n) (hk : WW p l e R s m args below meth c Q nL n0 m0 L base Ls dC dI dA cv xs (pc + 1) ls r S (up M a i.toNat (x))) : WW p l e R s m args below meth c Q nL n0 m0 L base Ls dC dI dA cv xs pc ls (vL x :: vI i :: vR 21 n a :: r) S M := by
  intro H locs lsC o1 o2 o3 o4 o5 o6 hA hS hR
  obtain ⟨⟨q5, -⟩, q6⟩ := OKs.cons.mp o4
  obtain ⟨⟨q1, -⟩, q2⟩ := OKs.cons.mp q6
  obtain ⟨⟨⟨mm, rf, hm, hn⟩, -⟩, q4⟩ := OKs.cons.mp q2
  have hn : n = (mm : Int) := hn
  have hm : S[a]? = some (21, mm, rf) := hm
  have h3 := o1.ge3 hm (by decide) (by decide)
  have hc := X.2.2.2.1 a h3
  have hA0 : H[cv a]? = some (arrV (dA 21) mm (fun j => .long (Int64.ofInt (M a j)))) := by rw [hc]; exact hA.1 (a - 3) _ (wsO_get h3 hm)
  have hh : 0 ≤ i ∧ i < (mm : Int) := by rw [← hn]; exact hi
  refine W.last X.1.1 X.1.2.1 hA0 ((X.2.1.2 1 _ rfl).1 mm _) (fun q => by cases q) (by rw [arrV_size]; exact o_in q1 hh) rfl rfl hd fun H1 he z oq => ?_
  refine hk H1 _ lsC o1 (o2.up h3 hm (q5)) o3 q4 o5 o6 (hA.upd h3 hm hm rfl (fun _ _ => rfl) (up_ne M a _ _) z (by rw [← hc]; exact oq) ?_) (hS.put z oq (by show base ≤ cv a; omega)) hR
  show H1[base + (a - 3)]? = some (arrV (dA 21) mm (fun j => .long (Int64.ofInt (up M a i.toNat (x) a j))))
  rw [← hc, he, arrV_store]
  congr 2
  funext j
  rw [o_cl q1, up_at]
  unfold updV
  split
  · rfl
  · rfl
theorem s_bastore (X : CX p R s m args c cc own nL d L base dC dI dA cv adV xs) {i n x : Int} {a : Nat} (hd : decode cc pc = .ok (.bastore, 1)) (hi : 0 ≤ i ∧ i < n) (hk : WW p l e R s m args below meth c Q nL n0 m0 L base Ls dC dI dA cv xs (pc + 1) ls r S (up M a i.toNat (w8 x))) : WW p l e R s m args below meth c Q nL n0 m0 L base Ls dC dI dA cv xs pc ls (vI x :: vI i :: vR 22 n a :: r) S M := by
  intro H locs lsC o1 o2 o3 o4 o5 o6 hA hS hR
  obtain ⟨⟨q5, -⟩, q6⟩ := OKs.cons.mp o4
  obtain ⟨⟨q1, -⟩, q2⟩ := OKs.cons.mp q6
  obtain ⟨⟨⟨mm, rf, hm, hn⟩, -⟩, q4⟩ := OKs.cons.mp q2
  have hn : n = (mm : Int) := hn
  have hm : S[a]? = some (22, mm, rf) := hm
  have h3 := o1.ge3 hm (by decide) (by decide)
  have hc := X.2.2.2.1 a h3
  have hA0 : H[cv a]? = some (arrV (dA 22) mm (fun j => .int (Int32.ofInt (M a j)))) := by rw [hc]; exact hA.1 (a - 3) _ (wsO_get h3 hm)
  have hh : 0 ≤ i ∧ i < (mm : Int) := by rw [← hn]; exact hi
  refine W.bast X.1.1 X.1.2.1 hA0 ((X.2.1.2 2 _ rfl).1 mm _) (fun q => by cases q) (by rw [arrV_size]; exact o_in q1 hh) rfl rfl hd fun H1 he z oq => ?_
  refine hk H1 _ lsC o1 (o2.up h3 hm (w8_b x)) o3 q4 o5 o6 (hA.upd h3 hm hm rfl (fun _ _ => rfl) (up_ne M a _ _) z (by rw [← hc]; exact oq) ?_) (hS.put z oq (by show base ≤ cv a; omega)) hR
  show H1[base + (a - 3)]? = some (arrV (dA 22) mm (fun j => .int (Int32.ofInt (up M a i.toNat (w8 x) a j))))
  rw [← hc, he, arrV_store]
  congr 2
  funext j
  rw [o_cl q1, up_at]
  unfold updV
  split
  · show narrow .byte (.int (Int32.ofInt x)) = _
    rw [← o_i2b q5]
    exact (congrArg Value.int (vp_nar_byte (Int32.ofInt x))).symm ▸ rfl
  · rfl
end SND

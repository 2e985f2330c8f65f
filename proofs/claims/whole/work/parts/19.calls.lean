/-! THE MACHINE IS SOUND: contracts, calls, returns -/
def lwG : List Jvm.Cond := lw_tbl.filter goodWord
theorem lwG_in {w : Jvm.Cond} (h : w ∈ lw_tbl) (hg : goodWord w = true) : w ∈ lwG := List.mem_filter.mpr ⟨h, hg⟩
theorem lwG_of {w : Jvm.Cond} (h : w ∈ lwG) : w ∈ lw_tbl ∧ goodWord w = true := List.mem_filter.mp h
def YY (U : State) : Prop := (∀ (o : String) (i : Nat) (y : MethodName) (h : String), Jvm.Cond.methodLinkNest o i y h ∈ lw_tbl → va_Nw (.methodLinkNest o i y h) U) ∧ va_AO "CargoFlag$State" U ∧ va_AO "CargoFlag$Vessel" U ∧ AOa .long U ∧ AOa .int U
theorem YY.warm {s U : State} (hW : s.WarmedH U.vm) (h : YY s) : YY U := ⟨fun o i y q hq => va_Nw.warmM hW (h.1 o i y q hq), va_AO.moved hW.alike h.2.1, va_AO.moved hW.alike h.2.2.1, AOa.moved hW.alike h.2.2.2.1, AOa.moved hW.alike h.2.2.2.2⟩
theorem XX.warm {cv adV : Nat → Nat} {base L : Nat} {xs : Nat → Int} {s U : State} {H : Heap} (hW : s.WarmedH U.vm) (h : XX cv adV base L xs s H) : XX cv adV base L xs U H := ⟨va_T.moved hW.alike h.1, vk_S.moved hW.alike h.2.1, vk_R.warm hW h.2.2.1, vk_R.warm hW h.2.2.2.1, va_Z.moved hW.alike h.2.2.2.2.1, va_Zq.moved hW.alike h.2.2.2.2.2⟩
theorem XX.kept {cv adV : Nat → Nat} {base L : Nat} {xs : Nat → Int} {U : State} {H H1 : Heap} (h : XX cv adV base L xs U H) (hq : ∀ a : Nat, a < H.size → ¬ base ≤ a → H1[a]? = H[a]?) : XX cv adV base L xs U H1 := ⟨va_T.kept h.1 hq, vk_S.kept h.2.1 hq, h.2.2.1, h.2.2.2.1, va_Z.kept h.2.2.2.2.1 hq, va_Zq.kept h.2.2.2.2.2 hq⟩
def GG (dC : Nat → ClassId) (dI : Nat → Nat → Nat) (dA : Nat → ClassId) (cv adV : Nat → Nat) (base L : Nat) (xs : Nat → Int) (S : Sp) (M : Mm) (U : State) : Prop := va_K (dC, dI) clT (tysT dA) U ∧ HP dC dI dA cv base S M U.heap ∧ XX cv adV base L xs U U.heap ∧ YY U ∧ base ≤ U.heap.size
def PcD (dC : Nat → ClassId) (dI : Nat → Nat → Nat) (dA : Nat → ClassId) (cv adV : Nat → Nat) (base L : Nat) (xs : Nat → Int) (a : List AV) (S : Sp) (M : Mm) : Array Value → State → Prop := fun v U => v = (a.map (cV cv)).toArray ∧ GG dC dI dA cv adV base L xs S M U
def QcD (dC : Nat → ClassId) (dI : Nat → Nat → Nat) (dA : Nat → ClassId) (cv adV : Nat → Nat) (base L : Nat) (xs : Nat → Int) (r : Option AV) (S0 S' : Sp) (M' : Mm) : Array Value → State → Outcome → State → Prop := fun _ st o t => o = .returned (r.map (cV cv)) ∧ GG dC dI dA cv adV base L xs S' M' t ∧ okS L S' ∧ okM xs S' M' ∧ Ext S0 S' ∧ (∀ v, r = some v → okV S' v ∧ v ≠ vU) ∧ st.heap.size ≤ t.heap.size ∧ ∀ q : Nat, q < base → t.heap[q]? = st.heap[q]?
def rmD (d mc ms : Nat) : Room := { frames := 6 + d, cells := mc, slots := ms, locals := 200 + 40 * d }
def Mt (dC : Nat → ClassId) (dI : Nat → Nat → Nat) (dA : Nat → ClassId) (cv adV : Nat → Nat) (base L : Nat) (xs : Nat → Int) (l : Launch) (d y : Nat) (a : List AV) (S : Sp) (M : Mm) (r : Option AV) (S' : Sp) (M' : Mm) : Prop :=
  Met l (yN.getD y y0) (Jvm.Cond.code (yN.getD y y0) (yB.getD y default) (nthN mxs y) (yR.getD y none) :: lwG) (rmD d (S'.length - S.length) (slO S' - slO S)) (PcD dC dI dA cv adV base L xs a S M) (QcD dC dI dA cv adV base L xs r S S' M') (S'.length - S.length) (slO S' - slO S) (fun q => base ≤ q)
theorem PcD.blind (dC : Nat → ClassId) (dI : Nat → Nat → Nat) (dA : Nat → ClassId) (cv adV : Nat → Nat) (base L : Nat) (xs : Nat → Int) (a : List AV) (S : Sp) (M : Mm) : FrameBlind (PcD dC dI dA cv adV base L xs a S M) := by
  intro v U g mk h
  obtain ⟨h1, h2, h3, h4, h5, h6⟩ := h
  have al : U.vm.Alike (U.calling g mk v).vm := Vm.Alike.refl U.vm
  exact ⟨h1, va_K.moved al h2, h3, ⟨va_T.moved al h4.1, vk_S.moved al h4.2.1, vk_R.same rfl h4.2.2.1, vk_R.same rfl h4.2.2.2.1, va_Z.moved al h4.2.2.2.2.1, va_Zq.moved al h4.2.2.2.2.2⟩, ⟨fun o i y q hq => va_Nw.same rfl rfl (h5.1 o i y q hq), va_AO.moved al h5.2.1, va_AO.moved al h5.2.2.1, AOa.moved al h5.2.2.2.1, AOa.moved al h5.2.2.2.2⟩, h6⟩
theorem takeR_eq : ∀ (n : Nat) (st acc : List AV), takeR n st acc = (st.take n).reverse ++ acc
  | 0, st, acc => by cases st <;> simp [takeR]
  | n + 1, [], acc => by simp [takeR]
  | n + 1, v :: t, acc => by simp [takeR, takeR_eq n t (v :: acc)]
theorem dropA_eq : ∀ (n : Nat) (st : List AV), dropA n st = st.drop n
  | 0, st => by cases st <;> rfl
  | n + 1, [] => rfl
  | n + 1, v :: t => dropA_eq n t
theorem lenA_eq : ∀ (st : List AV), lenA st = st.length
  | [] => rfl
  | _ :: t => congrArg (· + 1) (lenA_eq t)
theorem take_split (n : Nat) (st : List AV) : st = (takeR n st []).reverse ++ dropA n st := by
  rw [takeR_eq, dropA_eq, List.append_nil, List.reverse_reverse, List.take_append_drop]
theorem take_len {n : Nat} {st : List AV} (h : Nat.ble n (lenA st) = true) : (takeR n st []).length = n := by
  have h := Nat.le_of_ble_eq_true h
  rw [lenA_eq] at h
  rw [takeR_eq, List.append_nil, List.length_reverse, List.length_take]
  omega
theorem okI_of {y : Nat} (h : y < 404) : (if (yI.getD y yi0).1 then Jvm.Cond.static (yN.getD y y0) else .instanceMethod (yN.getD y y0)) ∈ lw_tbl ∧ ((yI.getD y yi0).1 = true ∨ (yN.getD y y0).name = "<init>" ∨ Jvm.Cond.selects (yN.getD y y0).cls (yN.getD y y0) (yN.getD y y0) ∈ lw_tbl) ∧ Jvm.Cond.initialized (yN.getD y y0).cls ∈ lw_tbl ∧ plainName (yN.getD y y0).cls = true ∧ (yN.getD y y0).cls ≠ "java/lang/invoke/MethodHandle" ∧ (yN.getD y y0).cls ≠ "java/lang/invoke/VarHandle" ∧ (parseMethodDescriptor (yN.getD y y0).desc).map (fun d => d.parameters.length) = some (yI.getD y yi0).2.1 ∧ nthN mxs y ≤ 20 ∧ ((yI.getD y yi0).2.2.1 = 99 ∨ ((yI.getD y yi0).2.2.1 < 13 ∧ clN.getD (yI.getD y yi0).2.2.1 "" = (yN.getD y y0).cls)) := by
  have hk := okI_all y h
  unfold okI at hk
  generalize yI.getD y yi0 = q at hk ⊢
  obtain ⟨st, np, tg, p1, p2, p3, p4⟩ := q
  generalize yN.getD y y0 = nm at hk ⊢
  simp only [Bool.and_eq_true, Bool.or_eq_true, decide_eq_true_eq, beq_iff_eq] at hk
  obtain ⟨⟨⟨⟨⟨⟨⟨⟨h1, h2⟩, h3⟩, h4⟩, h5⟩, h6⟩, h7⟩, h8⟩, h9⟩ := hk
  refine ⟨wAt_mem h1, ?_, wAt_mem h3, h4, h5, h6, h7, h8, h9⟩
  rcases h2 with (h2 | h2) | h2
  · exact Or.inl h2
  · exact Or.inr (Or.inl h2)
  · exact Or.inr (Or.inr (wAt_mem h2))
section SND
variable {p : Program} {l : Launch} {e : Env} {R : Room} {s : State} {m : MethodId} {args : Array Value} {below : List Frame} {meth : Method} {c : Code} {Q : State → Prop}
variable {cc : ByteArray} {own : String} {nL d n0 m0 L base : Nat} {Ls : List Nat} {dC : Nat → ClassId} {dI : Nat → Nat → Nat} {dA : Nat → ClassId} {cv adV : Nat → Nat} {xs : Nat → Int}
variable {pc : Nat} {ls r : List AV} {S : Sp} {M : Mm}
theorem callB_none {idx maxL mc ms n : Nat} {y : MethodName} {bytes : ByteArray} {z : Option FieldType} {ws : List Jvm.Cond} {rm : Room} (e0 : z = none) (h : CallB R s args own idx y bytes maxL z ws rm mc ms n) : CallB R s args own idx y bytes maxL none ws rm mc ms n := by
  subst e0
  exact h
theorem callN_none {idx maxL mc ms n : Nat} {y : MethodName} {host : String} {bytes : ByteArray} {z : Option FieldType} {ws : List Jvm.Cond} {rm : Room} (e0 : z = none) (h : va_CN R s args own idx y host bytes maxL z ws rm mc ms n) : va_CN R s args own idx y host bytes maxL none ws rm mc ms n := by
  subst e0
  exact h
theorem go_call {H : Heap} {locs : List Loc} {cells slots mc ms : Nat} {lsC : Array Slot} {st0 rest : List Value} {Qa : State → Outcome → State → Prop} (hr : va_Run p l e R s m args below meth c H locs cells slots mc ms (F0 m pc lsC st0) rest Qa (fun q => base ≤ q))
    (kk : ∀ (v : Option Value) (st₀ t : State) (L1 : List Loc), st₀.heap = H → Qa st₀ (.returned v) t → (∀ q ∈ L1, base ≤ q.base) → W p l e R s m args below meth c t.heap (locs ++ L1) (cells + mc) (slots + ms) Q (F0 m (pc + 3) lsC (v.toList ++ rest))) : W p l e R s m args below meth c H locs cells slots Q (F0 m pc lsC st0) := by
  intro T hT X
  obtain ⟨v, st₀, t, T', L1, h0, X', hL, e1, e2, hq, st⟩ := hr T hT X
  obtain ⟨t2, a1, b1⟩ := kk v st₀ t L1 h0 hq hL T' e1 X'
  exact ⟨t2, st t2 a1, b1⟩
theorem CX.gg (X : CX p R s m args c cc own nL d L base dC dI dA cv adV xs) (hY : YY s) {H : Heap} {locs : List Loc} (hA : HP dC dI dA cv base S M H) (hS : va_S (fun q => base ≤ q) s.heap H locs) {U : State} (hU : U.heap = H) (hW : s.WarmedH U.vm) : GG dC dI dA cv adV base L xs S M U := by
  refine ⟨va_K.moved hW.alike X.2.1, by rw [hU]; exact hA, ?_, hY.warm hW, by rw [hU]; exact Nat.le_trans X.2.2.2.2.1 hS.1⟩
  rw [hU]
  exact (X.2.2.1.kept hS.2.1).warm hW
/-- behind a call -/
theorem s_behind {d1 y : Nat} {a : List AV} {r' : Option AV} {S' : Sp} {M' : Mm} {rest : List AV} {H : Heap} {locs : List Loc} {lsC : Array Slot} {st0 : List Value} {aa : Array Value} (hg : LE S S') (hk : WW p l e R s m args below meth c Q nL n0 m0 L base Ls dC dI dA cv xs (pc + 3) ls (r'.toList ++ rest) S' M') (o3 : OKa S Ls nL ls) (q4 : OKs S rest) (o5 : n0 ≤ S.length) (o6 : m0 ≤ slO S) (hS : va_S (fun q => base ≤ q) s.heap H locs) (hR : RL cv ls lsC)
    (hr : va_Run p l e R s m args below meth c H locs (S.length - n0) (slO S - m0) (S'.length - S.length) (slO S' - slO S) (F0 m pc lsC st0) (rest.map (cV cv)) (QcD dC dI dA cv adV base L xs r' S S' M' aa) (fun q => base ≤ q)) : W p l e R s m args below meth c H locs (S.length - n0) (slO S - m0) Q (F0 m pc lsC st0) := by
  refine go_call hr fun v st₀ t L1 h0 hq hL => ?_
  obtain ⟨e1, ⟨-, hA', -, -, -⟩, o1', o2', hE, hv, hz, hold⟩ := hq
  cases e1
  rw [h0] at hz hold
  have hfn := hk t.heap (locs ++ L1) lsC o1' o2' (o3.ext hE) (fun w hw => ?_) (Nat.le_trans o5 hg.1) (Nat.le_trans o6 hg.2) hA' ⟨Nat.le_trans hS.1 hz, fun q h1 h2 => ?_, fun q hq => ?_⟩ hR
  · rw [show S.length - n0 + (S'.length - S.length) = S'.length - n0 by have := hg.1; omega, show slO S - m0 + (slO S' - slO S) = slO S' - m0 by have := hg.2; omega]
    have e2 : (Option.map (cV cv) r').toList ++ rest.map (cV cv) = (r'.toList ++ rest).map (cV cv) := by cases r' <;> rfl
    rw [e2]
    exact hfn
  · rcases List.mem_append.mp hw with h | h
    · cases r' with
      | none => cases h
      | some u =>
        have : w = u := by simpa using h
        subst this
        exact hv _ rfl
    · exact (q4.ext hE) w h
  · rw [hold q (Nat.not_le.mp h2)]
    exact hS.2.1 q h1 h2
  · rcases List.mem_append.mp hq with h | h
    · exact hS.2.2 q h
    · exact hL q h
theorem CX.good (X : CX p R s m args c cc own nL d L base dC dI dA cv adV xs) : ∀ w ∈ lwG, w.before args s = true := fun w h => X.1.2.2.2.2 w (lwG_of h).1 (lwG_of h).2
theorem goodG {y : Nat} (h : y < 404) : GoodIn lwG (Jvm.Cond.code (yN.getD y y0) (yB.getD y default) (nthN mxs y) (yR.getD y none) :: lwG) := by
  intro w hw
  rcases List.mem_cons.mp hw with rfl | h1
  · exact ⟨lwG_in (y_code y h) rfl, good_of_word rfl⟩
  · exact ⟨h1, good_of_word (lwG_of h1).2⟩
theorem cs_cls (X : CX p R s m args c cc own nL d L base dC dI dA cv adV xs) {H : Heap} {t b mb : Nat} {rf : List (Option Nat)} (h13 : t < 13) (h3 : 3 ≤ b) (hm : S[b]? = some (t, mb, rf)) (hA : HP dC dI dA cv base S M H) : ∃ cell : Cell, H[cv b]? = some cell ∧ cell.vm.isStatics = false ∧ s.vm.findClass (clN.getD t "") = some cell.cls := by
  have hP0 := hA.1 (b - 3) _ (wsO_get h3 hm)
  rw [enE_obj cv dA h13] at hP0
  obtain ⟨r', hr', cellV, g1, g2, g3, -⟩ := hP0
  refine ⟨cellV, by rw [X.2.2.2.1 b h3]; exact g1, by rw [g3]; rfl, by rw [g2]; exact (X.2.1.1 t _ (cl_at h13)).2.1⟩
theorem s_static (X : CX p R s m args c cc own nL d L base dC dI dA cv adV xs) (hY : YY s) {y n idx d1 : Nat} {st : List AV} {r' : Option AV} {S' : Sp} {M' : Mm} (hy : y < 404) (hdd : d = d1 + 1) (hM : okS L S → okM xs S M → OKs S (takeR n st []) → Mt dC dI dA cv adV base L xs l d1 y (takeR n st []) S M r' S' M') (hg : LE S S') (hc : S'.length ≤ R.cells + n0) (hs : slO S' ≤ R.slots + m0) (h8 : Nat.ble (wds (dropA n st)) 8 = true) (hn : Nat.ble n (lenA st) = true) (hd : decode cc pc = .ok (.invokestatic idx, 3)) (hw : Jvm.Cond.methodLink own idx (yN.getD y y0) ∈ lw_tbl) (hst : (yI.getD y yi0).1 = true) (hnp : (yI.getD y yi0).2.1 = n) (hk : WW p l e R s m args below meth c Q nL n0 m0 L base Ls dC dI dA cv xs (pc + 3) ls (r'.toList ++ dropA n st) S' M') : WW p l e R s m args below meth c Q nL n0 m0 L base Ls dC dI dA cv xs pc ls st S M := by
  intro H locs lsC o1 o2 o3 o4 o5 o6 hA hS hR
  have hf : 6 + d ≤ R.frames := X.2.2.2.2.2.1
  have hlo : 200 + 40 * d ≤ R.locals := X.2.2.2.2.2.2
  obtain ⟨k1, k2, k3, k4, k5, k6, k7, k8, k9⟩ := okI_of hy
  have hsp := take_split n st
  have hall : OKs S (takeR n st []) ∧ OKs S (dropA n st) := by
    rw [hsp] at o4
    exact ⟨fun v hv => o4 v (List.mem_append_left _ (List.mem_reverse.mpr hv)), fun v hv => o4 v (List.mem_append_right _ hv)⟩
  have hMt := hM o1 o2 hall.1
  have hstk : st.map (cV cv) = ((takeR n st []).map (cV cv)).reverse ++ (dropA n st).map (cV cv) := by rw [← List.map_reverse, ← List.map_append, ← hsp]
  have h8 : wds (dropA n st) ≤ 8 := Nat.le_of_ble_eq_true h8
  have hl : lsC.size = nL := by rw [hR.1]; exact o3.2.1
  have hrm : (rmD d1 (S'.length - S.length) (slO S' - slO S)).frames + 1 ≤ R.frames ∧ 8 + (nthN mxs y + 11) + (rmD d1 (S'.length - S.length) (slO S' - slO S)).locals ≤ R.locals := ⟨by show 6 + d1 + 1 ≤ _; omega, by show 8 + (nthN mxs y + 11) + (200 + 40 * d1) ≤ _; omega⟩
  have hrest : 2 * (F0 m pc lsC (st.map (cV cv))).monitorRoom + (((dropA n st).map (cV cv)).map fun v => v.category).sum ≤ 8 := by
    rw [wds_le hall.2]
    exact (show 2 * 0 + wds (dropA n st) ≤ 8 by omega)
  have hcs : S.length - n0 + (S'.length - S.length) ≤ R.cells ∧ slO S - m0 + (slO S' - slO S) ≤ R.slots := by have h1 := hg.1; have h2 := hg.2; exact ⟨by omega, by omega⟩
  have hpre : ∀ U : State, U.heap = H → s.WarmedH U.vm → PcD dC dI dA cv adV base L xs (takeR n st []) S M ((takeR n st []).map (cV cv)).toArray U := fun U hU hW => ⟨rfl, X.gg hY hA hS hU hW⟩
  have hbl := PcD.blind dC dI dA cv adV base L xs (takeR n st []) S M
  rw [if_pos hst] at k1
  refine s_behind (adV := adV) (d1 := d1) (y := y) (a := takeR n st []) hg hk o3 hall.2 o5 o6 hS hR (aa := ((takeR n st []).map (cV cv)).toArray) ?_
  exact va_runS ⟨X.1.1, X.1.2.1, X.1.2.2.1, X.1.2.2.2.1, X.good⟩ hMt ⟨callB_of (yI.getD y yi0).2.1 X.good (goodG hy) rfl rfl rfl (X.1.2.2.2.2 _ k3 rfl) (X.1.2.2.2.2 _ hw rfl) ⟨k5, k6, k7⟩ hrm, X.1.2.2.2.2 _ k1 rfl⟩ ⟨hbl, hpre⟩ rfl (by rw [List.length_map, take_len hn]; exact hnp.symm) hl hstk hrest hd hcs
theorem s_virtual (X : CX p R s m args c cc own nL d L base dC dI dA cv adV xs) (hY : YY s) {y n idx d1 : Nat} {st : List AV} {r' : Option AV} {S' : Sp} {M' : Mm} (hy : y < 404) (hdd : d = d1 + 1) (hM : okS L S → okM xs S M → OKs S (takeR n st []) → Mt dC dI dA cv adV base L xs l d1 y (takeR n st []) S M r' S' M') (hg : LE S S') (hc : S'.length ≤ R.cells + n0) (hs : slO S' ≤ R.slots + m0) (h8 : Nat.ble (wds (dropA n st)) 8 = true) (hn : Nat.ble n (lenA st) = true) {t b : Nat} {nn : Int} {a' : List AV} (ha : takeR n st [] = vR t nn b :: a') (hd : decode cc pc = .ok (.invokevirtual idx, 3)) (hw : Jvm.Cond.methodLink own idx (yN.getD y y0) ∈ lw_tbl) (hst : (yI.getD y yi0).1 = false) (hnp : (yI.getD y yi0).2.1 + 1 = n) (htg : (yI.getD y yi0).2.2.1 = t) (h13 : t < 13) (hni : (yN.getD y y0).name ≠ "<init>") (hk : WW p l e R s m args below meth c Q nL n0 m0 L base Ls dC dI dA cv xs (pc + 3) ls (r'.toList ++ dropA n st) S' M') : WW p l e R s m args below meth c Q nL n0 m0 L base Ls dC dI dA cv xs pc ls st S M := by
  intro H locs lsC o1 o2 o3 o4 o5 o6 hA hS hR
  have hf : 6 + d ≤ R.frames := X.2.2.2.2.2.1
  have hlo : 200 + 40 * d ≤ R.locals := X.2.2.2.2.2.2
  obtain ⟨k1, k2, k3, k4, k5, k6, k7, k8, k9⟩ := okI_of hy
  have hsp := take_split n st
  have hall : OKs S (takeR n st []) ∧ OKs S (dropA n st) := by
    rw [hsp] at o4
    exact ⟨fun v hv => o4 v (List.mem_append_left _ (List.mem_reverse.mpr hv)), fun v hv => o4 v (List.mem_append_right _ hv)⟩
  have hMt := hM o1 o2 hall.1
  have hstk : st.map (cV cv) = ((takeR n st []).map (cV cv)).reverse ++ (dropA n st).map (cV cv) := by rw [← List.map_reverse, ← List.map_append, ← hsp]
  have h8 : wds (dropA n st) ≤ 8 := Nat.le_of_ble_eq_true h8
  have hl : lsC.size = nL := by rw [hR.1]; exact o3.2.1
  have hrm : (rmD d1 (S'.length - S.length) (slO S' - slO S)).frames + 1 ≤ R.frames ∧ 8 + (nthN mxs y + 11) + (rmD d1 (S'.length - S.length) (slO S' - slO S)).locals ≤ R.locals := ⟨by show 6 + d1 + 1 ≤ _; omega, by show 8 + (nthN mxs y + 11) + (200 + 40 * d1) ≤ _; omega⟩
  have hrest : 2 * (F0 m pc lsC (st.map (cV cv))).monitorRoom + (((dropA n st).map (cV cv)).map fun v => v.category).sum ≤ 8 := by
    rw [wds_le hall.2]
    exact (show 2 * 0 + wds (dropA n st) ≤ 8 by omega)
  have hcs : S.length - n0 + (S'.length - S.length) ≤ R.cells ∧ slO S - m0 + (slO S' - slO S) ≤ R.slots := by have h1 := hg.1; have h2 := hg.2; exact ⟨by omega, by omega⟩
  have hpre : ∀ U : State, U.heap = H → s.WarmedH U.vm → PcD dC dI dA cv adV base L xs (takeR n st []) S M ((takeR n st []).map (cV cv)).toArray U := fun U hU hW => ⟨rfl, X.gg hY hA hS hU hW⟩
  have hbl := PcD.blind dC dI dA cv adV base L xs (takeR n st []) S M
  rw [if_neg (by rw [hst]; decide)] at k1
  have k2 := (k2.resolve_left (by rw [hst]; decide)).resolve_left hni
  have htl := take_len hn
  rw [ha] at htl hall hMt hpre hbl hstk
  obtain ⟨⟨⟨mb, rf, hmb, -⟩, -⟩, -⟩ := OKs.cons.mp hall.1
  have hmb : S[b]? = some (t, mb, rf) := hmb
  have h3 := o1.ge3 hmb (by omega) (by omega)
  have hcl : clN.getD t "" = (yN.getD y y0).cls := by rcases k9 with k9 | k9 <;> rw [htg] at k9; (first | exact k9.2 | omega); exact k9.2
  have hrecv := cs_cls X h13 h3 hmb hA
  rw [hcl] at hrecv
  refine s_behind (adV := adV) (d1 := d1) (y := y) (a := takeR n st []) hg hk o3 hall.2 o5 o6 hS hR (aa := (.ref (cv b) :: a'.map (cV cv)).toArray) ?_
  exact va_runV (C := (yN.getD y y0).cls) (b := cv b) (As := a'.map (cV cv)) ⟨X.1.1, X.1.2.1, X.1.2.2.1, X.1.2.2.2.1, X.good⟩ hMt ⟨callB_of (yI.getD y yi0).2.1 X.good (goodG hy) rfl rfl rfl (X.1.2.2.2.2 _ k3 rfl) (X.1.2.2.2.2 _ hw rfl) ⟨k5, k6, k7⟩ hrm, X.1.2.2.2.2 _ k1 rfl, X.1.2.2.2.2 _ k2 rfl⟩ ⟨hbl, hrecv, hpre⟩ rfl (by rw [List.length_map]; simp only [List.length_cons] at htl; omega) hl (by show st.map (cV cv) = _; rw [hstk]; simp [cV]) hrest hd hcs
theorem s_special (X : CX p R s m args c cc own nL d L base dC dI dA cv adV xs) (hY : YY s) {y n idx d1 : Nat} {st : List AV}  {S' : Sp} {M' : Mm} (hy : y < 404) (hdd : d = d1 + 1) (hM : okS L S → okM xs S M → OKs S (takeR n st []) → Mt dC dI dA cv adV base L xs l d1 y (takeR n st []) S M (none : Option AV) S' M') (hg : LE S S') (hc : S'.length ≤ R.cells + n0) (hs : slO S' ≤ R.slots + m0) (h8 : Nat.ble (wds (dropA n st)) 8 = true) (hn : Nat.ble n (lenA st) = true) {t b : Nat} {nn : Int} {a' : List AV} (ha : takeR n st [] = vR t nn b :: a') (hd : decode cc pc = .ok (.invokespecial idx, 3)) (hw : Jvm.Cond.methodLink own idx (yN.getD y y0) ∈ lw_tbl) (hst : (yI.getD y yi0).1 = false) (hnp : (yI.getD y yi0).2.1 + 1 = n) (hni : (yN.getD y y0).name = "<init>") (hrt : yR.getD y none = none) (hk : WW p l e R s m args below meth c Q nL n0 m0 L base Ls dC dI dA cv xs (pc + 3) ls (dropA n st) S' M') : WW p l e R s m args below meth c Q nL n0 m0 L base Ls dC dI dA cv xs pc ls st S M := by
  intro H locs lsC o1 o2 o3 o4 o5 o6 hA hS hR
  have hf : 6 + d ≤ R.frames := X.2.2.2.2.2.1
  have hlo : 200 + 40 * d ≤ R.locals := X.2.2.2.2.2.2
  obtain ⟨k1, k2, k3, k4, k5, k6, k7, k8, k9⟩ := okI_of hy
  have hsp := take_split n st
  have hall : OKs S (takeR n st []) ∧ OKs S (dropA n st) := by
    rw [hsp] at o4
    exact ⟨fun v hv => o4 v (List.mem_append_left _ (List.mem_reverse.mpr hv)), fun v hv => o4 v (List.mem_append_right _ hv)⟩
  have hMt := hM o1 o2 hall.1
  have hstk : st.map (cV cv) = ((takeR n st []).map (cV cv)).reverse ++ (dropA n st).map (cV cv) := by rw [← List.map_reverse, ← List.map_append, ← hsp]
  have h8 : wds (dropA n st) ≤ 8 := Nat.le_of_ble_eq_true h8
  have hl : lsC.size = nL := by rw [hR.1]; exact o3.2.1
  have hrm : (rmD d1 (S'.length - S.length) (slO S' - slO S)).frames + 1 ≤ R.frames ∧ 8 + (nthN mxs y + 11) + (rmD d1 (S'.length - S.length) (slO S' - slO S)).locals ≤ R.locals := ⟨by show 6 + d1 + 1 ≤ _; omega, by show 8 + (nthN mxs y + 11) + (200 + 40 * d1) ≤ _; omega⟩
  have hrest : 2 * (F0 m pc lsC (st.map (cV cv))).monitorRoom + (((dropA n st).map (cV cv)).map fun v => v.category).sum ≤ 8 := by
    rw [wds_le hall.2]
    exact (show 2 * 0 + wds (dropA n st) ≤ 8 by omega)
  have hcs : S.length - n0 + (S'.length - S.length) ≤ R.cells ∧ slO S - m0 + (slO S' - slO S) ≤ R.slots := by have h1 := hg.1; have h2 := hg.2; exact ⟨by omega, by omega⟩
  have hpre : ∀ U : State, U.heap = H → s.WarmedH U.vm → PcD dC dI dA cv adV base L xs (takeR n st []) S M ((takeR n st []).map (cV cv)).toArray U := fun U hU hW => ⟨rfl, X.gg hY hA hS hU hW⟩
  have hbl := PcD.blind dC dI dA cv adV base L xs (takeR n st []) S M
  rw [if_neg (by rw [hst]; decide)] at k1
  have htl := take_len hn
  rw [ha] at htl hall hMt hpre hbl hstk
  refine s_behind (adV := adV) (d1 := d1) (y := y) (a := takeR n st []) (r' := none) hg hk o3 hall.2 o5 o6 hS hR (aa := (.ref (cv b) :: a'.map (cV cv)).toArray) ?_
  exact va_runI (b := cv b) (bytes := yB.getD y default) (maxL := nthN mxs y) (As := a'.map (cV cv)) ⟨X.1.1, X.1.2.1, X.1.2.2.1, X.1.2.2.2.1, X.good⟩ hMt ⟨callB_none hrt (callB_of (yI.getD y yi0).2.1 X.good (goodG hy) rfl rfl rfl (X.1.2.2.2.2 _ k3 rfl) (X.1.2.2.2.2 _ hw rfl) ⟨k5, k6, k7⟩ hrm), hni, X.1.2.2.2.2 _ k1 rfl⟩ ⟨hbl, hpre⟩ rfl (by rw [List.length_map]; simp only [List.length_cons] at htl; omega) hl (by show st.map (cV cv) = _; rw [hstk]; simp [cV]) hrest hd hcs
theorem s_staticN (X : CX p R s m args c cc own nL d L base dC dI dA cv adV xs) (hY : YY s) {y n idx d1 : Nat} {st : List AV} {r' : Option AV} {S' : Sp} {M' : Mm} (hy : y < 404) (hdd : d = d1 + 1) (hM : okS L S → okM xs S M → OKs S (takeR n st []) → Mt dC dI dA cv adV base L xs l d1 y (takeR n st []) S M r' S' M') (hg : LE S S') (hc : S'.length ≤ R.cells + n0) (hs : slO S' ≤ R.slots + m0) (h8 : Nat.ble (wds (dropA n st)) 8 = true) (hn : Nat.ble n (lenA st) = true) (hd : decode cc pc = .ok (.invokestatic idx, 3)) (hw : Jvm.Cond.methodLinkNest own idx (yN.getD y y0) "CargoFlag" ∈ lw_tbl) (hst : (yI.getD y yi0).1 = true) (hnp : (yI.getD y yi0).2.1 = n) (hk : WW p l e R s m args below meth c Q nL n0 m0 L base Ls dC dI dA cv xs (pc + 3) ls (r'.toList ++ dropA n st) S' M') : WW p l e R s m args below meth c Q nL n0 m0 L base Ls dC dI dA cv xs pc ls st S M := by
  intro H locs lsC o1 o2 o3 o4 o5 o6 hA hS hR
  have hf : 6 + d ≤ R.frames := X.2.2.2.2.2.1
  have hlo : 200 + 40 * d ≤ R.locals := X.2.2.2.2.2.2
  obtain ⟨k1, k2, k3, k4, k5, k6, k7, k8, k9⟩ := okI_of hy
  have hsp := take_split n st
  have hall : OKs S (takeR n st []) ∧ OKs S (dropA n st) := by
    rw [hsp] at o4
    exact ⟨fun v hv => o4 v (List.mem_append_left _ (List.mem_reverse.mpr hv)), fun v hv => o4 v (List.mem_append_right _ hv)⟩
  have hMt := hM o1 o2 hall.1
  have hstk : st.map (cV cv) = ((takeR n st []).map (cV cv)).reverse ++ (dropA n st).map (cV cv) := by rw [← List.map_reverse, ← List.map_append, ← hsp]
  have h8 : wds (dropA n st) ≤ 8 := Nat.le_of_ble_eq_true h8
  have hl : lsC.size = nL := by rw [hR.1]; exact o3.2.1
  have hrm : (rmD d1 (S'.length - S.length) (slO S' - slO S)).frames + 1 ≤ R.frames ∧ 8 + (nthN mxs y + 11) + (rmD d1 (S'.length - S.length) (slO S' - slO S)).locals ≤ R.locals := ⟨by show 6 + d1 + 1 ≤ _; omega, by show 8 + (nthN mxs y + 11) + (200 + 40 * d1) ≤ _; omega⟩
  have hrest : 2 * (F0 m pc lsC (st.map (cV cv))).monitorRoom + (((dropA n st).map (cV cv)).map fun v => v.category).sum ≤ 8 := by
    rw [wds_le hall.2]
    exact (show 2 * 0 + wds (dropA n st) ≤ 8 by omega)
  have hcs : S.length - n0 + (S'.length - S.length) ≤ R.cells ∧ slO S - m0 + (slO S' - slO S) ≤ R.slots := by have h1 := hg.1; have h2 := hg.2; exact ⟨by omega, by omega⟩
  have hpre : ∀ U : State, U.heap = H → s.WarmedH U.vm → PcD dC dI dA cv adV base L xs (takeR n st []) S M ((takeR n st []).map (cV cv)).toArray U := fun U hU hW => ⟨rfl, X.gg hY hA hS hU hW⟩
  have hbl := PcD.blind dC dI dA cv adV base L xs (takeR n st []) S M
  rw [if_pos hst] at k1
  refine s_behind (adV := adV) (d1 := d1) (y := y) (a := takeR n st []) hg hk o3 hall.2 o5 o6 hS hR (aa := ((takeR n st []).map (cV cv)).toArray) ?_
  exact va_runSN ⟨X.1.1, X.1.2.1, X.1.2.2.1, X.1.2.2.2.1, X.good⟩ hMt ⟨va_cnB (yI.getD y yi0).2.1 X.good (goodG hy) rfl rfl rfl (hY.1 _ _ _ _ hw) (X.1.2.2.2.2 _ k3 rfl) ⟨k5, k6, k7⟩ hrm, X.1.2.2.2.2 _ k1 rfl, trivial⟩ ⟨hbl, hpre⟩ rfl (by rw [List.length_map, take_len hn]; exact hnp.symm) hl hstk hrest hd hcs
theorem s_virtualN (X : CX p R s m args c cc own nL d L base dC dI dA cv adV xs) (hY : YY s) {y n idx d1 : Nat} {st : List AV} {r' : Option AV} {S' : Sp} {M' : Mm} (hy : y < 404) (hdd : d = d1 + 1) (hM : okS L S → okM xs S M → OKs S (takeR n st []) → Mt dC dI dA cv adV base L xs l d1 y (takeR n st []) S M r' S' M') (hg : LE S S') (hc : S'.length ≤ R.cells + n0) (hs : slO S' ≤ R.slots + m0) (h8 : Nat.ble (wds (dropA n st)) 8 = true) (hn : Nat.ble n (lenA st) = true) {t b : Nat} {nn : Int} {a' : List AV} (ha : takeR n st [] = vR t nn b :: a') (hd : decode cc pc = .ok (.invokevirtual idx, 3)) (hw : Jvm.Cond.methodLinkNest own idx (yN.getD y y0) "CargoFlag" ∈ lw_tbl) (hst : (yI.getD y yi0).1 = false) (hnp : (yI.getD y yi0).2.1 + 1 = n) (htg : (yI.getD y yi0).2.2.1 = t) (h13 : t < 13) (hni : (yN.getD y y0).name ≠ "<init>") (hk : WW p l e R s m args below meth c Q nL n0 m0 L base Ls dC dI dA cv xs (pc + 3) ls (r'.toList ++ dropA n st) S' M') : WW p l e R s m args below meth c Q nL n0 m0 L base Ls dC dI dA cv xs pc ls st S M := by
  intro H locs lsC o1 o2 o3 o4 o5 o6 hA hS hR
  have hf : 6 + d ≤ R.frames := X.2.2.2.2.2.1
  have hlo : 200 + 40 * d ≤ R.locals := X.2.2.2.2.2.2
  obtain ⟨k1, k2, k3, k4, k5, k6, k7, k8, k9⟩ := okI_of hy
  have hsp := take_split n st
  have hall : OKs S (takeR n st []) ∧ OKs S (dropA n st) := by
    rw [hsp] at o4
    exact ⟨fun v hv => o4 v (List.mem_append_left _ (List.mem_reverse.mpr hv)), fun v hv => o4 v (List.mem_append_right _ hv)⟩
  have hMt := hM o1 o2 hall.1
  have hstk : st.map (cV cv) = ((takeR n st []).map (cV cv)).reverse ++ (dropA n st).map (cV cv) := by rw [← List.map_reverse, ← List.map_append, ← hsp]
  have h8 : wds (dropA n st) ≤ 8 := Nat.le_of_ble_eq_true h8
  have hl : lsC.size = nL := by rw [hR.1]; exact o3.2.1
  have hrm : (rmD d1 (S'.length - S.length) (slO S' - slO S)).frames + 1 ≤ R.frames ∧ 8 + (nthN mxs y + 11) + (rmD d1 (S'.length - S.length) (slO S' - slO S)).locals ≤ R.locals := ⟨by show 6 + d1 + 1 ≤ _; omega, by show 8 + (nthN mxs y + 11) + (200 + 40 * d1) ≤ _; omega⟩
  have hrest : 2 * (F0 m pc lsC (st.map (cV cv))).monitorRoom + (((dropA n st).map (cV cv)).map fun v => v.category).sum ≤ 8 := by
    rw [wds_le hall.2]
    exact (show 2 * 0 + wds (dropA n st) ≤ 8 by omega)
  have hcs : S.length - n0 + (S'.length - S.length) ≤ R.cells ∧ slO S - m0 + (slO S' - slO S) ≤ R.slots := by have h1 := hg.1; have h2 := hg.2; exact ⟨by omega, by omega⟩
  have hpre : ∀ U : State, U.heap = H → s.WarmedH U.vm → PcD dC dI dA cv adV base L xs (takeR n st []) S M ((takeR n st []).map (cV cv)).toArray U := fun U hU hW => ⟨rfl, X.gg hY hA hS hU hW⟩
  have hbl := PcD.blind dC dI dA cv adV base L xs (takeR n st []) S M
  rw [if_neg (by rw [hst]; decide)] at k1
  have k2 := (k2.resolve_left (by rw [hst]; decide)).resolve_left hni
  have htl := take_len hn
  rw [ha] at htl hall hMt hpre hbl hstk
  obtain ⟨⟨⟨mb, rf, hmb, -⟩, -⟩, -⟩ := OKs.cons.mp hall.1
  have hmb : S[b]? = some (t, mb, rf) := hmb
  have h3 := o1.ge3 hmb (by omega) (by omega)
  have hcl : clN.getD t "" = (yN.getD y y0).cls := by rcases k9 with k9 | k9 <;> rw [htg] at k9; (first | exact k9.2 | omega); exact k9.2
  have hrecv := cs_cls X h13 h3 hmb hA
  rw [hcl] at hrecv
  refine s_behind (adV := adV) (d1 := d1) (y := y) (a := takeR n st []) hg hk o3 hall.2 o5 o6 hS hR (aa := (.ref (cv b) :: a'.map (cV cv)).toArray) ?_
  exact va_runVN (C := (yN.getD y y0).cls) (b := cv b) (As := a'.map (cV cv)) ⟨X.1.1, X.1.2.1, X.1.2.2.1, X.1.2.2.2.1, X.good⟩ hMt ⟨va_cnB (yI.getD y yi0).2.1 X.good (goodG hy) rfl rfl rfl (hY.1 _ _ _ _ hw) (X.1.2.2.2.2 _ k3 rfl) ⟨k5, k6, k7⟩ hrm, X.1.2.2.2.2 _ k1 rfl, X.1.2.2.2.2 _ k2 rfl⟩ ⟨hbl, hrecv, hpre⟩ rfl (by rw [List.length_map]; simp only [List.length_cons] at htl; omega) hl (by show st.map (cV cv) = _; rw [hstk]; simp [cV]) hrest hd hcs
theorem s_specialN (X : CX p R s m args c cc own nL d L base dC dI dA cv adV xs) (hY : YY s) {y n idx d1 : Nat} {st : List AV}  {S' : Sp} {M' : Mm} (hy : y < 404) (hdd : d = d1 + 1) (hM : okS L S → okM xs S M → OKs S (takeR n st []) → Mt dC dI dA cv adV base L xs l d1 y (takeR n st []) S M (none : Option AV) S' M') (hg : LE S S') (hc : S'.length ≤ R.cells + n0) (hs : slO S' ≤ R.slots + m0) (h8 : Nat.ble (wds (dropA n st)) 8 = true) (hn : Nat.ble n (lenA st) = true) {t b : Nat} {nn : Int} {a' : List AV} (ha : takeR n st [] = vR t nn b :: a') (hd : decode cc pc = .ok (.invokespecial idx, 3)) (hw : Jvm.Cond.methodLinkNest own idx (yN.getD y y0) "CargoFlag" ∈ lw_tbl) (hst : (yI.getD y yi0).1 = false) (hnp : (yI.getD y yi0).2.1 + 1 = n) (hni : (yN.getD y y0).name = "<init>") (hrt : yR.getD y none = none) (hk : WW p l e R s m args below meth c Q nL n0 m0 L base Ls dC dI dA cv xs (pc + 3) ls (dropA n st) S' M') : WW p l e R s m args below meth c Q nL n0 m0 L base Ls dC dI dA cv xs pc ls st S M := by
  intro H locs lsC o1 o2 o3 o4 o5 o6 hA hS hR
  have hf : 6 + d ≤ R.frames := X.2.2.2.2.2.1
  have hlo : 200 + 40 * d ≤ R.locals := X.2.2.2.2.2.2
  obtain ⟨k1, k2, k3, k4, k5, k6, k7, k8, k9⟩ := okI_of hy
  have hsp := take_split n st
  have hall : OKs S (takeR n st []) ∧ OKs S (dropA n st) := by
    rw [hsp] at o4
    exact ⟨fun v hv => o4 v (List.mem_append_left _ (List.mem_reverse.mpr hv)), fun v hv => o4 v (List.mem_append_right _ hv)⟩
  have hMt := hM o1 o2 hall.1
  have hstk : st.map (cV cv) = ((takeR n st []).map (cV cv)).reverse ++ (dropA n st).map (cV cv) := by rw [← List.map_reverse, ← List.map_append, ← hsp]
  have h8 : wds (dropA n st) ≤ 8 := Nat.le_of_ble_eq_true h8
  have hl : lsC.size = nL := by rw [hR.1]; exact o3.2.1
  have hrm : (rmD d1 (S'.length - S.length) (slO S' - slO S)).frames + 1 ≤ R.frames ∧ 8 + (nthN mxs y + 11) + (rmD d1 (S'.length - S.length) (slO S' - slO S)).locals ≤ R.locals := ⟨by show 6 + d1 + 1 ≤ _; omega, by show 8 + (nthN mxs y + 11) + (200 + 40 * d1) ≤ _; omega⟩
  have hrest : 2 * (F0 m pc lsC (st.map (cV cv))).monitorRoom + (((dropA n st).map (cV cv)).map fun v => v.category).sum ≤ 8 := by
    rw [wds_le hall.2]
    exact (show 2 * 0 + wds (dropA n st) ≤ 8 by omega)
  have hcs : S.length - n0 + (S'.length - S.length) ≤ R.cells ∧ slO S - m0 + (slO S' - slO S) ≤ R.slots := by have h1 := hg.1; have h2 := hg.2; exact ⟨by omega, by omega⟩
  have hpre : ∀ U : State, U.heap = H → s.WarmedH U.vm → PcD dC dI dA cv adV base L xs (takeR n st []) S M ((takeR n st []).map (cV cv)).toArray U := fun U hU hW => ⟨rfl, X.gg hY hA hS hU hW⟩
  have hbl := PcD.blind dC dI dA cv adV base L xs (takeR n st []) S M
  rw [if_neg (by rw [hst]; decide)] at k1
  have htl := take_len hn
  rw [ha] at htl hall hMt hpre hbl hstk
  refine s_behind (adV := adV) (d1 := d1) (y := y) (a := takeR n st []) (r' := none) hg hk o3 hall.2 o5 o6 hS hR (aa := (.ref (cv b) :: a'.map (cV cv)).toArray) ?_
  exact va_runIN (b := cv b) (bytes := yB.getD y default) (maxL := nthN mxs y) (As := a'.map (cV cv)) ⟨X.1.1, X.1.2.1, X.1.2.2.1, X.1.2.2.2.1, X.good⟩ hMt ⟨callN_none hrt (va_cnB (yI.getD y yi0).2.1 X.good (goodG hy) rfl rfl rfl (hY.1 _ _ _ _ hw) (X.1.2.2.2.2 _ k3 rfl) ⟨k5, k6, k7⟩ hrm), hni, X.1.2.2.2.2 _ k1 rfl⟩ ⟨hbl, hpre⟩ rfl (by rw [List.length_map]; simp only [List.length_cons] at htl; omega) hl (by show st.map (cV cv) = _; rw [hstk]; simp [cV]) hrest hd hcs
end SND

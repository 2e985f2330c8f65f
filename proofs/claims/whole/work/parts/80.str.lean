/-! THE STRINGS' METHODS -/
def rmS (k : Nat) : Room := { frames := k, cells := 0, slots := 0, locals := 25 * k }
def PS (cv adV : Nat → Nat) (base L : Nat) (xs : Nat → Int) (a : List Value) : Array Value → State → Prop := fun v U => v = a.toArray ∧ XX cv adV base L xs U U.heap ∧ base ≤ U.heap.size
def QS (r : Option Value) : Array Value → State → Outcome → State → Prop := fun _ st o t => o = .returned r ∧ t.heap = st.heap
theorem PS.blind (cv adV : Nat → Nat) (base L : Nat) (xs : Nat → Int) (a : List Value) : FrameBlind (PS cv adV base L xs a) := by
  intro v U g mk h
  obtain ⟨h1, h4, h6⟩ := h
  have al : U.vm.Alike (U.calling g mk v).vm := Vm.Alike.refl U.vm
  exact ⟨h1, ⟨va_T.moved al h4.1, vk_S.moved al h4.2.1, vk_R.same rfl h4.2.2.1, vk_R.same rfl h4.2.2.2.1, va_Z.moved al h4.2.2.2.2.1, va_Zq.moved al h4.2.2.2.2.2⟩, h6⟩
def yS_coder : MethodName := ⟨"java/lang/String", "coder", "()B"⟩
def yS_lat : MethodName := ⟨"java/lang/String", "isLatin1", "()Z"⟩
def yS_chk : MethodName := ⟨"java/lang/String", "checkIndex", "(II)V"⟩
def yS_lc : MethodName := ⟨"java/lang/StringLatin1", "charAt", "([BI)C"⟩
def yS_pre : MethodName := ⟨"jdk/internal/util/Preconditions", "checkIndex", "(IILjava/util/function/BiFunction;)I"⟩
section WB2
variable {p : Program} {l : Launch} {e : Env} {R : Room} {s : State} {m : MethodId} {args : Array Value} {below : List Frame} {meth : Method} {c : Code} {H : Heap} {locs : List Loc} {cells slots : Nat}
theorem W_nret {cc : ByteArray} {Qc : Array Value → State → Outcome → State → Prop} {free : Addr → Prop} {v w : Int32} {rt : FieldType} (hexec : p.tables.exec = Jvm.exec) (hb : c.code = cc) (hr : meth.sig.returnType = some rt) (hnar : narrow rt (.int v) = .int w)
    (hq : ∀ t : State, t.heap = H → s.WarmedH t.vm → Qc args s (.returned (some (.int w))) t) (hf : ∀ q ∈ locs, free q.base)
    {pc : Nat} {ls : Array Slot} (hdg : decode cc pc = .ok (.ireturn, 1)) (hlocks : meth.locks = false) : W p l e R s m args below meth c H locs cells slots (MQ below Qc args s cells slots free) (F0 m pc ls [.int v]) := by
  intro T hT X
  obtain ⟨fs, hret, hrun, hended, hW, hframe⟩ := X.leave (v := some (.int w)) (hlocks := hlocks) (fun h => by rw [hr] at h; cases h)
  have hmeth' : T.vm.method? m = some meth := X.method'
  refine ⟨T.setFrames fs, ?_, .returned (some (.int w)), hrun, hended, hq _ hT hW, locs, ⟨⟨_, rfl⟩, hW, hframe⟩, hf⟩
  jvm_step X.here [X.here.top, hexec, hb, hdg, hmeth', hr, hnar]
  (try refine ⟨rfl, ?_⟩); (try refine ⟨rfl, ?_⟩)
  first | (intro acts; rw [hret _ acts rfl rfl rfl]) | rw [hret _ _ rfl rfl rfl]
  exact Steps.refl _
end WB2
section ST
variable {l : Launch} {L base : Nat} {cv adV : Nat → Nat} {xs : Nat → Int}
theorem m_coder {i : Nat} (hi : i < 2) : Met l yS_coder (Jvm.Cond.code yS_coder prog_17_method_152_code 1 (some .byte) :: lwG) (rmS 1) (PS cv adV base L xs [.ref (cv (1 + i))]) (QS (some (.int 0))) 0 0 (fun q => base ≤ q) := by
  refine Met.ofW (cc := prog_17_method_152_code) (maxL := 1) (ret := some .byte) (by decide) rfl ?_
  intro p e s m args below meth c s₁ B hml hv
  obtain ⟨rfl, hX, hb⟩ := hv
  have hts := atoms_spec (ws := Jvm.Cond.code yS_coder prog_17_method_152_code 1 (some .byte) :: lwG) B.pre
  have hg : ∀ w ∈ lw_tbl, goodWord w = true → w.before _ s = true := fun w h h2 => hts w (List.mem_cons_of_mem _ (lwG_in h h2))
  have hown : s.vm.findClass "java/lang/String" = some m.cls := findClass_of_methodNamed B.named
  rw [lg_entry_eq]
  refine va_gets (pc := 0) B.exec B.bytes hX.2.2.2.2.1 va_S.rf hown (hg _ (tbW_in 1 _ (nthW_mem _ 70 _ rfl)) rfl) (fun _ h => h) (by decide +kernel) ?_
  refine lv_if_eq (pc := 3) B.exec B.bytes (tgt := 13) (show decode prog_17_method_152_code 3 = .ok (.ifCond .eq 10, 3) by decide +kernel) rfl (fun h => absurd h (by decide)) (fun _ => ?_)
  refine lv_aload_n (pc := 6) B.exec B.bytes (i := 0) (x := cv (1 + i)) (show decode prog_17_method_152_code 6 = .ok (.aload_n 0, 1) by decide +kernel) rfl rfl ?_
  refine vk_getf (pc := 7) B.exec B.bytes (hX.2.1.1 i hi).2.1 va_S.rf hown (hg _ (tbW_in 10 _ (nthW_mem _ 122 _ rfl)) rfl) (fun _ h => h) (by decide +kernel) ?_
  refine lv_goto (pc := 10) B.exec B.bytes (tgt := 14) (show decode prog_17_method_152_code 10 = .ok (.goto 4, 3) by decide +kernel) rfl ?_
  exact W_nret (w := 0) B.exec B.bytes B.returns rfl (fun t ht hW => ⟨rfl, ht⟩) (fun q hq => by cases hq) (by decide +kernel) B.notSynchronized
theorem m_lat {i : Nat} (hi : i < 2) : Met l yS_lat (Jvm.Cond.code yS_lat prog_17_method_154_code 1 (some .boolean) :: lwG) (rmS 1) (PS cv adV base L xs [.ref (cv (1 + i))]) (QS (some (.int 1))) 0 0 (fun q => base ≤ q) := by
  refine Met.ofW (cc := prog_17_method_154_code) (maxL := 1) (ret := some .boolean) (by decide) rfl ?_
  intro p e s m args below meth c s₁ B hml hv
  obtain ⟨rfl, hX, hb⟩ := hv
  have hts := atoms_spec (ws := Jvm.Cond.code yS_lat prog_17_method_154_code 1 (some .boolean) :: lwG) B.pre
  have hg : ∀ w ∈ lw_tbl, goodWord w = true → w.before _ s = true := fun w h h2 => hts w (List.mem_cons_of_mem _ (lwG_in h h2))
  have hown : s.vm.findClass "java/lang/String" = some m.cls := findClass_of_methodNamed B.named
  rw [lg_entry_eq]
  refine va_gets (pc := 0) B.exec B.bytes hX.2.2.2.2.1 va_S.rf hown (hg _ (tbW_in 1 _ (nthW_mem _ 70 _ rfl)) rfl) (fun _ h => h) (by decide +kernel) ?_
  refine lv_if_eq (pc := 3) B.exec B.bytes (tgt := 17) (show decode prog_17_method_154_code 3 = .ok (.ifCond .eq 14, 3) by decide +kernel) rfl (fun h => absurd h (by decide)) (fun _ => ?_)
  refine lv_aload_n (pc := 6) B.exec B.bytes (i := 0) (x := cv (1 + i)) (show decode prog_17_method_154_code 6 = .ok (.aload_n 0, 1) by decide +kernel) rfl rfl ?_
  refine vk_getf (pc := 7) B.exec B.bytes (hX.2.1.1 i hi).2.1 va_S.rf hown (hg _ (tbW_in 10 _ (nthW_mem _ 122 _ rfl)) rfl) (fun _ h => h) (by decide +kernel) ?_
  refine lv_if_ne (pc := 10) B.exec B.bytes (tgt := 17) (show decode prog_17_method_154_code 10 = .ok (.ifCond .ne 7, 3) by decide +kernel) rfl (fun h => absurd rfl h) (fun _ => ?_)
  refine lv_iconst (pc := 13) (v := 1) B.exec B.bytes (show decode prog_17_method_154_code 13 = .ok (.iconst 1, 1) by decide +kernel) rfl ?_
  refine lv_goto (pc := 14) B.exec B.bytes (tgt := 18) (show decode prog_17_method_154_code 14 = .ok (.goto 4, 3) by decide +kernel) rfl ?_
  exact W_nret (w := 1) B.exec B.bytes B.returns rfl (fun t ht hW => ⟨rfl, ht⟩) (fun q hq => by cases hq) (by decide +kernel) B.notSynchronized
end ST

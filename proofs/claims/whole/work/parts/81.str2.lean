/-! THE STRINGS' METHODS, calls -/
theorem goodS {y : MethodName} {bytes : ByteArray} {maxL : Nat} {ret : Option FieldType} (h : Jvm.Cond.code y bytes maxL ret ∈ lw_tbl) : GoodIn lwG (Jvm.Cond.code y bytes maxL ret :: lwG) := by
  intro w hw
  rcases List.mem_cons.mp hw with rfl | h1
  · exact ⟨lwG_in h rfl, good_of_word rfl⟩
  · exact ⟨h1, good_of_word (lwG_of h1).2⟩
section PU
variable {p : Program} {l : Launch} {e : Env} {R : Room} {s : State} {m : MethodId} {args : Array Value} {below : List Frame} {meth : Method} {c : Code} {Q : State → Prop} {H : Heap} {locs : List Loc} {cells slots : Nat}
variable {cc : ByteArray} {own : String} {nL pc L base : Nat} {cv adV : Nat → Nat} {xs : Nat → Int}
theorem pureV {y : MethodName} {bytes : ByteArray} {maxL n k idx : Nat} {ret : Option FieldType} {As rest : List Value} {b : Nat} {r : Option Value} {lsC : Array Slot} (F : CallFix p m c cc nL s args lwG own) (hM : Met l y (Jvm.Cond.code y bytes maxL ret :: lwG) (rmS k) (PS cv adV base L xs (.ref b :: As)) (QS r) 0 0 (fun q => base ≤ q)) (hX : XX cv adV base L xs s s.heap) (hbs : base ≤ s.heap.size) (hS : va_S (fun q => base ≤ q) s.heap H locs)
    (hcw : Jvm.Cond.code y bytes maxL ret ∈ lw_tbl) (hini : Jvm.Cond.initialized y.cls ∈ lw_tbl) (hl : Jvm.Cond.methodLink own idx y ∈ lw_tbl) (him : Jvm.Cond.instanceMethod y ∈ lw_tbl) (hse : Jvm.Cond.selects "java/lang/String" y y ∈ lw_tbl)
    (hd : y.cls ≠ "java/lang/invoke/MethodHandle" ∧ y.cls ≠ "java/lang/invoke/VarHandle" ∧ (parseMethodDescriptor y.desc).map (fun d => d.parameters.length) = some n) (hR : k + 1 ≤ R.frames ∧ 8 + (maxL + 11) + 25 * k ≤ R.locals) (hrv : ∃ cell : Cell, H[b]? = some cell ∧ cell.vm.isStatics = false ∧ s.vm.findClass "java/lang/String" = some cell.cls) (hn : As.length = n) (hsz : lsC.size = nL) (h8 : (rest.map fun v => v.category).sum ≤ 8) (hdg : decode cc pc = .ok (.invokevirtual idx, 3)) (hcs : cells ≤ R.cells ∧ slots ≤ R.slots)
    (kk : ∀ L1 : List Loc, (∀ q ∈ L1, base ≤ q.base) → W p l e R s m args below meth c H (locs ++ L1) cells slots Q (F0 m (pc + 3) lsC (r.toList ++ rest))) : W p l e R s m args below meth c H locs cells slots Q (F0 m pc lsC (As.reverse ++ .ref b :: rest)) := by
  have G : ∀ w ∈ lw_tbl, goodWord w = true → w.before args s = true := fun w h h2 => F.2.2.2.2 w (lwG_in h h2)
  refine go_call (base := base) (mc := 0) (ms := 0) (va_runV (C := "java/lang/String") (b := b) (As := As) (rest := rest) F hM ⟨callB_of n F.2.2.2.2 (goodS hcw) rfl rfl rfl (G _ hini rfl) (G _ hl rfl) hd hR, G _ him rfl, G _ hse rfl⟩ ⟨PS.blind cv adV base L xs _, hrv, fun U hU hW => ⟨rfl, by rw [hU]; exact (hX.kept hS.2.1).warm hW, by rw [hU]; exact Nat.le_trans hbs hS.1⟩⟩ rfl hn hsz rfl (by show 2 * 0 + _ ≤ 8; omega) hdg hcs) (fun v st₀ t L1 h0 hq hL => ?_)
  obtain ⟨e1, e2⟩ := hq
  cases e1
  rw [e2, h0]
  exact kk L1 hL
theorem pureS {y : MethodName} {bytes : ByteArray} {maxL n k idx : Nat} {ret : Option FieldType} {As rest : List Value} {r : Option Value} {lsC : Array Slot} (F : CallFix p m c cc nL s args lwG own) (hM : Met l y (Jvm.Cond.code y bytes maxL ret :: lwG) (rmS k) (PS cv adV base L xs As) (QS r) 0 0 (fun q => base ≤ q)) (hX : XX cv adV base L xs s s.heap) (hbs : base ≤ s.heap.size) (hS : va_S (fun q => base ≤ q) s.heap H locs)
    (hcw : Jvm.Cond.code y bytes maxL ret ∈ lw_tbl) (hini : Jvm.Cond.initialized y.cls ∈ lw_tbl) (hl : Jvm.Cond.methodLink own idx y ∈ lw_tbl) (him : Jvm.Cond.static y ∈ lw_tbl)
    (hd : y.cls ≠ "java/lang/invoke/MethodHandle" ∧ y.cls ≠ "java/lang/invoke/VarHandle" ∧ (parseMethodDescriptor y.desc).map (fun d => d.parameters.length) = some n) (hR : k + 1 ≤ R.frames ∧ 8 + (maxL + 11) + 25 * k ≤ R.locals) (hn : As.length = n) (hsz : lsC.size = nL) (h8 : (rest.map fun v => v.category).sum ≤ 8) (hdg : decode cc pc = .ok (.invokestatic idx, 3)) (hcs : cells ≤ R.cells ∧ slots ≤ R.slots)
    (kk : ∀ L1 : List Loc, (∀ q ∈ L1, base ≤ q.base) → W p l e R s m args below meth c H (locs ++ L1) cells slots Q (F0 m (pc + 3) lsC (r.toList ++ rest))) : W p l e R s m args below meth c H locs cells slots Q (F0 m pc lsC (As.reverse ++ rest)) := by
  have G : ∀ w ∈ lw_tbl, goodWord w = true → w.before args s = true := fun w h h2 => F.2.2.2.2 w (lwG_in h h2)
  refine go_call (base := base) (mc := 0) (ms := 0) (va_runS (As := As) (rest := rest) F hM ⟨callB_of n F.2.2.2.2 (goodS hcw) rfl rfl rfl (G _ hini rfl) (G _ hl rfl) hd hR, G _ him rfl⟩ ⟨PS.blind cv adV base L xs _, fun U hU hW => ⟨rfl, by rw [hU]; exact (hX.kept hS.2.1).warm hW, by rw [hU]; exact Nat.le_trans hbs hS.1⟩⟩ rfl hn hsz rfl (by show 2 * 0 + _ ≤ 8; omega) hdg hcs) (fun v st₀ t L1 h0 hq hL => ?_)
  obtain ⟨e1, e2⟩ := hq
  cases e1
  rw [e2, h0]
  exact kk L1 hL
end PU
section ST2
variable {l : Launch} {L base : Nat} {cv adV : Nat → Nat} {xs : Nat → Int}
theorem m_len {i : Nat} (hi : i < 2) : Met l y_len (Jvm.Cond.code y_len prog_17_method_54_code 1 (some .int) :: lwG) (rmS 2) (PS cv adV base L xs [.ref (cv (1 + i))]) (QS (some (.int (Int32.ofNat ((strT.map List.length).getD i 0))))) 0 0 (fun q => base ≤ q) := by
  refine Met.ofW (cc := prog_17_method_54_code) (maxL := 1) (ret := some .int) (by decide) rfl ?_
  intro p e s m args below meth c s₁ B hml hv
  obtain ⟨rfl, hX, hb⟩ := hv
  have hts := atoms_spec (ws := Jvm.Cond.code y_len prog_17_method_54_code 1 (some .int) :: lwG) B.pre
  have hg : ∀ w ∈ lw_tbl, goodWord w = true → w.before _ s = true := fun w h h2 => hts w (List.mem_cons_of_mem _ (lwG_in h h2))
  have hown : s.vm.findClass "java/lang/String" = some m.cls := findClass_of_methodNamed B.named
  rw [lg_entry_eq]
  refine lv_aload_n (pc := 0) B.exec B.bytes (i := 0) (x := cv (1 + i)) (show decode prog_17_method_54_code 0 = .ok (.aload_n 0, 1) by decide +kernel) rfl rfl ?_
  refine vk_getf (pc := 1) B.exec B.bytes (hX.2.1.1 i hi).2.2.1 va_S.rf hown (hg _ (tbW_in 10 _ (nthW_mem _ 121 _ rfl)) rfl) (fun _ h => h) (by decide +kernel) ?_
  refine va_tlen (pc := 4) B.exec B.bytes (hX.2.1.1 i hi).2.2.2 va_S.rf rfl (by decide +kernel) ?_
  refine lv_aload_n (pc := 5) B.exec B.bytes (i := 0) (x := cv (1 + i)) (show decode prog_17_method_54_code 5 = .ok (.aload_n 0, 1) by decide +kernel) rfl rfl ?_
  refine pureV (pc := 6) (As := []) (idx := 335) (n := 0) ⟨B.exec, B.bytes, hml, hown, fun w h => hts w (List.mem_cons_of_mem _ h)⟩ (m_coder hi) hX hb va_S.rf (tbW_in 1 _ (nthW_mem _ 69 _ rfl)) (tbW_in 1 _ (nthW_mem _ 5 _ rfl)) (tbW_in 1 _ (nthW_mem _ 66 _ rfl)) (tbW_in 1 _ (nthW_mem _ 67 _ rfl)) (tbW_in 1 _ (nthW_mem _ 68 _ rfl)) (by decide +kernel) ⟨Nat.le_refl _, by decide⟩ (vk_recv (adK := fun i => cv (1 + i)) (i := i) hX.2.1 hi va_S.rf) rfl rfl (Nat.le_of_ble_eq_true rfl) (by decide +kernel) ⟨Nat.zero_le _, Nat.zero_le _⟩ (fun L1 hL => ?_)
  refine lv_ishr (pc := 9) B.exec B.bytes (by decide +kernel) ?_
  refine W_nret (w := Int32.ofNat ((strT.map List.length).getD i 0)) B.exec B.bytes B.returns ?_ (fun t ht hW => ⟨rfl, ht⟩) hL (by decide +kernel) B.notSynchronized
  refine congrArg Value.int ?_
  rcases (show i = 0 ∨ i = 1 by omega) with rfl | rfl
  · decide +kernel
  · decide +kernel
theorem m_pre {x y : Int32} {f : Value} (hf : f = .null ∨ ∃ t : Nat, f = .ref t) (h1 : ¬ x < 0) (h2 : x < y) : Met l yS_pre (Jvm.Cond.code yS_pre prog_22_method_11_code 3 (some .int) :: lwG) (rmS 1) (PS cv adV base L xs [.int x, .int y, f]) (QS (some (.int x))) 0 0 (fun q => base ≤ q) := by
  refine Met.ofW (cc := prog_22_method_11_code) (maxL := 3) (ret := some .int) (by decide) rfl ?_
  intro p e s m args below meth c s₁ B hml hv
  obtain ⟨rfl, hX, hb⟩ := hv
  rw [lg_entry_eq]
  have e0 : ((lg_sl [.int x, .int y, f] ++ List.replicate (3 - (lg_sl [.int x, .int y, f]).length) Slot.unset).toArray)[0]? = some (.val (.int x)) := by rcases hf with rfl | ⟨t, rfl⟩ <;> rfl
  have e1 : ((lg_sl [.int x, .int y, f] ++ List.replicate (3 - (lg_sl [.int x, .int y, f]).length) Slot.unset).toArray)[1]? = some (.val (.int y)) := by rcases hf with rfl | ⟨t, rfl⟩ <;> rfl
  refine lv_iload_n (pc := 0) B.exec B.bytes (i := 0) (show decode prog_22_method_11_code 0 = .ok (.iload_n 0, 1) by decide +kernel) rfl e0 ?_
  refine lv_if_lt (pc := 1) B.exec B.bytes (tgt := 9) (show decode prog_22_method_11_code 1 = .ok (.ifCond .lt 8, 3) by decide +kernel) rfl (fun h => absurd h h1) (fun _ => ?_)
  refine lv_iload_n (pc := 4) B.exec B.bytes (i := 0) (show decode prog_22_method_11_code 4 = .ok (.iload_n 0, 1) by decide +kernel) rfl e0 ?_
  refine lv_iload_n (pc := 5) B.exec B.bytes (i := 1) (show decode prog_22_method_11_code 5 = .ok (.iload_n 1, 1) by decide +kernel) rfl e1 ?_
  refine lv_icmp_lt (pc := 6) B.exec B.bytes (tgt := 16) (show decode prog_22_method_11_code 6 = .ok (.if_icmp .lt 10, 3) by decide +kernel) rfl (fun _ => ?_) (fun h => absurd h2 h)
  refine lv_iload_n (pc := 16) B.exec B.bytes (i := 0) (show decode prog_22_method_11_code 16 = .ok (.iload_n 0, 1) by decide +kernel) rfl e0 ?_
  exact W_nret (w := x) B.exec B.bytes B.returns rfl (fun t ht hW => ⟨rfl, ht⟩) (fun q hq => by cases hq) (by decide +kernel) B.notSynchronized
theorem m_chk {x y : Int32} (h1 : ¬ x < 0) (h2 : x < y) : Met l yS_chk (Jvm.Cond.code yS_chk prog_17_method_155_code 2 none :: lwG) (rmS 2) (PS cv adV base L xs [.int x, .int y]) (QS none) 0 0 (fun q => base ≤ q) := by
  refine Met.ofW (cc := prog_17_method_155_code) (maxL := 2) (ret := none) (by decide) rfl ?_
  intro p e s m args below meth c s₁ B hml hv
  obtain ⟨rfl, hX, hb⟩ := hv
  have hts := atoms_spec (ws := Jvm.Cond.code yS_chk prog_17_method_155_code 2 none :: lwG) B.pre
  have hg : ∀ w ∈ lw_tbl, goodWord w = true → w.before _ s = true := fun w h h2 => hts w (List.mem_cons_of_mem _ (lwG_in h h2))
  have hown : s.vm.findClass "java/lang/String" = some m.cls := findClass_of_methodNamed B.named
  rw [lg_entry_eq]
  refine lv_iload_n (pc := 0) B.exec B.bytes (i := 0) (x := x) (show decode prog_17_method_155_code 0 = .ok (.iload_n 0, 1) by decide +kernel) rfl rfl ?_
  refine lv_iload_n (pc := 1) B.exec B.bytes (i := 1) (x := y) (show decode prog_17_method_155_code 1 = .ok (.iload_n 1, 1) by decide +kernel) rfl rfl ?_
  have key : ∀ f : Value, (f = .null ∨ ∃ t : Nat, f = .ref t) → va_Z "jdk/internal/util/Preconditions" "SIOOBE_FORMATTER" "Ljava/util/function/BiFunction;" f (fun q => base ≤ q) s s.heap → W p l e (headSpec (Jvm.Cond.code yS_chk prog_17_method_155_code 2 none :: lwG) (rmS 2)).room s m [.int x, .int y].toArray below meth c s.heap [] 0 0 (MQ below (QS none) [.int x, .int y].toArray s 0 0 (fun q => base ≤ q)) (F0 m 2 ((lg_sl [.int x, .int y] ++ List.replicate (2 - (lg_sl [.int x, .int y]).length) Slot.unset).toArray) [.int y, .int x]) := by
    intro f hf hZ
    refine va_gets (pc := 2) B.exec B.bytes hZ va_S.rf hown (hg _ (tbW_in 1 _ (nthW_mem _ 86 _ rfl)) rfl) (fun _ h => h) (by decide +kernel) ?_
    refine pureS (pc := 5) (As := [.int x, .int y, f]) (rest := []) (idx := 1059) (n := 3) ⟨B.exec, B.bytes, hml, hown, fun w h => hts w (List.mem_cons_of_mem _ h)⟩ (m_pre hf h1 h2) hX hb va_S.rf (tbW_in 1 _ (nthW_mem _ 90 _ rfl)) (tbW_in 1 _ (nthW_mem _ 7 _ rfl)) (tbW_in 1 _ (nthW_mem _ 88 _ rfl)) (tbW_in 1 _ (nthW_mem _ 89 _ rfl)) (by decide +kernel) ⟨Nat.le_refl _, by decide⟩ rfl rfl (Nat.le_of_ble_eq_true rfl) (by decide +kernel) ⟨Nat.zero_le _, Nat.zero_le _⟩ (fun L1 hL => ?_)
    refine lv_pop (pc := 8) (va := .int x) B.exec B.bytes (by decide +kernel) rfl ?_
    exact W.vret B.exec B.bytes B.returns (fun t ht hW => ⟨rfl, ht⟩) hL (by decide +kernel) B.notSynchronized
  rcases hX.2.2.2.2.2 with h | ⟨t, h⟩
  · exact key _ (Or.inl rfl) h
  · exact key _ (Or.inr ⟨t, rfl⟩) h
theorem ch_ok (k j : Nat) : (fun x : Int32 => (((x &&& 255).toUInt32 % 65536).toInt32 = x) ∧ x.toUInt32.toUInt16.toUInt32.toInt32 = x) (((strT.map fun l => l.map Int32.ofInt).getD k []).getD j 0) := by
  have h0 : ∀ l' ∈ (strT.map fun l => l.map Int32.ofInt), ∀ x ∈ l', (((x &&& 255).toUInt32 % 65536).toInt32 = x) ∧ x.toUInt32.toUInt16.toUInt32.toInt32 = x := by decide +kernel
  have hz : ((((0 : Int32) &&& 255).toUInt32 % 65536).toInt32 = 0) ∧ (0 : Int32).toUInt32.toUInt16.toUInt32.toInt32 = 0 := by decide +kernel
  rw [List.getD_eq_getElem?_getD, List.getD_eq_getElem?_getD]
  cases hk : (strT.map fun l => l.map Int32.ofInt)[k]? with
  | none => exact hz
  | some l' =>
    show (fun x : Int32 => (((x &&& 255).toUInt32 % 65536).toInt32 = x) ∧ x.toUInt32.toUInt16.toUInt32.toInt32 = x) (l'[j]?.getD 0)
    cases hj : l'[j]? with
    | none => exact hz
    | some x => exact h0 l' (List.mem_of_getElem? hk) x (List.mem_of_getElem? hj)
theorem m_lc {i : Nat} (hi : i < 2) {x : Int32} (hin : vp_in x ((strT.map List.length).getD i 0)) (h2 : x < Int32.ofNat ((strT.map List.length).getD i 0)) : Met l yS_lc (Jvm.Cond.code yS_lc prog_18_method_2_code 2 (some .char) :: lwG) (rmS 3) (PS cv adV base L xs [.ref (adV i), .int x]) (QS (some (.int (((strT.map fun l => l.map Int32.ofInt).getD i []).getD x.toNatClampNeg 0)))) 0 0 (fun q => base ≤ q) := by
  refine Met.ofW (cc := prog_18_method_2_code) (maxL := 2) (ret := some .char) (by decide) rfl ?_
  intro p e s m args below meth c s₁ B hml hv
  obtain ⟨rfl, hX, hb⟩ := hv
  have hts := atoms_spec (ws := Jvm.Cond.code yS_lc prog_18_method_2_code 2 (some .char) :: lwG) B.pre
  have hown : s.vm.findClass "java/lang/StringLatin1" = some m.cls := findClass_of_methodNamed B.named
  have hT := (hX.2.1.1 i hi).2.2.2
  rw [lg_entry_eq]
  refine lv_iload_n (pc := 0) B.exec B.bytes (i := 1) (x := x) (show decode prog_18_method_2_code 0 = .ok (.iload_n 1, 1) by decide +kernel) rfl rfl ?_
  refine lv_aload_n (pc := 1) B.exec B.bytes (i := 0) (x := adV i) (show decode prog_18_method_2_code 1 = .ok (.aload_n 0, 1) by decide +kernel) rfl rfl ?_
  refine va_tlen (pc := 2) B.exec B.bytes hT va_S.rf rfl (by decide +kernel) ?_
  refine pureS (pc := 3) (As := [.int x, .int (Int32.ofNat ((strT.map List.length).getD i 0))]) (rest := []) (idx := 9) (n := 2) ⟨B.exec, B.bytes, hml, hown, fun w h => hts w (List.mem_cons_of_mem _ h)⟩ (m_chk (fun h => hin (Or.inl h)) h2) hX hb va_S.rf (tbW_in 1 _ (nthW_mem _ 85 _ rfl)) (tbW_in 1 _ (nthW_mem _ 5 _ rfl)) (tbW_in 1 _ (nthW_mem _ 83 _ rfl)) (tbW_in 1 _ (nthW_mem _ 84 _ rfl)) (by decide +kernel) ⟨Nat.le_refl _, by decide⟩ rfl rfl (Nat.le_of_ble_eq_true rfl) (by decide +kernel) ⟨Nat.zero_le _, Nat.zero_le _⟩ (fun L1 hL => ?_)
  have hS1 : va_S (fun q => base ≤ q) s.heap s.heap ([] ++ L1) := ⟨Nat.le_refl _, fun _ _ _ => rfl, hL⟩
  refine lv_aload_n (pc := 6) B.exec B.bytes (i := 0) (x := adV i) (show decode prog_18_method_2_code 6 = .ok (.aload_n 0, 1) by decide +kernel) rfl rfl ?_
  refine lv_iload_n (pc := 7) B.exec B.bytes (i := 1) (x := x) (show decode prog_18_method_2_code 7 = .ok (.iload_n 1, 1) by decide +kernel) rfl rfl ?_
  refine va_tb (pc := 8) B.exec B.bytes hT hS1 hin rfl (by decide +kernel) ?_
  refine lv_sipush (pc := 9) (v := 255) B.exec B.bytes (show decode prog_18_method_2_code 9 = .ok (.sipush 255, 3) by decide +kernel) rfl ?_
  refine lv_iand (pc := 12) B.exec B.bytes (by decide +kernel) ?_
  refine lv_i2c (pc := 13) B.exec B.bytes (by decide +kernel) (ch_ok i x.toNatClampNeg).1 ?_
  exact W_nret B.exec B.bytes B.returns (congrArg Value.int (ch_ok i x.toNatClampNeg).2) (fun t ht hW => ⟨rfl, ht⟩) hL (by decide +kernel) B.notSynchronized
theorem m_chr {i : Nat} (hi : i < 2) {x : Int32} (hin : vp_in x ((strT.map List.length).getD i 0)) (h2 : x < Int32.ofNat ((strT.map List.length).getD i 0)) : Met l y_chr (Jvm.Cond.code y_chr prog_17_method_56_code 2 (some .char) :: lwG) (rmS 4) (PS cv adV base L xs [.ref (cv (1 + i)), .int x]) (QS (some (.int (((strT.map fun l => l.map Int32.ofInt).getD i []).getD x.toNatClampNeg 0)))) 0 0 (fun q => base ≤ q) := by
  refine Met.ofW (cc := prog_17_method_56_code) (maxL := 2) (ret := some .char) (by decide) rfl ?_
  intro p e s m args below meth c s₁ B hml hv
  obtain ⟨rfl, hX, hb⟩ := hv
  have hts := atoms_spec (ws := Jvm.Cond.code y_chr prog_17_method_56_code 2 (some .char) :: lwG) B.pre
  have hg : ∀ w ∈ lw_tbl, goodWord w = true → w.before _ s = true := fun w h h2 => hts w (List.mem_cons_of_mem _ (lwG_in h h2))
  have hown : s.vm.findClass "java/lang/String" = some m.cls := findClass_of_methodNamed B.named
  rw [lg_entry_eq]
  refine lv_aload_n (pc := 0) B.exec B.bytes (i := 0) (x := cv (1 + i)) (show decode prog_17_method_56_code 0 = .ok (.aload_n 0, 1) by decide +kernel) rfl rfl ?_
  refine pureV (pc := 1) (As := []) (rest := []) (idx := 492) (n := 0) ⟨B.exec, B.bytes, hml, hown, fun w h => hts w (List.mem_cons_of_mem _ h)⟩ (m_lat hi) hX hb va_S.rf (tbW_in 1 _ (nthW_mem _ 79 _ rfl)) (tbW_in 1 _ (nthW_mem _ 5 _ rfl)) (tbW_in 1 _ (nthW_mem _ 76 _ rfl)) (tbW_in 1 _ (nthW_mem _ 77 _ rfl)) (tbW_in 1 _ (nthW_mem _ 78 _ rfl)) (by decide +kernel) ⟨by decide, by decide⟩ (vk_recv (adK := fun i => cv (1 + i)) (i := i) hX.2.1 hi va_S.rf) rfl rfl (Nat.le_of_ble_eq_true rfl) (by decide +kernel) ⟨Nat.zero_le _, Nat.zero_le _⟩ (fun L1 hL => ?_)
  have hS1 : va_S (fun q => base ≤ q) s.heap s.heap ([] ++ L1) := ⟨Nat.le_refl _, fun _ _ _ => rfl, hL⟩
  refine lv_if_eq (pc := 4) B.exec B.bytes (tgt := 16) (show decode prog_17_method_56_code 4 = .ok (.ifCond .eq 12, 3) by decide +kernel) rfl (fun h => absurd h (by decide)) (fun _ => ?_)
  refine lv_aload_n (pc := 7) B.exec B.bytes (i := 0) (x := cv (1 + i)) (show decode prog_17_method_56_code 7 = .ok (.aload_n 0, 1) by decide +kernel) rfl rfl ?_
  refine vk_getf (pc := 8) B.exec B.bytes (hX.2.1.1 i hi).2.2.1 hS1 hown (hg _ (tbW_in 10 _ (nthW_mem _ 121 _ rfl)) rfl) (fun _ h => h) (by decide +kernel) ?_
  refine lv_iload_n (pc := 11) B.exec B.bytes (i := 1) (x := x) (show decode prog_17_method_56_code 11 = .ok (.iload_n 1, 1) by decide +kernel) rfl rfl ?_
  refine pureS (pc := 12) (As := [.ref (adV i), .int x]) (rest := []) (idx := 495) (n := 2) ⟨B.exec, B.bytes, hml, hown, fun w h => hts w (List.mem_cons_of_mem _ h)⟩ (m_lc hi hin h2) hX hb hS1 (tbW_in 1 _ (nthW_mem _ 82 _ rfl)) (tbW_in 1 _ (nthW_mem _ 6 _ rfl)) (tbW_in 1 _ (nthW_mem _ 80 _ rfl)) (tbW_in 1 _ (nthW_mem _ 81 _ rfl)) (by decide +kernel) ⟨Nat.le_refl _, by decide⟩ rfl rfl (Nat.le_of_ble_eq_true rfl) (by decide +kernel) ⟨Nat.zero_le _, Nat.zero_le _⟩ (fun L2 hL2 => ?_)
  exact W_nret B.exec B.bytes B.returns (congrArg Value.int (ch_ok i x.toNatClampNeg).2) (fun t ht hW => ⟨rfl, ht⟩) (fun q hq => (List.mem_append.mp hq).elim (hL q) (hL2 q)) (by decide +kernel) B.notSynchronized
end ST2

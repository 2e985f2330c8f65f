/-! THE CLAIM OUT OF THE ABSTRACT RUN OF THE LAW -/
def S00 (L : Nat) : Sp := [(29, L, []), (13, 0, []), (13, 1, [])]
def M00 (xs : Nat → Int) : Mm := fun a j => if a = 0 then xs j else 0
theorem okS00 {L : Nat} (h : L < 2147483648) : okS L (S00 L) := by
  refine ⟨rfl, rfl, rfl, h, fun a t m rf ha hs => ?_⟩
  rw [List.getElem?_eq_none (by show 3 ≤ a; exact ha)] at hs
  cases hs
theorem okM00 {L : Nat} {xs : Nat → Int} (h : ∀ j, i32 (xs j)) : okM xs (S00 L) (M00 xs) := by
  refine ⟨fun a t m rf hs k => ?_, fun a ha k => ?_, fun j => rfl⟩
  · rcases a with _ | _ | _ | a
    · cases hs; exact h k
    · cases hs; trivial
    · cases hs; trivial
    · cases hs
  · unfold M00
    rw [if_neg (by have : 3 ≤ a := ha; omega)]
theorem slO00 (L : Nat) : slO (S00 L) = L + 1 := by simp [slO, S00]
theorem law_rows : (∀ ch ∈ tb_Law_law, ∀ q ∈ ch, okEn "CargoFlagLaw" false [] maxLocals ret q = true) ∧ (∀ ch ∈ tb_Law_law, ∀ q ∈ ch, usedOp q.2.2.1 = true) := by
  have hu := List.all_eq_true.mp okU_all 404 (by decide)
  refine ⟨fun ch hch q hq => List.all_eq_true.mp (List.all_eq_true.mp okLawE ch hch) q hq, fun ch hch q hq => List.all_eq_true.mp (List.all_eq_true.mp hu ch hch) q hq⟩
theorem nthC_mem : ∀ {C : Cd} {ch : List En}, ch ∈ C → ∃ i, i < C.length ∧ nthC C i = ch
  | [], _, h => by cases h
  | v :: t, ch, h => by
    rcases List.mem_cons.mp h with rfl | h
    · exact ⟨0, by simp, rfl⟩
    · obtain ⟨i, h1, h2⟩ := nthC_mem h
      exact ⟨i + 1, by simp; exact h1, h2⟩
theorem law_len : tb_Law_law.length = 153 := by decide +kernel
theorem law_dec : ∀ ch ∈ tb_Law_law, ∀ q ∈ ch, decode code q.1 = .ok q.2.1 := by
  intro ch hch q hq
  obtain ⟨i, hi, rfl⟩ := nthC_mem hch
  rw [law_len] at hi
  exact of_decide_eq_true (List.all_eq_true.mp (okLD_all i hi) q hq)
theorem lw_ret2 {p : Program} {l : Launch} {e : Env} {s : State} {m : MethodId} {below : List Frame} {meth : Method} {c : Code} {b : Nat} {v : Int32} (hv : v &&& 1 = 1) (hx : p.tables.exec = Jvm.exec) (hb : c.code = code) (hr : meth.sig.returnType = ret) (hlocks : meth.locks = false) {pc : Nat} {H : Heap} {ls : Array Slot} (hdg : decode code pc = .ok (.ireturn, 1)) : W p l e room_1 s m #[Value.ref b] below meth c H [] 600000 7302250 (lw_Z below #[Value.ref b] s) (F0 m pc ls [.int v]) := by
  intro T hT X
  obtain ⟨fs, hret, hrun, hended, hW, hframe⟩ := X.leave (v := some (.int 1)) (hlocks := hlocks) (fun h => by rw [hr] at h; cases h)
  have hmeth' : T.vm.method? m = some meth := X.method'
  refine ⟨T.setFrames fs, ?_, .returned (some (.int 1)), hrun, hended, rfl, ⟨_, rfl⟩, hW, hframe⟩
  jvm_step X.here [X.here.top, hx, hb, hdg, hmeth', hr, ret, narrow, hv]
  (try refine ⟨rfl, ?_⟩); (try refine ⟨rfl, ?_⟩)
  first | (intro acts; rw [hret _ acts rfl rfl rfl]) | rw [hret _ _ rfl rfl rfl]
  exact Steps.refl _
/-- what the abstract machine must come to for every script -/
def LawRuns : Prop := ∀ (L : Nat) (xs : Nat → Int), L ≤ 3072 → (∀ j, i32 (xs j)) → ∃ (d n : Nat) (S' : Sp) (M' : Mm), runN (callD d) tb_Law_law n 0 [vR 29 L 0, vU, vU, vU] [] (S00 L) (M00 xs) = some (some (vI 1), S', M') ∧ S'.length ≤ 600000 ∧ slO S' ≤ 7302250 ∧ d ≤ 2000
noncomputable def okF2 : Bool := decide (nthW flL 4 = some (.eq (.static "java/lang/String" "COMPACT_STRINGS" "Z") (.int 1))) && decide (nthW flL 5 = some (.isRef (.static "jdk/internal/util/Preconditions" "SIOOBE_FORMATTER" "Ljava/util/function/BiFunction;")))
theorem okF2_t : okF2 = true := by decide +kernel
theorem start_Z {args : Array Value} {s : State} (hts : ∀ w ∈ lw_tbl, w.before args s = true) (hgv : (Jvm.Cond.and given_1 narrow_1).before args s = true) : ZZ s.heap.size s s.heap := by
  have hfl := flat_of_before _ hgv
  have hm : ∀ {i : Nat} {w : Jvm.Cond}, nthW flL i = some w → w.before args s = true := fun h => hfl _ (nthW_mem _ _ _ h)
  have hF := okF2_t
  unfold okF2 at hF
  simp only [Bool.and_eq_true, decide_eq_true_eq] at hF
  exact ⟨va_Zof (hts _ (tbW_in 1 _ (nthW_mem _ 71 _ rfl))) (hts _ (tbW_in 1 _ (nthW_mem _ 5 _ rfl))) (va_eqi (hm hF.1)) (fun a ha => Nat.not_le.mpr ha), va_Zqof (hts _ (tbW_in 1 _ (nthW_mem _ 87 _ rfl))) (hts _ (tbW_in 1 _ (nthW_mem _ 7 _ rfl))) (hm hF.2) (fun a ha => Nat.not_le.mpr ha)⟩
set_option maxHeartbeats 4000000 in
theorem start_X {args : Array Value} {s : State} {b L : Nat} {xs : Nat → Int32} (hts : ∀ w ∈ lw_tbl, w.before args s = true) (hX : va_X b L xs s s.heap) (hbl : b < s.heap.size) (hgv : (Jvm.Cond.and given_1 narrow_1).before args s = true) :
    ∃ cv adV : Nat → Nat, XX cv adV s.heap.size L (fun j => (xs j).toInt) s s.heap ∧ (∀ a, 3 ≤ a → cv a = s.heap.size + (a - 3)) ∧ cv 0 = b := by
  have hfl := flat_of_before _ hgv
  have hm : ∀ {i : Nat} {w : Jvm.Cond}, nthW flL i = some w → w.before args s = true := fun h => hfl _ (nthW_mem _ _ _ h)
  have hF := okFl_t
  unfold okFl at hF
  simp only [Bool.and_eq_true, decide_eq_true_eq] at hF
  obtain ⟨⟨⟨⟨⟨⟨⟨⟨f0, f1⟩, f2⟩, f3⟩, f4⟩, f5⟩, f6⟩, f7⟩, f8⟩ := hF
  have two : ∀ {i : Nat} {P : Nat → Prop}, i < 2 → P 0 → P 1 → P i := fun {i} {P} hi h0 h1 => by
    rcases (show i = 0 ∨ i = 1 by omega) with rfl | rfl
    · exact h0
    · exact h1
  obtain ⟨adK, adV, hS, hE⟩ := vk_Sof (args := args) (s := s) (N := 2) (tm := tm) (len := strT.map List.length) (byt := strT.map fun l => l.map Int32.ofInt) (A := fun q => s.heap.size ≤ q) (fun i hi => two (P := fun i => (strT.map List.length).getD i 0 < 2 ^ 31) hi (by decide +kernel) (by decide +kernel))
    (fun i hi => two (P := fun i => (Cond.exactly (tm i) "java/lang/String").before args s = true) hi (hm f0) (hm f1))
    (fun i hi => two (P := fun i => (Cond.eq (.field (tm i) "java/lang/String" "coder" "B") (.int 0)).before args s = true) hi (hm f2) (hm f3))
    (fun i hi => two (P := fun i => (Cond.arrayOf (.field (tm i) "java/lang/String" "value" "[B") .byte).before args s = true) hi (hm f4) (hm f5))
    (fun i hi => two (P := fun i => (Cond.eq (.length (.field (tm i) "java/lang/String" "value" "[B")) (.int (Int32.ofNat ((strT.map List.length).getD i 0)))).before args s = true) hi (hm f6) (hm f7))
    (fun i hi j hj => by
      have key : ∀ (i : Nat) (l : List Int) (cs : List Jvm.Cond), okEl i 0 l cs = true → (∀ w ∈ cs, w.before args s = true) → j < l.length → (elC i j (l.getD j 0)).before args s = true := fun i l cs h hw hj => by
        have e : l[j]? = some (l.getD j 0) := by rw [List.getD_eq_getElem?_getD, List.getElem?_eq_getElem hj]; rfl
        have := okEl_at i l cs 0 j _ h e
        rw [Nat.zero_add] at this
        exact hw _ this
      have bg : ∀ i, i < 2 → ((strT.map fun l => l.map Int32.ofInt).getD i []).getD j 0 = Int32.ofInt ((strT.getD i []).getD j 0) := fun i hi => by
        simp only [List.getD_eq_getElem?_getD, List.getElem?_map]
        rcases (show i = 0 ∨ i = 1 by omega) with rfl | rfl
        · show ((strT.getD 0 []).map Int32.ofInt)[j]?.getD 0 = Int32.ofInt ((strT.getD 0 [])[j]?.getD 0)
          rw [List.getElem?_map]
          cases (strT.getD 0 [])[j]? <;> rfl
        · show ((strT.getD 1 []).map Int32.ofInt)[j]?.getD 0 = Int32.ofInt ((strT.getD 1 [])[j]?.getD 0)
          rw [List.getElem?_map]
          cases (strT.getD 1 [])[j]? <;> rfl
      rw [bg i hi]
      rcases (show i = 0 ∨ i = 1 by omega) with rfl | rfl
      · exact key 0 _ _ okEl_0 (fun w hw => hfl _ (dropW_mem _ _ hw)) hj
      · exact key 1 _ _ okEl_1 (fun w hw => hfl _ (dropW_mem _ _ hw)) hj)
    (fun i j hi hj hne => by
      rcases (show i = 0 ∨ i = 1 by omega) with rfl | rfl <;> rcases (show j = 0 ∨ j = 1 by omega) with rfl | rfl
      · exact absurd rfl hne
      · exact Or.inl (hm f8)
      · exact Or.inr (hm f8)
      · exact absurd rfl hne)
    (fun a ha => Nat.not_le.mpr ha)
  refine ⟨fun a => if a = 0 then b else if a = 1 then adK 0 else if a = 2 then adK 1 else s.heap.size + (a - 3), adV, ⟨?_, ⟨fun i hi => ?_, fun i j hi hj h => ?_⟩, ?_, ?_⟩, fun a ha => ?_, rfl⟩
  · obtain ⟨scr, g1, g2, g3, g4, g5⟩ := hX
    refine ⟨scr, g1, g2, g3, Nat.le_of_eq g4.symm, by rw [g4], fun j hj => ?_, Nat.not_le.mpr hbl⟩
    rw [g5 j hj]
    simp only [Int32.ofInt_toInt]
  · rcases (show i = 0 ∨ i = 1 by omega) with rfl | rfl
    · exact hS.1 0 (by decide)
    · exact hS.1 1 (by decide)
  · rcases (show i = 0 ∨ i = 1 by omega) with rfl | rfl <;> rcases (show j = 0 ∨ j = 1 by omega) with rfl | rfl
    · rfl
    · exact hS.2 0 1 (by decide) (by decide) h
    · exact hS.2 1 0 (by decide) (by decide) h
    · rfl
  · exact vk_R.of (hts _ (tbW_in 1 _ (nthW_mem _ 61 _ rfl))) (hE 0 (by decide))
  · exact ⟨vk_R.of (hts _ (tbW_in 7 _ (nthW_mem _ 211 _ rfl))) (hE 1 (by decide)), start_Z hts hgv⟩
  · show (if a = 0 then b else if a = 1 then adK 0 else if a = 2 then adK 1 else s.heap.size + (a - 3)) = _
    rw [if_neg (by omega), if_neg (by omega), if_neg (by omega)]
set_option maxHeartbeats 4000000 in
theorem whole_of (hMul : ∀ (dC : Nat → ClassId) (dI : Nat → Nat → Nat) (dA : Nat → ClassId) (cv adV : Nat → Nat) (base L : Nat) (xs : Nat → Int), MulOK dC dI dA cv adV base L xs) (hSL : ∀ (dC : Nat → ClassId) (dI : Nat → Nat → Nat) (dA : Nat → ClassId) (cv adV : Nat → Nat) (base L : Nat) (xs : Nat → Int), StrLOK dC dI dA cv adV base L xs) (hSC : ∀ (dC : Nat → ClassId) (dI : Nat → Nat → Nat) (dA : Nat → ClassId) (cv adV : Nat → Nat) (base L : Nat) (xs : Nat → Int), StrCOK dC dI dA cv adV base L xs) (hRuns : LawRuns) {p : Program} {e : Env} {s : State} {m : MethodId} {below : List Frame} {meth : Method} {c : Code} (l : Launch) {b L : Nat} {xs : Nat → Int32} (hL : L ≤ 3072) (C0 : lw_At p s m meth c b L xs) : W p l e room_1 s m #[Value.ref b] below meth c s.heap [] 0 0 (lw_Z below #[Value.ref b] s) (entryFrame m ([Value.ref b] : List Value).toArray 4) := by
  obtain ⟨cx, cb, cr, cm, cf, hts, hX, hbl, hlk, hgv⟩ := C0
  obtain ⟨dC, dI, dA, hK⟩ := start_K hts
  have hY := start_Y hts
  obtain ⟨cv, adV, hXX, hcv, hc0⟩ := start_X hts hX hbl hgv
  have hx32 : ∀ j, i32 ((xs j).toInt) := fun j => ⟨Int32.le_toInt (xs j), Int32.toInt_lt (xs j)⟩
  obtain ⟨d, n, S', M', hn, h1, h2, h3⟩ := hRuns L (fun j => (xs j).toInt) hL hx32
  have X : CX p room_1 s m #[Value.ref b] c code "CargoFlagLaw" maxLocals d L s.heap.size dC dI dA cv adV (fun j => (xs j).toInt) := ⟨⟨cx, cb, cm, cf, fun w hw _ => hts w hw⟩, hK, hXX, hcv, Nat.le_refl _, by show 6 + d ≤ 2048; omega, by show 200 + 40 * d ≤ 84000; omega⟩
  have hcc : S'.length ≤ room_1.cells + 3 := by show S'.length ≤ 600000 + 3; omega
  have hss : slO S' ≤ room_1.slots + (L + 1) := by show slO S' ≤ 7302250 + (L + 1); omega
  have hB := body (l := l) (e := e) (below := below) (meth := meth) (Q := lw_Z below #[Value.ref b] s) (n0 := 3) (m0 := L + 1) (Ls := []) X (C := tb_Law_law) (ini := false) (rt := ret) (r' := some (vI 1)) (S' := S') (M' := M') hY law_rows.1 law_dec law_rows.2 nofun (hMul _ _ _ _ _ _ _ _ _ _ _ _ _ _ _ _ _ _ _ _ _ _ _ _ _ _ _ X hY hcc hss) (hSL _ _ _ _ _ _ _ _ _ _ _ _ _ _ _ _ _ _ _ _ _ _ _ _ _ _ _ X hY hcc hss) (hSC _ _ _ _ _ _ _ _ _ _ _ _ _ _ _ _ _ _ _ _ _ _ _ _ _ _ _ X hY hcc hss) (fun d1 hd1 => by subst hd1; exact meth_sound dC dI dA cv adV s.heap.size L _ hcv (hMul _ _ _ _ _ _ _ _) (hSL _ _ _ _ _ _ _ _) (hSC _ _ _ _ _ _ _ _) l d1) hcc hss ?_ n 0 _ _ _ _ hn
  · rw [lg_entry_eq]
    have hlay : (lay [vR 29 L 0]).length ≤ 4 := Nat.le_of_ble_eq_true rfl
    have hoa : OKs (S00 L) [vR 29 L 0] := OKs.cons.mpr ⟨⟨?_, nofun⟩, OKs.nil⟩
    · have hRL := entry_RL (cv := cv) (a := [vR 29 L 0]) (n := 4) hlay
      have e1 : ([vR 29 (L : Int) 0] : List AV).map (cV cv) = [Value.ref b] := by rw [← hc0]; rfl
      rw [e1] at hRL
      have hfin := hB s.heap [] _ (okS00 (by omega)) (okM00 hx32) (entry_OKa (a := [vR 29 L 0]) (n := 4) (Ls := []) hlay hoa rfl) OKs.nil (Nat.le_refl _) (by rw [slO00]; exact Nat.le_refl _) ⟨fun k q hq => (nomatch (show (none : Option (Nat × va_E)) = some q from hq)), rfl⟩ va_S.rf hRL
      rw [slO00, Nat.sub_self] at hfin
      exact hfin
    · exact ⟨L, [], rfl, rfl⟩
  · intro pc ls st S1 M1 q hlk1 hq hF H locs lsC g1 g2 g3 g4 g5 g6 hA1 hS1 hR1
    obtain ⟨ch, hch, hmem⟩ := lk_mem hlk1
    obtain ⟨⟨raw, len⟩, ins, ax⟩ := q
    have he := law_rows.1 ch hch (pc, (raw, len), ins, ax) hmem
    have hd : decode code pc = .ok (raw, len) := law_dec ch hch (pc, (raw, len), ins, ax) hmem
    unfold FF at hF
    rw [hlk1] at hF
    rcases hq with rfl | rfl | rfl
    · dsimp only at hF
      split at hF
      · next x =>
        unfold okEn at he
        dsimp only at he
        simp only [Bool.and_eq_true, Bool.or_eq_true, decide_eq_true_eq, beq_iff_eq] at he
        obtain ⟨⟨rfl, rfl⟩, he⟩ := he
        rcases he with ⟨e1, e2⟩ | ⟨e1, e2⟩
        · cases e2
        · rw [e1] at hF
          have hF := Prod.mk.inj (Option.some.inj hF)
          have hx : x % 2 = 1 := Sum.inl.inj (Option.some.inj hF.1)
          have hSM := Prod.mk.inj hF.2
          obtain ⟨rfl, rfl⟩ := hSM
          refine va_forget (fun q hq => hS1.2.2 q hq) (W.widen (k := 600000) (n := 7302250) (by omega) (by omega) ?_)
          exact lw_ret2 (v := Int32.ofInt x) (by rw [and1, hx]; rfl) cx cb cr hlk hd
      · cases hF
    · dsimp only at hF
      split at hF
      · unfold okEn at he
        dsimp only at he
        simp only [Bool.and_eq_true, decide_eq_true_eq, beq_iff_eq] at he
        cases he.2
      · cases hF
    · dsimp only at hF
      split at hF
      · cases hF
      · cases hF

/-! THE MACHINE IS SOUND: arraycopy -/
theorem cpy_ne (M : Mm) (a sp b dp n c : Nat) (h : c ≠ b) : cpy M a sp b dp n c = M c := by
  funext j
  unfold cpy
  rw [if_neg (fun q => h q.1)]
theorem cpy_at (M : Mm) (a sp b dp n j : Nat) : cpy M a sp b dp n b j = if dp ≤ j ∧ j < dp + n then M a (sp + (j - dp)) else M b j := by
  unfold cpy
  by_cases h : dp ≤ j ∧ j < dp + n
  · rw [if_pos ⟨rfl, h⟩, if_pos h]
  · rw [if_neg (fun q => h q.2), if_neg h]
theorem okM.cpy {xs : Nat → Int} {S : Sp} {M : Mm} (h : okM xs S M) {a b sp dp n t m m' : Nat} {rf rf' : List (Option Nat)} (ht : t = 20 ∨ t = 21) (h3 : 3 ≤ b) (ha : S[a]? = some (t, m, rf)) (hb : S[b]? = some (t, m', rf')) : okM xs S (cpy M a sp b dp n) := by
  have ck2 : ∀ i j, ck t i = ck t j := fun i j => by rcases ht with rfl | rfl <;> rfl
  refine ⟨fun c t' m2 rf2 hc j => ?_, fun c hc j => ?_, fun j => ?_⟩
  · by_cases e : c = b
    · subst e
      rw [hb] at hc
      cases hc
      rw [cpy_at]
      split
      · rw [ck2 j (sp + (j - dp))]; exact h.1 _ _ _ _ ha _
      · exact h.1 _ _ _ _ hb j
    · rw [cpy_ne M a sp b dp n c e]
      exact h.1 _ _ _ _ hc j
  · have hl := (List.getElem?_eq_some_iff.mp hb).1
    rw [cpy_ne M a sp b dp n c (by omega)]
    exact h.2.1 c hc j
  · rw [cpy_ne M a sp b dp n 0 (by omega)]
    exact h.2.2 j
section SND
variable {p : Program} {l : Launch} {e : Env} {R : Room} {s : State} {m : MethodId} {args : Array Value} {below : List Frame} {meth : Method} {c : Code} {Q : State → Prop}
variable {cc : ByteArray} {own : String} {nL d n0 m0 L base : Nat} {Ls : List Nat} {dC : Nat → ClassId} {dI : Nat → Nat → Nat} {dA : Nat → ClassId} {cv adV : Nat → Nat} {xs : Nat → Int}
variable {pc : Nat} {ls r : List AV} {S : Sp} {M : Mm}
theorem s_copy_20 (X : CX p R s m args c cc own nL d L base dC dI dA cv adV xs) {n dp sp nd ns : Int} {a b idx : Nat} (hd : decode cc pc = .ok (.invokestatic idx, 3)) (hw : Jvm.Cond.methodLink own idx arraycopyName ∈ lw_tbl) (hw1 : Jvm.Cond.native arraycopyName ∈ lw_tbl) (hw2 : Jvm.Cond.static arraycopyName ∈ lw_tbl) (hw3 : Jvm.Cond.initialized "java/lang/System" ∈ lw_tbl) (h8 : wds r ≤ 8) (hh : 0 ≤ sp ∧ 0 ≤ dp ∧ 0 ≤ n ∧ sp + n ≤ ns ∧ dp + n ≤ nd) (hk : WW p l e R s m args below meth c Q nL n0 m0 L base Ls dC dI dA cv xs (pc + 3) ls r S (cpy M a sp.toNat b dp.toNat n.toNat)) : WW p l e R s m args below meth c Q nL n0 m0 L base Ls dC dI dA cv xs pc ls (vI n :: vI dp :: vR 20 nd b :: vI sp :: vR 20 ns a :: r) S M := by
  intro H locs lsC o1 o2 o3 o4 o5 o6 hA hS hR
  obtain ⟨⟨qn, -⟩, y1⟩ := OKs.cons.mp o4
  obtain ⟨⟨qd, -⟩, y2⟩ := OKs.cons.mp y1
  obtain ⟨⟨⟨mb, rfb, hmb, hnb⟩, -⟩, y3⟩ := OKs.cons.mp y2
  obtain ⟨⟨qs, -⟩, y4⟩ := OKs.cons.mp y3
  obtain ⟨⟨⟨ma, rfa, hma, hna⟩, -⟩, q4⟩ := OKs.cons.mp y4
  have hnb : nd = (mb : Int) := hnb
  have hna : ns = (ma : Int) := hna
  have hmb : S[b]? = some (20, mb, rfb) := hmb
  have hma : S[a]? = some (20, ma, rfa) := hma
  have qn : i32 n := qn
  have qd : i32 dp := qd
  have qs : i32 sp := qs
  have h3a := o1.ge3 hma (by decide) (by decide)
  have h3b := o1.ge3 hmb (by decide) (by decide)
  have hca := X.2.2.2.1 a h3a
  have hcb := X.2.2.2.1 b h3b
  have hA0 : H[cv a]? = some (arrV (dA 20) ma (fun j => .int (Int32.ofInt (M a j)))) := by rw [hca]; exact hA.1 (a - 3) _ (wsO_get h3a hma)
  have hB0 : H[cv b]? = some (arrV (dA 20) mb (fun j => .int (Int32.ofInt (M b j)))) := by rw [hcb]; exact hA.1 (b - 3) _ (wsO_get h3b hmb)
  obtain ⟨-, k0, hk0, cm0, hkk0⟩ := (X.2.1.2 0 _ rfl).1 ma (fun j => .int (Int32.ofInt (M a j)))
  have hf : 6 + d ≤ R.frames := X.2.2.2.2.2.1
  have hlo : 200 + 40 * d ≤ R.locals := X.2.2.2.2.2.2
  intro T hT XX
  have hnw : nativeFrameWords "java/lang/System" "arraycopy" 5 + 11 ≤ 100 := by decide +kernel
  obtain ⟨vm', X', step⟩ := XX.arraycopy X.1.1 X.1.2.2.2.1 (X.1.2.2.2.2 _ hw rfl) (X.1.2.2.2.2 _ hw1 rfl) (X.1.2.2.2.2 _ hw2 rfl) (X.1.2.2.2.2 _ hw3 rfl) (src := cv a) (dst := cv b) (cs := arrV (dA 20) ma (fun j => .int (Int32.ofInt (M a j)))) (cd := arrV (dA 20) mb (fun j => .int (Int32.ofInt (M b j)))) (srcPos := Int32.ofInt sp) (destPos := Int32.ofInt dp) (n := Int32.ofInt n) (by rw [hT]; exact hA0) (by rw [hT]; exact hB0)
    (fun _ h => by cases h) (fun _ h => by cases h) (fun h => by cases h) (fun h => by cases h) hk0 hk0 hkk0 hkk0 (by simp [refKind]) (fun q => by rw [o_lt0 qs] at q; omega) (fun q => by rw [o_lt0 qd] at q; omega) (fun q => by rw [o_lt0 qn] at q; omega)
    (by rw [toInt_i qs, toInt_i qn, arrV_size]; omega)
    (by rw [toInt_i qd, toInt_i qn, arrV_size]; omega)
    (fun vm₁ _ i hi => by
      rw [o_cl qn] at hi
      rw [o_cl qs, Array.getD_eq_getD_getElem?, arrV_read _ _ (by omega)]
      exact ⟨rfl, trivial⟩)
    (g := F0 m pc lsC (.int (Int32.ofInt n) :: .int (Int32.ofInt dp) :: .ref (cv b) :: .int (Int32.ofInt sp) :: .ref (cv a) :: r.map (cV cv))) rfl (by rw [X.1.2.2.1, hR.1, o3.2.1]) (rest := r.map (cV cv)) rfl (by rw [X.1.2.1]; exact hd) (by omega) (by show 2 * 0 + _ + _ ≤ _; rw [wds_le q4]; omega)
  have e1 : copied (arrV (dA 20) ma (fun j => .int (Int32.ofInt (M a j)))) (arrV (dA 20) mb (fun j => .int (Int32.ofInt (M b j)))) (Int32.ofInt sp) (Int32.ofInt dp) (Int32.ofInt n) = arrV (dA 20) mb (fun j => .int (Int32.ofInt (cpy M a sp.toNat b dp.toNat n.toNat b j))) := by
    have h := va_copied (fun z => .int z) (dA 20) (dA 20) (n0 := ma) (n1 := mb) (sp := (Int32.ofInt sp).toNatClampNeg) (dp := (Int32.ofInt dp).toNatClampNeg) (n := (Int32.ofInt n).toNatClampNeg) (fun j => Int32.ofInt (M a j)) (fun j => Int32.ofInt (M b j)) (by rw [o_cl qs, o_cl qn]; omega)
    refine Eq.trans h ?_
    congr 1
    funext j
    rw [o_cl qs, o_cl qd, o_cl qn, cpy_at]
    unfold va_cpy
    split <;> rfl
  rw [e1] at X' step
  have hl : cv b < H.size := (Array.getElem?_eq_some_iff.mp hB0).1
  have hheap : ((T.setVm vm').setCell (cv b) (arrV (dA 20) mb (fun j => .int (Int32.ofInt (cpy M a sp.toNat b dp.toNat n.toNat b j))))).heap = H.setIfInBounds (cv b) (arrV (dA 20) mb (fun j => .int (Int32.ofInt (cpy M a sp.toNat b dp.toNat n.toNat b j)))) := by rw [← hT]; rfl
  have oq : ∀ q : Nat, q ≠ cv b → (H.setIfInBounds (cv b) (arrV (dA 20) mb (fun j => .int (Int32.ofInt (cpy M a sp.toNat b dp.toNat n.toNat b j)))))[q]? = H[q]? := fun q hq => by simp [Array.getElem?_setIfInBounds, Ne.symm hq]
  obtain ⟨t, a1, b1⟩ := hk _ _ lsC o1 (o2.cpy (by decide) h3b hma hmb) o3 q4 o5 o6 (hA.upd h3b hmb hmb rfl (fun _ _ => rfl) (cpy_ne M a _ b _ _) (by simp) (by rw [← hcb]; exact oq) (show (H.setIfInBounds (cv b) _)[base + (b - 3)]? = some _ by rw [← hcb]; simp [Array.getElem?_setIfInBounds, hl]; rfl)) ⟨by simp; exact hS.1, fun q g1 g2 => by
      rw [oq q (fun e => g2 (by rw [e]; show base ≤ cv b; omega))]
      exact hS.2.1 q g1 g2, fun q hq => by
      rcases List.mem_append.mp hq with h | h
      · exact hS.2.2 q h
      · obtain ⟨z, -, hz⟩ := List.mem_map.mp h
        rw [← hz]
        show base ≤ cv b
        omega⟩ hR _ hheap X'
  exact ⟨t, step t a1, b1⟩
theorem s_copy_21 (X : CX p R s m args c cc own nL d L base dC dI dA cv adV xs) {n dp sp nd ns : Int} {a b idx : Nat} (hd : decode cc pc = .ok (.invokestatic idx, 3)) (hw : Jvm.Cond.methodLink own idx arraycopyName ∈ lw_tbl) (hw1 : Jvm.Cond.native arraycopyName ∈ lw_tbl) (hw2 : Jvm.Cond.static arraycopyName ∈ lw_tbl) (hw3 : Jvm.Cond.initialized "java/lang/System" ∈ lw_tbl) (h8 : wds r ≤ 8) (hh : 0 ≤ sp ∧ 0 ≤ dp ∧ 0 ≤ n ∧ sp + n ≤ ns ∧ dp + n ≤ nd) (hk : WW p l e R s m args below meth c Q nL n0 m0 L base Ls dC dI dA cv xs (pc + 3) ls r S (cpy M a sp.toNat b dp.toNat n.toNat)) : WW p l e R s m args below meth c Q nL n0 m0 L base Ls dC dI dA cv xs pc ls (vI n :: vI dp :: vR 21 nd b :: vI sp :: vR 21 ns a :: r) S M := by
  intro H locs lsC o1 o2 o3 o4 o5 o6 hA hS hR
  obtain ⟨⟨qn, -⟩, y1⟩ := OKs.cons.mp o4
  obtain ⟨⟨qd, -⟩, y2⟩ := OKs.cons.mp y1
  obtain ⟨⟨⟨mb, rfb, hmb, hnb⟩, -⟩, y3⟩ := OKs.cons.mp y2
  obtain ⟨⟨qs, -⟩, y4⟩ := OKs.cons.mp y3
  obtain ⟨⟨⟨ma, rfa, hma, hna⟩, -⟩, q4⟩ := OKs.cons.mp y4
  have hnb : nd = (mb : Int) := hnb
  have hna : ns = (ma : Int) := hna
  have hmb : S[b]? = some (21, mb, rfb) := hmb
  have hma : S[a]? = some (21, ma, rfa) := hma
  have qn : i32 n := qn
  have qd : i32 dp := qd
  have qs : i32 sp := qs
  have h3a := o1.ge3 hma (by decide) (by decide)
  have h3b := o1.ge3 hmb (by decide) (by decide)
  have hca := X.2.2.2.1 a h3a
  have hcb := X.2.2.2.1 b h3b
  have hA0 : H[cv a]? = some (arrV (dA 21) ma (fun j => .long (Int64.ofInt (M a j)))) := by rw [hca]; exact hA.1 (a - 3) _ (wsO_get h3a hma)
  have hB0 : H[cv b]? = some (arrV (dA 21) mb (fun j => .long (Int64.ofInt (M b j)))) := by rw [hcb]; exact hA.1 (b - 3) _ (wsO_get h3b hmb)
  obtain ⟨-, k0, hk0, cm0, hkk0⟩ := (X.2.1.2 1 _ rfl).1 ma (fun j => .long (Int64.ofInt (M a j)))
  have hf : 6 + d ≤ R.frames := X.2.2.2.2.2.1
  have hlo : 200 + 40 * d ≤ R.locals := X.2.2.2.2.2.2
  intro T hT XX
  have hnw : nativeFrameWords "java/lang/System" "arraycopy" 5 + 11 ≤ 100 := by decide +kernel
  obtain ⟨vm', X', step⟩ := XX.arraycopy X.1.1 X.1.2.2.2.1 (X.1.2.2.2.2 _ hw rfl) (X.1.2.2.2.2 _ hw1 rfl) (X.1.2.2.2.2 _ hw2 rfl) (X.1.2.2.2.2 _ hw3 rfl) (src := cv a) (dst := cv b) (cs := arrV (dA 21) ma (fun j => .long (Int64.ofInt (M a j)))) (cd := arrV (dA 21) mb (fun j => .long (Int64.ofInt (M b j)))) (srcPos := Int32.ofInt sp) (destPos := Int32.ofInt dp) (n := Int32.ofInt n) (by rw [hT]; exact hA0) (by rw [hT]; exact hB0)
    (fun _ h => by cases h) (fun _ h => by cases h) (fun h => by cases h) (fun h => by cases h) hk0 hk0 hkk0 hkk0 (by simp [refKind]) (fun q => by rw [o_lt0 qs] at q; omega) (fun q => by rw [o_lt0 qd] at q; omega) (fun q => by rw [o_lt0 qn] at q; omega)
    (by rw [toInt_i qs, toInt_i qn, arrV_size]; omega)
    (by rw [toInt_i qd, toInt_i qn, arrV_size]; omega)
    (fun vm₁ _ i hi => by
      rw [o_cl qn] at hi
      rw [o_cl qs, Array.getD_eq_getD_getElem?, arrV_read _ _ (by omega)]
      exact ⟨rfl, trivial⟩)
    (g := F0 m pc lsC (.int (Int32.ofInt n) :: .int (Int32.ofInt dp) :: .ref (cv b) :: .int (Int32.ofInt sp) :: .ref (cv a) :: r.map (cV cv))) rfl (by rw [X.1.2.2.1, hR.1, o3.2.1]) (rest := r.map (cV cv)) rfl (by rw [X.1.2.1]; exact hd) (by omega) (by show 2 * 0 + _ + _ ≤ _; rw [wds_le q4]; omega)
  have e1 : copied (arrV (dA 21) ma (fun j => .long (Int64.ofInt (M a j)))) (arrV (dA 21) mb (fun j => .long (Int64.ofInt (M b j)))) (Int32.ofInt sp) (Int32.ofInt dp) (Int32.ofInt n) = arrV (dA 21) mb (fun j => .long (Int64.ofInt (cpy M a sp.toNat b dp.toNat n.toNat b j))) := by
    have h := va_copied (fun z => .long z) (dA 21) (dA 21) (n0 := ma) (n1 := mb) (sp := (Int32.ofInt sp).toNatClampNeg) (dp := (Int32.ofInt dp).toNatClampNeg) (n := (Int32.ofInt n).toNatClampNeg) (fun j => Int64.ofInt (M a j)) (fun j => Int64.ofInt (M b j)) (by rw [o_cl qs, o_cl qn]; omega)
    refine Eq.trans h ?_
    congr 1
    funext j
    rw [o_cl qs, o_cl qd, o_cl qn, cpy_at]
    unfold va_cpy
    split <;> rfl
  rw [e1] at X' step
  have hl : cv b < H.size := (Array.getElem?_eq_some_iff.mp hB0).1
  have hheap : ((T.setVm vm').setCell (cv b) (arrV (dA 21) mb (fun j => .long (Int64.ofInt (cpy M a sp.toNat b dp.toNat n.toNat b j))))).heap = H.setIfInBounds (cv b) (arrV (dA 21) mb (fun j => .long (Int64.ofInt (cpy M a sp.toNat b dp.toNat n.toNat b j)))) := by rw [← hT]; rfl
  have oq : ∀ q : Nat, q ≠ cv b → (H.setIfInBounds (cv b) (arrV (dA 21) mb (fun j => .long (Int64.ofInt (cpy M a sp.toNat b dp.toNat n.toNat b j)))))[q]? = H[q]? := fun q hq => by simp [Array.getElem?_setIfInBounds, Ne.symm hq]
  obtain ⟨t, a1, b1⟩ := hk _ _ lsC o1 (o2.cpy (by decide) h3b hma hmb) o3 q4 o5 o6 (hA.upd h3b hmb hmb rfl (fun _ _ => rfl) (cpy_ne M a _ b _ _) (by simp) (by rw [← hcb]; exact oq) (show (H.setIfInBounds (cv b) _)[base + (b - 3)]? = some _ by rw [← hcb]; simp [Array.getElem?_setIfInBounds, hl]; rfl)) ⟨by simp; exact hS.1, fun q g1 g2 => by
      rw [oq q (fun e => g2 (by rw [e]; show base ≤ cv b; omega))]
      exact hS.2.1 q g1 g2, fun q hq => by
      rcases List.mem_append.mp hq with h | h
      · exact hS.2.2 q h
      · obtain ⟨z, -, hz⟩ := List.mem_map.mp h
        rw [← hz]
        show base ≤ cv b
        omega⟩ hR _ hheap X'
  exact ⟨t, step t a1, b1⟩
end SND

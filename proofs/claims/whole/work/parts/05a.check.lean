/-! THE TABLES AGAINST THE STATEMENT: every row of the code tables is the instruction that stands there, and what it links to is what the words say -/
noncomputable def tbW : Nat → List Jvm.Cond
  | 0 => k2_sels lw_privs
  | 1 => tables_1_1
  | 2 => tables_1_2
  | 3 => tables_1_3
  | 4 => tables_1_4
  | 5 => tables_1_5
  | 6 => tables_1_6
  | 7 => tables_1_7
  | 8 => tables_1_8
  | 9 => tables_1_9
  | 10 => tables_1_10
  | _ => []
def nthW : List Jvm.Cond → Nat → Option Jvm.Cond
  | [], _ => none
  | v :: _, 0 => some v
  | _ :: t, k + 1 => nthW t k
noncomputable def wAt (i : Nat) (w : Jvm.Cond) : Bool := decide (nthW (tbW (i / 1000)) (i % 1000) = some w)
theorem nthW_mem : ∀ (l : List Jvm.Cond) (k : Nat) (w : Jvm.Cond), nthW l k = some w → w ∈ l
  | [], _, _, h => by cases h
  | _ :: _, 0, _, h => by cases h; exact List.mem_cons_self
  | _ :: t, k + 1, w, h => List.mem_cons_of_mem _ (nthW_mem t k w h)
theorem tbW_in (k : Nat) (w : Jvm.Cond) (h : w ∈ tbW k) : w ∈ lw_tbl := by
  unfold lw_tbl tables_1
  simp only [List.mem_append]
  unfold tbW at h
  split at h
  · exact Or.inl h
  all_goals first | (cases h; done) | simp only [h, or_true, true_or]
theorem wAt_mem {i : Nat} {w : Jvm.Cond} (h : wAt i w = true) : w ∈ lw_tbl := tbW_in _ _ (nthW_mem _ _ _ (of_decide_eq_true h))
def elT : Nat → Nat × Nat
  | 23 => (5, 0)
  | 24 => (8, 0)
  | 25 => (21, 60)
  | 26 => (21, 8)
  | 27 => (20, 8)
  | _ => (20, 6)
def elN : Nat → String
  | 23 => "CargoFlag$State"
  | _ => "CargoFlag$Vessel"
def mlN : Nat → String
  | 25 => "[[J"
  | 26 => "[[J"
  | _ => "[[I"
def noL (Ls : List Nat) : Nat → Bool
  | 0 => true
  | k + 1 => !(elemN Ls k)
def sortOf (rt : Option FieldType) : Nat := match rt with
  | none => 0
  | some .long => 2
  | some _ => 1
def y_len : MethodName := ⟨"java/lang/String", "length", "()I"⟩
def y_chr : MethodName := ⟨"java/lang/String", "charAt", "(I)C"⟩
def y0 : MethodName := ⟨"", "", ""⟩
def yi0 : Bool × Nat × Nat × Nat × Nat × Nat × Nat := (false, 0, 0, 0, 0, 0, 0)
noncomputable def okCall (own : String) (i : Nat) (ax : Ax) : Bool :=
  (match ax.2.1.2 with
   | 0 => wAt ax.1.2.2 (.methodLink own i (yN.getD ax.1.1 y0))
   | _ => wAt ax.1.2.2 (.methodLinkNest own i (yN.getD ax.1.1 y0) "CargoFlag")) && Nat.blt ax.1.1 404
noncomputable def okEn (own : String) (ini : Bool) (Ls : List Nat) (nL : Nat) (rt : Option FieldType) (e : En) : Bool :=
  match e with
  | (pc, (raw, len), ins, ax) => match ins with
    | .sipush m => match raw with
      | .iconst n => len == 1 && decide (n = m) && decide (-1 ≤ n ∧ n ≤ 5)
      | .bipush n => len == 2 && decide (n = m) && decide (-128 ≤ n ∧ n < 128)
      | .sipush n => len == 3 && decide (n = m) && decide (-32768 ≤ n ∧ n < 32768)
      | .ldc i => len == 2 && wAt ax.1.1 (.constant own i (Int32.ofInt m)) && decide (-2147483648 ≤ m ∧ m < 2147483648)
      | .ldc_w i => len == 3 && wAt ax.1.1 (.constant own i (Int32.ofInt m)) && decide (-2147483648 ≤ m ∧ m < 2147483648)
      | _ => false
    | .ldc2_w _ => match raw with
      | .lconst n => len == 1 && decide (ax.2.2.1 = (n : Nat))
      | .ldc2_w i => len == 3 && wAt ax.1.1 (.constantLong own i (Int64.ofInt ax.2.2.1)) && decide (-9223372036854775808 ≤ ax.2.2.1 ∧ ax.2.2.1 < 9223372036854775808)
      | _ => false
    | .ldc i => decide (raw = .ldc i) && len == 2 && ((own == "CargoFlag$Tape" && i == 54 && ax.1.2.2 == 0 && ax.1.2.1 == 1) || (own == "CargoFlagModel" && i == 171 && ax.1.2.2 == 1 && ax.1.2.1 == 2))
    | .iload k => match raw with
      | .iload j => len == 2 && j == k
      | .iload_n j => len == 1 && (j : Nat) == k
      | _ => false
    | .lload k => match raw with
      | .lload j => len == 2 && j == k
      | .lload_n j => len == 1 && (j : Nat) == k
      | _ => false
    | .aload k => match raw with
      | .aload j => len == 2 && j == k
      | .aload_n j => len == 1 && (j : Nat) == k
      | _ => false
    | .istore k => noL Ls k && decide (k < nL) && (match raw with
      | .istore j => len == 2 && j == k
      | .istore_n j => len == 1 && (j : Nat) == k
      | _ => false)
    | .lstore k => noL Ls k && elemN Ls k && decide (k + 1 < nL) && (match raw with
      | .lstore j => len == 2 && j == k
      | .lstore_n j => len == 1 && (j : Nat) == k
      | _ => false)
    | .astore k => noL Ls k && decide (k < nL) && (match raw with
      | .astore j => len == 2 && j == k
      | .astore_n j => len == 1 && (j : Nat) == k
      | _ => false)
    | .iinc k n => noL Ls k && decide (raw = .iinc k n) && len == 3
    | .dup2_x1 => decide (raw = .dup2) && len == 1
    | .faload => decide (raw = .iaload) && len == 1
    | .aaload => decide (raw = .aaload) && len == 1 && decide (23 ≤ ax.1.1 ∧ ax.1.1 ≤ 28) && decide (ax.2.1 = elT ax.1.1)
    | .aastore => decide (raw = .aastore) && len == 1 && decide (23 ≤ ax.1.1 ∧ ax.1.1 ≤ 24) && decide (ax.2.1 = elT ax.1.1)
    | .getfield ty => match raw with
      | .getfield i => len == 3 && decide (ax.1.1 < 13) && decide (ax.1.2.1 < nF ax.1.1) && wAt ax.1.2.2 (.fieldLink own i (TT ax.1.1 ax.1.2.1).1 (TT ax.1.1 ax.1.2.1).2.1 (TT ax.1.1 ax.1.2.1).2.2.1) && (match ty with
        | 0 => decide (nthN (fK.getD ax.1.1 []) ax.1.2.1 = 0 ∨ nthN (fK.getD ax.1.1 []) ax.1.2.1 = 3)
        | 1 => decide (nthN (fK.getD ax.1.1 []) ax.1.2.1 = 1)
        | _ => decide (nthN (fK.getD ax.1.1 []) ax.1.2.1 = 2 ∧ ax.2.1 = (fR.getD ax.1.1 []).getD ax.1.2.1 (0, 0)))
      | _ => false
    | .putfield ty => match raw with
      | .putfield i => len == 3 && decide (ax.1.1 < 13) && decide (ax.1.2.1 < nF ax.1.1) && wAt ax.1.2.2 (.fieldLink own i (TT ax.1.1 ax.1.2.1).1 (TT ax.1.1 ax.1.2.1).2.1 (TT ax.1.1 ax.1.2.1).2.2.1) && decide (nthN (fK.getD ax.1.1 []) ax.1.2.1 = ty) && decide (ty < 4) && (!(TT ax.1.1 ax.1.2.1).2.2.2 || (ini && decide ((TT ax.1.1 ax.1.2.1).1 = own))) && decide (ty = 2 → ax.2.1 = (fR.getD ax.1.1 []).getD ax.1.2.1 (0, 0))
      | _ => false
    | .new _ => match raw with
      | .new i => len == 3 && decide (ax.1.1 < 13) && decide (ax.1.2.1 = nF ax.1.1) && wAt ax.1.2.2 (.classLink own i (clN.getD ax.1.1 ""))
      | _ => false
    | .newarray _ => len == 2 && (match raw with
      | .newarray .int => ax.1.1 == 20
      | .newarray .long => ax.1.1 == 21
      | .newarray .byte => ax.1.1 == 22
      | _ => false)
    | .anewarray _ => match raw with
      | .anewarray i => len == 3 && decide (23 ≤ ax.1.1 ∧ ax.1.1 ≤ 24) && wAt ax.1.2.2 (.classLink own i (elN ax.1.1))
      | _ => false
    | .multianewarray _ _ => match raw with
      | .multianewarray i 2 => len == 4 && decide (25 ≤ ax.1.1 ∧ ax.1.1 ≤ 28) && wAt ax.1.2.2 (.classLink own i (mlN ax.1.1)) && decide (ax.2.1 = elT ax.1.1) && decide (ax.1.2.1 = (elT ax.1.1).2)
      | _ => false
    | .goto _ => match raw with
      | .goto off => len == 3 && decide ((pc : Int) + off = (ax.1.1 : Int))
      | _ => false
    | .ifCond c _ => match raw with
      | .ifCond c' off => len == 3 && decide (c' = c) && decide ((pc : Int) + off = (ax.1.1 : Int))
      | _ => false
    | .if_icmp c _ => match raw with
      | .if_icmp c' off => len == 3 && decide (c' = c) && decide ((pc : Int) + off = (ax.1.1 : Int))
      | _ => false
    | .tableswitch _ _ _ _ => match raw with
      | .tableswitch d lo hi offs => decide ((pc : Int) + d = (ax.1.1 : Int)) && decide (lo = ax.2.2.1) && decide (hi = lo + offs.size - 1) && decide (offs.toList.map (fun o => (pc : Int) + o) = ax.2.2.2.map (fun t : Nat => (t : Int)))
      | _ => false
    | .invokeinterface _ _ => match raw with
      | .invokespecial i => len == 3 && wAt ax.1.2.2 (.methodLink own i objectInit)
      | _ => false
    | .invokedynamic b => match b with
      | 0 => match raw with
        | .invokestatic i => len == 3 && wAt ax.1.2.2 (.methodLink own i arraycopyName)
        | _ => false
      | 1 => match raw with
        | .invokevirtual i => len == 3 && wAt ax.1.2.2 (.methodLink own i y_len)
        | _ => false
      | 3 => match raw with
        | .invokestatic i => len == 3 && wAt ax.1.2.2 (.methodLink own i Lib.Math.max.name)
        | _ => false
      | 4 => match raw with
        | .invokestatic i => len == 3 && wAt ax.1.2.2 (.methodLink own i Lib.Math.min.name)
        | _ => false
      | _ => match raw with
        | .invokevirtual i => len == 3 && wAt ax.1.2.2 (.methodLink own i y_chr)
        | _ => false
    | .invokestatic so => match raw with
      | .invokestatic i => len == 3 && okCall own i ax && (yI.getD ax.1.1 yi0).1 && (yI.getD ax.1.1 yi0).2.1 == ax.1.2.1 && so == sortOf (yR.getD ax.1.1 none)
      | _ => false
    | .invokevirtual so => match raw with
      | .invokevirtual i => len == 3 && okCall own i ax && !(yI.getD ax.1.1 yi0).1 && (yI.getD ax.1.1 yi0).2.1 + 1 == ax.1.2.1 && so == sortOf (yR.getD ax.1.1 none) && (yI.getD ax.1.1 yi0).2.2.1 == ax.2.1.1 && decide (ax.2.1.1 < 13) && decide ((yN.getD ax.1.1 y0).name ≠ "<init>")
      | _ => false
    | .invokespecial so => match raw with
      | .invokespecial i => len == 3 && okCall own i ax && !(yI.getD ax.1.1 yi0).1 && (yI.getD ax.1.1 yi0).2.1 + 1 == ax.1.2.1 && so == 0 && decide (sortOf (yR.getD ax.1.1 none) = 0) && decide ((yN.getD ax.1.1 y0).name = "<init>")
      | _ => false
    | .ireturn => decide (raw = .ireturn) && len == 1 && ((ax.1.1 == 0 && decide (rt = some .int)) || (ax.1.1 == 1 && decide (rt = some .boolean)))
    | .lreturn => decide (raw = .lreturn) && len == 1 && decide (rt = some .long)
    | .return_ => decide (raw = .return_) && len == 1 && decide (rt = none)
    | x => decide (raw = x) && len == 1
noncomputable def okE (own : String) (ini : Bool) (Ls : List Nat) (nL : Nat) (rt : Option FieldType) (C : Cd) : Bool := C.all fun ch => ch.all fun e => okEn own ini Ls nL rt e
noncomputable def okD (cc : ByteArray) (C : Cd) : Bool := C.all fun ch => ch.all fun e => decide (decode cc e.1 = .ok e.2.1)
noncomputable def okY (y : Nat) : Bool := okE (yN.getD y y0).cls ((yN.getD y y0).name == "<init>") (yL.getD y []) (nthN mxs y) (yR.getD y none) (nthT tbs y)
noncomputable def okZ (y : Nat) : Bool := okD (yB.getD y default) (nthT tbs y)
theorem okY_0 : (List.range' 0 20).all okY = true := by decide +kernel
theorem okY_1 : (List.range' 20 20).all okY = true := by decide +kernel
theorem okY_2 : (List.range' 40 20).all okY = true := by decide +kernel
theorem okY_3 : (List.range' 60 20).all okY = true := by decide +kernel
theorem okY_4 : (List.range' 80 20).all okY = true := by decide +kernel
theorem okY_5 : (List.range' 100 20).all okY = true := by decide +kernel
theorem okY_6 : (List.range' 120 20).all okY = true := by decide +kernel
theorem okY_7 : (List.range' 140 20).all okY = true := by decide +kernel
theorem okY_8 : (List.range' 160 20).all okY = true := by decide +kernel
theorem okY_9 : (List.range' 180 20).all okY = true := by decide +kernel
theorem okY_10 : (List.range' 200 20).all okY = true := by decide +kernel
theorem okY_11 : (List.range' 220 20).all okY = true := by decide +kernel
theorem okY_12 : (List.range' 240 20).all okY = true := by decide +kernel
theorem okY_13 : (List.range' 260 20).all okY = true := by decide +kernel
theorem okY_14 : (List.range' 280 20).all okY = true := by decide +kernel
theorem okY_15 : (List.range' 300 20).all okY = true := by decide +kernel
theorem okY_16 : (List.range' 320 20).all okY = true := by decide +kernel
theorem okY_17 : (List.range' 340 20).all okY = true := by decide +kernel
theorem okY_18 : (List.range' 360 20).all okY = true := by decide +kernel
theorem okY_19 : (List.range' 380 20).all okY = true := by decide +kernel
theorem okY_20 : (List.range' 400 4).all okY = true := by decide +kernel
theorem okY_all (y : Nat) (h : y < 404) : okY y = true := by
  have k : ∀ a n, (List.range' a n).all okY = true → a ≤ y → y < a + n → okY y = true := fun a n h h1 h2 => List.all_eq_true.mp h y (by rw [List.mem_range'_1]; omega)
  rcases Nat.lt_or_ge y 20 with h0 | h0
  · exact k 0 20 okY_0 (by omega) (by omega)
  rcases Nat.lt_or_ge y 40 with h1 | h1
  · exact k 20 20 okY_1 (by omega) (by omega)
  rcases Nat.lt_or_ge y 60 with h2 | h2
  · exact k 40 20 okY_2 (by omega) (by omega)
  rcases Nat.lt_or_ge y 80 with h3 | h3
  · exact k 60 20 okY_3 (by omega) (by omega)
  rcases Nat.lt_or_ge y 100 with h4 | h4
  · exact k 80 20 okY_4 (by omega) (by omega)
  rcases Nat.lt_or_ge y 120 with h5 | h5
  · exact k 100 20 okY_5 (by omega) (by omega)
  rcases Nat.lt_or_ge y 140 with h6 | h6
  · exact k 120 20 okY_6 (by omega) (by omega)
  rcases Nat.lt_or_ge y 160 with h7 | h7
  · exact k 140 20 okY_7 (by omega) (by omega)
  rcases Nat.lt_or_ge y 180 with h8 | h8
  · exact k 160 20 okY_8 (by omega) (by omega)
  rcases Nat.lt_or_ge y 200 with h9 | h9
  · exact k 180 20 okY_9 (by omega) (by omega)
  rcases Nat.lt_or_ge y 220 with h10 | h10
  · exact k 200 20 okY_10 (by omega) (by omega)
  rcases Nat.lt_or_ge y 240 with h11 | h11
  · exact k 220 20 okY_11 (by omega) (by omega)
  rcases Nat.lt_or_ge y 260 with h12 | h12
  · exact k 240 20 okY_12 (by omega) (by omega)
  rcases Nat.lt_or_ge y 280 with h13 | h13
  · exact k 260 20 okY_13 (by omega) (by omega)
  rcases Nat.lt_or_ge y 300 with h14 | h14
  · exact k 280 20 okY_14 (by omega) (by omega)
  rcases Nat.lt_or_ge y 320 with h15 | h15
  · exact k 300 20 okY_15 (by omega) (by omega)
  rcases Nat.lt_or_ge y 340 with h16 | h16
  · exact k 320 20 okY_16 (by omega) (by omega)
  rcases Nat.lt_or_ge y 360 with h17 | h17
  · exact k 340 20 okY_17 (by omega) (by omega)
  rcases Nat.lt_or_ge y 380 with h18 | h18
  · exact k 360 20 okY_18 (by omega) (by omega)
  rcases Nat.lt_or_ge y 400 with h19 | h19
  · exact k 380 20 okY_19 (by omega) (by omega)
  exact k 400 4 okY_20 (by omega) (by omega)

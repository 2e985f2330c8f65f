/-! WORDS AND NAMES: whole numbers only -/
def WLt : List (List Nat) := [[14, 1, 20, 9, 15, 14], [23, 1, 7, 5], [4, 21, 20, 25], [4, 5, 5, 4, 19], [23, 1, 18], [7, 15, 15, 4], [15, 6], [23, 15, 18, 20, 8], [12, 5, 1, 11, 19], [16, 15, 18, 20], [16, 18, 9, 3, 5], [23, 1, 25], [4, 1, 25, 19], [19, 8, 9, 16], [1, 20], [8, 15, 12, 4], [3, 15, 9, 14, 19], [1, 2, 15, 1, 18, 4], [18, 21, 12, 5], [4, 1, 25], [2, 21, 25], [19, 5, 12, 12], [4, 21, 13, 16], [19, 1, 9, 12], [1, 14, 25], [23, 8, 5, 14], [18, 21, 12, 5, 4], [9, 14], [12, 15, 15, 16], [5, 14, 4], [19, 20, 15, 16]]
def WL (k : Nat) : List Nat := WLt.getD k []
def kMt : List Nat := [0, 9, 10, 11, 1, 2, 12, 13, 14, 3, 4, 5, 15, 6, 16, 17, 18, 7, 8, 19, 20, 21, 22, 23, 24, 25, 29, 30, 26, 27, 28]
/-- the model's number of a word of the class -/
def kM (c : Int) : Int := if c < 0 then -1 else ((kMt.getD c.toNat 0 : Nat) : Int)
def pmt : List Nat := [0, 4, 5, 9, 10, 11, 13, 17, 18, 1, 2, 3, 6, 7, 8, 12, 14, 15, 16, 19, 20, 21, 22, 23, 24, 25, 28, 29, 30, 26, 27]
def sjt : List Nat := [1, 8, 12, 17, 22, 28, 32, 37, 44, 49, 54, 59, 65, 68, 74, 80, 85, 88, 93, 99, 103, 107, 112, 117, 122, 126, 131, 136, 140, 145, 151, 154]
def pm (j : Nat) : Nat := pmt.getD j 0
def sj (j : Nat) : Nat := sjt.getD j 0
theorem kM_pm : ∀ j : Fin 31, kM ((pm j.val : Nat) : Int) = (j.val : Int) := by decide +kernel
theorem pm_kM : ∀ c : Fin 31, pm (kMt.getD c.val 0) = c.val ∧ kMt.getD c.val 0 < 31 := by decide +kernel
theorem pm_lt : ∀ j : Fin 31, pm j.val < 31 := by decide +kernel
theorem sj_ok : ∀ j : Fin 31, sj (j.val + 1) = sj j.val + (WL (pm j.val)).length + 1 ∧ strC 1 (sj j.val + (WL (pm j.val)).length) = 32 ∧ ∀ i : Fin (WL (pm j.val)).length, strC 1 (sj j.val + i.val) = ((WL (pm j.val)).getD i.val 0 : Nat) + 96 := by decide +kernel
theorem sj_0 : sj 0 = 1 ∧ sj 31 = 154 ∧ strL 1 = 154 := by decide +kernel
theorem sj_bd : ∀ j : Fin 32, sj j.val ≤ 154 := by decide +kernel
theorem WL_ok : ∀ c : Fin 31, 1 ≤ (WL c.val).length ∧ (WL c.val).length ≤ 8 ∧ (∀ z ∈ WL c.val, 1 ≤ z ∧ z ≤ 26) ∧ cod 32 0 (WL c.val) 0 = wcode c.val := by decide +kernel
theorem WL_in : ∀ c : Fin 31, ∀ c' : Fin 31, WL c.val = WL c'.val → c = c' := by decide +kernel

/-! codes of words -/
def okW (w : List Nat) : Prop := ∀ z ∈ w, 1 ≤ z ∧ z ≤ 26
theorem cod_snoc (b o : Int) (a : Nat) : ∀ (w : List Nat) (x : Int), cod b o (w ++ [a]) x = cod b o w x * b + (a + o)
  | [], x => rfl
  | c :: w, x => by
    show cod b o (w ++ [a]) _ = cod b o w _ * b + _
    exact cod_snoc b o a w _
theorem cod_nn {b o : Int} (hb : 0 ≤ b) (ho : 0 ≤ o) : ∀ (w : List Nat) (x : Int), 0 ≤ x → 0 ≤ cod b o w x
  | [], x, h => h
  | c :: w, x, h => by
    refine cod_nn hb ho w _ ?_
    have := Int.mul_nonneg h hb
    omega
theorem okW_snoc {w : List Nat} {a : Nat} (h : okW (w ++ [a])) : okW w ∧ 1 ≤ a ∧ a ≤ 26 := ⟨fun z hz => h z (List.mem_append_left _ hz), h a (List.mem_append_right _ (List.mem_singleton.mpr rfl))⟩
theorem snoc_of (w : List Nat) : w = [] ∨ ∃ v a, w = v ++ [a] := by
  rcases List.eq_nil_or_concat w with h | ⟨v, a, h⟩
  · exact Or.inl h
  · exact Or.inr ⟨v, a, by rw [h, List.concat_eq_append]⟩
theorem cod_pos {b o : Int} (hb : 0 ≤ b) (ho : 0 ≤ o) {w : List Nat} (h : okW w) (hw : w ≠ []) : 1 ≤ cod b o w 0 := by
  rcases snoc_of w with e | ⟨v, a, rfl⟩
  · exact absurd e hw
  · have := (okW_snoc h).2
    have n := cod_nn hb ho v 0 (Int.le_refl _)
    have m := Int.mul_nonneg n hb
    rw [cod_snoc]
    omega
theorem cod_bd {b o : Int} (hb : 27 + o ≤ b) (ho : 0 ≤ o) : ∀ (k : Nat) (w : List Nat), w.length = k → okW w → cod b o w 0 < b ^ k
  | 0, w, hk, _ => by
    rw [List.length_eq_zero_iff.mp hk]
    show (0 : Int) < b ^ 0
    simp
  | k + 1, w, hk, h => by
    rcases snoc_of w with e | ⟨v, a, rfl⟩
    · subst e; simp at hk
    · have ih := cod_bd hb ho k v (by simp at hk; exact hk) (okW_snoc h).1
      have ha := (okW_snoc h).2
      rw [cod_snoc, Int.pow_succ]
      have : (cod b o v 0 + 1) * b ≤ b ^ k * b := Int.mul_le_mul_of_nonneg_right (by omega) (by omega)
      rw [Int.add_mul] at this
      omega
theorem cod_inj {b o : Int} (hb : 27 + o ≤ b) (ho : 0 ≤ o) : ∀ (k : Nat) (w v : List Nat), w.length = k → okW w → okW v → cod b o w 0 = cod b o v 0 → w = v
  | 0, w, v, hk, hw, hv, e => by
    have e0 := List.length_eq_zero_iff.mp hk
    subst e0
    by_cases z : v = []
    · exact z.symm
    · have := cod_pos (b := b) (by omega) ho hv z
      have e : (0 : Int) = cod b o v 0 := e
      omega
  | k + 1, w, v, hk, hw, hv, e => by
    rcases snoc_of w with z | ⟨w', a, rfl⟩
    · subst z; simp at hk
    rcases snoc_of v with z | ⟨v', c, rfl⟩
    · subst z
      have := cod_pos (b := b) (by omega) ho hw (by simp)
      have e : cod b o (w' ++ [a]) 0 = 0 := e
      omega
    · obtain ⟨hw', ha⟩ := okW_snoc hw
      obtain ⟨hv', hc⟩ := okW_snoc hv
      rw [cod_snoc, cod_snoc] at e
      have n1 := cod_nn (b := b) (o := o) (by omega) ho w' 0 (Int.le_refl _)
      have n2 := cod_nn (b := b) (o := o) (by omega) ho v' 0 (Int.le_refl _)
      have key : cod b o w' 0 = cod b o v' 0 := by
        generalize cod b o w' 0 = x at *
        generalize cod b o v' 0 = y at *
        by_cases l : x < y
        · exfalso
          have : (x + 1) * b ≤ y * b := Int.mul_le_mul_of_nonneg_right (by omega) (by omega)
          rw [Int.add_mul] at this
          omega
        · by_cases g : y < x
          · exfalso
            have : (y + 1) * b ≤ x * b := Int.mul_le_mul_of_nonneg_right (by omega) (by omega)
            rw [Int.add_mul] at this
            omega
          · omega
      rw [key] at e
      have ac : a = c := by omega
      rw [cod_inj hb ho k w' v' (by simp at hk; exact hk) hw' hv' key, ac]
/-- the number of a word in the class's row, or -1 -/
def wix (w : List Nat) : Nat → Int
  | 0 => -1
  | k + 1 => if w = WL k then (k : Int) else wix w k
theorem wix_s (w : List Nat) (k : Nat) : wix w (k + 1) = if w = WL k then (k : Int) else wix w k := rfl
theorem wix_or (w : List Nat) : ∀ k : Nat, k ≤ 31 → (wix w k = -1 ∧ ∀ c, c < k → w ≠ WL c) ∨ ∃ c, c < k ∧ wix w k = (c : Int) ∧ w = WL c
  | 0, _ => Or.inl ⟨rfl, fun _ h => by omega⟩
  | k + 1, hk => by
    rw [wix_s]
    by_cases e : w = WL k
    · rw [if_pos e]
      exact Or.inr ⟨k, by omega, rfl, e⟩
    · rw [if_neg e]
      rcases wix_or w k (by omega) with ⟨a, b⟩ | ⟨c, a, b, d⟩
      · refine Or.inl ⟨a, fun c hc => ?_⟩
        by_cases q : c = k
        · rw [q]; exact e
        · exact b c (by omega)
      · exact Or.inr ⟨c, by omega, b, d⟩
/-- the letters of bytes q to e -/
def lts (bt : Nat → Int) (q : Nat) : Nat → List Nat
  | 0 => []
  | k + 1 => lts bt q k ++ [(bt (q + k) - 96).toNat]
theorem lts_s (bt : Nat → Int) (q k : Nat) : lts bt q (k + 1) = lts bt q k ++ [(bt (q + k) - 96).toNat] := rfl
theorem lts_len (bt : Nat → Int) (q : Nat) : ∀ k, (lts bt q k).length = k
  | 0 => rfl
  | k + 1 => by rw [lts_s, List.length_append, lts_len bt q k]; rfl
theorem lts_get (bt : Nat → Int) (q : Nat) : ∀ (k i : Nat), i < k → (lts bt q k).getD i 0 = (bt (q + i) - 96).toNat
  | 0, i, h => by omega
  | k + 1, i, h => by
    rw [lts_s]
    by_cases e : i = k
    · subst e
      have := lts_len bt q i
      rw [List.getD_eq_getElem?_getD, List.getElem?_append_right (by omega), this, Nat.sub_self]
      rfl
    · have := lts_len bt q k
      rw [List.getD_eq_getElem?_getD, List.getElem?_append_left (by omega), ← List.getD_eq_getElem?_getD]
      exact lts_get bt q k i (by omega)
def isS (x : Int) : Prop := 97 ≤ x ∧ x ≤ 122
def isD (x : Int) : Prop := 48 ≤ x ∧ x ≤ 57
def isB (x : Int) : Prop := x = 10 ∨ x = 32
theorem lts_ok {bt : Nat → Int} {q : Nat} : ∀ k, (∀ i, q ≤ i → i < q + k → isS (bt i)) → okW (lts bt q k)
  | 0, _ => fun z hz => by simp [lts] at hz
  | k + 1, h => by
    intro z hz
    rw [lts_s, List.mem_append] at hz
    rcases hz with hz | hz
    · exact lts_ok k (fun i h1 h2 => h i h1 (by omega)) z hz
    · rw [List.mem_singleton] at hz
      have := h (q + k) (by omega) (by omega)
      unfold isS at this
      omega
theorem lts_ne (bt : Nat → Int) (q : Nat) {k : Nat} (h : 0 < k) : lts bt q k ≠ [] := fun e => by
  have := lts_len bt q k
  rw [e] at this
  simp at this
  omega
/-- a row of bytes of one kind -/
theorem ex_run (P : Int → Prop) (bt : Nat → Int) (n : Nat) : ∀ (f p : Nat), p + f = n → ∃ q, p ≤ q ∧ q ≤ n ∧ (∀ i, p ≤ i → i < q → P (bt i)) ∧ (q < n → ¬P (bt q))
  | 0, p, h => ⟨p, by omega, by omega, fun i _ _ => by omega, fun _ => by omega⟩
  | f + 1, p, h => by
    by_cases e : P (bt p)
    · obtain ⟨q, a, b, c, d⟩ := ex_run P bt n f (p + 1) (by omega)
      refine ⟨q, by omega, b, fun i h1 h2 => ?_, d⟩
      by_cases z : i = p
      · rw [z]; exact e
      · exact c i (by omega) h2
    · exact ⟨p, by omega, by omega, fun i _ _ => by omega, fun _ => e⟩
/-- the next token: behind p, from q to e -/
def RN (P : Int → Prop) (bt : Nat → Int) (n q e : Nat) : Prop := q < e ∧ e ≤ n ∧ (∀ i, q ≤ i → i < e → P (bt i)) ∧ (e < n → ¬P (bt e))
def TS (bt : Nat → Int) (n q e : Nat) : Prop := (q = n ∧ e = n) ∨ (q < n ∧ isS (bt q) ∧ RN isS bt n q e) ∨ (q < n ∧ isD (bt q) ∧ RN isD bt n q e) ∨ (q < n ∧ ¬isS (bt q) ∧ ¬isD (bt q) ∧ e = q + 1)
def NT (bt : Nat → Int) (n p q e : Nat) : Prop := p ≤ q ∧ q ≤ n ∧ (∀ i, p ≤ i → i < q → isB (bt i)) ∧ (q < n → ¬isB (bt q)) ∧ TS bt n q e
theorem TS.bd {bt : Nat → Int} {n q e : Nat} (h : TS bt n q e) : q ≤ e ∧ e ≤ n ∧ (q < n → q < e) := by
  unfold TS RN at h
  omega
theorem ex_nt (bt : Nat → Int) (n p : Nat) (hp : p ≤ n) : ∃ q e, NT bt n p q e := by
  obtain ⟨q, a, b, c, d⟩ := ex_run isB bt n (n - p) p (by omega)
  by_cases z : q = n
  · exact ⟨q, n, a, b, c, d, Or.inl ⟨z, rfl⟩⟩
  by_cases s : isS (bt q)
  · obtain ⟨e, e1, e2, e3, e4⟩ := ex_run isS bt n (n - (q + 1)) (q + 1) (by omega)
    refine ⟨q, e, a, b, c, d, Or.inr (Or.inl ⟨by omega, s, by omega, e2, fun i h1 h2 => ?_, e4⟩)⟩
    by_cases y : i = q
    · rw [y]; exact s
    · exact e3 i (by omega) h2
  by_cases t : isD (bt q)
  · obtain ⟨e, e1, e2, e3, e4⟩ := ex_run isD bt n (n - (q + 1)) (q + 1) (by omega)
    refine ⟨q, e, a, b, c, d, Or.inr (Or.inr (Or.inl ⟨by omega, t, by omega, e2, fun i h1 h2 => ?_, e4⟩))⟩
    by_cases y : i = q
    · rw [y]; exact t
    · exact e3 i (by omega) h2
  · exact ⟨q, q + 1, a, b, c, d, Or.inr (Or.inr (Or.inr ⟨by omega, s, t, rfl⟩))⟩
/-- a number of digits -/
def nbs (bt : Nat → Int) (q : Nat) : Nat → Int
  | 0 => 0
  | k + 1 => nbs bt q k * 10 + (bt (q + k) - 48)
theorem nbs_s (bt : Nat → Int) (q k : Nat) : nbs bt q (k + 1) = nbs bt q k * 10 + (bt (q + k) - 48) := rfl
theorem nbs_bd {bt : Nat → Int} {q : Nat} : ∀ k : Nat, (∀ i, q ≤ i → i < q + k → isD (bt i)) → 0 ≤ nbs bt q k ∧ nbs bt q k < (10 ^ k : Nat)
  | 0, _ => by simp [nbs]
  | k + 1, h => by
    have ih := nbs_bd k fun i h1 h2 => h i h1 (by omega)
    have a := h (q + k) (by omega) (by omega)
    unfold isD at a
    rw [nbs_s, Nat.pow_succ]
    omega
theorem nbs_4 {bt : Nat → Int} {q k : Nat} (hk : k ≤ 4) (h : ∀ i, q ≤ i → i < q + k → isD (bt i)) : 0 ≤ nbs bt q k ∧ nbs bt q k ≤ 9999 := by
  have a := nbs_bd k h
  have b : (10 ^ k : Nat) ≤ 10 ^ 4 := Nat.pow_le_pow_right (by omega) hk
  omega
theorem p32 : ∀ k : Fin 9, (32 : Int) ^ k.val ≤ 1099511627776 := by decide +kernel
theorem cod32_bd {w : List Nat} (h : okW w) (hl : w.length ≤ 8) : 0 ≤ cod 32 0 w 0 ∧ cod 32 0 w 0 < 1099511627776 := by
  have a := cod_bd (b := 32) (o := 0) (by omega) (by omega) w.length w rfl h
  have b := p32 ⟨w.length, by omega⟩
  have c := cod_nn (b := 32) (o := 0) (by omega) (by omega) w 0 (Int.le_refl _)
  dsimp only at b
  omega
/-- by the code alone -/
theorem code_iff {w : List Nat} (h : okW w) {c : Nat} (hc : c < 31) : wcode c = cod 32 0 w 0 ↔ w = WL c := by
  have o := WL_ok ⟨c, hc⟩
  dsimp only at o
  constructor
  · intro e
    rw [← o.2.2.2] at e
    exact (cod_inj (b := 32) (o := 0) (by omega) (by omega) _ _ _ rfl o.2.2.1 h e).symm
  · intro e
    rw [e]
    exact o.2.2.2.symm

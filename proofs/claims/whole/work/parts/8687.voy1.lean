/-! THE VOYAGE THAT GAINS MOST: whole numbers only -/
theorem wU_wU (f : Nat → Int) (k : Nat) (a b : Int) : wU (wU f k a) k b = wU f k b := by
  funext j
  unfold wU
  split <;> rfl
theorem wU_cm (f : Nat → Int) {k l : Nat} (h : k ≠ l) (a b : Int) : wU (wU f k a) l b = wU (wU f l b) k a := by
  funext j
  unfold wU
  by_cases e : j = l
  · subst e
    rw [if_pos rfl, if_neg (fun q => h q.symm), if_pos rfl]
  · rw [if_neg e, if_neg e]
theorem wU_i (f : Nat → Int) (k : Nat) (a : Int) : wU f k a k = a := if_pos rfl
theorem wU_n (f : Nat → Int) {k j : Nat} (h : j ≠ k) (a : Int) : wU f k a j = f j := if_neg h
def E15 (B B' : Nat → Int) : Prop := ∀ w, w < 15 → B' w = B w
def EA (A A' : Nat → Int) : Prop := ∀ k, k < 146 → A' k = A k
section
variable {A A' B B' : Nat → Int}
theorem E15.w (h : E15 B B') (k : Nat) {v v' : Int} (e : v' = v) : E15 (wU B k v) (wU B' k v') := fun w hw => by
  unfold wU
  split
  · exact e
  · exact h w hw
theorem flB_c (hA : EA A A') (hC : Cn A) (h : E15 B B') : flB A' B' = flB A B := by
  have hC' := hC
  unfold Cn at hC
  unfold flB
  rw [hA 0 (by omega), hA 4 (by omega)]
  refine congrArg (fun W => flg W (A 0).toNat) (funext fun n => ?_)
  rw [wts_congr hA hC']
  unfold wts
  have : ∀ k, k ≤ 8 → wt A (ld7 B') (A 4) n k = wt A (ld7 B) (A 4) n k := fun k => by
    induction k with
    | zero => intro _; rfl
    | succ k ih =>
      intro hk
      rw [wt_s, wt_s, ih (by omega), show ld7 B' k = ld7 B k from h (7 + k) (by omega)]
  exact this _ (by omega)
theorem payB_c (hA : EA A A') (h : E15 B B') {f : Int} (hC : Cn A) (hf : f = -1 ∨ 0 ≤ f ∧ f < A 0) : E15 (payB A B f) (payB A' B' f) := by
  unfold Cn at hC
  unfold payB
  by_cases e : f = -1
  · rw [if_pos e, if_pos e]; exact h
  · rw [if_neg e, if_neg e, h 4 (by omega), hA (8 + 4 * f.toNat) (by omega)]
    split
    · exact h.w _ (by rw [h 5 (by omega)])
    · exact h.w _ rfl
theorem lkB_c (hA : EA A A') (h : E15 B B') : E15 (lkB A B) (lkB A' B') := fun w hw => by
  unfold lkB
  rw [hA 1 (by omega), h w hw]
  by_cases e : 7 ≤ w ∧ w < 15 ∧ ((w - 7 : Nat) : Int) < A 1
  · rw [if_pos e, if_pos e, hA _ (by omega)]
  · rw [if_neg e, if_neg e]
theorem sdB_c (hA : EA A A') (hC : Cn A) (h : E15 B B') : E15 (sdB A B) (sdB A' B') := by
  unfold sdB
  rw [flB_c hA hC h]
  exact lkB_c hA (payB_c hA h hC (flB_bd hC B))
theorem sm7_c (h : E15 B B') : sm (ld7 B') 8 = sm (ld7 B) 8 := sm_congr fun k hk => h (7 + k) (by omega)
theorem dutyB_c (hA : EA A A') (hC : Cn A) (hP : Pt A) (h : E15 B B') {f : Int} (h0 : 0 ≤ B 0 ∧ B 0 < A 2) : E15 (dutyB A B f) (dutyB A' B' f) := by
  unfold Cn at hC
  have p := hP (B 0).toNat (by omega)
  unfold dutyB
  rw [h 0 (by omega), hA (56 + 15 * (B 0).toNat) (by omega)]
  by_cases e : A (56 + 15 * (B 0).toNat) = -1
  · rw [if_pos e, if_pos e]; exact h
  · rw [if_neg e, if_neg e]
    by_cases e2 : A (56 + 15 * (B 0).toNat) = f
    · rw [if_pos e2, if_pos e2]; exact h
    · rw [if_neg e2, if_neg e2, hA (9 + 4 * (A (56 + 15 * (B 0).toNat)).toNat) (by omega), h 4 (by omega), sm7_c h, h 6 (by omega)]
      exact (h.w _ rfl).w _ rfl
theorem dayB_c (hA : EA A A') (hI : Inv A) (hS : Sh1 A B) (h : E15 B B') : E15 (dayB A B) (dayB A' B') := by
  have hC := hI.1
  have a := hS.1
  unfold dayB
  rw [h 0 (by omega)]
  by_cases e : B 0 = -1
  · rw [if_pos e, if_pos e]
    unfold sonB
    rw [h 2 (by omega), h 1 (by omega)]
    have sd : E15 (sdN A B 1) (sdN A' B' 1) := sdB_c hA hC h
    by_cases e2 : 0 < B 2 - (1 : Nat)
    · rw [if_pos e2, if_pos e2]; exact sd.w _ rfl
    · rw [if_neg e2, if_neg e2, flB_c hA hC sd]
      refine dutyB_c hA hC hI.2.2.2.1 (((sd.w _ rfl).w _ rfl).w _ rfl) ?_
      rw [wU_n _ (by omega), wU_i]
      omega
  · rw [if_neg e, if_neg e]; exact lkB_c hA h
/-- DAYS one after the other -/
def itD (A B : Nat → Int) : Nat → Nat → Int
  | 0 => B
  | k + 1 => dayB A (itD A B k)
theorem Sh1.its (h : Sh1 A B) (hI : Inv A) : ∀ k, Sh1 A (itD A B k)
  | 0 => h
  | k + 1 => (Sh1.its h hI k).day hI
theorem ld7_2 (B : Nat → Int) {k : Nat} (hk : k < 7) (y : Int) : ld7 (wU B k y) = ld7 B := funext fun g => by
  unfold ld7
  exact wU_n _ (by omega) _
theorem flB_2 (A B : Nat → Int) {k : Nat} (hk : k < 7) (y : Int) : flB A (wU B k y) = flB A B := by
  unfold flB
  rw [ld7_2 B hk]
theorem sdB_2 (A X : Nat → Int) (y : Int) : sdB A (wU X 2 y) = wU (sdB A X) 2 y := by
  have e : payB A (wU X 2 y) (flB A X) = wU (payB A X (flB A X)) 2 y := by
    unfold payB
    split
    · rfl
    · rw [wU_n _ (by omega), wU_n _ (by omega)]
      split
      · exact wU_cm _ (by omega) _ _
      · exact wU_cm _ (by omega) _ _
  unfold sdB
  rw [flB_2 A X (by omega), e]
  funext w
  unfold lkB
  by_cases c : w = 2
  · subst c; rw [if_neg (by omega)]; rw [wU_i, wU_i]
  · rw [wU_n _ c, wU_n _ c]
theorem itD_son {n : Nat} (h0 : B 0 = -1) (h2 : B 2 = n) (hn : 1 ≤ n) : ∀ k, k < n → itD A B k = wU (sdN A B k) 2 (B 2 - k)
  | 0, _ => by
    show B = _
    funext w
    unfold wU
    by_cases e : w = 2
    · subst e; rw [if_pos rfl]; omega
    · rw [if_neg e]; rfl
  | k + 1, hk => by
    show dayB A (itD A B k) = _
    rw [itD_son h0 h2 hn k (by omega)]
    unfold dayB
    rw [wU_n _ (by omega), sdN_o (by omega) (by omega) (by omega), if_pos h0]
    unfold sonB
    rw [wU_i, if_pos (by omega)]
    show wU (sdB A (wU (sdN A B k) 2 (B 2 - k))) 2 _ = _
    rw [sdB_2, wU_wU]
    exact congrArg _ (by omega)
theorem itD_end {n : Nat} (h0 : B 0 = -1) (h2 : B 2 = n) (hn : 1 ≤ n) : itD A B n = sonB A B n := by
  obtain ⟨k, rfl⟩ : ∃ k, n = k + 1 := ⟨n - 1, by omega⟩
  show dayB A (itD A B k) = _
  rw [itD_son h0 h2 hn k (by omega)]
  unfold dayB
  rw [wU_n _ (by omega), sdN_o (by omega) (by omega) (by omega), if_pos h0]
  unfold sonB
  rw [wU_i, if_neg (by omega), if_neg (by omega), wU_n _ (by omega), sdN_o (by omega) (by omega) (by omega)]
  show dutyB A (wU (wU (wU (sdB A (wU (sdN A B k) 2 (B 2 - k))) 2 _) 0 (B 1)) 1 (-1)) (flB A (sdB A (wU (sdN A B k) 2 (B 2 - k)))) = _
  rw [sdB_2, wU_wU, flB_2 _ _ (by omega)]
  show dutyB A (wU (wU (wU (sdN A B (k + 1)) 2 _) 0 (B 1)) 1 (-1)) (flB A (sdN A B (k + 1))) = _
  rw [show B 2 - (k : Int) - (1 : Nat) = B 2 - ((k + 1 : Nat) : Int) by omega]
theorem duty_o {f : Int} {w : Nat} (h4 : w ≠ 4) (h6 : w ≠ 6) : dutyB A B f w = B w := by
  unfold dutyB
  split
  · rfl
  · split
    · rfl
    · rw [wU_n _ h6, wU_n _ h4]
/-- the ship sells all of one good, of all -/
def slB (A B : Nat → Int) (g : Nat) : Nat → Int := if 0 < B (7 + g) ∧ prc A B g ≠ 0 then wU (wU B 4 (min 9999 (B 4 + prc A B g * B (7 + g)))) (7 + g) 0 else B
def saB (A B : Nat → Int) : Nat → Nat → Int
  | 0 => B
  | k + 1 => slB A (saB A B k) k
def selB (A B : Nat → Int) : Nat → Int := saB A B (A 1).toNat
theorem saB_0 (w : Nat) (hw : w < 4) : ∀ k, saB A B k w = B w
  | 0 => rfl
  | k + 1 => by
    show slB A (saB A B k) k w = _
    unfold slB
    split
    · rw [wU_n _ (by omega), wU_n _ (by omega)]; exact saB_0 w hw k
    · exact saB_0 w hw k
theorem Sh1.sl (h : Sh1 A B) (hI : Inv A) (h0 : 0 ≤ B 0) {g : Nat} (hg : (g : Int) < A 1) : Sh1 A (slB A B g) := by
  have hC := hI.1
  unfold Cn at hC
  unfold slB
  split
  · next e =>
    have p := prc_bd hI.2.2.2.2.1 hI.1 h (by omega) (g := g) (by omega)
    have l := h.ld g (by omega)
    have m := mul_bd p.1 p.2 l.1 l.2
    have a := h.1
    have c : sm (ld7 B) 8 ≤ B 3 := h.2.2.1
    exact h.load hg (by omega) (by omega) (by omega) (by omega) (by omega)
  · exact h
theorem Sh1.sa (h : Sh1 A B) (hI : Inv A) (h0 : 0 ≤ B 0) : ∀ k : Nat, (k : Int) ≤ A 1 → Sh1 A (saB A B k)
  | 0, _ => h
  | k + 1, hk => (Sh1.sa h hI h0 k (by omega)).sl hI (by rw [saB_0 0 (by omega)]; exact h0) (by omega)
theorem Sh1.sel (h : Sh1 A B) (hI : Inv A) (h0 : 0 ≤ B 0) : Sh1 A (selB A B) := by
  have hC := hI.1
  unfold Cn at hC
  exact h.sa hI h0 _ (by omega)
theorem sel_0 (A B : Nat → Int) {w : Nat} (hw : w < 4) : selB A B w = B w := saB_0 w hw _
/-- the ship buys as much of a good as it can -/
def bmN (A B : Nat → Int) (g : Nat) : Int := min (Int.tdiv (B 4) (prc A B g)) (B 3 - sm (ld7 B) 8)
def bmB (A B : Nat → Int) (g : Nat) : Nat → Int := wU (wU B 4 (B 4 - prc A B g * bmN A B g)) (7 + g) (B (7 + g) + bmN A B g)
theorem bmN_bd (hI : Inv A) (h : Sh1 A B) (h0 : 0 ≤ B 0) {g : Nat} (hg : g < 8) (hp : prc A B g ≠ 0) : 0 ≤ bmN A B g ∧ bmN A B g ≤ 60 ∧ 0 ≤ Int.tdiv (B 4) (prc A B g) ∧ Int.tdiv (B 4) (prc A B g) ≤ 9999 ∧ prc A B g * bmN A B g ≤ B 4 ∧ 0 ≤ prc A B g * bmN A B g ∧ bmN A B g ≤ B 3 - sm (ld7 B) 8 := by
  have p := prc_bd hI.2.2.2.2.1 hI.1 h (by omega) hg
  have a := h.1
  have c : sm (ld7 B) 8 ≤ B 3 := h.2.2.1
  have s0 : 0 ≤ sm (ld7 B) 8 := by
    have : ∀ n, n ≤ 8 → 0 ≤ sm (ld7 B) n := fun n => by
      induction n with
      | zero => intro _; exact Int.le_refl _
      | succ n ih =>
        intro hn
        rw [sm_s]
        have := ih (by omega)
        have : 0 ≤ ld7 B n := h.2.1 n (by omega)
        omega
    exact this 8 (by omega)
  have t : Int.tdiv (B 4) (prc A B g) = B 4 / prc A B g := Int.tdiv_eq_ediv_of_nonneg (by omega)
  have t0 : 0 ≤ B 4 / prc A B g := Int.ediv_nonneg (by omega) (by omega)
  have t1 : B 4 / prc A B g ≤ B 4 := Int.ediv_le_self _ (by omega)
  have t2 : prc A B g * (B 4 / prc A B g) ≤ B 4 := Int.mul_ediv_self_le (by omega)
  have n1 : bmN A B g ≤ B 4 / prc A B g := by unfold bmN; rw [t]; omega
  have n0 : 0 ≤ bmN A B g := by unfold bmN; rw [t]; omega
  have n2 : bmN A B g ≤ B 3 - sm (ld7 B) 8 := by unfold bmN; omega
  have n3 := Int.mul_le_mul_of_nonneg_left n1 p.1
  have n4 := Int.mul_nonneg p.1 n0
  rw [t]
  exact ⟨n0, by omega, t0, by omega, by omega, n4, n2⟩
theorem Sh1.bm (h : Sh1 A B) (hI : Inv A) (h0 : 0 ≤ B 0) {g : Nat} (hg : (g : Int) < A 1) (hp : prc A B g ≠ 0) : Sh1 A (bmB A B g) := by
  have hC := hI.1
  unfold Cn at hC
  have b := bmN_bd hI h h0 (g := g) (by omega) hp
  have a := h.1
  have l := h.ld g (by omega)
  unfold bmB
  exact h.load hg (by omega) (by omega) (by omega) (by omega) (by omega)
/-- the ship sails, and comes in -/
def sailB (A B : Nat → Int) (p : Nat) : Nat → Int := wU (wU (wU B 0 (-1)) 1 p) 2 (way A B p)
def legB (A B : Nat → Int) (p : Nat) : Nat → Int := sonB A (sailB A B p) (way A B p).toNat
theorem way_bd (hI : Inv A) (h : Sh1 A B) (h0 : 0 ≤ B 0) {p : Nat} (hp : p < 6) : 0 ≤ way A B p ∧ way A B p ≤ 20 := by
  have hC := hI.1
  unfold Cn at hC
  have a := h.1
  have := hI.2.2.2.2.2.1 (B 0).toNat p (by omega) hp
  exact ⟨this.1, this.2.1⟩
theorem sail_2 (A B : Nat → Int) (p : Nat) : sailB A B p 0 = -1 ∧ sailB A B p 1 = p ∧ sailB A B p 2 = way A B p := by
  unfold sailB
  refine ⟨?_, ?_, wU_i _ _ _⟩
  · rw [wU_n _ (by omega), wU_n _ (by omega), wU_i]
  · rw [wU_n _ (by omega), wU_i]
theorem leg_it (hI : Inv A) (h : Sh1 A B) (h0 : 0 ≤ B 0) {p : Nat} (hp : p < 6) (hw : way A B p ≠ 0) : legB A B p = itD A (sailB A B p) (way A B p).toNat := by
  have b := way_bd hI h h0 hp
  have s := sail_2 A B p
  exact (itD_end s.1 (by rw [s.2.2]; omega) (by omega)).symm
theorem Sh1.leg (h : Sh1 A B) (hI : Inv A) (h0 : 0 ≤ B 0) {p : Nat} (hp : (p : Int) < A 2) (hw : way A B p ≠ 0) : Sh1 A (legB A B p) := by
  have hC := hI.1
  unfold Cn at hC
  have b := way_bd hI h h0 (p := p) (by omega)
  rw [leg_it hI h h0 (by omega) hw]
  exact (h.sail hp (by omega) (by omega)).its hI _
theorem leg_0 (hI : Inv A) (h : Sh1 A B) (h0 : 0 ≤ B 0) {p : Nat} (hp : p < 6) (hw : way A B p ≠ 0) : legB A B p 0 = p := by
  have b := way_bd hI h h0 hp
  have s := sail_2 A B p
  unfold legB sonB
  rw [s.2.2, if_neg (by omega), duty_o (by omega) (by omega), wU_n _ (by omega), wU_i, s.2.1]
end
/-- one choice: port c / 9, good c % 9, 8 for none; -1 if it can't be -/
abbrev okLeg (A B : Nat → Int) (p g : Nat) : Prop := way A B p ≠ 0 ∧ (g = 8 ∨ (g : Int) < A 1 ∧ prc A B g ≠ 0 ∧ 0 < bmN A B g)
def gdB (A B : Nat → Int) (g : Nat) : Nat → Int := if g = 8 then B else bmB A B g
/-- most of a row, from -1 on, and where it is first -/
def fm (f : Nat → Int) : Nat → Int
  | 0 => -1
  | k + 1 => if fm f k < f k then f k else fm f k
def fa (f : Nat → Int) : Nat → Int
  | 0 => -1
  | k + 1 => if fm f k < f k then k else fa f k
theorem fm_s (f : Nat → Int) (k : Nat) : fm f (k + 1) = if fm f k < f k then f k else fm f k := rfl
theorem fa_s (f : Nat → Int) (k : Nat) : fa f (k + 1) = if fm f k < f k then (k : Int) else fa f k := rfl
theorem fm_ge (f : Nat → Int) : ∀ k, -1 ≤ fm f k
  | 0 => by show (-1 : Int) ≤ -1; omega
  | k + 1 => by
    have := fm_ge f k
    rw [fm_s]
    split <;> omega
/-- the most coins from a ship that has sold all, with so many legs -/
def vo (A : Nat → Int) : Nat → (Nat → Int) → Int
  | 0, B => B 4
  | n + 1, B => fm (fun c => if ((c / 9 : Nat) : Int) < A 2 ∧ okLeg A B (c / 9) (c % 9) then vo A n (selB A (legB A (gdB A B (c % 9)) (c / 9))) else -1) 54
def voF (A : Nat → Int) (n : Nat) (B : Nat → Int) (c : Nat) : Int := if ((c / 9 : Nat) : Int) < A 2 ∧ okLeg A B (c / 9) (c % 9) then vo A n (selB A (legB A (gdB A B (c % 9)) (c / 9))) else -1
theorem vo_s (A : Nat → Int) (n : Nat) (B : Nat → Int) : vo A (n + 1) B = fm (voF A n B) 54 := rfl
section
variable {A B : Nat → Int}
theorem gd_0 (A B : Nat → Int) (g : Nat) : gdB A B g 0 = B 0 := by
  unfold gdB
  split
  · rfl
  · unfold bmB; rw [wU_n _ (by omega), wU_n _ (by omega)]
theorem gd_way (A B : Nat → Int) (g p : Nat) : way A (gdB A B g) p = way A B p := by
  unfold way
  rw [gd_0]
theorem Sh1.gd (h : Sh1 A B) (hI : Inv A) (h0 : 0 ≤ B 0) {p g : Nat} (ok : okLeg A B p g) : Sh1 A (gdB A B g) := by
  unfold gdB
  split
  · exact h
  · next e =>
    rcases ok.2 with q | q
    · exact absurd q e
    · exact h.bm hI h0 q.1 q.2.1
/-- the ship behind a leg, all sold -/
theorem Sh1.next (h : Sh1 A B) (hI : Inv A) (h0 : 0 ≤ B 0) {p g : Nat} (hp : (p : Int) < A 2) (ok : okLeg A B p g) : Sh1 A (legB A (gdB A B g) p) ∧ legB A (gdB A B g) p 0 = p := by
  have hC := hI.1
  unfold Cn at hC
  have s := h.gd hI h0 ok
  exact ⟨s.leg hI (by rw [gd_0]; exact h0) hp (by rw [gd_way]; exact ok.1), leg_0 hI s (by rw [gd_0]; exact h0) (by omega) (by rw [gd_way]; exact ok.1)⟩
theorem vo_bd (hI : Inv A) : ∀ (n : Nat) {B : Nat → Int}, Sh1 A B → 0 ≤ B 0 → -1 ≤ vo A n B ∧ vo A n B ≤ 9999
  | 0, B, h, _ => by
    have := h.1
    show -1 ≤ B 4 ∧ B 4 ≤ 9999
    omega
  | n + 1, B, h, h0 => by
    rw [vo_s]
    have : ∀ k, -1 ≤ fm (voF A n B) k ∧ fm (voF A n B) k ≤ 9999 := fun k => by
      induction k with
      | zero => show (-1 : Int) ≤ -1 ∧ (-1 : Int) ≤ 9999; omega
      | succ k ih =>
        rw [fm_s]
        split
        · unfold voF
          split
          · next e =>
            have s := h.next hI h0 e.1 e.2
            exact vo_bd hI n (s.1.sel hI (by rw [s.2]; omega)) (by rw [sel_0 _ _ (by omega), s.2]; omega)
          · omega
        · exact ih
    exact this 54
theorem fm_skip {f : Nat → Int} {k : Nat} : ∀ j, (∀ i, k ≤ i → i < k + j → f i = -1) → fm f (k + j) = fm f k ∧ fa f (k + j) = fa f k
  | 0, _ => ⟨rfl, rfl⟩
  | j + 1, h => by
    have i := fm_skip j fun i h1 h2 => h i h1 (by omega)
    have := fm_ge f (k + j)
    rw [← Nat.add_assoc, fm_s, fa_s, h (k + j) (by omega) (by omega), if_neg (by omega), if_neg (by omega)]
    exact i
end

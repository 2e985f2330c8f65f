/-! CALLS THAT ONLY ASK, the first -/
section
variable {xs : Nat → Int} {M : Mm} {A N : Nat → Int} {B P : Nat → Nat → Int}
theorem RelS.hA (h : RelS xs M A N B P) : ∀ k, k < 572 → M 272 k = A k := h.2.2.2.2.2.2.1
theorem RelS.hA6 (h : RelS xs M A N B P) : ∀ k, k < 206 → M 272 k = A k := fun k hk => h.hA k (by omega)
theorem RelS.wd (h : RelS xs M A N B P) : World M 18 A N := h.2.2.2.2.2.2.2.2
theorem RelS.ch (h : RelS xs M A N B P) : ChW M 19 A := h.wd.1
theorem RelS.inv (h : RelS xs M A N B P) : Inv A := h.wd.2.2.2.2.2
theorem RelS.cn (h : RelS xs M A N B P) : Cn A := h.inv.1
theorem RelS.gd (h : RelS xs M A N B P) : Gd A := h.inv.2.1
theorem RelS.date (h : RelS xs M A N B P) : M 18 3 = A 5 := h.wd.2.1
theorem RelS.cnt (h : RelS xs M A N B P) : ∀ k, k < 4 → M 20 k = A k := h.ch.1
theorem RelS.law (h : RelS xs M A N B P) : M 19 12 = A 4 := h.ch.2.1
theorem RelS.nat (h : RelS xs M A N B P) : ∀ n : Nat, (n : Int) < A 0 → M 26 n = A (8 + 4 * n) ∧ M 27 n = A (9 + 4 * n) ∧ M 28 n = A (10 + 4 * n) ∧ M 29 n = A (11 + 4 * n) := h.ch.2.2.1
theorem RelS.good (h : RelS xs M A N B P) : ∀ g : Nat, (g : Int) < A 1 → M 30 g = A (32 + 3 * g) ∧ M 31 g = A (33 + 3 * g) ∧ M 32 g = A (34 + 3 * g) := h.ch.2.2.2.1
theorem RelS.own (h : RelS xs M A N B P) : ∀ p : Nat, (p : Int) < A 2 → M 33 p = A (56 + 15 * p) := h.ch.2.2.2.2.1
theorem RelS.price (h : RelS xs M A N B P) : ∀ p g : Nat, p < 6 → g < 8 → M (35 + p) g = A (57 + 15 * p + g) := h.ch.2.2.2.2.2.1
theorem RelS.days (h : RelS xs M A N B P) : ∀ p q : Nat, p < 6 → q < 6 → M (42 + p) q = A (65 + 15 * p + q) := h.ch.2.2.2.2.2.2
theorem RelS.shp (h : RelS xs M A N B P) : ∀ i w : Nat, (i : Int) < A 3 → w < 7 → M (57 + 2 * i) w = A (146 + 15 * i + w) := fun i w hi hw => (h.wd.2.2.1 i hi).1 w hw
theorem RelS.tons (h : RelS xs M A N B P) : ∀ i g : Nat, (i : Int) < A 3 → g < 8 → M (58 + 2 * i) g = A (153 + 15 * i + g) := fun i g hi hg => (h.wd.2.2.1 i hi).2 g hg
theorem sm_le {f : Nat → Int} : ∀ {n k : Nat}, (∀ g, g < n → 0 ≤ f g) → k < n → f k ≤ sm f n ∧ 0 ≤ sm f n
  | n + 1, k, h, hk => by
    have hn := h n (by omega)
    by_cases e : k = n
    · subst e
      have : 0 ≤ sm f k := by
        rcases Nat.eq_zero_or_pos k with r | r
        · subst r; simp [sm]
        · exact (sm_le (f := f) (n := k) (k := 0) (fun g hg => h g (by omega)) r).2
      unfold sm; omega
    · have := sm_le (f := f) (n := n) (k := k) (fun g hg => h g (by omega)) (by omega)
      unfold sm; omega
theorem Sh1.ld {B : Nat → Int} (h : Sh1 A B) : ∀ g, g < 8 → 0 ≤ B (7 + g) ∧ B (7 + g) ≤ 60 := fun g hg => by
  have a := sm_le (f := fun g => B (7 + g)) h.2.1 hg
  have := h.2.1 g hg
  have := h.2.2.1
  have := h.1
  exact ⟨by assumption, by omega⟩
theorem ld_nw (h : RelS xs M A N B P) {i : Nat} (hi : (i : Int) < A 3) : ∀ g, g < 8 → 0 ≤ ldF A i g ∧ ldF A i g ≤ 60 := fun g hg => by
  have := (h.inv.2.2.2.2.2.2.1 i hi).ld g hg
  unfold shp at this
  unfold ldF
  rw [show 153 + 15 * i + g = 146 + 15 * i + (7 + g) by omega]
  exact this
theorem RelS.ld (h : RelS xs M A N B P) {i : Nat} (hi : (i : Int) < A 3) : Ld (ldF A i) := fun g hg => by
  have := ld_nw h hi g hg
  omega
theorem i153 (i g : Nat) : 146 + 15 * i + 7 + g = 153 + 15 * i + g := by omega
theorem i153' (i g : Nat) : 146 + 15 * i + (7 + g) = 153 + 15 * i + g := by omega
theorem i57 (p g : Nat) : 56 + 15 * p + 1 + g = 57 + 15 * p + g := by omega
theorem i65 (p g : Nat) : 56 + 15 * p + 9 + g = 65 + 15 * p + g := by omega
theorem i33 (g : Nat) : 32 + 3 * g + 1 = 33 + 3 * g ∧ 32 + 3 * g + 2 = 34 + 3 * g := by omega
theorem i9 (n : Nat) : 8 + 4 * n + 1 = 9 + 4 * n ∧ 8 + 4 * n + 2 = 10 + 4 * n ∧ 8 + 4 * n + 3 = 11 + 4 * n := by omega
theorem RelS.ldf (h : RelS xs M A N B P) {i : Nat} (hi : (i : Int) < A 3) : ∀ g, g < 8 → M (58 + 2 * i) g = ldF A i g := fun g hg => h.tons i g hi hg
variable {L d : Nat}
theorem n_loads (hd : 3 ≤ d) (h : RelS xs M A N B P) {s : Int} (h0 : 0 ≤ s) (h1 : s < A 3) : callD d m_Mo_loads [vR 12 0 271, vI s] (SH L) M = some (none, SH L, fillP M 280 (ldF A s.toNat) 8) := by
  have hC := h.cn
  unfold Cn at hC
  rw [s_Mo_loads hd h0 (by omega), fill_congr (f := ldF (M 272) s.toNat) (f' := ldF A s.toNat) fun g hg => h.hA _ (by omega)]
theorem n_weightOf (hd : 2 ≤ d) (h : RelS xs M A N B P) {n r : Int} {ld : Nat → Int} (hl : ∀ g, g < 8 → M 280 g = ld g) (hL : Ld ld) : callD d m_Mo_weightOf [vR 12 0 271, vI n, vI r] (SH L) M = some (some (vI (wts A ld r n)), SH L, M) := by
  have hC := h.cn
  unfold Cn at hC
  exact s_Mo_weightOf hd h.hA6 (fun g hg => hl g (by omega)) h.cn h.gd hL
theorem n_captainsBy (hd : 3 ≤ d) (h : RelS xs M A N B P) {r : Int} {ld : Nat → Int} (hl : ∀ g, g < 8 → M 280 g = ld g) (hL : Ld ld) : callD d m_Mo_captainsBy [vR 12 0 271, vI r] (SH L) M = some (some (vI (cap (fun n => wts A ld r n) (A 0).toNat)), SH L, M) := by
  have hC := h.cn
  unfold Cn at hC
  exact s_Mo_captainsBy hd h.hA6 (fun g hg => hl g (by omega)) h.cn h.gd hL
theorem n_flag (hd : 5 ≤ d) (h : RelS xs M A N B P) {ld : Nat → Int} (hl : ∀ g, g < 8 → M 280 g = ld g) (hL : Ld ld) : callD d m_Mo_flag [vR 12 0 271] (SH L) M = some (some (vI (flg (fun n => wts A ld (A 4) n) (A 0).toNat)), SH L, M) := by
  have hC := h.cn
  unfold Cn at hC
  exact s_Mo_flag hd h.hA6 (fun g hg => hl g (by omega)) h.cn h.gd hL
theorem n_onlyOne (hd : 2 ≤ d) {ld : Nat → Int} {r : Int} (h : RelS xs M A N B P) (hL : Ld ld) {S : Sp} {M' : Mm} : callD d m_Mo_onlyOne [vI (cap (fun n => wts A ld r n) (A 0).toNat)] S M' = some (some (vI (flg (fun n => wts A ld r n) (A 0).toNat)), S, M') := by
  have hC := h.cn
  unfold Cn at hC
  rw [s_Mo_onlyOne hd (cap_bd _ _).1 (cap64 _ (by omega)), oo_cap (by omega) fun k _ => (wts_bd r k h.gd hL h.cn).1]
theorem n_shipOf (hd : 2 ≤ d) (h : RelS xs M A N B P) {s w : Int} (h0 : 0 ≤ s) (h1 : s < A 3) (h2 : 0 ≤ w) (h3 : w < 15) : callD d m_Mo_shipOf [vR 12 0 271, vI s, vI w] (SH L) M = some (some (vI (A (146 + 15 * s.toNat + w.toNat))), SH L, M) := by
  have hC := h.cn
  unfold Cn at hC
  rw [s_Mo_shipOf hd h0 (by omega) h2 h3, h.hA _ (by omega)]
theorem n_heft (hd : 2 ≤ d) (h : RelS xs M A N B P) {i : Nat} {n r : Int} (hi : (i : Int) < A 3) (hn : 0 ≤ n) (hn' : n < A 0) : callD d m_Chart_heft [vR 0 0 19, vR 20 8 (58 + 2 * i), vI n, vI r] (SH L) M = some (some (vI (wts A (ldF A i) r n)), SH L, fillP M 48 (fun n => wts A (ldF A i) r n) (A 0).toNat) := by
  have hC := h.cn
  unfold Cn at hC
  exact s_Chart_heft hd ch19 h.ch h.cn h.gd (fun g hg => h.ldf hi g (by omega)) (h.ld hi) (by omega) hn hn'
theorem n_ruler (hd : 2 ≤ d) (h : RelS xs M A N B P) {i : Nat} {r : Int} (hi : (i : Int) < A 3) : callD d m_Chart_ruler [vR 0 0 19, vR 20 8 (58 + 2 * i), vI r] (SH L) M = some (some (vI (flg (fun n => wts A (ldF A i) r n) (A 0).toNat)), SH L, fillP M 48 (fun n => wts A (ldF A i) r n) (A 0).toNat) := by
  have hC := h.cn
  unfold Cn at hC
  exact s_Chart_ruler hd ch19 h.ch h.cn h.gd (fun g hg => h.ldf hi g (by omega)) (h.ld hi) (by omega)
theorem n_captainSet (hd : 2 ≤ d) (h : RelS xs M A N B P) {i : Nat} {r : Int} (hi : (i : Int) < A 3) : callD d m_Chart_captainSet [vR 0 0 19, vR 20 8 (58 + 2 * i), vI r] (SH L) M = some (some (vI (cap (fun n => wts A (ldF A i) r n) (A 0).toNat)), SH L, fillP M 48 (fun n => wts A (ldF A i) r n) (A 0).toNat) := by
  have hC := h.cn
  unfold Cn at hC
  exact s_Chart_captainSet hd ch19 h.ch h.cn h.gd (fun g hg => h.ldf hi g (by omega)) (h.ld hi) (by omega)
theorem n_load (hd : 1 ≤ d) (h : RelS xs M A N B P) {i : Nat} (hi : (i : Int) < A 3) : callD d m_Vessel_load [vR 8 0 (57 + 2 * i)] (SH L) M = some (some (vI (sm (ldF A i) 8)), SH L, M) := by
  have hC := h.cn
  unfold Cn at hC
  exact s_Vessel_load hd (isV_now (by omega)) (fun g hg => by rw [show 57 + 2 * i + 1 = 58 + 2 * i by omega]; exact h.ldf hi g hg) (h.ld hi)
theorem n_tons (hd : 1 ≤ d) {ld : Nat → Int} (hl : ∀ g, g < 8 → M 280 g = ld g) (hL : Ld ld) : callD d m_Mo_tons [vR 12 0 271] (SH L) M = some (some (vI (sm ld 8)), SH L, M) := s_Mo_tons hd hl hL
end

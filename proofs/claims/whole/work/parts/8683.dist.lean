/-! THE FEWEST DAYS: whole numbers only -/
def WkN (E : Nat → Nat → Int) (n s : Nat) : Nat → Nat → Int → Prop
  | 0, v, x => s < n ∧ v = s ∧ x = 0
  | k + 1, v, x => ∃ u y, WkN E n s k u y ∧ v < n ∧ 0 < E u v ∧ x = y + E u v
/-- a walk of so many days -/
def Wk (E : Nat → Nat → Int) (n s v : Nat) (x : Int) : Prop := ∃ k, WkN E n s k v x
section
variable {E : Nat → Nat → Int} {n s : Nat}
theorem Wk.nil (h : s < n) : Wk E n s s 0 := ⟨0, h, rfl, rfl⟩
theorem Wk.step {u v : Nat} {x : Int} (h : Wk E n s u x) (hv : v < n) (e : 0 < E u v) : Wk E n s v (x + E u v) := by
  obtain ⟨k, hk⟩ := h
  exact ⟨k + 1, u, x, hk, hv, e, rfl⟩
theorem Wk.lt {v : Nat} {x : Int} (h : Wk E n s v x) : v < n := by
  obtain ⟨k, hk⟩ := h
  cases k with
  | zero => obtain ⟨a, rfl, -⟩ := hk; exact a
  | succ k => obtain ⟨u, y, -, a, -⟩ := hk; exact a
theorem WkN.nn : ∀ {k v : Nat} {x : Int}, WkN E n s k v x → 0 ≤ x
  | 0, _, _, ⟨_, _, h⟩ => by omega
  | k + 1, v, x, ⟨u, y, h, _, e, h'⟩ => by
    have := WkN.nn h
    omega
theorem Wk.nn {v : Nat} {x : Int} (h : Wk E n s v x) : 0 ≤ x := by
  obtain ⟨k, hk⟩ := h
  exact hk.nn
theorem WkN.pre {u v : Nat} (hv : v < n) (e : 0 < E v u) : ∀ {k w : Nat} {x : Int}, WkN E n u k w x → Wk E n v w (x + E v u)
  | 0, w, x, ⟨hu, h1, h2⟩ => by
    subst h1 h2
    have a := Wk.step (Wk.nil (E := E) hv) hu e
    exact a
  | k + 1, w, x, ⟨u', y, h, hw, ew, h'⟩ => by
    have a := Wk.step (WkN.pre hv e h) hw ew
    rw [h', show ∀ x y z : Int, x + y + z = x + z + y from fun x y z => by omega]
    exact a
theorem WkN.symm (hE : ∀ u v, u < n → v < n → E u v = E v u) : ∀ {k v : Nat} {x : Int}, WkN E n s k v x → Wk E n v s x
  | 0, v, x, ⟨hu, h1, h2⟩ => by
    subst h1 h2
    exact Wk.nil hu
  | k + 1, v, x, ⟨u, y, h, hv, e, h'⟩ => by
    have hu : u < n := Wk.lt ⟨k, h⟩
    obtain ⟨j, hj⟩ := WkN.symm hE h
    rw [h', hE u v hu hv]
    rw [hE u v hu hv] at e
    exact hj.pre hv e
theorem Wk.symm (hE : ∀ u v, u < n → v < n → E u v = E v u) {v : Nat} {x : Int} (h : Wk E n s v x) : Wk E n v s x := by
  obtain ⟨k, hk⟩ := h
  exact hk.symm hE
theorem least {P : Nat → Prop} : ∀ k, P k → ∃ m, P m ∧ ∀ j, P j → m ≤ j := by
  intro k
  induction k using Nat.strongRecOn with
  | ind k ih =>
    intro hk
    by_cases h : ∃ j, j < k ∧ P j
    · obtain ⟨j, h1, h2⟩ := h
      exact ih j h1 h2
    · exact ⟨k, hk, fun j hj => Nat.le_of_not_lt fun e => h ⟨j, e, hj⟩⟩
def Rch (E : Nat → Nat → Int) (n s v : Nat) : Prop := ∃ x, Wk E n s v x
theorem Rch.ex {v : Nat} (h : Rch E n s v) : ∃ x, Wk E n s v x ∧ ∀ y, Wk E n s v y → x ≤ y := by
  obtain ⟨x, hx⟩ := h
  obtain ⟨k, rfl⟩ := Int.eq_ofNat_of_zero_le hx.nn
  obtain ⟨m, h1, h2⟩ := least (P := fun k : Nat => Wk E n s v (k : Int)) k hx
  refine ⟨m, h1, fun y hy => ?_⟩
  obtain ⟨j, rfl⟩ := Int.eq_ofNat_of_zero_le hy.nn
  have := h2 j hy
  omega
noncomputable def dst (E : Nat → Nat → Int) (n s v : Nat) : Int := @dite _ (Rch E n s v) (Classical.propDecidable _) (fun h => h.ex.choose) (fun _ => 1000000)
theorem dst_w {v : Nat} (h : Rch E n s v) : Wk E n s v (dst E n s v) := by
  unfold dst
  rw [dif_pos h]
  exact h.ex.choose_spec.1
theorem dst_le {v : Nat} {x : Int} (h : Wk E n s v x) : dst E n s v ≤ x := by
  have h' : Rch E n s v := ⟨x, h⟩
  unfold dst
  rw [dif_pos h']
  exact h'.ex.choose_spec.2 x h
theorem dst_no {v : Nat} (h : ¬Rch E n s v) : dst E n s v = 1000000 := by
  unfold dst
  rw [dif_neg h]
theorem dst_s (hs : s < n) : dst E n s s = 0 := by
  have a := dst_le (Wk.nil (E := E) hs)
  have b := (dst_w ⟨0, Wk.nil (E := E) hs⟩).nn
  omega
theorem dst_pred {v : Nat} (h : Rch E n s v) (hv : v ≠ s) : ∃ u, Rch E n s u ∧ u < n ∧ 0 < E u v ∧ dst E n s v = dst E n s u + E u v := by
  obtain ⟨k, w⟩ := dst_w h
  generalize hx : dst E n s v = x at w
  cases k with
  | zero => obtain ⟨-, a, -⟩ := w; exact absurd a hv
  | succ k =>
    obtain ⟨u, y, hu, h1, h2, rfl⟩ := w
    have hu : Wk E n s u y := ⟨k, hu⟩
    refine ⟨u, ⟨y, hu⟩, hu.lt, h2, ?_⟩
    have a := dst_le hu
    have b := dst_le (Wk.step (dst_w ⟨y, hu⟩) h1 h2)
    omega
theorem dst_symm (hE : ∀ u v, u < n → v < n → E u v = E v u) {v : Nat} : dst E n s v = dst E n v s := by
  by_cases h : Rch E n s v
  · have h' : Rch E n v s := by obtain ⟨x, hx⟩ := h; exact ⟨x, hx.symm hE⟩
    have a := dst_le ((dst_w h).symm hE)
    have b := dst_le ((dst_w h').symm hE)
    omega
  · have h' : ¬Rch E n v s := fun h' => h (by obtain ⟨x, hx⟩ := h'; exact ⟨x, hx.symm hE⟩)
    rw [dst_no h, dst_no h']
noncomputable def rk (E : Nat → Nat → Int) (n s v : Nat) : Nat → Nat
  | 0 => 0
  | k + 1 => rk E n s v k + @ite _ (Rch E n s k ∧ dst E n s k < dst E n s v) (Classical.propDecidable _) 1 0
theorem rk_s (v k : Nat) : rk E n s v (k + 1) = rk E n s v k + @ite _ (Rch E n s k ∧ dst E n s k < dst E n s v) (Classical.propDecidable _) 1 0 := rfl
theorem rk_mono {u v : Nat} (h : dst E n s u < dst E n s v) : ∀ k, rk E n s u k ≤ rk E n s v k
  | 0 => Nat.le_refl _
  | k + 1 => by
    have := rk_mono h k
    rw [rk_s, rk_s]
    by_cases e : Rch E n s k ∧ dst E n s k < dst E n s u
    · rw [if_pos e, if_pos ⟨e.1, by omega⟩]; omega
    · rw [if_neg e]; omega
theorem rk_lt {u v : Nat} (hu : Rch E n s u) (h : dst E n s u < dst E n s v) : ∀ k, u < k → rk E n s u k < rk E n s v k
  | k + 1, hk => by
    rw [rk_s, rk_s]
    by_cases e : u = k
    · subst e
      have := rk_mono h u
      rw [if_neg (show ¬(Rch E n s u ∧ dst E n s u < dst E n s u) from fun q => Int.lt_irrefl _ q.2), if_pos ⟨hu, h⟩]
      omega
    · have := rk_lt hu h k (by omega)
      by_cases e : Rch E n s k ∧ dst E n s k < dst E n s u
      · rw [if_pos e, if_pos ⟨e.1, by omega⟩]; omega
      · rw [if_neg e]; omega
theorem rk_le (v : Nat) : ∀ k, rk E n s v k ≤ k
  | 0 => Nat.le_refl _
  | k + 1 => by
    have := rk_le v k
    rw [rk_s]
    split <;> omega
theorem rk_le' {v : Nat} : ∀ k, v < k → rk E n s v k < k
  | k + 1, hk => by
    rw [rk_s]
    by_cases e : v = k
    · subst e
      have := rk_le (E := E) (n := n) (s := s) v v
      rw [if_neg (show ¬(Rch E n s v ∧ dst E n s v < dst E n s v) from fun q => Int.lt_irrefl _ q.2)]
      omega
    · have := rk_le' k (show v < k by omega)
      split <;> omega
/-- what holds while the days are shortened: r rounds are through, in this round the pairs T, B bounds them -/
def KD (E : Nat → Nat → Int) (n s r : Nat) (T : Nat → Nat → Prop) (B : Int) (g : Nat → Int) : Prop :=
  s < n ∧ (∀ v, v < n → g v = 1000000 ∨ (0 ≤ g v ∧ g v ≤ B ∧ Wk E n s v (g v))) ∧ g s = 0 ∧ (∀ v, v < n → Rch E n s v → rk E n s v n ≤ r → g v = dst E n s v ∧ g v ≤ B) ∧
  ∀ u v, u < n → v < n → T u v → Rch E n s u → rk E n s u n ≤ r → 0 < E u v → g v ≤ dst E n s u + E u v
theorem KD.hs {r : Nat} {T : Nat → Nat → Prop} {B : Int} {g : Nat → Int} (h : KD E n s r T B g) : s < n := h.1
theorem KD.w {r : Nat} {T : Nat → Nat → Prop} {B : Int} {g : Nat → Int} (h : KD E n s r T B g) : ∀ v, v < n → g v = 1000000 ∨ (0 ≤ g v ∧ g v ≤ B ∧ Wk E n s v (g v)) := h.2.1
theorem KD.s0 {r : Nat} {T : Nat → Nat → Prop} {B : Int} {g : Nat → Int} (h : KD E n s r T B g) : g s = 0 := h.2.2.1
theorem KD.se {r : Nat} {T : Nat → Nat → Prop} {B : Int} {g : Nat → Int} (h : KD E n s r T B g) : ∀ v, v < n → Rch E n s v → rk E n s v n ≤ r → g v = dst E n s v ∧ g v ≤ B := h.2.2.2.1
theorem KD.rx {r : Nat} {T : Nat → Nat → Prop} {B : Int} {g : Nat → Int} (h : KD E n s r T B g) : ∀ u v, u < n → v < n → T u v → Rch E n s u → rk E n s u n ≤ r → 0 < E u v → g v ≤ dst E n s u + E u v := h.2.2.2.2
theorem KD.start (hs : s < n) : KD E n s 0 (fun _ _ => False) 0 (fun v => if v = s then 0 else 1000000) := by
  refine ⟨hs, fun v hv => ?_, if_pos rfl, fun v hv hr hk => ?_, fun _ _ _ _ h => h.elim⟩
  · by_cases e : v = s
    · subst e
      dsimp only
      rw [if_pos rfl]
      exact Or.inr ⟨by omega, by omega, Wk.nil hs⟩
    · dsimp only; rw [if_neg e]; exact Or.inl rfl
  · by_cases e : v = s
    · subst e
      dsimp only
      rw [if_pos rfl, dst_s hs]
      exact ⟨rfl, by omega⟩
    · obtain ⟨u, h1, h2, h3, h4⟩ := dst_pred hr e
      have := rk_lt h1 (show dst E n s u < dst E n s v by omega) n h2
      omega
theorem KD.mono {r : Nat} {T T' : Nat → Nat → Prop} {B B' : Int} {g : Nat → Int} (h : KD E n s r T B g) (hB : B ≤ B') (hT : ∀ u v, u < n → v < n → T' u v → T u v) : KD E n s r T' B' g :=
  ⟨h.hs, fun v hv => (h.w v hv).imp id fun q => ⟨q.1, by omega, q.2.2⟩, h.s0, fun v hv a b => ⟨(h.se v hv a b).1, by have := (h.se v hv a b).2; omega⟩, fun u v hu hv t => h.rx u v hu hv (hT u v hu hv t)⟩
theorem KD.congr {r : Nat} {T : Nat → Nat → Prop} {B : Int} {g g' : Nat → Int} (h : KD E n s r T B g) (e : ∀ v, v < n → g' v = g v) : KD E n s r T B g' :=
  ⟨h.hs, fun v hv => by rw [e v hv]; exact h.w v hv, by rw [e s h.hs]; exact h.s0, fun v hv => by rw [e v hv]; exact h.se v hv, fun u v hu hv => by rw [e v hv]; exact h.rx u v hu hv⟩
/-- one pair -/
theorem KD.step {r : Nat} {T : Nat → Nat → Prop} {B : Int} {g g' : Nat → Int} (h : KD E n s r T B g) {u v : Nat} (hu : u < n) (hv : v < n) (he : E u v ≤ 20) (hB : 0 ≤ B ∧ B < 900000) (hg : ∀ w, w < n → w ≠ v → g' w = g w) (hgv : g' v = if 0 < E u v then min (g v) (g u + E u v) else g v) : KD E n s r (fun a b => T a b ∨ a = u ∧ b = v) (B + 20) g' := by
  have wu := h.w u hu
  have wv := h.w v hv
  have le : ∀ w, w < n → g' w ≤ g w := fun w hw => by
    by_cases e : w = v
    · subst e; rw [hgv]; split <;> omega
    · rw [hg w hw e]; omega
  have hw' : ∀ w, w < n → g' w = 1000000 ∨ (0 ≤ g' w ∧ g' w ≤ B + 20 ∧ Wk E n s w (g' w)) := fun w hw => by
    by_cases e : w = v
    · subst e
      rw [hgv]
      by_cases c : 0 < E u w
      · rw [if_pos c]
        by_cases c2 : g u + E u w < g w
        · rw [show min (g w) (g u + E u w) = g u + E u w by omega]
          rcases wu with wu | wu
          · omega
          · exact Or.inr ⟨by omega, by omega, Wk.step wu.2.2 hw c⟩
        · rw [show min (g w) (g u + E u w) = g w by omega]
          exact wv.imp id fun q => ⟨q.1, by omega, q.2.2⟩
      · rw [if_neg c]
        exact wv.imp id fun q => ⟨q.1, by omega, q.2.2⟩
    · rw [hg w hw e]
      exact (h.w w hw).imp id fun q => ⟨q.1, by omega, q.2.2⟩
  refine ⟨h.hs, hw', ?_, fun w hw hr hk => ?_, fun a b ha hb t hr hk e => ?_⟩
  · have a := le s h.hs
    have z := h.s0
    rcases hw' s h.hs with b | b
    · omega
    · omega
  · have a := h.se w hw hr hk
    have b := le w hw
    rcases hw' w hw with c | c
    · omega
    · have := dst_le c.2.2
      omega
  · rcases t with t | ⟨rfl, rfl⟩
    · have := h.rx a b ha hb t hr hk e
      have := le b hb
      omega
    · have := (h.se a ha hr hk).1
      rw [hgv, if_pos e]
      omega
/-- a round -/
theorem KD.round {r : Nat} {T : Nat → Nat → Prop} {B : Int} {g : Nat → Int} (h : KD E n s r T B g) (hB : 0 ≤ B ∧ B < 900000) (he : ∀ u v, u < n → v < n → E u v ≤ 20) (hT : ∀ u v, u < n → v < n → T u v) : KD E n s (r + 1) (fun _ _ => False) (B + 20) g := by
  refine ⟨h.hs, fun v hv => (h.w v hv).imp id fun q => ⟨q.1, by omega, q.2.2⟩, h.s0, fun v hv hr hk => ?_, fun _ _ _ _ h => h.elim⟩
  by_cases e : v = s
  · subst e
    rw [h.s0, dst_s hv]
    exact ⟨rfl, by omega⟩
  · obtain ⟨u, h1, h2, h3, h4⟩ := dst_pred hr e
    have lt := rk_lt h1 (show dst E n s u < dst E n s v by omega) n h2
    have a := h.rx u v h2 hv (hT u v h2 hv) h1 (by omega) h3
    have b := h.se u h2 h1 (by omega)
    have c := he u v h2 hv
    rcases h.w v hv with d | d
    · omega
    · have := dst_le d.2.2
      omega
theorem KD.fin {r : Nat} {T : Nat → Nat → Prop} {B : Int} {g : Nat → Int} (h : KD E n s r T B g) (hr : n ≤ r + 1) {v : Nat} (hv : v < n) : g v = dst E n s v ∧ (¬Rch E n s v ∧ g v = 1000000 ∨ Rch E n s v ∧ 0 ≤ g v ∧ g v ≤ B) := by
  by_cases c : Rch E n s v
  · have a := h.se v hv c (by have := rk_le' (E := E) (n := n) (s := s) n hv; omega)
    have := (dst_w c).nn
    exact ⟨a.1, Or.inr ⟨c, by omega, a.2⟩⟩
  · rcases h.w v hv with d | d
    · rw [dst_no c]; exact ⟨d, Or.inl ⟨c, d⟩⟩
    · exact absurd ⟨_, d.2.2⟩ c
theorem Rch.go {u v : Nat} (h : Rch E n s u) (hv : v < n) (he : 0 < E u v) : Rch E n s v := by
  obtain ⟨x, hx⟩ := h
  exact ⟨_, hx.step hv he⟩
end

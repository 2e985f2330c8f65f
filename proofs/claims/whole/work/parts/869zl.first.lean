/-! THE FIRST RELATION -/
section
variable {M T : Mm} {n b j : Nat}
theorem vsM_ne (h : b ≠ n) : vsM n M b j = M b j := by
  unfold vsM
  rw [upN (by omega), upN (by omega), upN (by omega), upN (by omega), upN (by omega), upN (by omega), upN (by omega)]
theorem upz {a k : Nat} (h : M b j = 0) : up M a k 0 b j = 0 := by
  unfold up
  split
  · rfl
  · exact h
theorem stM_ne (h : ¬(n ≤ b ∧ b < n + 47)) : stM n M b j = M b j := by
  unfold stM plM chM
  rw [vsM_ne (by omega), vsM_ne (by omega), vsM_ne (by omega), vsM_ne (by omega), upN (by omega), upN (by omega), upN (by omega), upN (by omega), upN (by omega)]
theorem stM_z (h : b < n + 39) (hz : M b j = 0) : stM n M b j = 0 := by
  unfold stM plM chM
  rw [vsM_ne (by omega), vsM_ne (by omega), vsM_ne (by omega), vsM_ne (by omega)]
  exact upz (upz (upz (upz (upz hz))))
theorem seM_ne (h : ¬(n ≤ b ∧ b < n + 10)) : seM n M b j = M b j := by
  unfold seM
  rw [vsM_ne (by omega), vsM_ne (by omega), vsM_ne (by omega), vsM_ne (by omega), upN (by omega), upN (by omega), upN (by omega)]
theorem olM_ne (h : b ≠ n) : olM n M b j = M b j := by
  unfold olM
  rw [upN (by omega), upN (by omega), upN (by omega), upN (by omega)]
theorem lfM_ne (h : b ≠ n) : lfM n M b j = M b j := by
  unfold lfM
  rw [upN (by omega), upN (by omega)]
theorem vtM_ne (h : b ≠ n) : vtM n M b j = M b j := by
  unfold vtM
  rw [upN (by omega)]
theorem wtM_ne (h : b ≠ n) : wtM n M b j = M b j := by
  unfold wtM
  rw [upN (by omega)]
theorem caM_T (h : b = 0 ∨ 4 ≤ b ∧ b ≤ 14 ∨ b = 128 ∨ 271 ≤ b) : caM 3 T b j = T b j := by
  unfold caM
  rw [stM_ne (by omega), stM_ne (by omega), stM_ne (by omega), upN (by omega), upN (by omega), upN (by omega), upN (by omega), upN (by omega), upN (by omega), upN (by omega), lfM_ne (by omega), seM_ne (by omega), olM_ne (by omega), stM_ne (by omega), stM_ne (by omega), vtM_ne (by omega), wtM_ne (by omega)]
theorem caM_z (h : 18 ≤ b ∧ b < 57) (hz : T b j = 0) : caM 3 T b j = 0 := by
  unfold caM
  rw [stM_ne (by omega), stM_ne (by omega), stM_ne (by omega), upN (by omega), upN (by omega), upN (by omega), upN (by omega), upN (by omega), upN (by omega), upN (by omega), lfM_ne (by omega), seM_ne (by omega), olM_ne (by omega), stM_ne (by omega)]
  exact stM_z (by omega) (by rw [vtM_ne (by omega), wtM_ne (by omega)]; exact hz)
theorem caM_3 : caM 3 T 3 11 = 0 ∧ caM 3 T 3 12 = 0 ∧ caM 3 T 3 13 = -1 ∧ caM 3 T 3 14 = -1 ∧ caM 3 T 3 15 = 0 ∧ caM 3 T 3 16 = 0 ∧ caM 3 T 3 17 = 1 := by
  unfold caM
  refine ⟨?_, ?_, ?_, ?_, ?_, ?_, ?_⟩
  · rw [stM_ne (by omega), stM_ne (by omega), stM_ne (by omega), upN (by omega), upN (by omega), upN (by omega), upN (by omega), upN (by omega), upN (by omega), upE rfl rfl]
  · rw [stM_ne (by omega), stM_ne (by omega), stM_ne (by omega), upN (by omega), upN (by omega), upN (by omega), upN (by omega), upN (by omega), upE rfl rfl]
  · rw [stM_ne (by omega), stM_ne (by omega), stM_ne (by omega), upN (by omega), upN (by omega), upN (by omega), upN (by omega), upE rfl rfl]
  · rw [stM_ne (by omega), stM_ne (by omega), stM_ne (by omega), upN (by omega), upN (by omega), upN (by omega), upE rfl rfl]
  · rw [stM_ne (by omega), stM_ne (by omega), stM_ne (by omega), upN (by omega), upN (by omega), upE rfl rfl]
  · rw [stM_ne (by omega), stM_ne (by omega), stM_ne (by omega), upN (by omega), upE rfl rfl]
  · rw [stM_ne (by omega), stM_ne (by omega), stM_ne (by omega), upE rfl rfl]
theorem moM_ne (h : ¬(b = 271 ∧ (j = 4 ∨ j = 16 ∨ j = 17))) (h' : ¬(b = 275 ∧ j < 4)) : moM 271 M b j = M b j := by
  unfold moM
  rw [upN (by omega), upN (by omega), upN (by omega), upN (by omega), upN (by omega), upN (by omega), upN (by omega)]
theorem moM_at : moM 271 M 271 4 = 1 ∧ moM 271 M 271 16 = -1 ∧ moM 271 M 271 17 = -1 ∧ ∀ t, t < 4 → moM 271 M 275 t = -1 := by
  unfold moM
  refine ⟨?_, ?_, ?_, fun t ht => ?_⟩
  · rw [upN (by omega), upN (by omega), upN (by omega), upN (by omega), upN (by omega), upN (by omega), upE rfl rfl]
  · rw [upN (by omega), upE rfl rfl]
  · rw [upE rfl rfl]
  · have : t = 0 ∨ t = 1 ∨ t = 2 ∨ t = 3 := by omega
    rcases this with rfl | rfl | rfl | rfl
    · rw [upN (by omega), upN (by omega), upN (by omega), upN (by omega), upN (by omega), upE rfl rfl]
    · rw [upN (by omega), upN (by omega), upN (by omega), upN (by omega), upE rfl rfl]
    · rw [upN (by omega), upN (by omega), upN (by omega), upE rfl rfl]
    · rw [upN (by omega), upN (by omega), upE rfl rfl]
theorem trM_ne (h : ¬(b = n + 7 ∧ j < 4)) : trM n M b j = M b j := by
  unfold trM
  rw [upN (by omega), upN (by omega), upN (by omega), upN (by omega)]
theorem trM_at {t : Nat} (ht : t < 4) : trM n M (n + 7) t = -1 := by
  unfold trM
  have : t = 0 ∨ t = 1 ∨ t = 2 ∨ t = 3 := by omega
  rcases this with rfl | rfl | rfl | rfl
  · rw [upN (by omega), upN (by omega), upN (by omega), upE rfl rfl]
  · rw [upN (by omega), upN (by omega), upE rfl rfl]
  · rw [upN (by omega), upE rfl rfl]
  · rw [upE rfl rfl]
end
def A0 (k : Nat) : Int := if k = 6 then -1 else 0
theorem A0_ne {k : Nat} (h : k ≠ 6) : A0 k = 0 := if_neg h
theorem A0_inv : Inv A0 := by
  have z0 : A0 0 = 0 := rfl
  have z1 : A0 1 = 0 := rfl
  have z2 : A0 2 = 0 := rfl
  have z3 : A0 3 = 0 := rfl
  have z4 : A0 4 = 0 := rfl
  have z5 : A0 5 = 0 := rfl
  refine ⟨?_, fun g hg => by omega, fun n hn => by omega, fun p hp => by omega, fun p g hp hg => ?_, fun p q hp hq => ?_, fun i hi => by omega, by omega, fun a b ha hb => by omega⟩
  · unfold Cn; omega
  · rw [A0_ne (by omega)]; omega
  · rw [A0_ne (by omega), A0_ne (by omega), A0_ne (by omega)]; omega
theorem first_rel {xs : Nat → Int} {T F : Mm} (tw : ∀ w, w < 31 → T 14 w = wcode w) (t2 : T 12 2 = 0) (tf : ∀ b j, b ≠ 12 → b ≠ 14 → T b j = trM 4 (M00 xs) b j) (m2 : ∀ j, F 272 j = if j = 6 then -1 else 0) (mf : ∀ b j, b ≠ 272 → F b j = moM 271 (caM 3 T) b j) : Rel xs F A0 (fun _ => 0) (fun _ _ => 0) (fun _ _ => 0) := by
  have zT : ∀ b j, b ≠ 0 → b ≠ 11 → b ≠ 12 → b ≠ 14 → T b j = 0 := fun b j h0 h1 h2 h3 => by
    rw [tf _ _ h2 h3, trM_ne (by omega)]
    exact if_neg h0
  have lo : ∀ b j, b < 271 → F b j = caM 3 T b j := fun b j hb => by rw [mf _ _ (by omega), moM_ne (by omega) (by omega)]
  have hi : ∀ b j, 271 ≤ b → b ≠ 272 → ¬(b = 271 ∧ (j = 4 ∨ j = 16 ∨ j = 17)) → ¬(b = 275 ∧ j < 4) → F b j = 0 := fun b j hb h1 h2 h3 => by
    rw [mf _ _ h1, moM_ne h2 h3, caM_T (by omega)]
    exact zT _ _ (by omega) (by omega) (by omega) (by omega)
  have nw : ∀ b j, 18 ≤ b → b < 57 → F b j = 0 := fun b j h1 h2 => by
    rw [lo _ _ (by omega)]
    exact caM_z ⟨h1, h2⟩ (zT _ _ (by omega) (by omega) (by omega) (by omega))
  obtain ⟨c11, c12, c13, c14, c15, c16, c17⟩ := caM_3 (T := T)
  obtain ⟨o4, o16, o17, o275⟩ := moM_at (M := caM 3 T)
  have z0 : A0 0 = 0 := rfl
  have z1 : A0 1 = 0 := rfl
  have z2 : A0 2 = 0 := rfl
  have z3 : A0 3 = 0 := rfl
  refine ⟨?_, fun j => ?_, ⟨?_, ?_, ?_, ?_⟩, fun t ht => ?_, ⟨?_, ?_, ?_, fun k hk => ?_, fun w hw => ?_⟩, ⟨⟨?_, Or.inl ?_⟩, fun o ho => Or.inl ⟨?_, ?_⟩⟩, ⟨?_, ?_, ?_, fun i hi' => ?_⟩, fun k hk => ?_, fun k hk => ?_, ⟨⟨fun k hk => ?_, ?_, fun n hn => by omega, fun g hg => by omega, fun p hp => by omega, fun p g hp hg => ?_, fun p q hp hq => ?_⟩, ?_, fun i hi' => by omega, Or.inl ⟨?_, rfl⟩, ⟨fun i hi' => by omega, fun i hi' => by omega, fun i hi' => by omega, fun i hi' => by omega⟩, A0_inv⟩⟩
  · rw [lo _ _ (by omega), c15, hi _ _ (by omega) (by omega) (by omega) (by omega)]
  · rw [lo _ _ (by omega), caM_T (by omega), tf _ _ (by omega) (by omega), trM_ne (by omega)]; rfl
  · rw [lo _ _ (by omega), c16, hi _ _ (by omega) (by omega) (by omega) (by omega)]
  · rw [lo _ _ (by omega), c17, mf _ _ (by omega), o4]
  · rw [lo _ _ (by omega), c13, mf _ _ (by omega), o16]
  · rw [lo _ _ (by omega), c14, mf _ _ (by omega), o17]
  · have q1 : F 10 t = 0 := by rw [lo _ _ (by omega), caM_T (by omega)]; exact zT _ _ (by omega) (by omega) (by omega) (by omega)
    have q2 : F 274 t = 0 := hi _ _ (by omega) (by omega) (by omega) (by omega)
    have q3 : F 11 t = -1 := by rw [lo _ _ (by omega), caM_T (by omega), tf _ _ (by omega) (by omega)]; exact trM_at ht
    have q4 : F 275 t = -1 := by rw [mf _ _ (by omega)]; exact o275 t ht
    exact ⟨by omega, by omega, by omega, by omega, by omega, by omega, fun k hk => by omega⟩
  · rw [lo _ _ (by omega), caM_T (by omega), t2, hi _ _ (by omega) (by omega) (by omega) (by omega)]
  · rw [hi _ _ (by omega) (by omega) (by omega) (by omega)]; omega
  · rw [hi _ _ (by omega) (by omega) (by omega) (by omega)]; omega
  · rw [hi _ _ (by omega) (by omega) (by omega) (by omega)] at hk; omega
  · rw [lo _ _ (by omega), caM_T (by omega)]; exact tw w hw
  · rw [lo _ _ (by omega), c11, hi _ _ (by omega) (by omega) (by omega) (by omega)]
  · exact hi _ _ (by omega) (by omega) (by omega) (by omega)
  · rw [lo _ _ (by omega), caM_T (by omega)]; exact zT _ _ (by omega) (by omega) (by omega) (by omega)
  · exact hi _ _ (by omega) (by omega) (by omega) (by omega)
  · rw [lo _ _ (by omega), c12, hi _ _ (by omega) (by omega) (by omega) (by omega)]
  · rw [hi _ _ (by omega) (by omega) (by omega) (by omega)]; omega
  · rw [hi _ _ (by omega) (by omega) (by omega) (by omega)]; omega
  · rw [hi _ _ (by omega) (by omega) (by omega) (by omega)] at hi'; omega
  · exact m2 k
  · exact hi _ _ (by omega) (by omega) (by omega) (by omega)
  · rw [nw _ _ (by omega) (by omega), A0_ne (by omega)]
  · rw [nw _ _ (by omega) (by omega), A0_ne (by omega)]
  · rw [nw _ _ (by omega) (by omega), A0_ne (by omega)]
  · rw [nw _ _ (by omega) (by omega), A0_ne (by omega)]
  · rw [nw _ _ (by omega) (by omega), A0_ne (by omega)]
  · exact nw _ _ (by omega) (by omega)
theorem slO_d : slO ((SH 0).drop 1) ≤ 20000 := by decide +kernel
set_option maxRecDepth 100000 in
theorem ca_len (L : Nat) : (S00 L ++ caB 3).length = 271 := rfl
set_option maxRecDepth 100000 in
theorem SH_eq (L : Nat) : (S00 L ++ caB 3) ++ moB 271 = SH L := rfl
set_option maxHeartbeats 4000000 in
set_option maxRecDepth 100000 in
theorem lawRuns : LawRuns := by
  intro L xs hL hx
  obtain ⟨T, e1, tw, t2, tf⟩ := i_Ca (d := 100) (by omega) (S00 L) (M00 xs) fun b j hb => if_neg (by have : (S00 L).length = 3 := rfl; omega)
  obtain ⟨F, e2, m2, mf⟩ := i_Mo (d := 100) (by omega) (S00 L ++ caB 3) (caM 3 T) fun b j hb => by
    rw [ca_len] at hb
    rw [caM_T (by omega), tf b j (by show b ≠ 12; omega) (by show b ≠ 14; omega), trM_ne (by show ¬(b = 11 ∧ j < 4); omega)]
    exact if_neg (by omega)
  rw [ca_len] at e2 m2 mf
  have R := first_rel (xs := xs) (T := T) (F := F) tw t2 tf m2 mf
  obtain ⟨M', e⟩ := lw_loop hx hL 512 0 F _ _ _ _ (by omega) (by omega) R
  have e0 : Run (callD 100) tb_Law_law 0 [vR 29 (L : Int) 0, vU, vU, vU] [] (S00 L) (M00 xs) = some (some (vI 1), SH L, M') := by
    rw [b_Law_0]
    have e1 : callD 100 m_Ca_init [vR 11 0 (S00 L).length] (S00 L ++ [(11, 0, List.replicate 18 none)]) (M00 xs) = some (none, S00 L ++ caB 3, caM 3 T) := e1
    rw [e1, bndV_some]
    rw [SH_eq] at e2
    rw [ca_len, e2, bndV_some]
    exact e
  obtain ⟨n, hn⟩ := (Run_iff _ _ _ _ _ _ _ _).mp e0
  refine ⟨100, n, SH L, M', hn, ?_, ?_, by omega⟩
  · show 287 ≤ 600000
    omega
  · have e : slO (SH L) = L + slO ((SH 0).drop 1) := rfl
    have := slO_d
    omega

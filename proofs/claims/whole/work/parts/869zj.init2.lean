/-! THE CONSTRUCTORS: what holds parts -/
def stB (n : Nat) : Sp := (5, 0, [some (n + 1), some (n + 32), some (n + 33), none]) :: (chB (n + 1) ++ (24, 4, [some (n + 39), some (n + 41), some (n + 43), some (n + 45)]) :: (plB (n + 33) ++ vsB (n + 39) ++ vsB (n + 41) ++ vsB (n + 43) ++ vsB (n + 45)))
def stM (n : Nat) (M : Mm) : Mm := vsM (n + 45) (vsM (n + 43) (vsM (n + 41) (vsM (n + 39) (up (plM (n + 33) (chM (n + 1) M)) n 3 0))))
theorem i_State {d : Nat} (hd : 2 ≤ d) (S : Sp) (M : Mm) : callD d m_State_init [vR 5 0 S.length] (S ++ [(5, 0, List.replicate 4 none)]) M = some (none, S ++ stB S.length, stM S.length M) := by
  rw [c_State_init (by omega), b_State_init_0, i_Chart (by omega), bndV_some, lnc S [(5, 0, List.replicate 4 none)] 1 rfl, al]
  rw [show setRef ([(5, 0, List.replicate 4 none)] ++ chB (S.length + 1)) 0 0 (S.length + 1) = (5, 0, [some (S.length + 1), none, none, none]) :: chB (S.length + 1) from rfl, b_State_init_15, lnc S ((5, 0, [some (S.length + 1), none, none, none]) :: chB (S.length + 1)) 32 rfl, al]
  rw [show setRef (((5, 0, [some (S.length + 1), none, none, none]) :: chB (S.length + 1)) ++ [(24, 4, List.replicate 4 none)]) 0 1 (S.length + 32) = (5, 0, [some (S.length + 1), some (S.length + 32), none, none]) :: (chB (S.length + 1) ++ [(24, 4, [none, none, none, none])]) from rfl, b_State_init_23, i_Plan (by omega), bndV_some, lnc S ((5, 0, [some (S.length + 1), some (S.length + 32), none, none]) :: (chB (S.length + 1) ++ [(24, 4, [none, none, none, none])])) 33 rfl, al]
  rw [show setRef (((5, 0, [some (S.length + 1), some (S.length + 32), none, none]) :: (chB (S.length + 1) ++ [(24, 4, [none, none, none, none])])) ++ plB (S.length + 33)) 0 2 (S.length + 33) = (5, 0, [some (S.length + 1), some (S.length + 32), some (S.length + 33), none]) :: (chB (S.length + 1) ++ (24, 4, [none, none, none, none]) :: (plB (S.length + 33))) from rfl, b_State_init_34, b_State_init_39]
  rw [b_State_init_41, if_pos (by decide), show refOf (S ++ ((5, 0, [some (S.length + 1), some (S.length + 32), some (S.length + 33), none]) :: (chB (S.length + 1) ++ (24, 4, [none, none, none, none]) :: (plB (S.length + 33))))) S.length 1 = some (S.length + 32) from rf_app S _ 0 1, bR_some, i_Vessel (by omega), bndV_some, if_pos (by decide), lnc S ((5, 0, [some (S.length + 1), some (S.length + 32), some (S.length + 33), none]) :: (chB (S.length + 1) ++ (24, 4, [none, none, none, none]) :: (plB (S.length + 33)))) 39 rfl, al3, show Int.toNat 0 = 0 from rfl]
  rw [show setRef (((5, 0, [some (S.length + 1), some (S.length + 32), some (S.length + 33), none]) :: (chB (S.length + 1) ++ (24, 4, [none, none, none, none]) :: (plB (S.length + 33)))) ++ vsB (S.length + 39)) 32 0 (S.length + 39) = (5, 0, [some (S.length + 1), some (S.length + 32), some (S.length + 33), none]) :: (chB (S.length + 1) ++ (24, 4, [some (S.length + 39), none, none, none]) :: (plB (S.length + 33) ++ vsB (S.length + 39))) from rfl, b_State_init_59, show w32 (0 + 1) = 1 from rfl]
  rw [b_State_init_41, if_pos (by decide), show refOf (S ++ ((5, 0, [some (S.length + 1), some (S.length + 32), some (S.length + 33), none]) :: (chB (S.length + 1) ++ (24, 4, [some (S.length + 39), none, none, none]) :: (plB (S.length + 33) ++ vsB (S.length + 39))))) S.length 1 = some (S.length + 32) from rf_app S _ 0 1, bR_some, i_Vessel (by omega), bndV_some, if_pos (by decide), lnc S ((5, 0, [some (S.length + 1), some (S.length + 32), some (S.length + 33), none]) :: (chB (S.length + 1) ++ (24, 4, [some (S.length + 39), none, none, none]) :: (plB (S.length + 33) ++ vsB (S.length + 39)))) 41 rfl, al3, show Int.toNat 1 = 1 from rfl]
  rw [show setRef (((5, 0, [some (S.length + 1), some (S.length + 32), some (S.length + 33), none]) :: (chB (S.length + 1) ++ (24, 4, [some (S.length + 39), none, none, none]) :: (plB (S.length + 33) ++ vsB (S.length + 39)))) ++ vsB (S.length + 41)) 32 1 (S.length + 41) = (5, 0, [some (S.length + 1), some (S.length + 32), some (S.length + 33), none]) :: (chB (S.length + 1) ++ (24, 4, [some (S.length + 39), some (S.length + 41), none, none]) :: (plB (S.length + 33) ++ vsB (S.length + 39) ++ vsB (S.length + 41))) from rfl, b_State_init_59, show w32 (1 + 1) = 2 from rfl]
  rw [b_State_init_41, if_pos (by decide), show refOf (S ++ ((5, 0, [some (S.length + 1), some (S.length + 32), some (S.length + 33), none]) :: (chB (S.length + 1) ++ (24, 4, [some (S.length + 39), some (S.length + 41), none, none]) :: (plB (S.length + 33) ++ vsB (S.length + 39) ++ vsB (S.length + 41))))) S.length 1 = some (S.length + 32) from rf_app S _ 0 1, bR_some, i_Vessel (by omega), bndV_some, if_pos (by decide), lnc S ((5, 0, [some (S.length + 1), some (S.length + 32), some (S.length + 33), none]) :: (chB (S.length + 1) ++ (24, 4, [some (S.length + 39), some (S.length + 41), none, none]) :: (plB (S.length + 33) ++ vsB (S.length + 39) ++ vsB (S.length + 41)))) 43 rfl, al3, show Int.toNat 2 = 2 from rfl]
  rw [show setRef (((5, 0, [some (S.length + 1), some (S.length + 32), some (S.length + 33), none]) :: (chB (S.length + 1) ++ (24, 4, [some (S.length + 39), some (S.length + 41), none, none]) :: (plB (S.length + 33) ++ vsB (S.length + 39) ++ vsB (S.length + 41)))) ++ vsB (S.length + 43)) 32 2 (S.length + 43) = (5, 0, [some (S.length + 1), some (S.length + 32), some (S.length + 33), none]) :: (chB (S.length + 1) ++ (24, 4, [some (S.length + 39), some (S.length + 41), some (S.length + 43), none]) :: (plB (S.length + 33) ++ vsB (S.length + 39) ++ vsB (S.length + 41) ++ vsB (S.length + 43))) from rfl, b_State_init_59, show w32 (2 + 1) = 3 from rfl]
  rw [b_State_init_41, if_pos (by decide), show refOf (S ++ ((5, 0, [some (S.length + 1), some (S.length + 32), some (S.length + 33), none]) :: (chB (S.length + 1) ++ (24, 4, [some (S.length + 39), some (S.length + 41), some (S.length + 43), none]) :: (plB (S.length + 33) ++ vsB (S.length + 39) ++ vsB (S.length + 41) ++ vsB (S.length + 43))))) S.length 1 = some (S.length + 32) from rf_app S _ 0 1, bR_some, i_Vessel (by omega), bndV_some, if_pos (by decide), lnc S ((5, 0, [some (S.length + 1), some (S.length + 32), some (S.length + 33), none]) :: (chB (S.length + 1) ++ (24, 4, [some (S.length + 39), some (S.length + 41), some (S.length + 43), none]) :: (plB (S.length + 33) ++ vsB (S.length + 39) ++ vsB (S.length + 41) ++ vsB (S.length + 43)))) 45 rfl, al3, show Int.toNat 3 = 3 from rfl]
  rw [show setRef (((5, 0, [some (S.length + 1), some (S.length + 32), some (S.length + 33), none]) :: (chB (S.length + 1) ++ (24, 4, [some (S.length + 39), some (S.length + 41), some (S.length + 43), none]) :: (plB (S.length + 33) ++ vsB (S.length + 39) ++ vsB (S.length + 41) ++ vsB (S.length + 43)))) ++ vsB (S.length + 45)) 32 3 (S.length + 45) = (5, 0, [some (S.length + 1), some (S.length + 32), some (S.length + 33), none]) :: (chB (S.length + 1) ++ (24, 4, [some (S.length + 39), some (S.length + 41), some (S.length + 43), some (S.length + 45)]) :: (plB (S.length + 33) ++ vsB (S.length + 39) ++ vsB (S.length + 41) ++ vsB (S.length + 43) ++ vsB (S.length + 45))) from rfl, b_State_init_59, show w32 (3 + 1) = 4 from rfl]
  rw [b_State_init_41, if_neg (by decide)]
  rfl
def seB (n : Nat) : Sp := (4, 0, [some (n + 1), none, none, none]) :: ([(24, 4, [some (n + 2), some (n + 4), some (n + 6), some (n + 8)])] ++ vsB (n + 2) ++ vsB (n + 4) ++ vsB (n + 6) ++ vsB (n + 8))
def seM (n : Nat) (M : Mm) : Mm := vsM (n + 8) (vsM (n + 6) (vsM (n + 4) (vsM (n + 2) (up (up (up M n 1 (-1)) n 2 (-1)) n 3 (-1)))))
theorem i_Search {d : Nat} (hd : 2 ≤ d) (S : Sp) (M : Mm) : callD d m_Search_init [vR 4 0 S.length] (S ++ [(4, 0, List.replicate 4 none)]) M = some (none, S ++ seB S.length, seM S.length M) := by
  rw [c_Search_init (by omega), b_Search_init_0, lnc S [(4, 0, List.replicate 4 none)] 1 rfl, al]
  rw [show setRef ([(4, 0, List.replicate 4 none)] ++ [(24, 4, List.replicate 4 none)]) 0 0 (S.length + 1) = (4, 0, [some (S.length + 1), none, none, none]) :: ([(24, 4, [none, none, none, none])]) from rfl, b_Search_init_12, b_Search_init_17, b_Search_init_22, b_Search_init_27]
  rw [b_Search_init_29, if_neg (by decide), show refOf (S ++ ((4, 0, [some (S.length + 1), none, none, none]) :: ([(24, 4, [none, none, none, none])]))) S.length 0 = some (S.length + 1) from rf_app S _ 0 0, bR_some, i_Vessel (by omega), bndV_some, if_pos (by decide), lnc S ((4, 0, [some (S.length + 1), none, none, none]) :: ([(24, 4, [none, none, none, none])])) 2 rfl, al3, show Int.toNat 0 = 0 from rfl]
  rw [show setRef (((4, 0, [some (S.length + 1), none, none, none]) :: ([(24, 4, [none, none, none, none])])) ++ vsB (S.length + 2)) 1 0 (S.length + 2) = (4, 0, [some (S.length + 1), none, none, none]) :: ([(24, 4, [some (S.length + 2), none, none, none])] ++ vsB (S.length + 2)) from rfl, b_Search_init_47, show w32 (0 + 1) = 1 from rfl]
  rw [b_Search_init_29, if_neg (by decide), show refOf (S ++ ((4, 0, [some (S.length + 1), none, none, none]) :: ([(24, 4, [some (S.length + 2), none, none, none])] ++ vsB (S.length + 2)))) S.length 0 = some (S.length + 1) from rf_app S _ 0 0, bR_some, i_Vessel (by omega), bndV_some, if_pos (by decide), lnc S ((4, 0, [some (S.length + 1), none, none, none]) :: ([(24, 4, [some (S.length + 2), none, none, none])] ++ vsB (S.length + 2))) 4 rfl, al3, show Int.toNat 1 = 1 from rfl]
  rw [show setRef (((4, 0, [some (S.length + 1), none, none, none]) :: ([(24, 4, [some (S.length + 2), none, none, none])] ++ vsB (S.length + 2))) ++ vsB (S.length + 4)) 1 1 (S.length + 4) = (4, 0, [some (S.length + 1), none, none, none]) :: ([(24, 4, [some (S.length + 2), some (S.length + 4), none, none])] ++ vsB (S.length + 2) ++ vsB (S.length + 4)) from rfl, b_Search_init_47, show w32 (1 + 1) = 2 from rfl]
  rw [b_Search_init_29, if_neg (by decide), show refOf (S ++ ((4, 0, [some (S.length + 1), none, none, none]) :: ([(24, 4, [some (S.length + 2), some (S.length + 4), none, none])] ++ vsB (S.length + 2) ++ vsB (S.length + 4)))) S.length 0 = some (S.length + 1) from rf_app S _ 0 0, bR_some, i_Vessel (by omega), bndV_some, if_pos (by decide), lnc S ((4, 0, [some (S.length + 1), none, none, none]) :: ([(24, 4, [some (S.length + 2), some (S.length + 4), none, none])] ++ vsB (S.length + 2) ++ vsB (S.length + 4))) 6 rfl, al3, show Int.toNat 2 = 2 from rfl]
  rw [show setRef (((4, 0, [some (S.length + 1), none, none, none]) :: ([(24, 4, [some (S.length + 2), some (S.length + 4), none, none])] ++ vsB (S.length + 2) ++ vsB (S.length + 4))) ++ vsB (S.length + 6)) 1 2 (S.length + 6) = (4, 0, [some (S.length + 1), none, none, none]) :: ([(24, 4, [some (S.length + 2), some (S.length + 4), some (S.length + 6), none])] ++ vsB (S.length + 2) ++ vsB (S.length + 4) ++ vsB (S.length + 6)) from rfl, b_Search_init_47, show w32 (2 + 1) = 3 from rfl]
  rw [b_Search_init_29, if_neg (by decide), show refOf (S ++ ((4, 0, [some (S.length + 1), none, none, none]) :: ([(24, 4, [some (S.length + 2), some (S.length + 4), some (S.length + 6), none])] ++ vsB (S.length + 2) ++ vsB (S.length + 4) ++ vsB (S.length + 6)))) S.length 0 = some (S.length + 1) from rf_app S _ 0 0, bR_some, i_Vessel (by omega), bndV_some, if_pos (by decide), lnc S ((4, 0, [some (S.length + 1), none, none, none]) :: ([(24, 4, [some (S.length + 2), some (S.length + 4), some (S.length + 6), none])] ++ vsB (S.length + 2) ++ vsB (S.length + 4) ++ vsB (S.length + 6))) 8 rfl, al3, show Int.toNat 3 = 3 from rfl]
  rw [show setRef (((4, 0, [some (S.length + 1), none, none, none]) :: ([(24, 4, [some (S.length + 2), some (S.length + 4), some (S.length + 6), none])] ++ vsB (S.length + 2) ++ vsB (S.length + 4) ++ vsB (S.length + 6))) ++ vsB (S.length + 8)) 1 3 (S.length + 8) = (4, 0, [some (S.length + 1), none, none, none]) :: ([(24, 4, [some (S.length + 2), some (S.length + 4), some (S.length + 6), some (S.length + 8)])] ++ vsB (S.length + 2) ++ vsB (S.length + 4) ++ vsB (S.length + 6) ++ vsB (S.length + 8)) from rfl, b_Search_init_47, show w32 (3 + 1) = 4 from rfl]
  rw [b_Search_init_29, if_pos (by decide)]
  rfl
/-! the tape's words -/
def twS : Nat → Nat × Int
  | 0 => (0, 0)
  | i + 1 => if strC 0 i = 32 then ((twS i).1 + 1, 0) else ((twS i).1, (twS i).2 * 32 + (strC 0 i - 96))
def twG : Nat → Nat → Int
  | 0, _ => 0
  | i + 1, w => if strC 0 i = 32 then twG i w else if w = (twS i).1 then (twS i).2 * 32 + (strC 0 i - 96) else twG i w
theorem tw_ok : ∀ i : Fin 152, (twS i.val).1 < 31 ∧ (strC 0 i.val = 32 → (twS i.val).1 < 30) ∧ 0 ≤ (twS i.val).2 ∧ (twS i.val).2 < 1000000000000 ∧ 0 ≤ strC 0 i.val ∧ strC 0 i.val < 128 := by decide +kernel
theorem tw_end : ∀ w : Fin 31, twG 152 w.val = wcode w.val := by decide +kernel
theorem strL0 : strL 0 = 152 := by decide +kernel
theorem tape_loop {K : Cal} {S : Sp} {a0 b1 : Nat} (hr : refOf S a0 1 = some b1) : ∀ (f i : Nat) (M : Mm) (d5 : AV), i + f = 152 → (∀ w, w < 31 → M b1 w = twG i w) → ∃ M', Run K tb_Tape_init 83 [vR 6 0 a0, vI ((twS i).1 : Int), vL (twS i).2, vU, vI (i : Int), d5] [] S M = some (none, S, M') ∧ (∀ w, w < 31 → M' b1 w = twG 152 w) ∧ ∀ b j, b ≠ b1 → M' b j = M b j := by
  intro f
  induction f with
  | zero =>
    intro i M d5 hf hM
    have e : i = 152 := by omega
    subst e
    exact ⟨M, by rw [b_Tape_init_83, strL0, if_neg (by decide)], hM, fun _ _ _ => rfl⟩
  | succ f ih =>
    intro i M d5 hf hM
    obtain ⟨k1, k2, k3, k4, k5, k6⟩ := tw_ok ⟨i, by omega⟩
    dsimp only at k1 k2 k3 k4 k5 k6
    have w1 : w32 ((i : Int) + 1) = ((i + 1 : Nat) : Int) := w32_id (by omega) (by omega)
    have s1 : twS (i + 1) = if strC 0 i = 32 then ((twS i).1 + 1, 0) else ((twS i).1, (twS i).2 * 32 + (strC 0 i - 96)) := rfl
    have g1 : ∀ w, twG (i + 1) w = if strC 0 i = 32 then twG i w else if w = (twS i).1 then (twS i).2 * 32 + (strC 0 i - 96) else twG i w := fun _ => rfl
    rw [b_Tape_init_83, strL0, if_pos (by omega), if_pos (by omega), Int.toNat_natCast]
    by_cases c : strC 0 i = 32
    · rw [if_pos c] at s1
      have k2 := k2 c
      have w2 : w32 (((twS i).1 : Int) + 1) = (((twS i).1 + 1 : Nat) : Int) := w32_id (by omega) (by omega)
      obtain ⟨M', r1, r2, r3⟩ := ih (i + 1) M (vI (strC 0 i)) (by omega) fun w hw => by rw [g1, if_pos c]; exact hM w hw
      rw [s1] at r1
      refine ⟨M', ?_, r2, r3⟩
      rw [if_pos c, if_pos (by omega), w1, w2]
      exact r1
    · rw [if_neg c] at s1
      generalize hv : strC 0 i = v at *
      generalize hx : (twS i).2 = x at *
      generalize hy : (twS i).1 = y at *
      have e1 : w32 (v - 97) = v - 97 := w32_id (by omega) (by omega)
      have e2 : w32 (v - 97 + 1) = v - 96 := by rw [w32_id (by omega) (by omega)]; omega
      have e3 : w64 (x * 32) = x * 32 := w64_id (by omega) (by omega)
      have e4 : w64 (x * 32 + (v - 96)) = x * 32 + (v - 96) := w64_id (by omega) (by omega)
      obtain ⟨M', r1, r2, r3⟩ := ih (i + 1) (up M b1 y (x * 32 + (v - 96))) (vI v) (by omega) fun w hw => by
        rw [g1, if_neg c]
        by_cases z : w = y
        · rw [if_pos z, upE rfl z]
        · rw [if_neg z, upN (by omega)]; exact hM w hw
      rw [s1] at r1
      refine ⟨M', ?_, r2, fun b j hb => by rw [r3 b j hb, upN (by omega)]⟩
      rw [if_neg c, hr, bR_some, if_pos (by omega), w1, e1, e2, e3, e4, Int.toNat_natCast]
      exact r1
def tpB (n : Nat) : Sp := [(6, 0, [some (n + 1), some (n + 2), none, none, none, none, none, none, none, none, none, none, none]), (22, 900, []), (21, 31, [])]
theorem i_Tape {d : Nat} (hd : 1 ≤ d) (S : Sp) (M : Mm) (hz : ∀ w, M (S.length + 2) w = 0) : ∃ M', callD d m_Tape_init [vR 6 0 S.length] (S ++ [(6, 0, List.replicate 13 none)]) M = some (none, S ++ tpB S.length, M') ∧ (∀ w, w < 31 → M' (S.length + 2) w = wcode w) ∧ M' S.length 2 = 0 ∧ ∀ b j, b ≠ S.length → b ≠ S.length + 2 → M' b j = M b j := by
  generalize hN : up (up (up (up (up (up (up (up (up (up (up M S.length 2 0) S.length 3 0) S.length 4 0) S.length 5 0) S.length 6 (-1)) S.length 7 0) S.length 8 0) S.length 9 0) S.length 10 0) S.length 11 0) S.length 12 (-1) = N
  have fN : ∀ b j, b ≠ S.length → N b j = M b j := fun b j hb => by
    rw [← hN, upN (by omega), upN (by omega), upN (by omega), upN (by omega), upN (by omega), upN (by omega), upN (by omega), upN (by omega), upN (by omega), upN (by omega), upN (by omega)]
  have vN : N S.length 2 = 0 := by
    rw [← hN, upN (by omega), upN (by omega), upN (by omega), upN (by omega), upN (by omega), upN (by omega), upN (by omega), upN (by omega), upN (by omega), upN (by omega), upE rfl rfl]
  obtain ⟨M', r1, r2, r3⟩ := tape_loop (K := callD (d - 1)) (S := S ++ tpB S.length) (a0 := S.length) (b1 := S.length + 2) (rf_app S (tpB S.length) 0 1) 152 0 N vU (by omega) fun w _ => by rw [fN _ _ (by omega)]; exact hz w
  refine ⟨M', ?_, fun w hw => by rw [r2 w hw]; exact tw_end ⟨w, hw⟩, by rw [r3 _ _ (by omega)]; exact vN, fun b j h1 h2 => by rw [r3 _ _ h2, fN _ _ h1]⟩
  rw [c_Tape_init hd, b_Tape_init_0, al, b_Tape_init_13, al, b_Tape_init_21, b_Tape_init_26, b_Tape_init_31, b_Tape_init_36, b_Tape_init_41, b_Tape_init_46, b_Tape_init_51, b_Tape_init_56, b_Tape_init_61, b_Tape_init_66, b_Tape_init_71, b_Tape_init_76, hN]
  simp only [ln, setRef_len]
  exact r1

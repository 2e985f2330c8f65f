/-! THE METHODS OF THE CLASS, block by block -/
set_option maxRecDepth 100000 in
theorem b_Ca_init_0 (K : Cal) (a0 : Nat) (S : Sp) (M : Mm) : Run K tb_Ca_init 0 [vR 11 0 a0, vU] [] S M =
  bndV (K m_Trays_init [vR 7 0 S.length] (S ++ [(7, 0, List.replicate 3 none)]) M) fun S1 M1 =>
  Run K tb_Ca_init 15 [vR 11 0 a0, vU] [] (setRef S1 a0 0 S.length) M1 := (Run_EE K tb_Ca_init [15, 26, 37, 48, 59, 70, 78, 89, 100, 111, 118, 123, 128, 133, 138, 143, 148, 153, 155, 173] 500 0 _ _ S M).trans rfl
set_option maxRecDepth 100000 in
theorem b_Ca_init_15 (K : Cal) (a0 : Nat) (d1 : AV) (S : Sp) (M : Mm) : Run K tb_Ca_init 15 [vR 11 0 a0, d1] [] S M =
  bndV (K m_Tape_init [vR 6 0 S.length] (S ++ [(6, 0, List.replicate 13 none)]) M) fun S1 M1 =>
  Run K tb_Ca_init 26 [vR 11 0 a0, d1] [] (setRef S1 a0 1 S.length) M1 := (Run_EE K tb_Ca_init [15, 26, 37, 48, 59, 70, 78, 89, 100, 111, 118, 123, 128, 133, 138, 143, 148, 153, 155, 173] 500 15 _ _ S M).trans rfl
set_option maxRecDepth 100000 in
theorem b_Ca_init_26 (K : Cal) (a0 : Nat) (d1 : AV) (S : Sp) (M : Mm) : Run K tb_Ca_init 26 [vR 11 0 a0, d1] [] S M =
  bndV (K m_WorldText_init [vR 10 0 S.length] (S ++ [(10, 0, List.replicate 1 none)]) M) fun S1 M1 =>
  Run K tb_Ca_init 37 [vR 11 0 a0, d1] [] (setRef S1 a0 2 S.length) M1 := (Run_EE K tb_Ca_init [15, 26, 37, 48, 59, 70, 78, 89, 100, 111, 118, 123, 128, 133, 138, 143, 148, 153, 155, 173] 500 26 _ _ S M).trans rfl
set_option maxRecDepth 100000 in
theorem b_Ca_init_37 (K : Cal) (a0 : Nat) (d1 : AV) (S : Sp) (M : Mm) : Run K tb_Ca_init 37 [vR 11 0 a0, d1] [] S M =
  bndV (K m_VoyageText_init [vR 9 0 S.length] (S ++ [(9, 0, List.replicate 2 none)]) M) fun S1 M1 =>
  Run K tb_Ca_init 48 [vR 11 0 a0, d1] [] (setRef S1 a0 3 S.length) M1 := (Run_EE K tb_Ca_init [15, 26, 37, 48, 59, 70, 78, 89, 100, 111, 118, 123, 128, 133, 138, 143, 148, 153, 155, 173] 500 37 _ _ S M).trans rfl
set_option maxRecDepth 100000 in
theorem b_Ca_init_48 (K : Cal) (a0 : Nat) (d1 : AV) (S : Sp) (M : Mm) : Run K tb_Ca_init 48 [vR 11 0 a0, d1] [] S M =
  bndV (K m_State_init [vR 5 0 S.length] (S ++ [(5, 0, List.replicate 4 none)]) M) fun S1 M1 =>
  Run K tb_Ca_init 59 [vR 11 0 a0, d1] [] (setRef S1 a0 4 S.length) M1 := (Run_EE K tb_Ca_init [15, 26, 37, 48, 59, 70, 78, 89, 100, 111, 118, 123, 128, 133, 138, 143, 148, 153, 155, 173] 500 48 _ _ S M).trans rfl
set_option maxRecDepth 100000 in
theorem b_Ca_init_59 (K : Cal) (a0 : Nat) (d1 : AV) (S : Sp) (M : Mm) : Run K tb_Ca_init 59 [vR 11 0 a0, d1] [] S M =
  bndV (K m_State_init [vR 5 0 S.length] (S ++ [(5, 0, List.replicate 4 none)]) M) fun S1 M1 =>
  Run K tb_Ca_init 70 [vR 11 0 a0, d1] [] (setRef S1 a0 5 S.length) M1 := (Run_EE K tb_Ca_init [15, 26, 37, 48, 59, 70, 78, 89, 100, 111, 118, 123, 128, 133, 138, 143, 148, 153, 155, 173] 500 59 _ _ S M).trans rfl
set_option maxRecDepth 100000 in
theorem b_Ca_init_70 (K : Cal) (a0 : Nat) (d1 : AV) (S : Sp) (M : Mm) : Run K tb_Ca_init 70 [vR 11 0 a0, d1] [] S M =
  Run K tb_Ca_init 78 [vR 11 0 a0, d1] [] (setRef (S ++ [(23, 3, List.replicate 3 none)]) a0 6 S.length) M := (Run_EE K tb_Ca_init [15, 26, 37, 48, 59, 70, 78, 89, 100, 111, 118, 123, 128, 133, 138, 143, 148, 153, 155, 173] 500 70 _ _ S M).trans rfl
set_option maxRecDepth 100000 in
theorem b_Ca_init_78 (K : Cal) (a0 : Nat) (d1 : AV) (S : Sp) (M : Mm) : Run K tb_Ca_init 78 [vR 11 0 a0, d1] [] S M =
  bndV (K m_Outlook_init [vR 2 0 S.length] (S ++ [(2, 0, List.replicate 6 none)]) M) fun S1 M1 =>
  Run K tb_Ca_init 89 [vR 11 0 a0, d1] [] (setRef S1 a0 7 S.length) M1 := (Run_EE K tb_Ca_init [15, 26, 37, 48, 59, 70, 78, 89, 100, 111, 118, 123, 128, 133, 138, 143, 148, 153, 155, 173] 500 78 _ _ S M).trans rfl
set_option maxRecDepth 100000 in
theorem b_Ca_init_89 (K : Cal) (a0 : Nat) (d1 : AV) (S : Sp) (M : Mm) : Run K tb_Ca_init 89 [vR 11 0 a0, d1] [] S M =
  bndV (K m_Search_init [vR 4 0 S.length] (S ++ [(4, 0, List.replicate 4 none)]) M) fun S1 M1 =>
  Run K tb_Ca_init 100 [vR 11 0 a0, d1] [] (setRef S1 a0 8 S.length) M1 := (Run_EE K tb_Ca_init [15, 26, 37, 48, 59, 70, 78, 89, 100, 111, 118, 123, 128, 133, 138, 143, 148, 153, 155, 173] 500 89 _ _ S M).trans rfl
set_option maxRecDepth 100000 in
theorem b_Ca_init_100 (K : Cal) (a0 : Nat) (d1 : AV) (S : Sp) (M : Mm) : Run K tb_Ca_init 100 [vR 11 0 a0, d1] [] S M =
  bndV (K m_Life_init [vR 1 0 S.length] (S ++ [(1, 0, List.replicate 4 none)]) M) fun S1 M1 =>
  Run K tb_Ca_init 111 [vR 11 0 a0, d1] [] (setRef S1 a0 9 S.length) M1 := (Run_EE K tb_Ca_init [15, 26, 37, 48, 59, 70, 78, 89, 100, 111, 118, 123, 128, 133, 138, 143, 148, 153, 155, 173] 500 100 _ _ S M).trans rfl
set_option maxRecDepth 100000 in
theorem b_Ca_init_111 (K : Cal) (a0 : Nat) (d1 : AV) (S : Sp) (M : Mm) : Run K tb_Ca_init 111 [vR 11 0 a0, d1] [] S M =
  Run K tb_Ca_init 118 [vR 11 0 a0, d1] [] (setRef (S ++ [(20, 5, [])]) a0 10 S.length) M := (Run_EE K tb_Ca_init [15, 26, 37, 48, 59, 70, 78, 89, 100, 111, 118, 123, 128, 133, 138, 143, 148, 153, 155, 173] 500 111 _ _ S M).trans rfl
set_option maxRecDepth 100000 in
theorem b_Ca_init_118 (K : Cal) (a0 : Nat) (d1 : AV) (S : Sp) (M : Mm) : Run K tb_Ca_init 118 [vR 11 0 a0, d1] [] S M =
  Run K tb_Ca_init 123 [vR 11 0 a0, d1] [] S (up M a0 11 0) := (Run_EE K tb_Ca_init [15, 26, 37, 48, 59, 70, 78, 89, 100, 111, 118, 123, 128, 133, 138, 143, 148, 153, 155, 173] 500 118 _ _ S M).trans rfl
set_option maxRecDepth 100000 in
theorem b_Ca_init_123 (K : Cal) (a0 : Nat) (d1 : AV) (S : Sp) (M : Mm) : Run K tb_Ca_init 123 [vR 11 0 a0, d1] [] S M =
  Run K tb_Ca_init 128 [vR 11 0 a0, d1] [] S (up M a0 12 0) := (Run_EE K tb_Ca_init [15, 26, 37, 48, 59, 70, 78, 89, 100, 111, 118, 123, 128, 133, 138, 143, 148, 153, 155, 173] 500 123 _ _ S M).trans rfl
set_option maxRecDepth 100000 in
theorem b_Ca_init_128 (K : Cal) (a0 : Nat) (d1 : AV) (S : Sp) (M : Mm) : Run K tb_Ca_init 128 [vR 11 0 a0, d1] [] S M =
  Run K tb_Ca_init 133 [vR 11 0 a0, d1] [] S (up M a0 13 (-1)) := (Run_EE K tb_Ca_init [15, 26, 37, 48, 59, 70, 78, 89, 100, 111, 118, 123, 128, 133, 138, 143, 148, 153, 155, 173] 500 128 _ _ S M).trans rfl
set_option maxRecDepth 100000 in
theorem b_Ca_init_133 (K : Cal) (a0 : Nat) (d1 : AV) (S : Sp) (M : Mm) : Run K tb_Ca_init 133 [vR 11 0 a0, d1] [] S M =
  Run K tb_Ca_init 138 [vR 11 0 a0, d1] [] S (up M a0 14 (-1)) := (Run_EE K tb_Ca_init [15, 26, 37, 48, 59, 70, 78, 89, 100, 111, 118, 123, 128, 133, 138, 143, 148, 153, 155, 173] 500 133 _ _ S M).trans rfl
set_option maxRecDepth 100000 in
theorem b_Ca_init_138 (K : Cal) (a0 : Nat) (d1 : AV) (S : Sp) (M : Mm) : Run K tb_Ca_init 138 [vR 11 0 a0, d1] [] S M =
  Run K tb_Ca_init 143 [vR 11 0 a0, d1] [] S (up M a0 15 0) := (Run_EE K tb_Ca_init [15, 26, 37, 48, 59, 70, 78, 89, 100, 111, 118, 123, 128, 133, 138, 143, 148, 153, 155, 173] 500 138 _ _ S M).trans rfl
set_option maxRecDepth 100000 in
theorem b_Ca_init_143 (K : Cal) (a0 : Nat) (d1 : AV) (S : Sp) (M : Mm) : Run K tb_Ca_init 143 [vR 11 0 a0, d1] [] S M =
  Run K tb_Ca_init 148 [vR 11 0 a0, d1] [] S (up M a0 16 0) := (Run_EE K tb_Ca_init [15, 26, 37, 48, 59, 70, 78, 89, 100, 111, 118, 123, 128, 133, 138, 143, 148, 153, 155, 173] 500 143 _ _ S M).trans rfl
set_option maxRecDepth 100000 in
theorem b_Ca_init_148 (K : Cal) (a0 : Nat) (d1 : AV) (S : Sp) (M : Mm) : Run K tb_Ca_init 148 [vR 11 0 a0, d1] [] S M =
  Run K tb_Ca_init 153 [vR 11 0 a0, d1] [] S (up M a0 17 1) := (Run_EE K tb_Ca_init [15, 26, 37, 48, 59, 70, 78, 89, 100, 111, 118, 123, 128, 133, 138, 143, 148, 153, 155, 173] 500 148 _ _ S M).trans rfl
set_option maxRecDepth 100000 in
theorem b_Ca_init_153 (K : Cal) (a0 : Nat) (d1 : AV) (S : Sp) (M : Mm) : Run K tb_Ca_init 153 [vR 11 0 a0, d1] [] S M =
  Run K tb_Ca_init 155 [vR 11 0 a0, vI 0] [] S M := (Run_EE K tb_Ca_init [15, 26, 37, 48, 59, 70, 78, 89, 100, 111, 118, 123, 128, 133, 138, 143, 148, 153, 155, 173] 500 153 _ _ S M).trans rfl
set_option maxRecDepth 100000 in
theorem b_Ca_init_155 (K : Cal) (a0 : Nat) (x1 : Int) (S : Sp) (M : Mm) : Run K tb_Ca_init 155 [vR 11 0 a0, vI x1] [] S M =
  if x1 < 3 then
    bR (refOf S a0 6) fun b1 =>
    bndV (K m_State_init [vR 5 0 S.length] (S ++ [(5, 0, List.replicate 4 none)]) M) fun S2 M2 =>
      if 0 ≤ x1 ∧ x1 < 3 then
        Run K tb_Ca_init 173 [vR 11 0 a0, vI x1] [] (setRef S2 b1 x1.toNat S.length) M2
      else none
  else
    some (none, S, M) := (Run_EE K tb_Ca_init [15, 26, 37, 48, 59, 70, 78, 89, 100, 111, 118, 123, 128, 133, 138, 143, 148, 153, 155, 173] 500 155 _ _ S M).trans rfl
set_option maxRecDepth 100000 in
theorem b_Ca_init_173 (K : Cal) (a0 : Nat) (x1 : Int) (S : Sp) (M : Mm) : Run K tb_Ca_init 173 [vR 11 0 a0, vI x1] [] S M =
  Run K tb_Ca_init 155 [vR 11 0 a0, vI (w32 (x1 + 1))] [] S M := (Run_EE K tb_Ca_init [15, 26, 37, 48, 59, 70, 78, 89, 100, 111, 118, 123, 128, 133, 138, 143, 148, 153, 155, 173] 500 173 _ _ S M).trans rfl
set_option maxRecDepth 100000 in
theorem b_Trays_init_0 (K : Cal) (a0 : Nat) (S : Sp) (M : Mm) : Run K tb_Trays_init 0 [vR 7 0 a0] [] S M =
  Run K tb_Trays_init 15 [vR 7 0 a0] [] (setRef (S ++ ((25, 4, [some (S.length + 1 + 0), some (S.length + 1 + 1), some (S.length + 1 + 2), some (S.length + 1 + 3)]) :: List.replicate 4 (21, 60, []))) a0 0 S.length) M := (Run_EE K tb_Trays_init [15, 22, 29] 500 0 _ _ S M).trans rfl
set_option maxRecDepth 100000 in
theorem b_Trays_init_15 (K : Cal) (a0 : Nat) (S : Sp) (M : Mm) : Run K tb_Trays_init 15 [vR 7 0 a0] [] S M =
  Run K tb_Trays_init 22 [vR 7 0 a0] [] (setRef (S ++ [(20, 4, [])]) a0 1 S.length) M := (Run_EE K tb_Trays_init [15, 22, 29] 500 15 _ _ S M).trans rfl
set_option maxRecDepth 100000 in
theorem b_Trays_init_22 (K : Cal) (a0 : Nat) (S : Sp) (M : Mm) : Run K tb_Trays_init 22 [vR 7 0 a0] [] S M =
  Run K tb_Trays_init 29 [vR 7 0 a0] [] (setRef (S ++ [(20, 4, [])]) a0 2 S.length) M := (Run_EE K tb_Trays_init [15, 22, 29] 500 22 _ _ S M).trans rfl
set_option maxRecDepth 100000 in
theorem b_Trays_init_29 (K : Cal) (a0 : Nat) (S : Sp) (M : Mm) : Run K tb_Trays_init 29 [vR 7 0 a0] [] S M =
  bR (refOf S a0 2) fun b1 =>
  bndV (K m_Arrays_fill0 [vR 20 4 b1, vI (-1)] S M) fun S2 M2 =>
    some (none, S2, M2) := (Run_EE K tb_Trays_init [15, 22, 29] 500 29 _ _ S M).trans rfl
set_option maxRecDepth 100000 in
theorem b_Arrays_fill0_0 (K : Cal) (a0 : Nat) (n0 : Int) (x1 : Int) (S : Sp) (M : Mm) : Run K tb_Arrays_fill0 0 [vR 20 n0 a0, vI x1, vU, vU] [] S M =
  Run K tb_Arrays_fill0 5 [vR 20 n0 a0, vI x1, vI 0, vI n0] [] S M := (Run_EE K tb_Arrays_fill0 [5] 500 0 _ _ S M).trans rfl
set_option maxRecDepth 100000 in
theorem b_Arrays_fill0_5 (K : Cal) (a0 : Nat) (n0 : Int) (x1 : Int) (x2 : Int) (x3 : Int) (S : Sp) (M : Mm) : Run K tb_Arrays_fill0 5 [vR 20 n0 a0, vI x1, vI x2, vI x3] [] S M =
  if x2 < x3 then
    if 0 ≤ x2 ∧ x2 < n0 then
      Run K tb_Arrays_fill0 5 [vR 20 n0 a0, vI x1, vI (w32 (x2 + 1)), vI x3] [] S (up M a0 x2.toNat x1)
    else none
  else
    some (none, S, M) := (Run_EE K tb_Arrays_fill0 [5] 500 5 _ _ S M).trans rfl
set_option maxRecDepth 100000 in
theorem b_Tape_init_0 (K : Cal) (a0 : Nat) (S : Sp) (M : Mm) : Run K tb_Tape_init 0 [vR 6 0 a0, vU, vU, vU, vU, vU] [] S M =
  Run K tb_Tape_init 13 [vR 6 0 a0, vU, vU, vU, vU, vU] [] (setRef (S ++ [(22, 900, [])]) a0 0 S.length) M := (Run_EE K tb_Tape_init [13, 21, 26, 31, 36, 41, 46, 51, 56, 61, 66, 71, 76, 83] 500 0 _ _ S M).trans rfl
set_option maxRecDepth 100000 in
theorem b_Tape_init_13 (K : Cal) (a0 : Nat) (d1 : AV) (d2 : AV) (d3 : AV) (d4 : AV) (d5 : AV) (S : Sp) (M : Mm) : Run K tb_Tape_init 13 [vR 6 0 a0, d1, d2, d3, d4, d5] [] S M =
  Run K tb_Tape_init 21 [vR 6 0 a0, d1, d2, d3, d4, d5] [] (setRef (S ++ [(21, 31, [])]) a0 1 S.length) M := (Run_EE K tb_Tape_init [13, 21, 26, 31, 36, 41, 46, 51, 56, 61, 66, 71, 76, 83] 500 13 _ _ S M).trans rfl
set_option maxRecDepth 100000 in
theorem b_Tape_init_21 (K : Cal) (a0 : Nat) (d1 : AV) (d2 : AV) (d3 : AV) (d4 : AV) (d5 : AV) (S : Sp) (M : Mm) : Run K tb_Tape_init 21 [vR 6 0 a0, d1, d2, d3, d4, d5] [] S M =
  Run K tb_Tape_init 26 [vR 6 0 a0, d1, d2, d3, d4, d5] [] S (up M a0 2 0) := (Run_EE K tb_Tape_init [13, 21, 26, 31, 36, 41, 46, 51, 56, 61, 66, 71, 76, 83] 500 21 _ _ S M).trans rfl
set_option maxRecDepth 100000 in
theorem b_Tape_init_26 (K : Cal) (a0 : Nat) (d1 : AV) (d2 : AV) (d3 : AV) (d4 : AV) (d5 : AV) (S : Sp) (M : Mm) : Run K tb_Tape_init 26 [vR 6 0 a0, d1, d2, d3, d4, d5] [] S M =
  Run K tb_Tape_init 31 [vR 6 0 a0, d1, d2, d3, d4, d5] [] S (up M a0 3 0) := (Run_EE K tb_Tape_init [13, 21, 26, 31, 36, 41, 46, 51, 56, 61, 66, 71, 76, 83] 500 26 _ _ S M).trans rfl
set_option maxRecDepth 100000 in
theorem b_Tape_init_31 (K : Cal) (a0 : Nat) (d1 : AV) (d2 : AV) (d3 : AV) (d4 : AV) (d5 : AV) (S : Sp) (M : Mm) : Run K tb_Tape_init 31 [vR 6 0 a0, d1, d2, d3, d4, d5] [] S M =
  Run K tb_Tape_init 36 [vR 6 0 a0, d1, d2, d3, d4, d5] [] S (up M a0 4 0) := (Run_EE K tb_Tape_init [13, 21, 26, 31, 36, 41, 46, 51, 56, 61, 66, 71, 76, 83] 500 31 _ _ S M).trans rfl
set_option maxRecDepth 100000 in
theorem b_Tape_init_36 (K : Cal) (a0 : Nat) (d1 : AV) (d2 : AV) (d3 : AV) (d4 : AV) (d5 : AV) (S : Sp) (M : Mm) : Run K tb_Tape_init 36 [vR 6 0 a0, d1, d2, d3, d4, d5] [] S M =
  Run K tb_Tape_init 41 [vR 6 0 a0, d1, d2, d3, d4, d5] [] S (up M a0 5 0) := (Run_EE K tb_Tape_init [13, 21, 26, 31, 36, 41, 46, 51, 56, 61, 66, 71, 76, 83] 500 36 _ _ S M).trans rfl
set_option maxRecDepth 100000 in
theorem b_Tape_init_41 (K : Cal) (a0 : Nat) (d1 : AV) (d2 : AV) (d3 : AV) (d4 : AV) (d5 : AV) (S : Sp) (M : Mm) : Run K tb_Tape_init 41 [vR 6 0 a0, d1, d2, d3, d4, d5] [] S M =
  Run K tb_Tape_init 46 [vR 6 0 a0, d1, d2, d3, d4, d5] [] S (up M a0 6 (-1)) := (Run_EE K tb_Tape_init [13, 21, 26, 31, 36, 41, 46, 51, 56, 61, 66, 71, 76, 83] 500 41 _ _ S M).trans rfl
set_option maxRecDepth 100000 in
theorem b_Tape_init_46 (K : Cal) (a0 : Nat) (d1 : AV) (d2 : AV) (d3 : AV) (d4 : AV) (d5 : AV) (S : Sp) (M : Mm) : Run K tb_Tape_init 46 [vR 6 0 a0, d1, d2, d3, d4, d5] [] S M =
  Run K tb_Tape_init 51 [vR 6 0 a0, d1, d2, d3, d4, d5] [] S (up M a0 7 0) := (Run_EE K tb_Tape_init [13, 21, 26, 31, 36, 41, 46, 51, 56, 61, 66, 71, 76, 83] 500 46 _ _ S M).trans rfl
set_option maxRecDepth 100000 in
theorem b_Tape_init_51 (K : Cal) (a0 : Nat) (d1 : AV) (d2 : AV) (d3 : AV) (d4 : AV) (d5 : AV) (S : Sp) (M : Mm) : Run K tb_Tape_init 51 [vR 6 0 a0, d1, d2, d3, d4, d5] [] S M =
  Run K tb_Tape_init 56 [vR 6 0 a0, d1, d2, d3, d4, d5] [] S (up M a0 8 0) := (Run_EE K tb_Tape_init [13, 21, 26, 31, 36, 41, 46, 51, 56, 61, 66, 71, 76, 83] 500 51 _ _ S M).trans rfl
set_option maxRecDepth 100000 in
theorem b_Tape_init_56 (K : Cal) (a0 : Nat) (d1 : AV) (d2 : AV) (d3 : AV) (d4 : AV) (d5 : AV) (S : Sp) (M : Mm) : Run K tb_Tape_init 56 [vR 6 0 a0, d1, d2, d3, d4, d5] [] S M =
  Run K tb_Tape_init 61 [vR 6 0 a0, d1, d2, d3, d4, d5] [] S (up M a0 9 0) := (Run_EE K tb_Tape_init [13, 21, 26, 31, 36, 41, 46, 51, 56, 61, 66, 71, 76, 83] 500 56 _ _ S M).trans rfl
set_option maxRecDepth 100000 in
theorem b_Tape_init_61 (K : Cal) (a0 : Nat) (d1 : AV) (d2 : AV) (d3 : AV) (d4 : AV) (d5 : AV) (S : Sp) (M : Mm) : Run K tb_Tape_init 61 [vR 6 0 a0, d1, d2, d3, d4, d5] [] S M =
  Run K tb_Tape_init 66 [vR 6 0 a0, d1, d2, d3, d4, d5] [] S (up M a0 10 0) := (Run_EE K tb_Tape_init [13, 21, 26, 31, 36, 41, 46, 51, 56, 61, 66, 71, 76, 83] 500 61 _ _ S M).trans rfl
set_option maxRecDepth 100000 in
theorem b_Tape_init_66 (K : Cal) (a0 : Nat) (d1 : AV) (d2 : AV) (d3 : AV) (d4 : AV) (d5 : AV) (S : Sp) (M : Mm) : Run K tb_Tape_init 66 [vR 6 0 a0, d1, d2, d3, d4, d5] [] S M =
  Run K tb_Tape_init 71 [vR 6 0 a0, d1, d2, d3, d4, d5] [] S (up M a0 11 0) := (Run_EE K tb_Tape_init [13, 21, 26, 31, 36, 41, 46, 51, 56, 61, 66, 71, 76, 83] 500 66 _ _ S M).trans rfl
set_option maxRecDepth 100000 in
theorem b_Tape_init_71 (K : Cal) (a0 : Nat) (d1 : AV) (d2 : AV) (d3 : AV) (d4 : AV) (d5 : AV) (S : Sp) (M : Mm) : Run K tb_Tape_init 71 [vR 6 0 a0, d1, d2, d3, d4, d5] [] S M =
  Run K tb_Tape_init 76 [vR 6 0 a0, d1, d2, d3, d4, d5] [] S (up M a0 12 (-1)) := (Run_EE K tb_Tape_init [13, 21, 26, 31, 36, 41, 46, 51, 56, 61, 66, 71, 76, 83] 500 71 _ _ S M).trans rfl
set_option maxRecDepth 100000 in
theorem b_Tape_init_76 (K : Cal) (a0 : Nat) (d1 : AV) (d2 : AV) (d3 : AV) (d4 : AV) (d5 : AV) (S : Sp) (M : Mm) : Run K tb_Tape_init 76 [vR 6 0 a0, d1, d2, d3, d4, d5] [] S M =
  Run K tb_Tape_init 83 [vR 6 0 a0, vI 0, vL 0, vU, vI 0, d5] [] S M := (Run_EE K tb_Tape_init [13, 21, 26, 31, 36, 41, 46, 51, 56, 61, 66, 71, 76, 83] 500 76 _ _ S M).trans rfl
set_option maxRecDepth 100000 in
theorem b_Tape_init_83 (K : Cal) (a0 : Nat) (x1 : Int) (x2 : Int) (d3 : AV) (x4 : Int) (d5 : AV) (S : Sp) (M : Mm) : Run K tb_Tape_init 83 [vR 6 0 a0, vI x1, vL x2, d3, vI x4, d5] [] S M =
  if x4 < strL 0 then
    if 0 ≤ x4 ∧ x4 < strL 0 then
      if strC 0 x4.toNat = 32 then
        if x1 < 30 then
          Run K tb_Tape_init 83 [vR 6 0 a0, vI (w32 (x1 + 1)), vL 0, vU, vI (w32 (x4 + 1)), vI (strC 0 x4.toNat)] [] S M
        else
          Run K tb_Tape_init 83 [vR 6 0 a0, vI x1, vL x2, d3, vI (w32 (x4 + 1)), vI (strC 0 x4.toNat)] [] S M
      else
        bR (refOf S a0 1) fun b1 =>
        if 0 ≤ x1 ∧ x1 < 31 then
            Run K tb_Tape_init 83 [vR 6 0 a0, vI x1, vL (w64 ((w64 (x2 * 32)) + (w32 ((w32 ((strC 0 x4.toNat) - 97)) + 1)))), vU, vI (w32 (x4 + 1)), vI (strC 0 x4.toNat)] [] S (up M b1 x1.toNat (w64 ((w64 (x2 * 32)) + (w32 ((w32 ((strC 0 x4.toNat) - 97)) + 1)))))
          else none
    else none
  else
    some (none, S, M) := (Run_EE K tb_Tape_init [13, 21, 26, 31, 36, 41, 46, 51, 56, 61, 66, 71, 76, 83] 500 83 _ _ S M).trans rfl
set_option maxRecDepth 100000 in
theorem b_WorldText_init_0 (K : Cal) (a0 : Nat) (S : Sp) (M : Mm) : Run K tb_WorldText_init 0 [vR 10 0 a0] [] S M =
  Run K tb_WorldText_init 9 [vR 10 0 a0] [] S (up M a0 0 0) := (Run_EE K tb_WorldText_init [9] 500 0 _ _ S M).trans rfl
set_option maxRecDepth 100000 in
theorem b_WorldText_init_9 (K : Cal) (a0 : Nat) (S : Sp) (M : Mm) : Run K tb_WorldText_init 9 [vR 10 0 a0] [] S M =
  some (none, S, M) := (Run_EE K tb_WorldText_init [9] 500 9 _ _ S M).trans rfl
set_option maxRecDepth 100000 in
theorem b_VoyageText_init_0 (K : Cal) (a0 : Nat) (S : Sp) (M : Mm) : Run K tb_VoyageText_init 0 [vR 9 0 a0] [] S M =
  Run K tb_VoyageText_init 11 [vR 9 0 a0] [] (setRef (S ++ [(20, 3, [])]) a0 0 S.length) M := (Run_EE K tb_VoyageText_init [11, 16] 500 0 _ _ S M).trans rfl
set_option maxRecDepth 100000 in
theorem b_VoyageText_init_11 (K : Cal) (a0 : Nat) (S : Sp) (M : Mm) : Run K tb_VoyageText_init 11 [vR 9 0 a0] [] S M =
  Run K tb_VoyageText_init 16 [vR 9 0 a0] [] S (up M a0 1 0) := (Run_EE K tb_VoyageText_init [11, 16] 500 11 _ _ S M).trans rfl
set_option maxRecDepth 100000 in
theorem b_VoyageText_init_16 (K : Cal) (a0 : Nat) (S : Sp) (M : Mm) : Run K tb_VoyageText_init 16 [vR 9 0 a0] [] S M =
  some (none, S, M) := (Run_EE K tb_VoyageText_init [11, 16] 500 16 _ _ S M).trans rfl
set_option maxRecDepth 100000 in
theorem b_State_init_0 (K : Cal) (a0 : Nat) (S : Sp) (M : Mm) : Run K tb_State_init 0 [vR 5 0 a0, vU] [] S M =
  bndV (K m_Chart_init [vR 0 0 S.length] (S ++ [(0, 0, List.replicate 15 none)]) M) fun S1 M1 =>
  Run K tb_State_init 15 [vR 5 0 a0, vU] [] (setRef S1 a0 0 S.length) M1 := (Run_EE K tb_State_init [15, 23, 34, 39, 41, 59] 500 0 _ _ S M).trans rfl
set_option maxRecDepth 100000 in
theorem b_State_init_15 (K : Cal) (a0 : Nat) (d1 : AV) (S : Sp) (M : Mm) : Run K tb_State_init 15 [vR 5 0 a0, d1] [] S M =
  Run K tb_State_init 23 [vR 5 0 a0, d1] [] (setRef (S ++ [(24, 4, List.replicate 4 none)]) a0 1 S.length) M := (Run_EE K tb_State_init [15, 23, 34, 39, 41, 59] 500 15 _ _ S M).trans rfl
set_option maxRecDepth 100000 in
theorem b_State_init_23 (K : Cal) (a0 : Nat) (d1 : AV) (S : Sp) (M : Mm) : Run K tb_State_init 23 [vR 5 0 a0, d1] [] S M =
  bndV (K m_Plan_init [vR 3 0 S.length] (S ++ [(3, 0, List.replicate 8 none)]) M) fun S1 M1 =>
  Run K tb_State_init 34 [vR 5 0 a0, d1] [] (setRef S1 a0 2 S.length) M1 := (Run_EE K tb_State_init [15, 23, 34, 39, 41, 59] 500 23 _ _ S M).trans rfl
set_option maxRecDepth 100000 in
theorem b_State_init_34 (K : Cal) (a0 : Nat) (d1 : AV) (S : Sp) (M : Mm) : Run K tb_State_init 34 [vR 5 0 a0, d1] [] S M =
  Run K tb_State_init 39 [vR 5 0 a0, d1] [] S (up M a0 3 0) := (Run_EE K tb_State_init [15, 23, 34, 39, 41, 59] 500 34 _ _ S M).trans rfl
set_option maxRecDepth 100000 in
theorem b_State_init_39 (K : Cal) (a0 : Nat) (d1 : AV) (S : Sp) (M : Mm) : Run K tb_State_init 39 [vR 5 0 a0, d1] [] S M =
  Run K tb_State_init 41 [vR 5 0 a0, vI 0] [] S M := (Run_EE K tb_State_init [15, 23, 34, 39, 41, 59] 500 39 _ _ S M).trans rfl
set_option maxRecDepth 100000 in
theorem b_State_init_41 (K : Cal) (a0 : Nat) (x1 : Int) (S : Sp) (M : Mm) : Run K tb_State_init 41 [vR 5 0 a0, vI x1] [] S M =
  if x1 < 4 then
    bR (refOf S a0 1) fun b1 =>
    bndV (K m_Vessel_init [vR 8 0 S.length] (S ++ [(8, 0, List.replicate 8 none)]) M) fun S2 M2 =>
      if 0 ≤ x1 ∧ x1 < 4 then
        Run K tb_State_init 59 [vR 5 0 a0, vI x1] [] (setRef S2 b1 x1.toNat S.length) M2
      else none
  else
    some (none, S, M) := (Run_EE K tb_State_init [15, 23, 34, 39, 41, 59] 500 41 _ _ S M).trans rfl
set_option maxRecDepth 100000 in
theorem b_State_init_59 (K : Cal) (a0 : Nat) (x1 : Int) (S : Sp) (M : Mm) : Run K tb_State_init 59 [vR 5 0 a0, vI x1] [] S M =
  Run K tb_State_init 41 [vR 5 0 a0, vI (w32 (x1 + 1))] [] S M := (Run_EE K tb_State_init [15, 23, 34, 39, 41, 59] 500 59 _ _ S M).trans rfl
set_option maxRecDepth 100000 in
theorem b_Chart_init_0 (K : Cal) (a0 : Nat) (S : Sp) (M : Mm) : Run K tb_Chart_init 0 [vR 0 0 a0] [] S M =
  Run K tb_Chart_init 11 [vR 0 0 a0] [] (setRef (S ++ [(20, 4, [])]) a0 0 S.length) M := (Run_EE K tb_Chart_init [11, 22, 30, 38, 46, 54, 62, 70, 78, 86, 98, 110, 115, 123, 131] 500 0 _ _ S M).trans rfl
set_option maxRecDepth 100000 in
theorem b_Chart_init_11 (K : Cal) (a0 : Nat) (S : Sp) (M : Mm) : Run K tb_Chart_init 11 [vR 0 0 a0] [] S M =
  Run K tb_Chart_init 22 [vR 0 0 a0] [] (setRef (S ++ ((26, 4, [some (S.length + 1 + 0), some (S.length + 1 + 1), some (S.length + 1 + 2), some (S.length + 1 + 3)]) :: List.replicate 4 (21, 8, []))) a0 1 S.length) M := (Run_EE K tb_Chart_init [11, 22, 30, 38, 46, 54, 62, 70, 78, 86, 98, 110, 115, 123, 131] 500 11 _ _ S M).trans rfl
set_option maxRecDepth 100000 in
theorem b_Chart_init_22 (K : Cal) (a0 : Nat) (S : Sp) (M : Mm) : Run K tb_Chart_init 22 [vR 0 0 a0] [] S M =
  Run K tb_Chart_init 30 [vR 0 0 a0] [] (setRef (S ++ [(20, 6, [])]) a0 2 S.length) M := (Run_EE K tb_Chart_init [11, 22, 30, 38, 46, 54, 62, 70, 78, 86, 98, 110, 115, 123, 131] 500 22 _ _ S M).trans rfl
set_option maxRecDepth 100000 in
theorem b_Chart_init_30 (K : Cal) (a0 : Nat) (S : Sp) (M : Mm) : Run K tb_Chart_init 30 [vR 0 0 a0] [] S M =
  Run K tb_Chart_init 38 [vR 0 0 a0] [] (setRef (S ++ [(20, 6, [])]) a0 3 S.length) M := (Run_EE K tb_Chart_init [11, 22, 30, 38, 46, 54, 62, 70, 78, 86, 98, 110, 115, 123, 131] 500 30 _ _ S M).trans rfl
set_option maxRecDepth 100000 in
theorem b_Chart_init_38 (K : Cal) (a0 : Nat) (S : Sp) (M : Mm) : Run K tb_Chart_init 38 [vR 0 0 a0] [] S M =
  Run K tb_Chart_init 46 [vR 0 0 a0] [] (setRef (S ++ [(20, 6, [])]) a0 4 S.length) M := (Run_EE K tb_Chart_init [11, 22, 30, 38, 46, 54, 62, 70, 78, 86, 98, 110, 115, 123, 131] 500 38 _ _ S M).trans rfl
set_option maxRecDepth 100000 in
theorem b_Chart_init_46 (K : Cal) (a0 : Nat) (S : Sp) (M : Mm) : Run K tb_Chart_init 46 [vR 0 0 a0] [] S M =
  Run K tb_Chart_init 54 [vR 0 0 a0] [] (setRef (S ++ [(20, 6, [])]) a0 5 S.length) M := (Run_EE K tb_Chart_init [11, 22, 30, 38, 46, 54, 62, 70, 78, 86, 98, 110, 115, 123, 131] 500 46 _ _ S M).trans rfl
set_option maxRecDepth 100000 in
theorem b_Chart_init_54 (K : Cal) (a0 : Nat) (S : Sp) (M : Mm) : Run K tb_Chart_init 54 [vR 0 0 a0] [] S M =
  Run K tb_Chart_init 62 [vR 0 0 a0] [] (setRef (S ++ [(20, 8, [])]) a0 6 S.length) M := (Run_EE K tb_Chart_init [11, 22, 30, 38, 46, 54, 62, 70, 78, 86, 98, 110, 115, 123, 131] 500 54 _ _ S M).trans rfl
set_option maxRecDepth 100000 in
theorem b_Chart_init_62 (K : Cal) (a0 : Nat) (S : Sp) (M : Mm) : Run K tb_Chart_init 62 [vR 0 0 a0] [] S M =
  Run K tb_Chart_init 70 [vR 0 0 a0] [] (setRef (S ++ [(20, 8, [])]) a0 7 S.length) M := (Run_EE K tb_Chart_init [11, 22, 30, 38, 46, 54, 62, 70, 78, 86, 98, 110, 115, 123, 131] 500 62 _ _ S M).trans rfl
set_option maxRecDepth 100000 in
theorem b_Chart_init_70 (K : Cal) (a0 : Nat) (S : Sp) (M : Mm) : Run K tb_Chart_init 70 [vR 0 0 a0] [] S M =
  Run K tb_Chart_init 78 [vR 0 0 a0] [] (setRef (S ++ [(20, 8, [])]) a0 8 S.length) M := (Run_EE K tb_Chart_init [11, 22, 30, 38, 46, 54, 62, 70, 78, 86, 98, 110, 115, 123, 131] 500 70 _ _ S M).trans rfl
set_option maxRecDepth 100000 in
theorem b_Chart_init_78 (K : Cal) (a0 : Nat) (S : Sp) (M : Mm) : Run K tb_Chart_init 78 [vR 0 0 a0] [] S M =
  Run K tb_Chart_init 86 [vR 0 0 a0] [] (setRef (S ++ [(20, 6, [])]) a0 9 S.length) M := (Run_EE K tb_Chart_init [11, 22, 30, 38, 46, 54, 62, 70, 78, 86, 98, 110, 115, 123, 131] 500 78 _ _ S M).trans rfl
set_option maxRecDepth 100000 in
theorem b_Chart_init_86 (K : Cal) (a0 : Nat) (S : Sp) (M : Mm) : Run K tb_Chart_init 86 [vR 0 0 a0] [] S M =
  Run K tb_Chart_init 98 [vR 0 0 a0] [] (setRef (S ++ ((27, 6, [some (S.length + 1 + 0), some (S.length + 1 + 1), some (S.length + 1 + 2), some (S.length + 1 + 3), some (S.length + 1 + 4), some (S.length + 1 + 5)]) :: List.replicate 6 (20, 8, []))) a0 10 S.length) M := (Run_EE K tb_Chart_init [11, 22, 30, 38, 46, 54, 62, 70, 78, 86, 98, 110, 115, 123, 131] 500 86 _ _ S M).trans rfl
set_option maxRecDepth 100000 in
theorem b_Chart_init_98 (K : Cal) (a0 : Nat) (S : Sp) (M : Mm) : Run K tb_Chart_init 98 [vR 0 0 a0] [] S M =
  Run K tb_Chart_init 110 [vR 0 0 a0] [] (setRef (S ++ ((28, 6, [some (S.length + 1 + 0), some (S.length + 1 + 1), some (S.length + 1 + 2), some (S.length + 1 + 3), some (S.length + 1 + 4), some (S.length + 1 + 5)]) :: List.replicate 6 (20, 6, []))) a0 11 S.length) M := (Run_EE K tb_Chart_init [11, 22, 30, 38, 46, 54, 62, 70, 78, 86, 98, 110, 115, 123, 131] 500 98 _ _ S M).trans rfl
set_option maxRecDepth 100000 in
theorem b_Chart_init_110 (K : Cal) (a0 : Nat) (S : Sp) (M : Mm) : Run K tb_Chart_init 110 [vR 0 0 a0] [] S M =
  Run K tb_Chart_init 115 [vR 0 0 a0] [] S (up M a0 12 0) := (Run_EE K tb_Chart_init [11, 22, 30, 38, 46, 54, 62, 70, 78, 86, 98, 110, 115, 123, 131] 500 110 _ _ S M).trans rfl
set_option maxRecDepth 100000 in
theorem b_Chart_init_115 (K : Cal) (a0 : Nat) (S : Sp) (M : Mm) : Run K tb_Chart_init 115 [vR 0 0 a0] [] S M =
  Run K tb_Chart_init 123 [vR 0 0 a0] [] (setRef (S ++ [(20, 6, [])]) a0 13 S.length) M := (Run_EE K tb_Chart_init [11, 22, 30, 38, 46, 54, 62, 70, 78, 86, 98, 110, 115, 123, 131] 500 115 _ _ S M).trans rfl
set_option maxRecDepth 100000 in
theorem b_Chart_init_123 (K : Cal) (a0 : Nat) (S : Sp) (M : Mm) : Run K tb_Chart_init 123 [vR 0 0 a0] [] S M =
  Run K tb_Chart_init 131 [vR 0 0 a0] [] (setRef (S ++ [(20, 6, [])]) a0 14 S.length) M := (Run_EE K tb_Chart_init [11, 22, 30, 38, 46, 54, 62, 70, 78, 86, 98, 110, 115, 123, 131] 500 123 _ _ S M).trans rfl
set_option maxRecDepth 100000 in
theorem b_Chart_init_131 (K : Cal) (a0 : Nat) (S : Sp) (M : Mm) : Run K tb_Chart_init 131 [vR 0 0 a0] [] S M =
  some (none, S, M) := (Run_EE K tb_Chart_init [11, 22, 30, 38, 46, 54, 62, 70, 78, 86, 98, 110, 115, 123, 131] 500 131 _ _ S M).trans rfl
set_option maxRecDepth 100000 in
theorem b_Plan_init_0 (K : Cal) (a0 : Nat) (S : Sp) (M : Mm) : Run K tb_Plan_init 0 [vR 3 0 a0] [] S M =
  Run K tb_Plan_init 12 [vR 3 0 a0] [] (setRef (S ++ [(20, 60, [])]) a0 0 S.length) M := (Run_EE K tb_Plan_init [12, 20, 28, 36, 44, 49, 54, 59] 500 0 _ _ S M).trans rfl
set_option maxRecDepth 100000 in
theorem b_Plan_init_12 (K : Cal) (a0 : Nat) (S : Sp) (M : Mm) : Run K tb_Plan_init 12 [vR 3 0 a0] [] S M =
  Run K tb_Plan_init 20 [vR 3 0 a0] [] (setRef (S ++ [(20, 60, [])]) a0 1 S.length) M := (Run_EE K tb_Plan_init [12, 20, 28, 36, 44, 49, 54, 59] 500 12 _ _ S M).trans rfl
set_option maxRecDepth 100000 in
theorem b_Plan_init_20 (K : Cal) (a0 : Nat) (S : Sp) (M : Mm) : Run K tb_Plan_init 20 [vR 3 0 a0] [] S M =
  Run K tb_Plan_init 28 [vR 3 0 a0] [] (setRef (S ++ [(20, 60, [])]) a0 2 S.length) M := (Run_EE K tb_Plan_init [12, 20, 28, 36, 44, 49, 54, 59] 500 20 _ _ S M).trans rfl
set_option maxRecDepth 100000 in
theorem b_Plan_init_28 (K : Cal) (a0 : Nat) (S : Sp) (M : Mm) : Run K tb_Plan_init 28 [vR 3 0 a0] [] S M =
  Run K tb_Plan_init 36 [vR 3 0 a0] [] (setRef (S ++ [(20, 60, [])]) a0 3 S.length) M := (Run_EE K tb_Plan_init [12, 20, 28, 36, 44, 49, 54, 59] 500 28 _ _ S M).trans rfl
set_option maxRecDepth 100000 in
theorem b_Plan_init_36 (K : Cal) (a0 : Nat) (S : Sp) (M : Mm) : Run K tb_Plan_init 36 [vR 3 0 a0] [] S M =
  Run K tb_Plan_init 44 [vR 3 0 a0] [] (setRef (S ++ [(20, 60, [])]) a0 4 S.length) M := (Run_EE K tb_Plan_init [12, 20, 28, 36, 44, 49, 54, 59] 500 36 _ _ S M).trans rfl
set_option maxRecDepth 100000 in
theorem b_Plan_init_44 (K : Cal) (a0 : Nat) (S : Sp) (M : Mm) : Run K tb_Plan_init 44 [vR 3 0 a0] [] S M =
  Run K tb_Plan_init 49 [vR 3 0 a0] [] S (up M a0 5 0) := (Run_EE K tb_Plan_init [12, 20, 28, 36, 44, 49, 54, 59] 500 44 _ _ S M).trans rfl
set_option maxRecDepth 100000 in
theorem b_Plan_init_49 (K : Cal) (a0 : Nat) (S : Sp) (M : Mm) : Run K tb_Plan_init 49 [vR 3 0 a0] [] S M =
  Run K tb_Plan_init 54 [vR 3 0 a0] [] S (up M a0 6 0) := (Run_EE K tb_Plan_init [12, 20, 28, 36, 44, 49, 54, 59] 500 49 _ _ S M).trans rfl
set_option maxRecDepth 100000 in
theorem b_Plan_init_54 (K : Cal) (a0 : Nat) (S : Sp) (M : Mm) : Run K tb_Plan_init 54 [vR 3 0 a0] [] S M =
  Run K tb_Plan_init 59 [vR 3 0 a0] [] S (up M a0 7 0) := (Run_EE K tb_Plan_init [12, 20, 28, 36, 44, 49, 54, 59] 500 54 _ _ S M).trans rfl
set_option maxRecDepth 100000 in
theorem b_Plan_init_59 (K : Cal) (a0 : Nat) (S : Sp) (M : Mm) : Run K tb_Plan_init 59 [vR 3 0 a0] [] S M =
  some (none, S, M) := (Run_EE K tb_Plan_init [12, 20, 28, 36, 44, 49, 54, 59] 500 59 _ _ S M).trans rfl
set_option maxRecDepth 100000 in
theorem b_Vessel_init_0 (K : Cal) (a0 : Nat) (S : Sp) (M : Mm) : Run K tb_Vessel_init 0 [vR 8 0 a0] [] S M =
  Run K tb_Vessel_init 9 [vR 8 0 a0] [] S (up M a0 0 (-1)) := (Run_EE K tb_Vessel_init [9, 14, 19, 24, 29, 34, 39, 47] 500 0 _ _ S M).trans rfl
set_option maxRecDepth 100000 in
theorem b_Vessel_init_9 (K : Cal) (a0 : Nat) (S : Sp) (M : Mm) : Run K tb_Vessel_init 9 [vR 8 0 a0] [] S M =
  Run K tb_Vessel_init 14 [vR 8 0 a0] [] S (up M a0 1 (-1)) := (Run_EE K tb_Vessel_init [9, 14, 19, 24, 29, 34, 39, 47] 500 9 _ _ S M).trans rfl
set_option maxRecDepth 100000 in
theorem b_Vessel_init_14 (K : Cal) (a0 : Nat) (S : Sp) (M : Mm) : Run K tb_Vessel_init 14 [vR 8 0 a0] [] S M =
  Run K tb_Vessel_init 19 [vR 8 0 a0] [] S (up M a0 2 0) := (Run_EE K tb_Vessel_init [9, 14, 19, 24, 29, 34, 39, 47] 500 14 _ _ S M).trans rfl
set_option maxRecDepth 100000 in
theorem b_Vessel_init_19 (K : Cal) (a0 : Nat) (S : Sp) (M : Mm) : Run K tb_Vessel_init 19 [vR 8 0 a0] [] S M =
  Run K tb_Vessel_init 24 [vR 8 0 a0] [] S (up M a0 3 0) := (Run_EE K tb_Vessel_init [9, 14, 19, 24, 29, 34, 39, 47] 500 19 _ _ S M).trans rfl
set_option maxRecDepth 100000 in
theorem b_Vessel_init_24 (K : Cal) (a0 : Nat) (S : Sp) (M : Mm) : Run K tb_Vessel_init 24 [vR 8 0 a0] [] S M =
  Run K tb_Vessel_init 29 [vR 8 0 a0] [] S (up M a0 4 0) := (Run_EE K tb_Vessel_init [9, 14, 19, 24, 29, 34, 39, 47] 500 24 _ _ S M).trans rfl
set_option maxRecDepth 100000 in
theorem b_Vessel_init_29 (K : Cal) (a0 : Nat) (S : Sp) (M : Mm) : Run K tb_Vessel_init 29 [vR 8 0 a0] [] S M =
  Run K tb_Vessel_init 34 [vR 8 0 a0] [] S (up M a0 5 0) := (Run_EE K tb_Vessel_init [9, 14, 19, 24, 29, 34, 39, 47] 500 29 _ _ S M).trans rfl
set_option maxRecDepth 100000 in
theorem b_Vessel_init_34 (K : Cal) (a0 : Nat) (S : Sp) (M : Mm) : Run K tb_Vessel_init 34 [vR 8 0 a0] [] S M =
  Run K tb_Vessel_init 39 [vR 8 0 a0] [] S (up M a0 6 0) := (Run_EE K tb_Vessel_init [9, 14, 19, 24, 29, 34, 39, 47] 500 34 _ _ S M).trans rfl
set_option maxRecDepth 100000 in
theorem b_Vessel_init_39 (K : Cal) (a0 : Nat) (S : Sp) (M : Mm) : Run K tb_Vessel_init 39 [vR 8 0 a0] [] S M =
  Run K tb_Vessel_init 47 [vR 8 0 a0] [] (setRef (S ++ [(20, 8, [])]) a0 7 S.length) M := (Run_EE K tb_Vessel_init [9, 14, 19, 24, 29, 34, 39, 47] 500 39 _ _ S M).trans rfl
set_option maxRecDepth 100000 in
theorem b_Vessel_init_47 (K : Cal) (a0 : Nat) (S : Sp) (M : Mm) : Run K tb_Vessel_init 47 [vR 8 0 a0] [] S M =
  some (none, S, M) := (Run_EE K tb_Vessel_init [9, 14, 19, 24, 29, 34, 39, 47] 500 47 _ _ S M).trans rfl
set_option maxRecDepth 100000 in
theorem b_Outlook_init_0 (K : Cal) (a0 : Nat) (S : Sp) (M : Mm) : Run K tb_Outlook_init 0 [vR 2 0 a0] [] S M =
  Run K tb_Outlook_init 12 [vR 2 0 a0] [] (setRef (S ++ [(20, 8, [])]) a0 0 S.length) M := (Run_EE K tb_Outlook_init [12, 17, 22, 30, 35, 40] 500 0 _ _ S M).trans rfl
set_option maxRecDepth 100000 in
theorem b_Outlook_init_12 (K : Cal) (a0 : Nat) (S : Sp) (M : Mm) : Run K tb_Outlook_init 12 [vR 2 0 a0] [] S M =
  Run K tb_Outlook_init 17 [vR 2 0 a0] [] S (up M a0 1 (-1)) := (Run_EE K tb_Outlook_init [12, 17, 22, 30, 35, 40] 500 12 _ _ S M).trans rfl
set_option maxRecDepth 100000 in
theorem b_Outlook_init_17 (K : Cal) (a0 : Nat) (S : Sp) (M : Mm) : Run K tb_Outlook_init 17 [vR 2 0 a0] [] S M =
  Run K tb_Outlook_init 22 [vR 2 0 a0] [] S (up M a0 2 0) := (Run_EE K tb_Outlook_init [12, 17, 22, 30, 35, 40] 500 17 _ _ S M).trans rfl
set_option maxRecDepth 100000 in
theorem b_Outlook_init_22 (K : Cal) (a0 : Nat) (S : Sp) (M : Mm) : Run K tb_Outlook_init 22 [vR 2 0 a0] [] S M =
  Run K tb_Outlook_init 30 [vR 2 0 a0] [] (setRef (S ++ [(20, 20, [])]) a0 3 S.length) M := (Run_EE K tb_Outlook_init [12, 17, 22, 30, 35, 40] 500 22 _ _ S M).trans rfl
set_option maxRecDepth 100000 in
theorem b_Outlook_init_30 (K : Cal) (a0 : Nat) (S : Sp) (M : Mm) : Run K tb_Outlook_init 30 [vR 2 0 a0] [] S M =
  Run K tb_Outlook_init 35 [vR 2 0 a0] [] S (up M a0 4 0) := (Run_EE K tb_Outlook_init [12, 17, 22, 30, 35, 40] 500 30 _ _ S M).trans rfl
set_option maxRecDepth 100000 in
theorem b_Outlook_init_35 (K : Cal) (a0 : Nat) (S : Sp) (M : Mm) : Run K tb_Outlook_init 35 [vR 2 0 a0] [] S M =
  Run K tb_Outlook_init 40 [vR 2 0 a0] [] S (up M a0 5 0) := (Run_EE K tb_Outlook_init [12, 17, 22, 30, 35, 40] 500 35 _ _ S M).trans rfl
set_option maxRecDepth 100000 in
theorem b_Outlook_init_40 (K : Cal) (a0 : Nat) (S : Sp) (M : Mm) : Run K tb_Outlook_init 40 [vR 2 0 a0] [] S M =
  some (none, S, M) := (Run_EE K tb_Outlook_init [12, 17, 22, 30, 35, 40] 500 40 _ _ S M).trans rfl
set_option maxRecDepth 100000 in
theorem b_Search_init_0 (K : Cal) (a0 : Nat) (S : Sp) (M : Mm) : Run K tb_Search_init 0 [vR 4 0 a0, vU] [] S M =
  Run K tb_Search_init 12 [vR 4 0 a0, vU] [] (setRef (S ++ [(24, 4, List.replicate 4 none)]) a0 0 S.length) M := (Run_EE K tb_Search_init [12, 17, 22, 27, 29, 47] 500 0 _ _ S M).trans rfl
set_option maxRecDepth 100000 in
theorem b_Search_init_12 (K : Cal) (a0 : Nat) (d1 : AV) (S : Sp) (M : Mm) : Run K tb_Search_init 12 [vR 4 0 a0, d1] [] S M =
  Run K tb_Search_init 17 [vR 4 0 a0, d1] [] S (up M a0 1 (-1)) := (Run_EE K tb_Search_init [12, 17, 22, 27, 29, 47] 500 12 _ _ S M).trans rfl
set_option maxRecDepth 100000 in
theorem b_Search_init_17 (K : Cal) (a0 : Nat) (d1 : AV) (S : Sp) (M : Mm) : Run K tb_Search_init 17 [vR 4 0 a0, d1] [] S M =
  Run K tb_Search_init 22 [vR 4 0 a0, d1] [] S (up M a0 2 (-1)) := (Run_EE K tb_Search_init [12, 17, 22, 27, 29, 47] 500 17 _ _ S M).trans rfl
set_option maxRecDepth 100000 in
theorem b_Search_init_22 (K : Cal) (a0 : Nat) (d1 : AV) (S : Sp) (M : Mm) : Run K tb_Search_init 22 [vR 4 0 a0, d1] [] S M =
  Run K tb_Search_init 27 [vR 4 0 a0, d1] [] S (up M a0 3 (-1)) := (Run_EE K tb_Search_init [12, 17, 22, 27, 29, 47] 500 22 _ _ S M).trans rfl
set_option maxRecDepth 100000 in
theorem b_Search_init_27 (K : Cal) (a0 : Nat) (d1 : AV) (S : Sp) (M : Mm) : Run K tb_Search_init 27 [vR 4 0 a0, d1] [] S M =
  Run K tb_Search_init 29 [vR 4 0 a0, vI 0] [] S M := (Run_EE K tb_Search_init [12, 17, 22, 27, 29, 47] 500 27 _ _ S M).trans rfl
set_option maxRecDepth 100000 in
theorem b_Search_init_29 (K : Cal) (a0 : Nat) (x1 : Int) (S : Sp) (M : Mm) : Run K tb_Search_init 29 [vR 4 0 a0, vI x1] [] S M =
  if 3 < x1 then
    some (none, S, M)
  else
    bR (refOf S a0 0) fun b1 =>
    bndV (K m_Vessel_init [vR 8 0 S.length] (S ++ [(8, 0, List.replicate 8 none)]) M) fun S2 M2 =>
      if 0 ≤ x1 ∧ x1 < 4 then
        Run K tb_Search_init 47 [vR 4 0 a0, vI x1] [] (setRef S2 b1 x1.toNat S.length) M2
      else none := (Run_EE K tb_Search_init [12, 17, 22, 27, 29, 47] 500 29 _ _ S M).trans rfl
set_option maxRecDepth 100000 in
theorem b_Search_init_47 (K : Cal) (a0 : Nat) (x1 : Int) (S : Sp) (M : Mm) : Run K tb_Search_init 47 [vR 4 0 a0, vI x1] [] S M =
  Run K tb_Search_init 29 [vR 4 0 a0, vI (w32 (x1 + 1))] [] S M := (Run_EE K tb_Search_init [12, 17, 22, 27, 29, 47] 500 47 _ _ S M).trans rfl
set_option maxRecDepth 100000 in
theorem b_Life_init_0 (K : Cal) (a0 : Nat) (S : Sp) (M : Mm) : Run K tb_Life_init 0 [vR 1 0 a0] [] S M =
  Run K tb_Life_init 11 [vR 1 0 a0] [] (setRef (S ++ [(20, 5, [])]) a0 0 S.length) M := (Run_EE K tb_Life_init [11, 19, 24, 29] 500 0 _ _ S M).trans rfl
set_option maxRecDepth 100000 in
theorem b_Life_init_11 (K : Cal) (a0 : Nat) (S : Sp) (M : Mm) : Run K tb_Life_init 11 [vR 1 0 a0] [] S M =
  Run K tb_Life_init 19 [vR 1 0 a0] [] (setRef (S ++ [(20, 60, [])]) a0 1 S.length) M := (Run_EE K tb_Life_init [11, 19, 24, 29] 500 11 _ _ S M).trans rfl
set_option maxRecDepth 100000 in
theorem b_Life_init_19 (K : Cal) (a0 : Nat) (S : Sp) (M : Mm) : Run K tb_Life_init 19 [vR 1 0 a0] [] S M =
  Run K tb_Life_init 24 [vR 1 0 a0] [] S (up M a0 2 0) := (Run_EE K tb_Life_init [11, 19, 24, 29] 500 19 _ _ S M).trans rfl
set_option maxRecDepth 100000 in
theorem b_Life_init_24 (K : Cal) (a0 : Nat) (S : Sp) (M : Mm) : Run K tb_Life_init 24 [vR 1 0 a0] [] S M =
  Run K tb_Life_init 29 [vR 1 0 a0] [] S (up M a0 3 0) := (Run_EE K tb_Life_init [11, 19, 24, 29] 500 24 _ _ S M).trans rfl
set_option maxRecDepth 100000 in
theorem b_Life_init_29 (K : Cal) (a0 : Nat) (S : Sp) (M : Mm) : Run K tb_Life_init 29 [vR 1 0 a0] [] S M =
  some (none, S, M) := (Run_EE K tb_Life_init [11, 19, 24, 29] 500 29 _ _ S M).trans rfl
set_option maxRecDepth 100000 in
theorem b_Ca_status_0 (K : Cal) (a0 : Nat) (S : Sp) (M : Mm) : Run K tb_Ca_status 0 [vR 11 0 a0] [] S M =
  some (some (vI (M a0 15)), S, M) := (Run_EE K tb_Ca_status [] 500 0 _ _ S M).trans rfl
set_option maxRecDepth 100000 in
theorem b_Ca_top_0 (K : Cal) (a0 : Nat) (S : Sp) (M : Mm) : Run K tb_Ca_top 0 [vR 11 0 a0] [] S M =
  some (some (vL (M a0 16)), S, M) := (Run_EE K tb_Ca_top [] 500 0 _ _ S M).trans rfl
set_option maxRecDepth 100000 in
theorem b_Ca_bottom_0 (K : Cal) (a0 : Nat) (S : Sp) (M : Mm) : Run K tb_Ca_bottom 0 [vR 11 0 a0] [] S M =
  some (some (vL (M a0 17)), S, M) := (Run_EE K tb_Ca_bottom [] 500 0 _ _ S M).trans rfl
set_option maxRecDepth 100000 in
theorem b_Ca_tray_0 (K : Cal) (a0 : Nat) (x1 : Int) (x2 : Int) (x3 : Int) (S : Sp) (M : Mm) : Run K tb_Ca_tray 0 [vR 11 0 a0, vI x1, vI x2, vI x3] [] S M =
  bndI (K m_Trays_isTray [vI x1] S M) fun r1 S1 M1 =>
  if r1 = 0 then
    bndI (K m_Ca_deny [vR 11 0 a0, vI 1] S1 M1) fun r2 S2 M2 =>
    some (some (vI (r2 % 2)), S2, M2)
  else
    bndI (K m_Ca_within [vI x2, vI 0, vI 3] S1 M1) fun r3 S3 M3 =>
    if r3 = 0 then
      bndI (K m_Ca_deny [vR 11 0 a0, vI 1] S3 M3) fun r4 S4 M4 =>
      some (some (vI (r4 % 2)), S4, M4)
    else
      bndI (K m_Ca_within [vI x3, vI 0, vI 60] S3 M3) fun r5 S5 M5 =>
      if r5 = 0 then
        bndI (K m_Ca_deny [vR 11 0 a0, vI 1] S5 M5) fun r6 S6 M6 =>
        some (some (vI (r6 % 2)), S6, M6)
      else
        bR (refOf S5 a0 0) fun b7 =>
        bndV (K m_Trays_lay [vR 7 0 b7, vI x1, vI x2, vI x3] S5 M5) fun S8 M8 =>
          bndI (K m_Ca_agree [vR 11 0 a0] S8 M8) fun r9 S9 M9 =>
          some (some (vI (r9 % 2)), S9, M9) := (Run_EE K tb_Ca_tray [] 500 0 _ _ S M).trans rfl
set_option maxRecDepth 100000 in
theorem b_Trays_isTray_0 (K : Cal) (x0 : Int) (S : Sp) (M : Mm) : Run K tb_Trays_isTray 0 [vI x0] [] S M =
  bndI (K m_Ca_within [vI x0, vI 0, vI 3] S M) fun r1 S1 M1 =>
  some (some (vI (r1 % 2)), S1, M1) := (Run_EE K tb_Trays_isTray [] 500 0 _ _ S M).trans rfl
set_option maxRecDepth 100000 in
theorem b_Ca_within_0 (K : Cal) (x0 : Int) (x1 : Int) (x2 : Int) (S : Sp) (M : Mm) : Run K tb_Ca_within 0 [vI x0, vI x1, vI x2] [] S M =
  if x0 < x1 then
    some (some (vI 0), S, M)
  else
    if x2 < x0 then
      some (some (vI 0), S, M)
    else
      some (some (vI 1), S, M) := (Run_EE K tb_Ca_within [] 500 0 _ _ S M).trans rfl
set_option maxRecDepth 100000 in
theorem b_Ca_deny_0 (K : Cal) (a0 : Nat) (x1 : Int) (S : Sp) (M : Mm) : Run K tb_Ca_deny 0 [vR 11 0 a0, vI x1] [] S M =
  some (some (vI 0), S, up M a0 15 x1) := (Run_EE K tb_Ca_deny [] 500 0 _ _ S M).trans rfl
set_option maxRecDepth 100000 in
theorem b_Trays_lay_0 (K : Cal) (a0 : Nat) (x1 : Int) (x2 : Int) (x3 : Int) (S : Sp) (M : Mm) : Run K tb_Trays_lay 0 [vR 7 0 a0, vI x1, vI x2, vI x3] [] S M =
  bR (refOf S a0 0) fun b1 =>
  if 0 ≤ x1 ∧ x1 < 4 then
      bR (refOf S b1 x1.toNat) fun b2 =>
      bndV (K m_Arrays_fill1 [vR 21 60 b2, vL 0] S M) fun S3 M3 =>
        bR (refOf S3 a0 1) fun b4 =>
        if 0 ≤ x1 ∧ x1 < 4 then
            bR (refOf S3 a0 2) fun b5 =>
            if 0 ≤ x1 ∧ x1 < 4 then
                some (none, S3, up (up M3 b4 x1.toNat x2) b5 x1.toNat x3)
              else none
          else none
    else none := (Run_EE K tb_Trays_lay [] 500 0 _ _ S M).trans rfl
set_option maxRecDepth 100000 in
theorem b_Arrays_fill1_0 (K : Cal) (a0 : Nat) (n0 : Int) (x1 : Int) (S : Sp) (M : Mm) : Run K tb_Arrays_fill1 0 [vR 21 n0 a0, vL x1, vU, vU, vU] [] S M =
  Run K tb_Arrays_fill1 6 [vR 21 n0 a0, vL x1, vU, vI 0, vI n0] [] S M := (Run_EE K tb_Arrays_fill1 [6] 500 0 _ _ S M).trans rfl
set_option maxRecDepth 100000 in
theorem b_Arrays_fill1_6 (K : Cal) (a0 : Nat) (n0 : Int) (x1 : Int) (d2 : AV) (x3 : Int) (x4 : Int) (S : Sp) (M : Mm) : Run K tb_Arrays_fill1 6 [vR 21 n0 a0, vL x1, d2, vI x3, vI x4] [] S M =
  if x3 < x4 then
    if 0 ≤ x3 ∧ x3 < n0 then
      Run K tb_Arrays_fill1 6 [vR 21 n0 a0, vL x1, d2, vI (w32 (x3 + 1)), vI x4] [] S (up M a0 x3.toNat x1)
    else none
  else
    some (none, S, M) := (Run_EE K tb_Arrays_fill1 [6] 500 6 _ _ S M).trans rfl
set_option maxRecDepth 100000 in
theorem b_Ca_agree_0 (K : Cal) (a0 : Nat) (S : Sp) (M : Mm) : Run K tb_Ca_agree 0 [vR 11 0 a0] [] S M =
  some (some (vI 1), S, up M a0 15 0) := (Run_EE K tb_Ca_agree [] 500 0 _ _ S M).trans rfl
set_option maxRecDepth 100000 in
theorem b_Ca_write_0 (K : Cal) (a0 : Nat) (x1 : Int) (x2 : Int) (x3 : Int) (S : Sp) (M : Mm) : Run K tb_Ca_write 0 [vR 11 0 a0, vI x1, vI x2, vL x3, vU, vU] [] S M =
  bR (refOf S a0 0) fun b1 =>
  bndI (K m_Trays_troubleAt [vR 7 0 b1, vI x1, vI x2] S M) fun r2 S2 M2 =>
    if r2 = 0 then
      bR (refOf S2 a0 0) fun b3 =>
      bndV (K m_Trays_put [vR 7 0 b3, vI x1, vI x2, vL x3] S2 M2) fun S4 M4 =>
        bndI (K m_Ca_agree [vR 11 0 a0] S4 M4) fun r5 S5 M5 =>
        some (some (vI (r5 % 2)), S5, M5)
    else
      bndI (K m_Ca_deny [vR 11 0 a0, vI r2] S2 M2) fun r6 S6 M6 =>
      some (some (vI (r6 % 2)), S6, M6) := (Run_EE K tb_Ca_write [] 500 0 _ _ S M).trans rfl
set_option maxRecDepth 100000 in
theorem b_Trays_troubleAt_0 (K : Cal) (a0 : Nat) (x1 : Int) (x2 : Int) (S : Sp) (M : Mm) : Run K tb_Trays_troubleAt 0 [vR 7 0 a0, vI x1, vI x2] [] S M =
  bndI (K m_Trays_isTray [vI x1] S M) fun r1 S1 M1 =>
  if r1 = 0 then
    some (some (vI 1), S1, M1)
  else
    bndI (K m_Trays_isMissing [vR 7 0 a0, vI x1] S1 M1) fun r2 S2 M2 =>
    if r2 = 0 then
      bR (refOf S2 a0 2) fun b3 =>
      if 0 ≤ x1 ∧ x1 < 4 then
          bndI (K m_Ca_within [vI x2, vI 0, vI (w32 ((M2 b3 x1.toNat) - 1))] S2 M2) fun r4 S4 M4 =>
          if r4 = 0 then
            some (some (vI 3), S4, M4)
          else
            some (some (vI 0), S4, M4)
        else none
    else
      some (some (vI 2), S2, M2) := (Run_EE K tb_Trays_troubleAt [] 500 0 _ _ S M).trans rfl
set_option maxRecDepth 100000 in
theorem b_Trays_isMissing_0 (K : Cal) (a0 : Nat) (x1 : Int) (S : Sp) (M : Mm) : Run K tb_Trays_isMissing 0 [vR 7 0 a0, vI x1] [] S M =
  bR (refOf S a0 2) fun b1 =>
  if 0 ≤ x1 ∧ x1 < 4 then
      if M b1 x1.toNat = (-1) then
        some (some (vI 1), S, M)
      else
        some (some (vI 0), S, M)
    else none := (Run_EE K tb_Trays_isMissing [] 500 0 _ _ S M).trans rfl
set_option maxRecDepth 100000 in
theorem b_Trays_put_0 (K : Cal) (a0 : Nat) (x1 : Int) (x2 : Int) (x3 : Int) (S : Sp) (M : Mm) : Run K tb_Trays_put 0 [vR 7 0 a0, vI x1, vI x2, vL x3, vU] [] S M =
  bR (refOf S a0 0) fun b1 =>
  if 0 ≤ x1 ∧ x1 < 4 then
      bR (refOf S b1 x1.toNat) fun b2 =>
      bR (refOf S a0 1) fun b3 =>
        if 0 ≤ x1 ∧ x1 < 4 then
            bndL (K m_Trays_cut [vL x3, vI (M b3 x1.toNat)] S M) fun r4 S4 M4 =>
            if 0 ≤ x2 ∧ x2 < 60 then
              some (none, S4, up M4 b2 x2.toNat r4)
            else none
          else none
    else none := (Run_EE K tb_Trays_put [] 500 0 _ _ S M).trans rfl
set_option maxRecDepth 100000 in
theorem b_Trays_cut_0 (K : Cal) (x0 : Int) (x2 : Int) (S : Sp) (M : Mm) : Run K tb_Trays_cut 0 [vL x0, vU, vI x2] [] S M =
  if x2 = 0 then
    some (some (vL (w8 (w32 x0))), S, M)
  else if x2 = 1 then
    some (some (vL (w16 (w32 x0))), S, M)
  else if x2 = 2 then
    some (some (vL (w32 x0)), S, M)
  else some (some (vL x0), S, M) := (Run_EE K tb_Trays_cut [] 500 0 _ _ S M).trans rfl
set_option maxRecDepth 100000 in
theorem b_Ca_read_0 (K : Cal) (a0 : Nat) (x1 : Int) (x2 : Int) (S : Sp) (M : Mm) : Run K tb_Ca_read 0 [vR 11 0 a0, vI x1, vI x2, vU] [] S M =
  bR (refOf S a0 0) fun b1 =>
  bndI (K m_Trays_troubleAt [vR 7 0 b1, vI x1, vI x2] S M) fun r2 S2 M2 =>
    if r2 = 0 then
      bR (refOf S2 a0 0) fun b3 =>
      bR (refOf S2 b3 0) fun b4 =>
        if 0 ≤ x1 ∧ x1 < 4 then
            bR (refOf S2 b4 x1.toNat) fun b5 =>
            if 0 ≤ x2 ∧ x2 < 60 then
                some (some (vL ((up M2 a0 15 r2) b5 x2.toNat)), S2, up M2 a0 15 r2)
              else none
          else none
    else
      some (some (vL (-1)), S2, up M2 a0 15 r2) := (Run_EE K tb_Ca_read [] 500 0 _ _ S M).trans rfl
set_option maxRecDepth 100000 in
theorem b_Ca_pour_0 (K : Cal) (a0 : Nat) (x1 : Int) (x2 : Int) (x3 : Int) (x4 : Int) (x5 : Int) (S : Sp) (M : Mm) : Run K tb_Ca_pour 0 [vR 11 0 a0, vI x1, vI x2, vI x3, vI x4, vI x5] [] S M =
  bndI (K m_Trays_isTray [vI x1] S M) fun r1 S1 M1 =>
  if r1 = 0 then
    bndI (K m_Ca_deny [vR 11 0 a0, vI 1] S1 M1) fun r2 S2 M2 =>
    some (some (vI (r2 % 2)), S2, M2)
  else
    bndI (K m_Trays_isTray [vI x3] S1 M1) fun r3 S3 M3 =>
    if r3 = 0 then
      bndI (K m_Ca_deny [vR 11 0 a0, vI 1] S3 M3) fun r4 S4 M4 =>
      some (some (vI (r4 % 2)), S4, M4)
    else
      if x2 < 0 then
        bndI (K m_Ca_deny [vR 11 0 a0, vI 1] S3 M3) fun r5 S5 M5 =>
        some (some (vI (r5 % 2)), S5, M5)
      else
        if x4 < 0 then
          bndI (K m_Ca_deny [vR 11 0 a0, vI 1] S3 M3) fun r6 S6 M6 =>
          some (some (vI (r6 % 2)), S6, M6)
        else
          if x5 < 0 then
            bndI (K m_Ca_deny [vR 11 0 a0, vI 1] S3 M3) fun r7 S7 M7 =>
            some (some (vI (r7 % 2)), S7, M7)
          else
            bR (refOf S3 a0 0) fun b8 =>
            bndI (K m_Trays_isMissing [vR 7 0 b8, vI x1] S3 M3) fun r9 S9 M9 =>
              if r9 = 0 then
                bR (refOf S9 a0 0) fun b10 =>
                bndI (K m_Trays_isMissing [vR 7 0 b10, vI x3] S9 M9) fun r11 S11 M11 =>
                  if r11 = 0 then
                    bR (refOf S11 a0 0) fun b12 =>
                    bR (refOf S11 b12 1) fun b13 =>
                      if 0 ≤ x1 ∧ x1 < 4 then
                          bR (refOf S11 a0 0) fun b14 =>
                          bR (refOf S11 b14 1) fun b15 =>
                            if 0 ≤ x3 ∧ x3 < 4 then
                                if M11 b13 x1.toNat = M11 b15 x3.toNat then
                                  bR (refOf S11 a0 0) fun b16 =>
                                  bndI (K m_Trays_hasFrom [vR 7 0 b16, vI x1, vI x2, vI x5] S11 M11) fun r17 S17 M17 =>
                                    if r17 = 0 then
                                      bndI (K m_Ca_deny [vR 11 0 a0, vI 3] S17 M17) fun r18 S18 M18 =>
                                      some (some (vI (r18 % 2)), S18, M18)
                                    else
                                      bR (refOf S17 a0 0) fun b19 =>
                                      bndI (K m_Trays_hasFrom [vR 7 0 b19, vI x3, vI x4, vI x5] S17 M17) fun r20 S20 M20 =>
                                        if r20 = 0 then
                                          bndI (K m_Ca_deny [vR 11 0 a0, vI 3] S20 M20) fun r21 S21 M21 =>
                                          some (some (vI (r21 % 2)), S21, M21)
                                        else
                                          bR (refOf S20 a0 0) fun b22 =>
                                          bR (refOf S20 b22 0) fun b23 =>
                                            if 0 ≤ x1 ∧ x1 < 4 then
                                                bR (refOf S20 b23 x1.toNat) fun b24 =>
                                                bR (refOf S20 a0 0) fun b25 =>
                                                  bR (refOf S20 b25 0) fun b26 =>
                                                    if 0 ≤ x3 ∧ x3 < 4 then
                                                        bR (refOf S20 b26 x3.toNat) fun b27 =>
                                                        if 0 ≤ x2 ∧ 0 ≤ x4 ∧ 0 ≤ x5 ∧ x2 + x5 ≤ 60 ∧ x4 + x5 ≤ 60 then
                                                            bndI (K m_Ca_agree [vR 11 0 a0] S20 (cpy M20 b24 x2.toNat b27 x4.toNat x5.toNat)) fun r28 S28 M28 =>
                                                            some (some (vI (r28 % 2)), S28, M28)
                                                          else none
                                                      else none
                                              else none
                                else
                                  bndI (K m_Ca_deny [vR 11 0 a0, vI 8] S11 M11) fun r29 S29 M29 =>
                                  some (some (vI (r29 % 2)), S29, M29)
                              else none
                        else none
                  else
                    bndI (K m_Ca_deny [vR 11 0 a0, vI 2] S11 M11) fun r30 S30 M30 =>
                    some (some (vI (r30 % 2)), S30, M30)
              else
                bndI (K m_Ca_deny [vR 11 0 a0, vI 2] S9 M9) fun r31 S31 M31 =>
                some (some (vI (r31 % 2)), S31, M31) := (Run_EE K tb_Ca_pour [] 500 0 _ _ S M).trans rfl
set_option maxRecDepth 100000 in
theorem b_Trays_hasFrom_0 (K : Cal) (a0 : Nat) (x1 : Int) (x2 : Int) (x3 : Int) (S : Sp) (M : Mm) : Run K tb_Trays_hasFrom 0 [vR 7 0 a0, vI x1, vI x2, vI x3] [] S M =
  bR (refOf S a0 2) fun b1 =>
  if 0 ≤ x1 ∧ x1 < 4 then
      if M b1 x1.toNat < x3 then
        some (some (vI 0), S, M)
      else
        bR (refOf S a0 2) fun b2 =>
        if 0 ≤ x1 ∧ x1 < 4 then
            if w32 ((M b2 x1.toNat) - x3) < x2 then
              some (some (vI 0), S, M)
            else
              some (some (vI 1), S, M)
          else none
    else none := (Run_EE K tb_Trays_hasFrom [] 500 0 _ _ S M).trans rfl
set_option maxRecDepth 100000 in
theorem b_Ca_feed_0 (K : Cal) (a0 : Nat) (x1 : Int) (x2 : Int) (x3 : Int) (x4 : Int) (x5 : Int) (S : Sp) (M : Mm) : Run K tb_Ca_feed 0 [vR 11 0 a0, vI x1, vI x2, vI x3, vI x4, vI x5] [] S M =
  bR (refOf S a0 1) fun b1 =>
  if 900 < w32 ((M b1 2) + 20) then
      some (some (vI (-1)), S, M)
    else
      bR (refOf S a0 1) fun b2 =>
      bndV (K m_Tape_append [vR 6 0 b2, vI x1] S M) fun S3 M3 =>
        bR (refOf S3 a0 1) fun b4 =>
        bndV (K m_Tape_append [vR 6 0 b4, vI x2] S3 M3) fun S5 M5 =>
          bR (refOf S5 a0 1) fun b6 =>
          bndV (K m_Tape_append [vR 6 0 b6, vI x3] S5 M5) fun S7 M7 =>
            bR (refOf S7 a0 1) fun b8 =>
            bndV (K m_Tape_append [vR 6 0 b8, vI x4] S7 M7) fun S9 M9 =>
              bR (refOf S9 a0 1) fun b10 =>
              bndV (K m_Tape_append [vR 6 0 b10, vI x5] S9 M9) fun S11 M11 =>
                bR (refOf S11 a0 1) fun b12 =>
                some (some (vI (M11 b12 2)), S11, M11) := (Run_EE K tb_Ca_feed [] 500 0 _ _ S M).trans rfl
set_option maxRecDepth 100000 in
theorem b_Tape_append_0 (K : Cal) (a0 : Nat) (x1 : Int) (S : Sp) (M : Mm) : Run K tb_Tape_append 0 [vR 6 0 a0, vI x1, vU] [] S M =
  Run K tb_Tape_append 3 [vR 6 0 a0, vI x1, vI 24] [] S M := (Run_EE K tb_Tape_append [3] 500 0 _ _ S M).trans rfl
set_option maxRecDepth 100000 in
theorem b_Tape_append_3 (K : Cal) (a0 : Nat) (x1 : Int) (x2 : Int) (S : Sp) (M : Mm) : Run K tb_Tape_append 3 [vR 6 0 a0, vI x1, vI x2] [] S M =
  if x2 < 0 then
    some (none, S, M)
  else
    if M a0 2 < 900 then
      bR (refOf S a0 0) fun b1 =>
      if 0 ≤ M a0 2 ∧ M a0 2 < 900 then
          Run K tb_Tape_append 3 [vR 6 0 a0, vI x1, vI (w32 (x2 + (-8)))] [] S (up (up M b1 (M a0 2).toNat (w8 (w8 (shr32 x1 x2)))) a0 2 (w32 (((up M b1 (M a0 2).toNat (w8 (w8 (shr32 x1 x2)))) a0 2) + 1)))
        else none
    else
      some (none, S, M) := (Run_EE K tb_Tape_append [3] 500 3 _ _ S M).trans rfl
set_option maxRecDepth 100000 in
theorem b_Ca_world_0 (K : Cal) (a0 : Nat) (x1 : Int) (S : Sp) (M : Mm) : Run K tb_Ca_world 0 [vR 11 0 a0, vI x1, vU] [] S M =
  bR (refOf S a0 1) fun b1 =>
  bndI (K m_Ca_within [vI x1, vI 0, vI (M b1 2)] S M) fun r2 S2 M2 =>
    if r2 = 0 then
      bndI (K m_Ca_refuse [vR 11 0 a0, vI 1] S2 M2) fun r3 S3 M3 =>
      some (some (vI r3), S3, M3)
    else
      bR (refOf S2 a0 1) fun b4 =>
      bndV (K m_Tape_begin [vR 6 0 b4, vI x1] S2 M2) fun S5 M5 =>
        bR (refOf S5 a0 2) fun b6 =>
        bR (refOf S5 a0 1) fun b7 =>
          bR (refOf S5 a0 5) fun b8 =>
            bndI (K m_WorldText_takes [vR 10 0 b6, vR 6 0 b7, vR 5 0 b8] S5 M5) fun r9 S9 M9 =>
              bndV (K m_Ca_noteFault [vR 11 0 a0] S9 M9) fun S10 M10 =>
              if r9 = 0 then
                bndI (K m_Ca_refuse [vR 11 0 a0, vI 9] S10 M10) fun r11 S11 M11 =>
                some (some (vI r11), S11, M11)
              else
                bR (refOf S10 a0 4) fun b12 =>
                bR (refOf S10 a0 5) fun b13 =>
                  bndV (K m_State_copyFrom [vR 5 0 b12, vR 5 0 b13] S10 M10) fun S14 M14 =>
                    bR (refOf S14 a0 4) fun b15 =>
                    bR (refOf S14 b15 0) fun b16 =>
                      bR (refOf S14 b16 0) fun b17 =>
                        bndI (K m_Ca_answer [vR 11 0 a0, vI (M14 b17 3)] S14 M14) fun r18 S18 M18 =>
                          some (some (vI r18), S18, M18) := (Run_EE K tb_Ca_world [] 500 0 _ _ S M).trans rfl
set_option maxRecDepth 100000 in
theorem b_Ca_refuse_0 (K : Cal) (a0 : Nat) (x1 : Int) (S : Sp) (M : Mm) : Run K tb_Ca_refuse 0 [vR 11 0 a0, vI x1] [] S M =
  some (some (vI (-1)), S, up M a0 15 x1) := (Run_EE K tb_Ca_refuse [] 500 0 _ _ S M).trans rfl
set_option maxRecDepth 100000 in
theorem b_Tape_begin_0 (K : Cal) (a0 : Nat) (x1 : Int) (S : Sp) (M : Mm) : Run K tb_Tape_begin 0 [vR 6 0 a0, vI x1] [] S M =
  bndV (K m_Tape_advance [vR 6 0 a0] S (up (up (up (up M a0 3 x1) a0 4 0) a0 5 0) a0 6 (-1))) fun S1 M1 =>
  some (none, S1, M1) := (Run_EE K tb_Tape_begin [] 500 0 _ _ S M).trans rfl
set_option maxRecDepth 100000 in
theorem b_Tape_advance_0 (K : Cal) (a0 : Nat) (S : Sp) (M : Mm) : Run K tb_Tape_advance 0 [vR 6 0 a0] [] S M =
  if M a0 4 < M a0 3 then
    bR (refOf S a0 0) fun b1 =>
    if 0 ≤ M a0 4 ∧ M a0 4 < 900 then
        if M b1 (M a0 4).toNat = 10 then
          Run K tb_Tape_advance 0 [vR 6 0 a0] [] S (up M a0 4 (w32 ((M a0 4) + 1)))
        else
          bR (refOf S a0 0) fun b2 =>
          if 0 ≤ M a0 4 ∧ M a0 4 < 900 then
              if M b2 (M a0 4).toNat = 32 then
                Run K tb_Tape_advance 0 [vR 6 0 a0] [] S (up M a0 4 (w32 ((M a0 4) + 1)))
              else
                Run K tb_Tape_advance 52 [vR 6 0 a0] [] S M
            else none
      else none
  else
    Run K tb_Tape_advance 52 [vR 6 0 a0] [] S M := (Run_EE K tb_Tape_advance [0, 52] 500 0 _ _ S M).trans rfl
set_option maxRecDepth 100000 in
theorem b_Tape_advance_52 (K : Cal) (a0 : Nat) (S : Sp) (M : Mm) : Run K tb_Tape_advance 52 [vR 6 0 a0] [] S M =
  if (up (up (up M a0 8 (M a0 4)) a0 12 (-1)) a0 11 0) a0 4 < (up (up (up M a0 8 (M a0 4)) a0 12 (-1)) a0 11 0) a0 3 then
    bR (refOf S a0 0) fun b1 =>
    if 0 ≤ (up (up (up M a0 8 (M a0 4)) a0 12 (-1)) a0 11 0) a0 4 ∧ (up (up (up M a0 8 (M a0 4)) a0 12 (-1)) a0 11 0) a0 4 < 900 then
        if (up (up (up M a0 8 (M a0 4)) a0 12 (-1)) a0 11 0) b1 ((up (up (up M a0 8 (M a0 4)) a0 12 (-1)) a0 11 0) a0 4).toNat < 97 then
          bR (refOf S a0 0) fun b2 =>
          if 0 ≤ (up (up (up M a0 8 (M a0 4)) a0 12 (-1)) a0 11 0) a0 4 ∧ (up (up (up M a0 8 (M a0 4)) a0 12 (-1)) a0 11 0) a0 4 < 900 then
              if (up (up (up M a0 8 (M a0 4)) a0 12 (-1)) a0 11 0) b2 ((up (up (up M a0 8 (M a0 4)) a0 12 (-1)) a0 11 0) a0 4).toNat < 48 then
                bndV (K m_Tape_scanSign [vR 6 0 a0] S (up (up (up M a0 8 (M a0 4)) a0 12 (-1)) a0 11 0)) fun S3 M3 =>
                some (none, S3, M3)
              else
                bR (refOf S a0 0) fun b4 =>
                if 0 ≤ (up (up (up M a0 8 (M a0 4)) a0 12 (-1)) a0 11 0) a0 4 ∧ (up (up (up M a0 8 (M a0 4)) a0 12 (-1)) a0 11 0) a0 4 < 900 then
                    if 57 < (up (up (up M a0 8 (M a0 4)) a0 12 (-1)) a0 11 0) b4 ((up (up (up M a0 8 (M a0 4)) a0 12 (-1)) a0 11 0) a0 4).toNat then
                      bndV (K m_Tape_scanSign [vR 6 0 a0] S (up (up (up M a0 8 (M a0 4)) a0 12 (-1)) a0 11 0)) fun S5 M5 =>
                      some (none, S5, M5)
                    else
                      bndV (K m_Tape_scanNumber [vR 6 0 a0] S (up (up (up M a0 8 (M a0 4)) a0 12 (-1)) a0 11 0)) fun S6 M6 =>
                      some (none, S6, M6)
                  else none
            else none
        else
          bR (refOf S a0 0) fun b7 =>
          if 0 ≤ (up (up (up M a0 8 (M a0 4)) a0 12 (-1)) a0 11 0) a0 4 ∧ (up (up (up M a0 8 (M a0 4)) a0 12 (-1)) a0 11 0) a0 4 < 900 then
              if 122 < (up (up (up M a0 8 (M a0 4)) a0 12 (-1)) a0 11 0) b7 ((up (up (up M a0 8 (M a0 4)) a0 12 (-1)) a0 11 0) a0 4).toNat then
                bR (refOf S a0 0) fun b8 =>
                if 0 ≤ (up (up (up M a0 8 (M a0 4)) a0 12 (-1)) a0 11 0) a0 4 ∧ (up (up (up M a0 8 (M a0 4)) a0 12 (-1)) a0 11 0) a0 4 < 900 then
                    if (up (up (up M a0 8 (M a0 4)) a0 12 (-1)) a0 11 0) b8 ((up (up (up M a0 8 (M a0 4)) a0 12 (-1)) a0 11 0) a0 4).toNat < 48 then
                      bndV (K m_Tape_scanSign [vR 6 0 a0] S (up (up (up M a0 8 (M a0 4)) a0 12 (-1)) a0 11 0)) fun S9 M9 =>
                      some (none, S9, M9)
                    else
                      bR (refOf S a0 0) fun b10 =>
                      if 0 ≤ (up (up (up M a0 8 (M a0 4)) a0 12 (-1)) a0 11 0) a0 4 ∧ (up (up (up M a0 8 (M a0 4)) a0 12 (-1)) a0 11 0) a0 4 < 900 then
                          if 57 < (up (up (up M a0 8 (M a0 4)) a0 12 (-1)) a0 11 0) b10 ((up (up (up M a0 8 (M a0 4)) a0 12 (-1)) a0 11 0) a0 4).toNat then
                            bndV (K m_Tape_scanSign [vR 6 0 a0] S (up (up (up M a0 8 (M a0 4)) a0 12 (-1)) a0 11 0)) fun S11 M11 =>
                            some (none, S11, M11)
                          else
                            bndV (K m_Tape_scanNumber [vR 6 0 a0] S (up (up (up M a0 8 (M a0 4)) a0 12 (-1)) a0 11 0)) fun S12 M12 =>
                            some (none, S12, M12)
                        else none
                  else none
              else
                bndV (K m_Tape_scanWord [vR 6 0 a0] S (up (up (up M a0 8 (M a0 4)) a0 12 (-1)) a0 11 0)) fun S13 M13 =>
                some (none, S13, M13)
            else none
      else none
  else
    some (none, S, up (up (up (up M a0 8 (M a0 4)) a0 12 (-1)) a0 11 0) a0 7 0) := (Run_EE K tb_Tape_advance [0, 52] 500 52 _ _ S M).trans rfl
set_option maxRecDepth 100000 in
theorem b_Tape_scanWord_0 (K : Cal) (a0 : Nat) (S : Sp) (M : Mm) : Run K tb_Tape_scanWord 0 [vR 6 0 a0, vU] [] S M =
  Run K tb_Tape_scanWord 5 [vR 6 0 a0, vU] [] S (up M a0 7 1) := (Run_EE K tb_Tape_scanWord [5, 121] 500 0 _ _ S M).trans rfl
set_option maxRecDepth 100000 in
theorem b_Tape_scanWord_5 (K : Cal) (a0 : Nat) (d1 : AV) (S : Sp) (M : Mm) : Run K tb_Tape_scanWord 5 [vR 6 0 a0, d1] [] S M =
  if M a0 4 < M a0 3 then
    bR (refOf S a0 0) fun b1 =>
    if 0 ≤ M a0 4 ∧ M a0 4 < 900 then
        if M b1 (M a0 4).toNat < 97 then
          if 8 < w32 ((M a0 4) - (M a0 8)) then
            some (none, S, up M a0 11 0)
          else
            Run K tb_Tape_scanWord 121 [vR 6 0 a0, vI 0] [] S M
        else
          bR (refOf S a0 0) fun b2 =>
          if 0 ≤ M a0 4 ∧ M a0 4 < 900 then
              if 122 < M b2 (M a0 4).toNat then
                if 8 < w32 ((M a0 4) - (M a0 8)) then
                  some (none, S, up M a0 11 0)
                else
                  Run K tb_Tape_scanWord 121 [vR 6 0 a0, vI 0] [] S M
              else
                if w32 ((M a0 4) - (M a0 8)) < 8 then
                  bR (refOf S a0 0) fun b3 =>
                  if 0 ≤ M a0 4 ∧ M a0 4 < 900 then
                      Run K tb_Tape_scanWord 5 [vR 6 0 a0, d1] [] S (up (up M a0 11 (w64 ((w64 ((M a0 11) * 32)) + (w32 ((w32 ((M b3 (M a0 4).toNat) - 97)) + 1))))) a0 4 (w32 (((up M a0 11 (w64 ((w64 ((M a0 11) * 32)) + (w32 ((w32 ((M b3 (M a0 4).toNat) - 97)) + 1))))) a0 4) + 1)))
                    else none
                else
                  Run K tb_Tape_scanWord 5 [vR 6 0 a0, d1] [] S (up M a0 4 (w32 ((M a0 4) + 1)))
            else none
      else none
  else
    if 8 < w32 ((M a0 4) - (M a0 8)) then
      some (none, S, up M a0 11 0)
    else
      Run K tb_Tape_scanWord 121 [vR 6 0 a0, vI 0] [] S M := (Run_EE K tb_Tape_scanWord [5, 121] 500 5 _ _ S M).trans rfl
set_option maxRecDepth 100000 in
theorem b_Tape_scanWord_121 (K : Cal) (a0 : Nat) (x1 : Int) (S : Sp) (M : Mm) : Run K tb_Tape_scanWord 121 [vR 6 0 a0, vI x1] [] S M =
  if x1 < 31 then
    bR (refOf S a0 1) fun b1 =>
    if 0 ≤ x1 ∧ x1 < 31 then
        if cmp3 (M b1 x1.toNat) (M a0 11) = 0 then
          Run K tb_Tape_scanWord 121 [vR 6 0 a0, vI (w32 (x1 + 1))] [] S (up M a0 12 x1)
        else
          Run K tb_Tape_scanWord 121 [vR 6 0 a0, vI (w32 (x1 + 1))] [] S M
      else none
  else
    some (none, S, M) := (Run_EE K tb_Tape_scanWord [5, 121] 500 121 _ _ S M).trans rfl
set_option maxRecDepth 100000 in
theorem b_Tape_scanNumber_0 (K : Cal) (a0 : Nat) (S : Sp) (M : Mm) : Run K tb_Tape_scanNumber 0 [vR 6 0 a0] [] S M =
  Run K tb_Tape_scanNumber 10 [vR 6 0 a0] [] S (up (up M a0 7 2) a0 9 0) := (Run_EE K tb_Tape_scanNumber [10] 500 0 _ _ S M).trans rfl
set_option maxRecDepth 100000 in
theorem b_Tape_scanNumber_10 (K : Cal) (a0 : Nat) (S : Sp) (M : Mm) : Run K tb_Tape_scanNumber 10 [vR 6 0 a0] [] S M =
  if M a0 4 < M a0 3 then
    bR (refOf S a0 0) fun b1 =>
    if 0 ≤ M a0 4 ∧ M a0 4 < 900 then
        if M b1 (M a0 4).toNat < 48 then
          if 4 < w32 ((M a0 4) - (M a0 8)) then
            some (none, S, up M a0 7 4)
          else
            some (none, S, M)
        else
          bR (refOf S a0 0) fun b2 =>
          if 0 ≤ M a0 4 ∧ M a0 4 < 900 then
              if 57 < M b2 (M a0 4).toNat then
                if 4 < w32 ((M a0 4) - (M a0 8)) then
                  some (none, S, up M a0 7 4)
                else
                  some (none, S, M)
              else
                if w32 ((M a0 4) - (M a0 8)) < 4 then
                  bR (refOf S a0 0) fun b3 =>
                  if 0 ≤ M a0 4 ∧ M a0 4 < 900 then
                      Run K tb_Tape_scanNumber 10 [vR 6 0 a0] [] S (up (up M a0 9 (w32 ((w32 ((M a0 9) * 10)) + (w32 ((M b3 (M a0 4).toNat) - 48))))) a0 4 (w32 (((up M a0 9 (w32 ((w32 ((M a0 9) * 10)) + (w32 ((M b3 (M a0 4).toNat) - 48))))) a0 4) + 1)))
                    else none
                else
                  Run K tb_Tape_scanNumber 10 [vR 6 0 a0] [] S (up M a0 4 (w32 ((M a0 4) + 1)))
            else none
      else none
  else
    if 4 < w32 ((M a0 4) - (M a0 8)) then
      some (none, S, up M a0 7 4)
    else
      some (none, S, M) := (Run_EE K tb_Tape_scanNumber [10] 500 10 _ _ S M).trans rfl
set_option maxRecDepth 100000 in
theorem b_Tape_scanSign_0 (K : Cal) (a0 : Nat) (S : Sp) (M : Mm) : Run K tb_Tape_scanSign 0 [vR 6 0 a0] [] S M =
  bR (refOf S a0 0) fun b1 =>
  if 0 ≤ M a0 4 ∧ M a0 4 < 900 then
      if (up M a0 10 (M b1 (M a0 4).toNat)) a0 10 = 59 then
        some (none, S, up (up (up M a0 10 (M b1 (M a0 4).toNat)) a0 7 3) a0 4 (w32 (((up (up M a0 10 (M b1 (M a0 4).toNat)) a0 7 3) a0 4) + 1)))
      else
        if (up M a0 10 (M b1 (M a0 4).toNat)) a0 10 = 60 then
          some (none, S, up (up (up M a0 10 (M b1 (M a0 4).toNat)) a0 7 3) a0 4 (w32 (((up (up M a0 10 (M b1 (M a0 4).toNat)) a0 7 3) a0 4) + 1)))
        else
          if (up M a0 10 (M b1 (M a0 4).toNat)) a0 10 = 62 then
            some (none, S, up (up (up M a0 10 (M b1 (M a0 4).toNat)) a0 7 3) a0 4 (w32 (((up (up M a0 10 (M b1 (M a0 4).toNat)) a0 7 3) a0 4) + 1)))
          else
            if (up M a0 10 (M b1 (M a0 4).toNat)) a0 10 = 61 then
              some (none, S, up (up (up M a0 10 (M b1 (M a0 4).toNat)) a0 7 3) a0 4 (w32 (((up (up M a0 10 (M b1 (M a0 4).toNat)) a0 7 3) a0 4) + 1)))
            else
              some (none, S, up (up (up M a0 10 (M b1 (M a0 4).toNat)) a0 7 4) a0 4 (w32 (((up (up M a0 10 (M b1 (M a0 4).toNat)) a0 7 4) a0 4) + 1)))
    else none := (Run_EE K tb_Tape_scanSign [] 500 0 _ _ S M).trans rfl
set_option maxRecDepth 100000 in
theorem b_WorldText_takes_0 (K : Cal) (a0 : Nat) (a1 : Nat) (a2 : Nat) (S : Sp) (M : Mm) : Run K tb_WorldText_takes 0 [vR 10 0 a0, vR 6 0 a1, vR 5 0 a2, vU] [] S M =
  bndV (K m_State_clear [vR 5 0 a2] S M) fun S1 M1 =>
  Run K tb_WorldText_takes 11 [vR 10 0 a0, vR 6 0 a1, vR 5 0 a2, vI 0] [] S1 (up M1 a0 0 0) := (Run_EE K tb_WorldText_takes [11] 500 0 _ _ S M).trans rfl
set_option maxRecDepth 100000 in
theorem b_WorldText_takes_11 (K : Cal) (a0 : Nat) (a1 : Nat) (a2 : Nat) (x3 : Int) (S : Sp) (M : Mm) : Run K tb_WorldText_takes 11 [vR 10 0 a0, vR 6 0 a1, vR 5 0 a2, vI x3] [] S M =
  if 900 < x3 then
    some (some (vI 0), S, M)
  else
    if M a1 7 = 0 then
      some (some (vI 1), S, M)
    else
      bndI (K m_WorldText_takesPart [vR 10 0 a0, vR 6 0 a1, vR 5 0 a2] S M) fun r1 S1 M1 =>
      if r1 = 0 then
        some (some (vI 0), S1, M1)
      else
        Run K tb_WorldText_takes 11 [vR 10 0 a0, vR 6 0 a1, vR 5 0 a2, vI (w32 (x3 + 1))] [] S1 M1 := (Run_EE K tb_WorldText_takes [11] 500 11 _ _ S M).trans rfl
set_option maxRecDepth 100000 in
theorem b_State_clear_0 (K : Cal) (a0 : Nat) (S : Sp) (M : Mm) : Run K tb_State_clear 0 [vR 5 0 a0] [] S M =
  bR (refOf S a0 0) fun b1 =>
  bndV (K m_Chart_clear [vR 0 0 b1] S M) fun S2 M2 =>
    bR (refOf S2 a0 2) fun b3 =>
    bndV (K m_Plan_clear [vR 3 0 b3] S2 M2) fun S4 M4 =>
      some (none, S4, up M4 a0 3 0) := (Run_EE K tb_State_clear [] 500 0 _ _ S M).trans rfl
set_option maxRecDepth 100000 in
theorem b_Chart_clear_0 (K : Cal) (a0 : Nat) (S : Sp) (M : Mm) : Run K tb_Chart_clear 0 [vR 0 0 a0, vU] [] S M =
  bR (refOf S a0 0) fun b1 =>
  bndV (K m_Arrays_fill0 [vR 20 4 b1, vI 0] S M) fun S2 M2 =>
    bR (refOf S2 a0 5) fun b3 =>
    bndV (K m_Arrays_fill0 [vR 20 6 b3, vI 0] S2 M2) fun S4 M4 =>
      Run K tb_Chart_clear 18 [vR 0 0 a0, vI 0] [] S4 M4 := (Run_EE K tb_Chart_clear [18] 500 0 _ _ S M).trans rfl
set_option maxRecDepth 100000 in
theorem b_Chart_clear_18 (K : Cal) (a0 : Nat) (x1 : Int) (S : Sp) (M : Mm) : Run K tb_Chart_clear 18 [vR 0 0 a0, vI x1] [] S M =
  if x1 < 6 then
    bR (refOf S a0 10) fun b1 =>
    if 0 ≤ x1 ∧ x1 < 6 then
        bR (refOf S b1 x1.toNat) fun b2 =>
        bndV (K m_Arrays_fill0 [vR 20 8 b2, vI 0] S M) fun S3 M3 =>
          bR (refOf S3 a0 11) fun b4 =>
          if 0 ≤ x1 ∧ x1 < 6 then
              bR (refOf S3 b4 x1.toNat) fun b5 =>
              bndV (K m_Arrays_fill0 [vR 20 6 b5, vI 0] S3 M3) fun S6 M6 =>
                Run K tb_Chart_clear 18 [vR 0 0 a0, vI (w32 (x1 + 1))] [] S6 M6
            else none
      else none
  else
    some (none, S, up M a0 12 0) := (Run_EE K tb_Chart_clear [18] 500 18 _ _ S M).trans rfl
set_option maxRecDepth 100000 in
theorem b_Plan_clear_0 (K : Cal) (a0 : Nat) (S : Sp) (M : Mm) : Run K tb_Plan_clear 0 [vR 3 0 a0] [] S M =
  some (none, S, up (up (up M a0 5 0) a0 6 0) a0 7 0) := (Run_EE K tb_Plan_clear [] 500 0 _ _ S M).trans rfl
set_option maxRecDepth 100000 in
theorem b_WorldText_takesPart_0 (K : Cal) (a0 : Nat) (a1 : Nat) (a2 : Nat) (S : Sp) (M : Mm) : Run K tb_WorldText_takesPart 0 [vR 10 0 a0, vR 6 0 a1, vR 5 0 a2] [] S M =
  if M a1 12 = 0 then
    bR (refOf S a2 0) fun b1 =>
    bndI (K m_WorldText_takesNation [vR 6 0 a1, vR 0 0 b1] S M) fun r2 S2 M2 =>
      some (some (vI (r2 % 2)), S2, M2)
  else if M a1 12 = 1 then
    bndI (K m_Tape_misfits [vR 6 0 a1] S M) fun r3 S3 M3 =>
    some (some (vI (r3 % 2)), S3, M3)
  else if M a1 12 = 2 then
    bndI (K m_Tape_misfits [vR 6 0 a1] S M) fun r4 S4 M4 =>
    some (some (vI (r4 % 2)), S4, M4)
  else if M a1 12 = 3 then
    bndI (K m_Tape_misfits [vR 6 0 a1] S M) fun r5 S5 M5 =>
    some (some (vI (r5 % 2)), S5, M5)
  else if M a1 12 = 4 then
    bR (refOf S a2 0) fun b6 =>
    bndI (K m_WorldText_takesWar [vR 6 0 a1, vR 0 0 b6] S M) fun r7 S7 M7 =>
      some (some (vI (r7 % 2)), S7, M7)
  else if M a1 12 = 5 then
    bR (refOf S a2 0) fun b8 =>
    bndI (K m_WorldText_takesGood [vR 6 0 a1, vR 0 0 b8] S M) fun r9 S9 M9 =>
      some (some (vI (r9 % 2)), S9, M9)
  else if M a1 12 = 6 then
    bndI (K m_Tape_misfits [vR 6 0 a1] S M) fun r10 S10 M10 =>
    some (some (vI (r10 % 2)), S10, M10)
  else if M a1 12 = 7 then
    bndI (K m_Tape_misfits [vR 6 0 a1] S M) fun r11 S11 M11 =>
    some (some (vI (r11 % 2)), S11, M11)
  else if M a1 12 = 8 then
    bndI (K m_Tape_misfits [vR 6 0 a1] S M) fun r12 S12 M12 =>
    some (some (vI (r12 % 2)), S12, M12)
  else if M a1 12 = 9 then
    bR (refOf S a2 0) fun b13 =>
    bndI (K m_WorldText_takesPort [vR 6 0 a1, vR 0 0 b13] S M) fun r14 S14 M14 =>
      some (some (vI (r14 % 2)), S14, M14)
  else if M a1 12 = 10 then
    bR (refOf S a2 0) fun b15 =>
    bndI (K m_WorldText_takesPrice [vR 6 0 a1, vR 0 0 b15] S M) fun r16 S16 M16 =>
      some (some (vI (r16 % 2)), S16, M16)
  else if M a1 12 = 11 then
    bR (refOf S a2 0) fun b17 =>
    bndI (K m_WorldText_takesWay [vR 6 0 a1, vR 0 0 b17] S M) fun r18 S18 M18 =>
      some (some (vI (r18 % 2)), S18, M18)
  else if M a1 12 = 12 then
    bndI (K m_Tape_misfits [vR 6 0 a1] S M) fun r19 S19 M19 =>
    some (some (vI (r19 % 2)), S19, M19)
  else if M a1 12 = 13 then
    bndI (K m_WorldText_takesShip [vR 6 0 a1, vR 5 0 a2] S M) fun r20 S20 M20 =>
    some (some (vI (r20 % 2)), S20, M20)
  else if M a1 12 = 14 then
    bndI (K m_Tape_misfits [vR 6 0 a1] S M) fun r21 S21 M21 =>
    some (some (vI (r21 % 2)), S21, M21)
  else if M a1 12 = 15 then
    bndI (K m_Tape_misfits [vR 6 0 a1] S M) fun r22 S22 M22 =>
    some (some (vI (r22 % 2)), S22, M22)
  else if M a1 12 = 16 then
    bndI (K m_Tape_misfits [vR 6 0 a1] S M) fun r23 S23 M23 =>
    some (some (vI (r23 % 2)), S23, M23)
  else if M a1 12 = 17 then
    bndI (K m_WorldText_takesAboard [vR 6 0 a1, vR 5 0 a2] S M) fun r24 S24 M24 =>
    some (some (vI (r24 % 2)), S24, M24)
  else if M a1 12 = 18 then
    bR (refOf S a2 0) fun b25 =>
    bndI (K m_WorldText_takesRule [vR 10 0 a0, vR 6 0 a1, vR 0 0 b25] S M) fun r26 S26 M26 =>
      some (some (vI (r26 % 2)), S26, M26)
  else bndI (K m_Tape_misfits [vR 6 0 a1] S M) fun r27 S27 M27 =>
    some (some (vI (r27 % 2)), S27, M27) := (Run_EE K tb_WorldText_takesPart [] 500 0 _ _ S M).trans rfl
set_option maxRecDepth 100000 in
theorem b_WorldText_takesNation_0 (K : Cal) (a0 : Nat) (a1 : Nat) (S : Sp) (M : Mm) : Run K tb_WorldText_takesNation 0 [vR 6 0 a0, vR 0 0 a1, vU] [] S M =
  bndI (K m_Tape_takeNew [vR 6 0 a0, vR 0 0 a1, vI 0] S M) fun r1 S1 M1 =>
  if r1 = (-1) then
    some (some (vI 0), S1, M1)
  else
    bR (refOf S1 a1 2) fun b2 =>
    bndI (K m_Tape_takeOption [vR 6 0 a0, vI 1, vI 0, vI 20, vI 1] S1 M1) fun r3 S3 M3 =>
      if 0 ≤ r1 ∧ r1 < 6 then
        bR (refOf S3 a1 2) fun b4 =>
        if 0 ≤ r1 ∧ r1 < 6 then
            if (up M3 b2 r1.toNat r3) b4 r1.toNat = (-1) then
              some (some (vI 0), S3, up M3 b2 r1.toNat r3)
            else
              bR (refOf S3 a1 3) fun b5 =>
              bndI (K m_Tape_takeOption [vR 6 0 a0, vI 2, vI 0, vI 9, vI 0] S3 (up M3 b2 r1.toNat r3)) fun r6 S6 M6 =>
                if 0 ≤ r1 ∧ r1 < 6 then
                  bR (refOf S6 a1 3) fun b7 =>
                  if 0 ≤ r1 ∧ r1 < 6 then
                      if (up M6 b5 r1.toNat r6) b7 r1.toNat = (-1) then
                        some (some (vI 0), S6, up M6 b5 r1.toNat r6)
                      else
                        bR (refOf S6 a1 4) fun b8 =>
                        bndI (K m_Tape_takeOption [vR 6 0 a0, vI 3, vI 0, vI 255, vI 0] S6 (up M6 b5 r1.toNat r6)) fun r9 S9 M9 =>
                          if 0 ≤ r1 ∧ r1 < 6 then
                            bR (refOf S9 a1 4) fun b10 =>
                            if 0 ≤ r1 ∧ r1 < 6 then
                                if (up M9 b8 r1.toNat r9) b10 r1.toNat = (-1) then
                                  some (some (vI 0), S9, up M9 b8 r1.toNat r9)
                                else
                                  bndI (K m_Tape_takesStop [vR 6 0 a0] S9 (up M9 b8 r1.toNat r9)) fun r11 S11 M11 =>
                                  if r11 = 0 then
                                    some (some (vI 0), S11, M11)
                                  else
                                    some (some (vI 1), S11, M11)
                              else none
                          else none
                    else none
                else none
          else none
      else none := (Run_EE K tb_WorldText_takesNation [] 500 0 _ _ S M).trans rfl
set_option maxRecDepth 100000 in
theorem b_Tape_takeNew_0 (K : Cal) (a0 : Nat) (a1 : Nat) (x2 : Int) (S : Sp) (M : Mm) : Run K tb_Tape_takeNew 0 [vR 6 0 a0, vR 0 0 a1, vI x2, vU] [] S M =
  bndI (K m_Chart_isFull [vR 0 0 a1, vI x2] S M) fun r1 S1 M1 =>
  if r1 = 0 then
    bndV (K m_Tape_advance [vR 6 0 a0] S1 M1) fun S2 M2 =>
    bndI (K m_Tape_isName [vR 6 0 a0] S2 M2) fun r3 S3 M3 =>
    if r3 = 0 then
      bndI (K m_Tape_misfits [vR 6 0 a0] S3 M3) fun r4 S4 M4 =>
      some (some (vI (-1)), S4, M4)
    else
      bndI (K m_Chart_isTaken [vR 0 0 a1, vL (M3 a0 11)] S3 M3) fun r5 S5 M5 =>
      if r5 = 0 then
        bndI (K m_Chart_enter [vR 0 0 a1, vI x2, vL (M5 a0 11)] S5 M5) fun r6 S6 M6 =>
        bndV (K m_Tape_advance [vR 6 0 a0] S6 M6) fun S7 M7 =>
        some (some (vI r6), S7, M7)
      else
        bndI (K m_Tape_fails [vR 6 0 a0, vI 3] S5 M5) fun r8 S8 M8 =>
        some (some (vI (-1)), S8, M8)
  else
    bndI (K m_Tape_fails [vR 6 0 a0, vI 6] S1 M1) fun r9 S9 M9 =>
    some (some (vI (-1)), S9, M9) := (Run_EE K tb_Tape_takeNew [] 500 0 _ _ S M).trans rfl
set_option maxRecDepth 100000 in
theorem b_Chart_isFull_0 (K : Cal) (a0 : Nat) (x1 : Int) (S : Sp) (M : Mm) : Run K tb_Chart_isFull 0 [vR 0 0 a0, vI x1] [] S M =
  bR (refOf S a0 0) fun b1 =>
  if 0 ≤ x1 ∧ x1 < 4 then
      bndI (K m_Chart_mostOf [vI x1] S M) fun r2 S2 M2 =>
      if M b1 x1.toNat < r2 then
        some (some (vI 0), S2, M2)
      else
        some (some (vI 1), S2, M2)
    else none := (Run_EE K tb_Chart_isFull [] 500 0 _ _ S M).trans rfl
set_option maxRecDepth 100000 in
theorem b_Chart_mostOf_0 (K : Cal) (x0 : Int) (S : Sp) (M : Mm) : Run K tb_Chart_mostOf 0 [vI x0] [] S M =
  if x0 = 0 then
    some (some (vI 6), S, M)
  else if x0 = 1 then
    some (some (vI 8), S, M)
  else if x0 = 2 then
    some (some (vI 6), S, M)
  else some (some (vI 4), S, M) := (Run_EE K tb_Chart_mostOf [] 500 0 _ _ S M).trans rfl
set_option maxRecDepth 100000 in
theorem b_Tape_fails_0 (K : Cal) (a0 : Nat) (x1 : Int) (S : Sp) (M : Mm) : Run K tb_Tape_fails 0 [vR 6 0 a0, vI x1] [] S M =
  some (some (vI 0), S, up (up M a0 5 x1) a0 6 ((up M a0 5 x1) a0 8)) := (Run_EE K tb_Tape_fails [] 500 0 _ _ S M).trans rfl
set_option maxRecDepth 100000 in
theorem b_Tape_isName_0 (K : Cal) (a0 : Nat) (S : Sp) (M : Mm) : Run K tb_Tape_isName 0 [vR 6 0 a0] [] S M =
  if M a0 7 = 1 then
    if cmp3 (M a0 11) 0 = 0 then
      some (some (vI 0), S, M)
    else
      if M a0 12 = (-1) then
        some (some (vI 1), S, M)
      else
        some (some (vI 0), S, M)
  else
    some (some (vI 0), S, M) := (Run_EE K tb_Tape_isName [] 500 0 _ _ S M).trans rfl
set_option maxRecDepth 100000 in
theorem b_Tape_misfits_0 (K : Cal) (a0 : Nat) (S : Sp) (M : Mm) : Run K tb_Tape_misfits 0 [vR 6 0 a0] [] S M =
  if M a0 7 = 4 then
    bndI (K m_Tape_fails [vR 6 0 a0, vI 1] S M) fun r1 S1 M1 =>
    some (some (vI (r1 % 2)), S1, M1)
  else
    bndI (K m_Tape_fails [vR 6 0 a0, vI 2] S M) fun r2 S2 M2 =>
    some (some (vI (r2 % 2)), S2, M2) := (Run_EE K tb_Tape_misfits [] 500 0 _ _ S M).trans rfl
set_option maxRecDepth 100000 in
theorem b_Chart_isTaken_0 (K : Cal) (a0 : Nat) (x1 : Int) (S : Sp) (M : Mm) : Run K tb_Chart_isTaken 0 [vR 0 0 a0, vL x1, vU, vU] [] S M =
  Run K tb_Chart_isTaken 2 [vR 0 0 a0, vL x1, vU, vI 0] [] S M := (Run_EE K tb_Chart_isTaken [2] 500 0 _ _ S M).trans rfl
set_option maxRecDepth 100000 in
theorem b_Chart_isTaken_2 (K : Cal) (a0 : Nat) (x1 : Int) (d2 : AV) (x3 : Int) (S : Sp) (M : Mm) : Run K tb_Chart_isTaken 2 [vR 0 0 a0, vL x1, d2, vI x3] [] S M =
  if x3 < 4 then
    bndI (K m_Chart_find [vR 0 0 a0, vI x3, vL x1] S M) fun r1 S1 M1 =>
    if r1 = (-1) then
      Run K tb_Chart_isTaken 2 [vR 0 0 a0, vL x1, d2, vI (w32 (x3 + 1))] [] S1 M1
    else
      some (some (vI 1), S1, M1)
  else
    some (some (vI 0), S, M) := (Run_EE K tb_Chart_isTaken [2] 500 2 _ _ S M).trans rfl
set_option maxRecDepth 100000 in
theorem b_Chart_find_0 (K : Cal) (a0 : Nat) (x1 : Int) (x2 : Int) (S : Sp) (M : Mm) : Run K tb_Chart_find 0 [vR 0 0 a0, vI x1, vL x2, vU, vU] [] S M =
  Run K tb_Chart_find 3 [vR 0 0 a0, vI x1, vL x2, vU, vI 0] [] S M := (Run_EE K tb_Chart_find [3] 500 0 _ _ S M).trans rfl
set_option maxRecDepth 100000 in
theorem b_Chart_find_3 (K : Cal) (a0 : Nat) (x1 : Int) (x2 : Int) (d3 : AV) (x4 : Int) (S : Sp) (M : Mm) : Run K tb_Chart_find 3 [vR 0 0 a0, vI x1, vL x2, d3, vI x4] [] S M =
  bR (refOf S a0 0) fun b1 =>
  if 0 ≤ x1 ∧ x1 < 4 then
      if x4 < M b1 x1.toNat then
        bR (refOf S a0 1) fun b2 =>
        if 0 ≤ x1 ∧ x1 < 4 then
            bR (refOf S b2 x1.toNat) fun b3 =>
            if 0 ≤ x4 ∧ x4 < 8 then
                if cmp3 (M b3 x4.toNat) x2 = 0 then
                  some (some (vI x4), S, M)
                else
                  Run K tb_Chart_find 3 [vR 0 0 a0, vI x1, vL x2, d3, vI (w32 (x4 + 1))] [] S M
              else none
          else none
      else
        some (some (vI (-1)), S, M)
    else none := (Run_EE K tb_Chart_find [3] 500 3 _ _ S M).trans rfl
set_option maxRecDepth 100000 in
theorem b_Chart_enter_0 (K : Cal) (a0 : Nat) (x1 : Int) (x2 : Int) (S : Sp) (M : Mm) : Run K tb_Chart_enter 0 [vR 0 0 a0, vI x1, vL x2, vU, vU] [] S M =
  bR (refOf S a0 0) fun b1 =>
  if 0 ≤ x1 ∧ x1 < 4 then
      bR (refOf S a0 1) fun b2 =>
      if 0 ≤ x1 ∧ x1 < 4 then
          bR (refOf S b2 x1.toNat) fun b3 =>
          if 0 ≤ M b1 x1.toNat ∧ M b1 x1.toNat < 8 then
              bR (refOf S a0 0) fun b4 =>
              if 0 ≤ x1 ∧ x1 < 4 then
                  some (some (vI (M b1 x1.toNat)), S, up (up M b3 (M b1 x1.toNat).toNat x2) b4 x1.toNat (w32 ((M b1 x1.toNat) + 1)))
                else none
            else none
        else none
    else none := (Run_EE K tb_Chart_enter [] 500 0 _ _ S M).trans rfl
set_option maxRecDepth 100000 in
theorem b_Tape_takeOption_0 (K : Cal) (a0 : Nat) (x1 : Int) (x2 : Int) (x3 : Int) (x4 : Int) (S : Sp) (M : Mm) : Run K tb_Tape_takeOption 0 [vR 6 0 a0, vI x1, vI x2, vI x3, vI x4] [] S M =
  if M a0 12 = x1 then
    bndV (K m_Tape_advance [vR 6 0 a0] S M) fun S1 M1 =>
    bndI (K m_Tape_takeNumber [vR 6 0 a0, vI x2, vI x3] S1 M1) fun r2 S2 M2 =>
    some (some (vI r2), S2, M2)
  else
    some (some (vI x4), S, M) := (Run_EE K tb_Tape_takeOption [] 500 0 _ _ S M).trans rfl
set_option maxRecDepth 100000 in
theorem b_Tape_takeNumber_0 (K : Cal) (a0 : Nat) (x1 : Int) (x2 : Int) (S : Sp) (M : Mm) : Run K tb_Tape_takeNumber 0 [vR 6 0 a0, vI x1, vI x2, vU] [] S M =
  if M a0 7 = 2 then
    bndI (K m_Ca_within [vI (M a0 9), vI x1, vI x2] S M) fun r1 S1 M1 =>
    if r1 = 0 then
      bndI (K m_Tape_fails [vR 6 0 a0, vI 4] S1 M1) fun r2 S2 M2 =>
      some (some (vI (-1)), S2, M2)
    else
      bndV (K m_Tape_advance [vR 6 0 a0] S1 M1) fun S3 M3 =>
      some (some (vI (M1 a0 9)), S3, M3)
  else
    bndI (K m_Tape_misfits [vR 6 0 a0] S M) fun r4 S4 M4 =>
    some (some (vI (-1)), S4, M4) := (Run_EE K tb_Tape_takeNumber [] 500 0 _ _ S M).trans rfl
set_option maxRecDepth 100000 in
theorem b_Tape_takesStop_0 (K : Cal) (a0 : Nat) (S : Sp) (M : Mm) : Run K tb_Tape_takesStop 0 [vR 6 0 a0] [] S M =
  bndI (K m_Tape_isSign [vR 6 0 a0, vI 59] S M) fun r1 S1 M1 =>
  if r1 = 0 then
    bndI (K m_Tape_misfits [vR 6 0 a0] S1 M1) fun r2 S2 M2 =>
    some (some (vI (r2 % 2)), S2, M2)
  else
    bndV (K m_Tape_advance [vR 6 0 a0] S1 M1) fun S3 M3 =>
    some (some (vI 1), S3, M3) := (Run_EE K tb_Tape_takesStop [] 500 0 _ _ S M).trans rfl
set_option maxRecDepth 100000 in
theorem b_Tape_isSign_0 (K : Cal) (a0 : Nat) (x1 : Int) (S : Sp) (M : Mm) : Run K tb_Tape_isSign 0 [vR 6 0 a0, vI x1] [] S M =
  if M a0 7 = 3 then
    if M a0 10 = x1 then
      some (some (vI 1), S, M)
    else
      some (some (vI 0), S, M)
  else
    some (some (vI 0), S, M) := (Run_EE K tb_Tape_isSign [] 500 0 _ _ S M).trans rfl
set_option maxRecDepth 100000 in
theorem b_WorldText_takesWar_0 (K : Cal) (a0 : Nat) (a1 : Nat) (S : Sp) (M : Mm) : Run K tb_WorldText_takesWar 0 [vR 6 0 a0, vR 0 0 a1, vU, vU] [] S M =
  bndV (K m_Tape_advance [vR 6 0 a0] S M) fun S1 M1 =>
  bndI (K m_Tape_takeThing [vR 6 0 a0, vR 0 0 a1, vI 0, vI (-1)] S1 M1) fun r2 S2 M2 =>
  if r2 = (-1) then
    some (some (vI 0), S2, M2)
  else
    bndI (K m_Tape_takeThing [vR 6 0 a0, vR 0 0 a1, vI 0, vI r2] S2 M2) fun r3 S3 M3 =>
    if r3 = (-1) then
      some (some (vI 0), S3, M3)
    else
      bndV (K m_Chart_setWar [vR 0 0 a1, vI r2, vI r3, vI 1] S3 M3) fun S4 M4 =>
      bndI (K m_Tape_takesStop [vR 6 0 a0] S4 M4) fun r5 S5 M5 =>
      some (some (vI (r5 % 2)), S5, M5) := (Run_EE K tb_WorldText_takesWar [] 500 0 _ _ S M).trans rfl
set_option maxRecDepth 100000 in
theorem b_Tape_takeThing_0 (K : Cal) (a0 : Nat) (a1 : Nat) (x2 : Int) (x3 : Int) (S : Sp) (M : Mm) : Run K tb_Tape_takeThing 0 [vR 6 0 a0, vR 0 0 a1, vI x2, vI x3, vU] [] S M =
  bndI (K m_Tape_isName [vR 6 0 a0] S M) fun r1 S1 M1 =>
  if r1 = 0 then
    bndI (K m_Tape_misfits [vR 6 0 a0] S1 M1) fun r2 S2 M2 =>
    some (some (vI (-1)), S2, M2)
  else
    bndI (K m_Chart_find [vR 0 0 a1, vI x2, vL (M1 a0 11)] S1 M1) fun r3 S3 M3 =>
    if r3 = (-1) then
      bndI (K m_Tape_fails [vR 6 0 a0, vI 3] S3 M3) fun r4 S4 M4 =>
      some (some (vI (-1)), S4, M4)
    else
      if r3 = x3 then
        bndI (K m_Tape_fails [vR 6 0 a0, vI 5] S3 M3) fun r5 S5 M5 =>
        some (some (vI (-1)), S5, M5)
      else
        bndV (K m_Tape_advance [vR 6 0 a0] S3 M3) fun S6 M6 =>
        some (some (vI r3), S6, M6) := (Run_EE K tb_Tape_takeThing [] 500 0 _ _ S M).trans rfl
set_option maxRecDepth 100000 in
theorem b_Chart_setWar_0 (K : Cal) (a0 : Nat) (x1 : Int) (x2 : Int) (x3 : Int) (S : Sp) (M : Mm) : Run K tb_Chart_setWar 0 [vR 0 0 a0, vI x1, vI x2, vI x3] [] S M =
  bR (refOf S a0 5) fun b1 =>
  if x3 = 0 then
      bR (refOf S a0 5) fun b2 =>
      if 0 ≤ x1 ∧ x1 < 6 then
          if 0 ≤ x1 ∧ x1 < 6 then
            bR (refOf S a0 5) fun b3 =>
            if x3 = 0 then
                bR (refOf S a0 5) fun b4 =>
                if 0 ≤ x2 ∧ x2 < 6 then
                    if 0 ≤ x2 ∧ x2 < 6 then
                      some (none, S, up (up M b1 x1.toNat (and32 (M b2 x1.toNat) (xor32 (shl32 1 x2) (-1)))) b3 x2.toNat (and32 ((up M b1 x1.toNat (and32 (M b2 x1.toNat) (xor32 (shl32 1 x2) (-1)))) b4 x2.toNat) (xor32 (shl32 1 x1) (-1))))
                    else none
                  else none
              else
                bR (refOf S a0 5) fun b5 =>
                if 0 ≤ x2 ∧ x2 < 6 then
                    if 0 ≤ x2 ∧ x2 < 6 then
                      some (none, S, up (up M b1 x1.toNat (and32 (M b2 x1.toNat) (xor32 (shl32 1 x2) (-1)))) b3 x2.toNat (or32 ((up M b1 x1.toNat (and32 (M b2 x1.toNat) (xor32 (shl32 1 x2) (-1)))) b5 x2.toNat) (shl32 1 x1)))
                    else none
                  else none
          else none
        else none
    else
      bR (refOf S a0 5) fun b6 =>
      if 0 ≤ x1 ∧ x1 < 6 then
          if 0 ≤ x1 ∧ x1 < 6 then
            bR (refOf S a0 5) fun b7 =>
            if x3 = 0 then
                bR (refOf S a0 5) fun b8 =>
                if 0 ≤ x2 ∧ x2 < 6 then
                    if 0 ≤ x2 ∧ x2 < 6 then
                      some (none, S, up (up M b1 x1.toNat (or32 (M b6 x1.toNat) (shl32 1 x2))) b7 x2.toNat (and32 ((up M b1 x1.toNat (or32 (M b6 x1.toNat) (shl32 1 x2))) b8 x2.toNat) (xor32 (shl32 1 x1) (-1))))
                    else none
                  else none
              else
                bR (refOf S a0 5) fun b9 =>
                if 0 ≤ x2 ∧ x2 < 6 then
                    if 0 ≤ x2 ∧ x2 < 6 then
                      some (none, S, up (up M b1 x1.toNat (or32 (M b6 x1.toNat) (shl32 1 x2))) b7 x2.toNat (or32 ((up M b1 x1.toNat (or32 (M b6 x1.toNat) (shl32 1 x2))) b9 x2.toNat) (shl32 1 x1)))
                    else none
                  else none
          else none
        else none := (Run_EE K tb_Chart_setWar [] 500 0 _ _ S M).trans rfl
set_option maxRecDepth 100000 in
theorem b_WorldText_takesGood_0 (K : Cal) (a0 : Nat) (a1 : Nat) (S : Sp) (M : Mm) : Run K tb_WorldText_takesGood 0 [vR 6 0 a0, vR 0 0 a1, vU] [] S M =
  bndI (K m_Tape_takeNew [vR 6 0 a0, vR 0 0 a1, vI 1] S M) fun r1 S1 M1 =>
  if r1 = (-1) then
    some (some (vI 0), S1, M1)
  else
    bndI (K m_Tape_takesWord [vR 6 0 a0, vI 6] S1 M1) fun r2 S2 M2 =>
    if r2 = 0 then
      some (some (vI 0), S2, M2)
    else
      bR (refOf S2 a1 6) fun b3 =>
      bndI (K m_Tape_takeThing [vR 6 0 a0, vR 0 0 a1, vI 0, vI (-1)] S2 M2) fun r4 S4 M4 =>
        if 0 ≤ r1 ∧ r1 < 8 then
          bR (refOf S4 a1 6) fun b5 =>
          if 0 ≤ r1 ∧ r1 < 8 then
              if (up M4 b3 r1.toNat r4) b5 r1.toNat = (-1) then
                some (some (vI 0), S4, up M4 b3 r1.toNat r4)
              else
                bndI (K m_Tape_takesWord [vR 6 0 a0, vI 7] S4 (up M4 b3 r1.toNat r4)) fun r6 S6 M6 =>
                if r6 = 0 then
                  some (some (vI 0), S6, M6)
                else
                  bR (refOf S6 a1 7) fun b7 =>
                  bndI (K m_Tape_takeNumber [vR 6 0 a0, vI 1, vI 99] S6 M6) fun r8 S8 M8 =>
                    if 0 ≤ r1 ∧ r1 < 8 then
                      bR (refOf S8 a1 7) fun b9 =>
                      if 0 ≤ r1 ∧ r1 < 8 then
                          if (up M8 b7 r1.toNat r8) b9 r1.toNat = (-1) then
                            some (some (vI 0), S8, up M8 b7 r1.toNat r8)
                          else
                            bR (refOf S8 a1 8) fun b10 =>
                            bndI (K m_Tape_takeOption [vR 6 0 a0, vI 8, vI 0, vI 9, vI 0] S8 (up M8 b7 r1.toNat r8)) fun r11 S11 M11 =>
                              if 0 ≤ r1 ∧ r1 < 8 then
                                bR (refOf S11 a1 8) fun b12 =>
                                if 0 ≤ r1 ∧ r1 < 8 then
                                    if (up M11 b10 r1.toNat r11) b12 r1.toNat = (-1) then
                                      some (some (vI 0), S11, up M11 b10 r1.toNat r11)
                                    else
                                      bndI (K m_Tape_takesStop [vR 6 0 a0] S11 (up M11 b10 r1.toNat r11)) fun r13 S13 M13 =>
                                      if r13 = 0 then
                                        some (some (vI 0), S13, M13)
                                      else
                                        some (some (vI 1), S13, M13)
                                  else none
                              else none
                        else none
                    else none
            else none
        else none := (Run_EE K tb_WorldText_takesGood [] 500 0 _ _ S M).trans rfl
set_option maxRecDepth 100000 in
theorem b_Tape_takesWord_0 (K : Cal) (a0 : Nat) (x1 : Int) (S : Sp) (M : Mm) : Run K tb_Tape_takesWord 0 [vR 6 0 a0, vI x1] [] S M =
  if M a0 12 = x1 then
    bndV (K m_Tape_advance [vR 6 0 a0] S M) fun S1 M1 =>
    some (some (vI 1), S1, M1)
  else
    bndI (K m_Tape_misfits [vR 6 0 a0] S M) fun r2 S2 M2 =>
    some (some (vI (r2 % 2)), S2, M2) := (Run_EE K tb_Tape_takesWord [] 500 0 _ _ S M).trans rfl
set_option maxRecDepth 100000 in
theorem b_WorldText_takesPort_0 (K : Cal) (a0 : Nat) (a1 : Nat) (S : Sp) (M : Mm) : Run K tb_WorldText_takesPort 0 [vR 6 0 a0, vR 0 0 a1, vU] [] S M =
  bndI (K m_Tape_takeNew [vR 6 0 a0, vR 0 0 a1, vI 2] S M) fun r1 S1 M1 =>
  if r1 = (-1) then
    some (some (vI 0), S1, M1)
  else
    bR (refOf S1 a1 9) fun b2 =>
    if 0 ≤ r1 ∧ r1 < 6 then
        if (up M1 b2 r1.toNat (-1)) a0 12 = 6 then
          bndV (K m_Tape_advance [vR 6 0 a0] S1 (up M1 b2 r1.toNat (-1))) fun S3 M3 =>
          bR (refOf S3 a1 9) fun b4 =>
          bndI (K m_Tape_takeThing [vR 6 0 a0, vR 0 0 a1, vI 0, vI (-1)] S3 M3) fun r5 S5 M5 =>
            if 0 ≤ r1 ∧ r1 < 6 then
              bR (refOf S5 a1 9) fun b6 =>
              if 0 ≤ r1 ∧ r1 < 6 then
                  if (up M5 b4 r1.toNat r5) b6 r1.toNat = (-1) then
                    some (some (vI 0), S5, up M5 b4 r1.toNat r5)
                  else
                    bndI (K m_Tape_takesStop [vR 6 0 a0] S5 (up M5 b4 r1.toNat r5)) fun r7 S7 M7 =>
                    some (some (vI (r7 % 2)), S7, M7)
                else none
            else none
        else
          bndI (K m_Tape_takesStop [vR 6 0 a0] S1 (up M1 b2 r1.toNat (-1))) fun r8 S8 M8 =>
          some (some (vI (r8 % 2)), S8, M8)
      else none := (Run_EE K tb_WorldText_takesPort [] 500 0 _ _ S M).trans rfl
set_option maxRecDepth 100000 in
theorem b_WorldText_takesPrice_0 (K : Cal) (a0 : Nat) (a1 : Nat) (S : Sp) (M : Mm) : Run K tb_WorldText_takesPrice 0 [vR 6 0 a0, vR 0 0 a1, vU, vU, vU] [] S M =
  bndV (K m_Tape_advance [vR 6 0 a0] S M) fun S1 M1 =>
  bndI (K m_Tape_takeThing [vR 6 0 a0, vR 0 0 a1, vI 2, vI (-1)] S1 M1) fun r2 S2 M2 =>
  if r2 = (-1) then
    some (some (vI 0), S2, M2)
  else
    bndI (K m_Tape_takeThing [vR 6 0 a0, vR 0 0 a1, vI 1, vI (-1)] S2 M2) fun r3 S3 M3 =>
    if r3 = (-1) then
      some (some (vI 0), S3, M3)
    else
      bndI (K m_Tape_takeNumber [vR 6 0 a0, vI 1, vI 99] S3 M3) fun r4 S4 M4 =>
      if r4 = (-1) then
        some (some (vI 0), S4, M4)
      else
        bR (refOf S4 a1 10) fun b5 =>
        if 0 ≤ r2 ∧ r2 < 6 then
            bR (refOf S4 b5 r2.toNat) fun b6 =>
            if 0 ≤ r3 ∧ r3 < 8 then
                bndI (K m_Tape_takesStop [vR 6 0 a0] S4 (up M4 b6 r3.toNat r4)) fun r7 S7 M7 =>
                some (some (vI (r7 % 2)), S7, M7)
              else none
          else none := (Run_EE K tb_WorldText_takesPrice [] 500 0 _ _ S M).trans rfl
set_option maxRecDepth 100000 in
theorem b_WorldText_takesWay_0 (K : Cal) (a0 : Nat) (a1 : Nat) (S : Sp) (M : Mm) : Run K tb_WorldText_takesWay 0 [vR 6 0 a0, vR 0 0 a1, vU, vU, vU] [] S M =
  bndV (K m_Tape_advance [vR 6 0 a0] S M) fun S1 M1 =>
  bndI (K m_Tape_takeThing [vR 6 0 a0, vR 0 0 a1, vI 2, vI (-1)] S1 M1) fun r2 S2 M2 =>
  if r2 = (-1) then
    some (some (vI 0), S2, M2)
  else
    bndI (K m_Tape_takeThing [vR 6 0 a0, vR 0 0 a1, vI 2, vI r2] S2 M2) fun r3 S3 M3 =>
    if r3 = (-1) then
      some (some (vI 0), S3, M3)
    else
      bndI (K m_Tape_takesWord [vR 6 0 a0, vI 12] S3 M3) fun r4 S4 M4 =>
      if r4 = 0 then
        some (some (vI 0), S4, M4)
      else
        bndI (K m_Tape_takeNumber [vR 6 0 a0, vI 1, vI 20] S4 M4) fun r5 S5 M5 =>
        if r5 = (-1) then
          some (some (vI 0), S5, M5)
        else
          bR (refOf S5 a1 11) fun b6 =>
          if 0 ≤ r2 ∧ r2 < 6 then
              bR (refOf S5 b6 r2.toNat) fun b7 =>
              if 0 ≤ r3 ∧ r3 < 6 then
                  bR (refOf S5 a1 11) fun b8 =>
                  if 0 ≤ r3 ∧ r3 < 6 then
                      bR (refOf S5 b8 r3.toNat) fun b9 =>
                      if 0 ≤ r2 ∧ r2 < 6 then
                          bndI (K m_Tape_takesStop [vR 6 0 a0] S5 (up (up M5 b7 r3.toNat r5) b9 r2.toNat r5)) fun r10 S10 M10 =>
                          some (some (vI (r10 % 2)), S10, M10)
                        else none
                    else none
                else none
            else none := (Run_EE K tb_WorldText_takesWay [] 500 0 _ _ S M).trans rfl
set_option maxRecDepth 100000 in
theorem b_WorldText_takesShip_0 (K : Cal) (a0 : Nat) (a1 : Nat) (S : Sp) (M : Mm) : Run K tb_WorldText_takesShip 0 [vR 6 0 a0, vR 5 0 a1, vU, vU, vU, vU] [] S M =
  bR (refOf S a1 0) fun b1 =>
  bndI (K m_Tape_takeNew [vR 6 0 a0, vR 0 0 b1, vI 3] S M) fun r2 S2 M2 =>
    if r2 = (-1) then
      some (some (vI 0), S2, M2)
    else
      bndI (K m_Tape_takesWord [vR 6 0 a0, vI 14] S2 M2) fun r3 S3 M3 =>
      if r3 = 0 then
        some (some (vI 0), S3, M3)
      else
        bR (refOf S3 a1 0) fun b4 =>
        bndI (K m_Tape_takeThing [vR 6 0 a0, vR 0 0 b4, vI 2, vI (-1)] S3 M3) fun r5 S5 M5 =>
          if r5 = (-1) then
            some (some (vI 0), S5, M5)
          else
            bndI (K m_Tape_takesWord [vR 6 0 a0, vI 15] S5 M5) fun r6 S6 M6 =>
            if r6 = 0 then
              some (some (vI 0), S6, M6)
            else
              bndI (K m_Tape_takeNumber [vR 6 0 a0, vI 1, vI 60] S6 M6) fun r7 S7 M7 =>
              if r7 = (-1) then
                some (some (vI 0), S7, M7)
              else
                bndI (K m_Tape_takeOption [vR 6 0 a0, vI 16, vI 0, vI 9999, vI 100] S7 M7) fun r8 S8 M8 =>
                if r8 = (-1) then
                  some (some (vI 0), S8, M8)
                else
                  bR (refOf S8 a1 1) fun b9 =>
                  if 0 ≤ r2 ∧ r2 < 4 then
                      bR (refOf S8 b9 r2.toNat) fun b10 =>
                      bndV (K m_Vessel_launch [vR 8 0 b10, vI r5, vI r7, vI r8] S8 M8) fun S11 M11 =>
                        bndI (K m_Tape_takesStop [vR 6 0 a0] S11 M11) fun r12 S12 M12 =>
                        some (some (vI (r12 % 2)), S12, M12)
                    else none := (Run_EE K tb_WorldText_takesShip [] 500 0 _ _ S M).trans rfl
set_option maxRecDepth 100000 in
theorem b_Vessel_launch_0 (K : Cal) (a0 : Nat) (x1 : Int) (x2 : Int) (x3 : Int) (S : Sp) (M : Mm) : Run K tb_Vessel_launch 0 [vR 8 0 a0, vI x1, vI x2, vI x3] [] S M =
  bR (refOf S a0 7) fun b1 =>
  bndV (K m_Arrays_fill0 [vR 20 8 b1, vI 0] S (up (up (up (up (up (up (up M a0 0 x1) a0 1 (-1)) a0 2 0) a0 3 x2) a0 4 x3) a0 5 0) a0 6 0)) fun S2 M2 =>
    some (none, S2, M2) := (Run_EE K tb_Vessel_launch [] 500 0 _ _ S M).trans rfl
set_option maxRecDepth 100000 in
theorem b_WorldText_takesAboard_0 (K : Cal) (a0 : Nat) (a1 : Nat) (S : Sp) (M : Mm) : Run K tb_WorldText_takesAboard 0 [vR 6 0 a0, vR 5 0 a1, vU, vU, vU] [] S M =
  bndV (K m_Tape_advance [vR 6 0 a0] S M) fun S1 M1 =>
  bR (refOf S1 a1 0) fun b2 =>
  bndI (K m_Tape_takeThing [vR 6 0 a0, vR 0 0 b2, vI 3, vI (-1)] S1 M1) fun r3 S3 M3 =>
    if r3 = (-1) then
      some (some (vI 0), S3, M3)
    else
      bR (refOf S3 a1 0) fun b4 =>
      bndI (K m_Tape_takeThing [vR 6 0 a0, vR 0 0 b4, vI 1, vI (-1)] S3 M3) fun r5 S5 M5 =>
        if r5 = (-1) then
          some (some (vI 0), S5, M5)
        else
          bR (refOf S5 a1 1) fun b6 =>
          if 0 ≤ r3 ∧ r3 < 4 then
              bR (refOf S5 b6 r3.toNat) fun b7 =>
              bndI (K m_Vessel_room [vR 8 0 b7] S5 M5) fun r8 S8 M8 =>
                bndI (K m_Tape_takeNumber [vR 6 0 a0, vI 1, vI r8] S8 M8) fun r9 S9 M9 =>
                if r9 = (-1) then
                  some (some (vI 0), S9, M9)
                else
                  bR (refOf S9 a1 1) fun b10 =>
                  if 0 ≤ r3 ∧ r3 < 4 then
                      bR (refOf S9 b10 r3.toNat) fun b11 =>
                      bR (refOf S9 b11 7) fun b12 =>
                        if 0 ≤ r5 ∧ r5 < 8 then
                            if 0 ≤ r5 ∧ r5 < 8 then
                              bndI (K m_Tape_takesStop [vR 6 0 a0] S9 (up M9 b12 r5.toNat (w32 ((M9 b12 r5.toNat) + r9)))) fun r13 S13 M13 =>
                              some (some (vI (r13 % 2)), S13, M13)
                            else none
                          else none
                    else none
            else none := (Run_EE K tb_WorldText_takesAboard [] 500 0 _ _ S M).trans rfl
set_option maxRecDepth 100000 in
theorem b_Vessel_room_0 (K : Cal) (a0 : Nat) (S : Sp) (M : Mm) : Run K tb_Vessel_room 0 [vR 8 0 a0] [] S M =
  bndI (K m_Vessel_load [vR 8 0 a0] S M) fun r1 S1 M1 =>
  some (some (vI (w32 ((M a0 3) - r1))), S1, M1) := (Run_EE K tb_Vessel_room [] 500 0 _ _ S M).trans rfl
set_option maxRecDepth 100000 in
theorem b_Vessel_load_0 (K : Cal) (a0 : Nat) (S : Sp) (M : Mm) : Run K tb_Vessel_load 0 [vR 8 0 a0, vU, vU] [] S M =
  Run K tb_Vessel_load 4 [vR 8 0 a0, vI 0, vI 0] [] S M := (Run_EE K tb_Vessel_load [4] 500 0 _ _ S M).trans rfl
set_option maxRecDepth 100000 in
theorem b_Vessel_load_4 (K : Cal) (a0 : Nat) (x1 : Int) (x2 : Int) (S : Sp) (M : Mm) : Run K tb_Vessel_load 4 [vR 8 0 a0, vI x1, vI x2] [] S M =
  if x2 < 8 then
    bR (refOf S a0 7) fun b1 =>
    if 0 ≤ x2 ∧ x2 < 8 then
        Run K tb_Vessel_load 4 [vR 8 0 a0, vI (w32 (x1 + (M b1 x2.toNat))), vI (w32 (x2 + 1))] [] S M
      else none
  else
    some (some (vI x1), S, M) := (Run_EE K tb_Vessel_load [4] 500 4 _ _ S M).trans rfl
set_option maxRecDepth 100000 in
theorem b_WorldText_takesRule_0 (K : Cal) (a0 : Nat) (a1 : Nat) (a2 : Nat) (S : Sp) (M : Mm) : Run K tb_WorldText_takesRule 0 [vR 10 0 a0, vR 6 0 a1, vR 0 0 a2, vU] [] S M =
  if M a0 0 = 0 then
    bndV (K m_Tape_advance [vR 6 0 a1] S M) fun S1 M1 =>
    bndI (K m_Tape_takeNumber [vR 6 0 a1, vI 0, vI 2] S1 M1) fun r2 S2 M2 =>
    if r2 = (-1) then
      some (some (vI 0), S2, M2)
    else
      bndI (K m_Tape_takesStop [vR 6 0 a1] S2 (up (up M2 a2 12 r2) a0 0 1)) fun r3 S3 M3 =>
      some (some (vI (r3 % 2)), S3, M3)
  else
    bndI (K m_Tape_fails [vR 6 0 a1, vI 5] S M) fun r4 S4 M4 =>
    some (some (vI (r4 % 2)), S4, M4) := (Run_EE K tb_WorldText_takesRule [] 500 0 _ _ S M).trans rfl
set_option maxRecDepth 100000 in
theorem b_Ca_noteFault_0 (K : Cal) (a0 : Nat) (S : Sp) (M : Mm) : Run K tb_Ca_noteFault 0 [vR 11 0 a0] [] S M =
  bR (refOf S a0 1) fun b1 =>
  bR (refOf S a0 1) fun b2 =>
    bR (refOf S a0 1) fun b3 =>
      if (up (up M b1 2 0) a0 13 ((up M b1 2 0) b2 5)) b3 5 = 0 then
          some (none, S, up (up (up M b1 2 0) a0 13 ((up M b1 2 0) b2 5)) a0 14 (-1))
        else
          bR (refOf S a0 1) fun b4 =>
          some (none, S, up (up (up M b1 2 0) a0 13 ((up M b1 2 0) b2 5)) a0 14 ((up (up M b1 2 0) a0 13 ((up M b1 2 0) b2 5)) b4 6)) := (Run_EE K tb_Ca_noteFault [] 500 0 _ _ S M).trans rfl
set_option maxRecDepth 100000 in
theorem b_State_copyFrom_0 (K : Cal) (a0 : Nat) (a1 : Nat) (S : Sp) (M : Mm) : Run K tb_State_copyFrom 0 [vR 5 0 a0, vR 5 0 a1] [] S M =
  bR (refOf S a0 0) fun b1 =>
  bR (refOf S a1 0) fun b2 =>
    bndV (K m_Chart_copyFrom [vR 0 0 b1, vR 0 0 b2] S M) fun S3 M3 =>
      bR (refOf S3 a0 2) fun b4 =>
      bR (refOf S3 a1 2) fun b5 =>
        bndV (K m_Plan_copyFrom [vR 3 0 b4, vR 3 0 b5] S3 M3) fun S6 M6 =>
          bndV (K m_State_copyFleet [vR 5 0 a0, vR 5 0 a1] S6 M6) fun S7 M7 =>
          some (none, S7, M7) := (Run_EE K tb_State_copyFrom [] 500 0 _ _ S M).trans rfl
set_option maxRecDepth 100000 in
theorem b_Chart_copyFrom_0 (K : Cal) (a0 : Nat) (a1 : Nat) (S : Sp) (M : Mm) : Run K tb_Chart_copyFrom 0 [vR 0 0 a0, vR 0 0 a1, vU] [] S M =
  bR (refOf S a1 0) fun b1 =>
  bR (refOf S a0 0) fun b2 =>
    Run K tb_Chart_copyFrom 16 [vR 0 0 a0, vR 0 0 a1, vI 0] [] S (cpy M b1 0 b2 0 4) := (Run_EE K tb_Chart_copyFrom [16, 168] 500 0 _ _ S M).trans rfl
set_option maxRecDepth 100000 in
theorem b_Chart_copyFrom_16 (K : Cal) (a0 : Nat) (a1 : Nat) (x2 : Int) (S : Sp) (M : Mm) : Run K tb_Chart_copyFrom 16 [vR 0 0 a0, vR 0 0 a1, vI x2] [] S M =
  if x2 < 4 then
    bR (refOf S a1 1) fun b1 =>
    if 0 ≤ x2 ∧ x2 < 4 then
        bR (refOf S b1 x2.toNat) fun b2 =>
        bR (refOf S a0 1) fun b3 =>
          if 0 ≤ x2 ∧ x2 < 4 then
              bR (refOf S b3 x2.toNat) fun b4 =>
              Run K tb_Chart_copyFrom 16 [vR 0 0 a0, vR 0 0 a1, vI (w32 (x2 + 1))] [] S (cpy M b2 0 b4 0 8)
            else none
      else none
  else
    bR (refOf S a1 2) fun b5 =>
    bR (refOf S a0 2) fun b6 =>
      bR (refOf S a1 3) fun b7 =>
        bR (refOf S a0 3) fun b8 =>
          bR (refOf S a1 4) fun b9 =>
            bR (refOf S a0 4) fun b10 =>
              bR (refOf S a1 5) fun b11 =>
                bR (refOf S a0 5) fun b12 =>
                  bR (refOf S a1 6) fun b13 =>
                    bR (refOf S a0 6) fun b14 =>
                      bR (refOf S a1 7) fun b15 =>
                        bR (refOf S a0 7) fun b16 =>
                          bR (refOf S a1 8) fun b17 =>
                            bR (refOf S a0 8) fun b18 =>
                              bR (refOf S a1 9) fun b19 =>
                                bR (refOf S a0 9) fun b20 =>
                                  Run K tb_Chart_copyFrom 168 [vR 0 0 a0, vR 0 0 a1, vI 0] [] S (cpy (cpy (cpy (cpy (cpy (cpy (cpy (cpy M b5 0 b6 0 6) b7 0 b8 0 6) b9 0 b10 0 6) b11 0 b12 0 6) b13 0 b14 0 8) b15 0 b16 0 8) b17 0 b18 0 8) b19 0 b20 0 6) := (Run_EE K tb_Chart_copyFrom [16, 168] 500 16 _ _ S M).trans rfl
set_option maxRecDepth 100000 in
theorem b_Chart_copyFrom_168 (K : Cal) (a0 : Nat) (a1 : Nat) (x2 : Int) (S : Sp) (M : Mm) : Run K tb_Chart_copyFrom 168 [vR 0 0 a0, vR 0 0 a1, vI x2] [] S M =
  if x2 < 6 then
    bR (refOf S a1 10) fun b1 =>
    if 0 ≤ x2 ∧ x2 < 6 then
        bR (refOf S b1 x2.toNat) fun b2 =>
        bR (refOf S a0 10) fun b3 =>
          if 0 ≤ x2 ∧ x2 < 6 then
              bR (refOf S b3 x2.toNat) fun b4 =>
              bR (refOf S a1 11) fun b5 =>
                if 0 ≤ x2 ∧ x2 < 6 then
                    bR (refOf S b5 x2.toNat) fun b6 =>
                    bR (refOf S a0 11) fun b7 =>
                      if 0 ≤ x2 ∧ x2 < 6 then
                          bR (refOf S b7 x2.toNat) fun b8 =>
                          Run K tb_Chart_copyFrom 168 [vR 0 0 a0, vR 0 0 a1, vI (w32 (x2 + 1))] [] S (cpy (cpy M b2 0 b4 0 8) b6 0 b8 0 6)
                        else none
                  else none
            else none
      else none
  else
    some (none, S, up M a0 12 (M a1 12)) := (Run_EE K tb_Chart_copyFrom [16, 168] 500 168 _ _ S M).trans rfl
set_option maxRecDepth 100000 in
theorem b_Plan_copyFrom_0 (K : Cal) (a0 : Nat) (a1 : Nat) (S : Sp) (M : Mm) : Run K tb_Plan_copyFrom 0 [vR 3 0 a0, vR 3 0 a1] [] S M =
  bR (refOf S a1 0) fun b1 =>
  bR (refOf S a0 0) fun b2 =>
    bR (refOf S a1 1) fun b3 =>
      bR (refOf S a0 1) fun b4 =>
        bR (refOf S a1 2) fun b5 =>
          bR (refOf S a0 2) fun b6 =>
            bR (refOf S a1 3) fun b7 =>
              bR (refOf S a0 3) fun b8 =>
                bR (refOf S a1 4) fun b9 =>
                  bR (refOf S a0 4) fun b10 =>
                    if ((up (up (cpy (cpy (cpy (cpy (cpy M b1 0 b2 0 60) b3 0 b4 0 60) b5 0 b6 0 60) b7 0 b8 0 60) b9 0 b10 0 60) a0 5 ((cpy (cpy (cpy (cpy (cpy M b1 0 b2 0 60) b3 0 b4 0 60) b5 0 b6 0 60) b7 0 b8 0 60) b9 0 b10 0 60) a1 5)) a0 6 ((up (cpy (cpy (cpy (cpy (cpy M b1 0 b2 0 60) b3 0 b4 0 60) b5 0 b6 0 60) b7 0 b8 0 60) b9 0 b10 0 60) a0 5 ((cpy (cpy (cpy (cpy (cpy M b1 0 b2 0 60) b3 0 b4 0 60) b5 0 b6 0 60) b7 0 b8 0 60) b9 0 b10 0 60) a1 5)) a1 6)) a1 7 = 0 ∨ (up (up (cpy (cpy (cpy (cpy (cpy M b1 0 b2 0 60) b3 0 b4 0 60) b5 0 b6 0 60) b7 0 b8 0 60) b9 0 b10 0 60) a0 5 ((cpy (cpy (cpy (cpy (cpy M b1 0 b2 0 60) b3 0 b4 0 60) b5 0 b6 0 60) b7 0 b8 0 60) b9 0 b10 0 60) a1 5)) a0 6 ((up (cpy (cpy (cpy (cpy (cpy M b1 0 b2 0 60) b3 0 b4 0 60) b5 0 b6 0 60) b7 0 b8 0 60) b9 0 b10 0 60) a0 5 ((cpy (cpy (cpy (cpy (cpy M b1 0 b2 0 60) b3 0 b4 0 60) b5 0 b6 0 60) b7 0 b8 0 60) b9 0 b10 0 60) a1 5)) a1 6)) a1 7 = 1) then
                        some (none, S, up (up (up (cpy (cpy (cpy (cpy (cpy M b1 0 b2 0 60) b3 0 b4 0 60) b5 0 b6 0 60) b7 0 b8 0 60) b9 0 b10 0 60) a0 5 ((cpy (cpy (cpy (cpy (cpy M b1 0 b2 0 60) b3 0 b4 0 60) b5 0 b6 0 60) b7 0 b8 0 60) b9 0 b10 0 60) a1 5)) a0 6 ((up (cpy (cpy (cpy (cpy (cpy M b1 0 b2 0 60) b3 0 b4 0 60) b5 0 b6 0 60) b7 0 b8 0 60) b9 0 b10 0 60) a0 5 ((cpy (cpy (cpy (cpy (cpy M b1 0 b2 0 60) b3 0 b4 0 60) b5 0 b6 0 60) b7 0 b8 0 60) b9 0 b10 0 60) a1 5)) a1 6)) a0 7 ((up (up (cpy (cpy (cpy (cpy (cpy M b1 0 b2 0 60) b3 0 b4 0 60) b5 0 b6 0 60) b7 0 b8 0 60) b9 0 b10 0 60) a0 5 ((cpy (cpy (cpy (cpy (cpy M b1 0 b2 0 60) b3 0 b4 0 60) b5 0 b6 0 60) b7 0 b8 0 60) b9 0 b10 0 60) a1 5)) a0 6 ((up (cpy (cpy (cpy (cpy (cpy M b1 0 b2 0 60) b3 0 b4 0 60) b5 0 b6 0 60) b7 0 b8 0 60) b9 0 b10 0 60) a0 5 ((cpy (cpy (cpy (cpy (cpy M b1 0 b2 0 60) b3 0 b4 0 60) b5 0 b6 0 60) b7 0 b8 0 60) b9 0 b10 0 60) a1 5)) a1 6)) a1 7))
                      else none := (Run_EE K tb_Plan_copyFrom [] 500 0 _ _ S M).trans rfl
set_option maxRecDepth 100000 in
theorem b_State_copyFleet_0 (K : Cal) (a0 : Nat) (a1 : Nat) (S : Sp) (M : Mm) : Run K tb_State_copyFleet 0 [vR 5 0 a0, vR 5 0 a1, vU] [] S M =
  Run K tb_State_copyFleet 2 [vR 5 0 a0, vR 5 0 a1, vI 0] [] S M := (Run_EE K tb_State_copyFleet [2] 500 0 _ _ S M).trans rfl
set_option maxRecDepth 100000 in
theorem b_State_copyFleet_2 (K : Cal) (a0 : Nat) (a1 : Nat) (x2 : Int) (S : Sp) (M : Mm) : Run K tb_State_copyFleet 2 [vR 5 0 a0, vR 5 0 a1, vI x2] [] S M =
  bR (refOf S a1 0) fun b1 =>
  bR (refOf S b1 0) fun b2 =>
    if x2 < M b2 3 then
        bR (refOf S a0 1) fun b3 =>
        if 0 ≤ x2 ∧ x2 < 4 then
            bR (refOf S b3 x2.toNat) fun b4 =>
            bR (refOf S a1 1) fun b5 =>
              if 0 ≤ x2 ∧ x2 < 4 then
                  bR (refOf S b5 x2.toNat) fun b6 =>
                  bndV (K m_Vessel_copyFrom [vR 8 0 b4, vR 8 0 b6] S M) fun S7 M7 =>
                    Run K tb_State_copyFleet 2 [vR 5 0 a0, vR 5 0 a1, vI (w32 (x2 + 1))] [] S7 M7
                else none
          else none
      else
        some (none, S, up M a0 3 (M a1 3)) := (Run_EE K tb_State_copyFleet [2] 500 2 _ _ S M).trans rfl
set_option maxRecDepth 100000 in
theorem b_Vessel_copyFrom_0 (K : Cal) (a0 : Nat) (a1 : Nat) (S : Sp) (M : Mm) : Run K tb_Vessel_copyFrom 0 [vR 8 0 a0, vR 8 0 a1] [] S M =
  bR (refOf S a1 7) fun b1 =>
  bR (refOf S a0 7) fun b2 =>
    some (none, S, cpy (up (up (up (up (up (up (up M a0 0 (M a1 0)) a0 1 ((up M a0 0 (M a1 0)) a1 1)) a0 2 ((up (up M a0 0 (M a1 0)) a0 1 ((up M a0 0 (M a1 0)) a1 1)) a1 2)) a0 3 ((up (up (up M a0 0 (M a1 0)) a0 1 ((up M a0 0 (M a1 0)) a1 1)) a0 2 ((up (up M a0 0 (M a1 0)) a0 1 ((up M a0 0 (M a1 0)) a1 1)) a1 2)) a1 3)) a0 4 ((up (up (up (up M a0 0 (M a1 0)) a0 1 ((up M a0 0 (M a1 0)) a1 1)) a0 2 ((up (up M a0 0 (M a1 0)) a0 1 ((up M a0 0 (M a1 0)) a1 1)) a1 2)) a0 3 ((up (up (up M a0 0 (M a1 0)) a0 1 ((up M a0 0 (M a1 0)) a1 1)) a0 2 ((up (up M a0 0 (M a1 0)) a0 1 ((up M a0 0 (M a1 0)) a1 1)) a1 2)) a1 3)) a1 4)) a0 5 ((up (up (up (up (up M a0 0 (M a1 0)) a0 1 ((up M a0 0 (M a1 0)) a1 1)) a0 2 ((up (up M a0 0 (M a1 0)) a0 1 ((up M a0 0 (M a1 0)) a1 1)) a1 2)) a0 3 ((up (up (up M a0 0 (M a1 0)) a0 1 ((up M a0 0 (M a1 0)) a1 1)) a0 2 ((up (up M a0 0 (M a1 0)) a0 1 ((up M a0 0 (M a1 0)) a1 1)) a1 2)) a1 3)) a0 4 ((up (up (up (up M a0 0 (M a1 0)) a0 1 ((up M a0 0 (M a1 0)) a1 1)) a0 2 ((up (up M a0 0 (M a1 0)) a0 1 ((up M a0 0 (M a1 0)) a1 1)) a1 2)) a0 3 ((up (up (up M a0 0 (M a1 0)) a0 1 ((up M a0 0 (M a1 0)) a1 1)) a0 2 ((up (up M a0 0 (M a1 0)) a0 1 ((up M a0 0 (M a1 0)) a1 1)) a1 2)) a1 3)) a1 4)) a1 5)) a0 6 ((up (up (up (up (up (up M a0 0 (M a1 0)) a0 1 ((up M a0 0 (M a1 0)) a1 1)) a0 2 ((up (up M a0 0 (M a1 0)) a0 1 ((up M a0 0 (M a1 0)) a1 1)) a1 2)) a0 3 ((up (up (up M a0 0 (M a1 0)) a0 1 ((up M a0 0 (M a1 0)) a1 1)) a0 2 ((up (up M a0 0 (M a1 0)) a0 1 ((up M a0 0 (M a1 0)) a1 1)) a1 2)) a1 3)) a0 4 ((up (up (up (up M a0 0 (M a1 0)) a0 1 ((up M a0 0 (M a1 0)) a1 1)) a0 2 ((up (up M a0 0 (M a1 0)) a0 1 ((up M a0 0 (M a1 0)) a1 1)) a1 2)) a0 3 ((up (up (up M a0 0 (M a1 0)) a0 1 ((up M a0 0 (M a1 0)) a1 1)) a0 2 ((up (up M a0 0 (M a1 0)) a0 1 ((up M a0 0 (M a1 0)) a1 1)) a1 2)) a1 3)) a1 4)) a0 5 ((up (up (up (up (up M a0 0 (M a1 0)) a0 1 ((up M a0 0 (M a1 0)) a1 1)) a0 2 ((up (up M a0 0 (M a1 0)) a0 1 ((up M a0 0 (M a1 0)) a1 1)) a1 2)) a0 3 ((up (up (up M a0 0 (M a1 0)) a0 1 ((up M a0 0 (M a1 0)) a1 1)) a0 2 ((up (up M a0 0 (M a1 0)) a0 1 ((up M a0 0 (M a1 0)) a1 1)) a1 2)) a1 3)) a0 4 ((up (up (up (up M a0 0 (M a1 0)) a0 1 ((up M a0 0 (M a1 0)) a1 1)) a0 2 ((up (up M a0 0 (M a1 0)) a0 1 ((up M a0 0 (M a1 0)) a1 1)) a1 2)) a0 3 ((up (up (up M a0 0 (M a1 0)) a0 1 ((up M a0 0 (M a1 0)) a1 1)) a0 2 ((up (up M a0 0 (M a1 0)) a0 1 ((up M a0 0 (M a1 0)) a1 1)) a1 2)) a1 3)) a1 4)) a1 5)) a1 6)) b1 0 b2 0 8) := (Run_EE K tb_Vessel_copyFrom [] 500 0 _ _ S M).trans rfl
set_option maxRecDepth 100000 in
theorem b_Ca_answer_0 (K : Cal) (a0 : Nat) (x1 : Int) (S : Sp) (M : Mm) : Run K tb_Ca_answer 0 [vR 11 0 a0, vI x1] [] S M =
  some (some (vI x1), S, up M a0 15 0) := (Run_EE K tb_Ca_answer [] 500 0 _ _ S M).trans rfl
set_option maxRecDepth 100000 in
theorem b_Ca_voyages_0 (K : Cal) (a0 : Nat) (x1 : Int) (S : Sp) (M : Mm) : Run K tb_Ca_voyages 0 [vR 11 0 a0, vI x1, vU] [] S M =
  bR (refOf S a0 1) fun b1 =>
  bndI (K m_Ca_within [vI x1, vI 0, vI (min (M b1 2) 300)] S M) fun r2 S2 M2 =>
    if r2 = 0 then
      bndI (K m_Ca_refuse [vR 11 0 a0, vI 1] S2 M2) fun r3 S3 M3 =>
      some (some (vI r3), S3, M3)
    else
      bR (refOf S2 a0 1) fun b4 =>
      bndV (K m_Tape_begin [vR 6 0 b4, vI x1] S2 M2) fun S5 M5 =>
        bR (refOf S5 a0 3) fun b6 =>
        bR (refOf S5 a0 1) fun b7 =>
          bR (refOf S5 a0 4) fun b8 =>
            bR (refOf S5 b8 0) fun b9 =>
              bR (refOf S5 a0 5) fun b10 =>
                bR (refOf S5 b10 2) fun b11 =>
                  bndI (K m_VoyageText_takes [vR 9 0 b6, vR 6 0 b7, vR 0 0 b9, vR 3 0 b11] S5 M5) fun r12 S12 M12 =>
                    bndV (K m_Ca_noteFault [vR 11 0 a0] S12 M12) fun S13 M13 =>
                    if r12 = 0 then
                      bndI (K m_Ca_refuse [vR 11 0 a0, vI 9] S13 M13) fun r14 S14 M14 =>
                      some (some (vI r14), S14, M14)
                    else
                      bR (refOf S13 a0 4) fun b15 =>
                      bR (refOf S13 b15 2) fun b16 =>
                        bR (refOf S13 a0 5) fun b17 =>
                          bR (refOf S13 b17 2) fun b18 =>
                            bndV (K m_Plan_copyFrom [vR 3 0 b16, vR 3 0 b18] S13 M13) fun S19 M19 =>
                              bR (refOf S19 a0 4) fun b20 =>
                              bR (refOf S19 b20 2) fun b21 =>
                                bndI (K m_Ca_answer [vR 11 0 a0, vI (M19 b21 6)] S19 M19) fun r22 S22 M22 =>
                                  some (some (vI r22), S22, M22) := (Run_EE K tb_Ca_voyages [] 500 0 _ _ S M).trans rfl
set_option maxRecDepth 100000 in
theorem b_VoyageText_takes_0 (K : Cal) (a0 : Nat) (a1 : Nat) (a2 : Nat) (a3 : Nat) (S : Sp) (M : Mm) : Run K tb_VoyageText_takes 0 [vR 9 0 a0, vR 6 0 a1, vR 0 0 a2, vR 3 0 a3, vU, vU, vU] [] S M =
  bndV (K m_Plan_clear [vR 3 0 a3] S M) fun S1 M1 =>
  Run K tb_VoyageText_takes 12 [vR 9 0 a0, vR 6 0 a1, vR 0 0 a2, vR 3 0 a3, vI 0, vU, vU] [] S1 (up M1 a0 1 0) := (Run_EE K tb_VoyageText_takes [12] 500 0 _ _ S M).trans rfl
set_option maxRecDepth 100000 in
theorem b_VoyageText_takes_12 (K : Cal) (a0 : Nat) (a1 : Nat) (a2 : Nat) (a3 : Nat) (x4 : Int) (d5 : AV) (d6 : AV) (S : Sp) (M : Mm) : Run K tb_VoyageText_takes 12 [vR 9 0 a0, vR 6 0 a1, vR 0 0 a2, vR 3 0 a3, vI x4, d5, d6] [] S M =
  if 300 < x4 then
    some (some (vI 0), S, M)
  else
    if M a1 7 = 0 then
      if M a0 1 = 0 then
        if (up M a3 7 1) a3 7 = 0 then
          bndI (K m_Tape_misfits [vR 6 0 a1] S (up M a3 7 1)) fun r1 S1 M1 =>
          if r1 = 0 then
            some (some (vI 0), S1, M1)
          else
            some (some (vI 1), S1, M1)
        else
          some (some (vI 1), S, up M a3 7 1)
      else
        if (up M a3 7 0) a3 7 = 0 then
          bndI (K m_Tape_misfits [vR 6 0 a1] S (up M a3 7 0)) fun r2 S2 M2 =>
          if r2 = 0 then
            some (some (vI 0), S2, M2)
          else
            some (some (vI 1), S2, M2)
        else
          some (some (vI 1), S, up M a3 7 0)
    else
      if M a1 12 = 29 then
        bndI (K m_VoyageText_takesEnd [vR 9 0 a0, vR 6 0 a1, vR 3 0 a3] S M) fun r3 S3 M3 =>
        if r3 = 0 then
          some (some (vI 0), S3, M3)
        else
          bndI (K m_Tape_takesStop [vR 6 0 a1] S3 M3) fun r4 S4 M4 =>
          if r4 = 0 then
            some (some (vI 0), S4, M4)
          else
            bndI (K m_VoyageText_isBlock [vI (M a1 12)] S4 M4) fun r5 S5 M5 =>
            if r5 = 0 then
              Run K tb_VoyageText_takes 12 [vR 9 0 a0, vR 6 0 a1, vR 0 0 a2, vR 3 0 a3, vI (w32 (x4 + 1)), vI (M a1 12), vI r3] [] S5 M5
            else
              bR (refOf S5 a0 0) fun b6 =>
              if 0 ≤ M5 a0 1 ∧ M5 a0 1 < 3 then
                  Run K tb_VoyageText_takes 12 [vR 9 0 a0, vR 6 0 a1, vR 0 0 a2, vR 3 0 a3, vI (w32 (x4 + 1)), vI (M a1 12), vI r3] [] S5 (up (up M5 b6 (M5 a0 1).toNat (w32 ((M5 a3 5) - 1))) a0 1 (w32 (((up M5 b6 (M5 a0 1).toNat (w32 ((M5 a3 5) - 1))) a0 1) + 1)))
                else none
      else
        bndI (K m_VoyageText_mayBegin [vR 9 0 a0, vR 6 0 a1, vR 3 0 a3] S M) fun r7 S7 M7 =>
        if r7 = 0 then
          some (some (vI 0), S7, M7)
        else
          bndI (K m_VoyageText_takesStep [vR 6 0 a1, vR 0 0 a2, vR 3 0 a3, vI (M a1 12)] S7 M7) fun r8 S8 M8 =>
          if r8 = 0 then
            some (some (vI 0), S8, M8)
          else
            bndI (K m_Tape_takesStop [vR 6 0 a1] S8 M8) fun r9 S9 M9 =>
            if r9 = 0 then
              some (some (vI 0), S9, M9)
            else
              bndI (K m_VoyageText_isBlock [vI (M a1 12)] S9 M9) fun r10 S10 M10 =>
              if r10 = 0 then
                Run K tb_VoyageText_takes 12 [vR 9 0 a0, vR 6 0 a1, vR 0 0 a2, vR 3 0 a3, vI (w32 (x4 + 1)), vI (M a1 12), vI 1] [] S10 M10
              else
                bR (refOf S10 a0 0) fun b11 =>
                if 0 ≤ M10 a0 1 ∧ M10 a0 1 < 3 then
                    Run K tb_VoyageText_takes 12 [vR 9 0 a0, vR 6 0 a1, vR 0 0 a2, vR 3 0 a3, vI (w32 (x4 + 1)), vI (M a1 12), vI 1] [] S10 (up (up M10 b11 (M10 a0 1).toNat (w32 ((M10 a3 5) - 1))) a0 1 (w32 (((up M10 b11 (M10 a0 1).toNat (w32 ((M10 a3 5) - 1))) a0 1) + 1)))
                  else none := (Run_EE K tb_VoyageText_takes [12] 500 12 _ _ S M).trans rfl
set_option maxRecDepth 100000 in
theorem b_VoyageText_takesEnd_0 (K : Cal) (a0 : Nat) (a1 : Nat) (a2 : Nat) (S : Sp) (M : Mm) : Run K tb_VoyageText_takesEnd 0 [vR 9 0 a0, vR 6 0 a1, vR 3 0 a2] [] S M =
  if M a0 1 = 0 then
    bndI (K m_Tape_misfits [vR 6 0 a1] S M) fun r1 S1 M1 =>
    some (some (vI (r1 % 2)), S1, M1)
  else
    bndV (K m_Tape_advance [vR 6 0 a1] S M) fun S2 M2 =>
    bR (refOf S2 a0 0) fun b3 =>
    if 0 ≤ (up M2 a0 1 (w32 ((M2 a0 1) - 1))) a0 1 ∧ (up M2 a0 1 (w32 ((M2 a0 1) - 1))) a0 1 < 3 then
        bndV (K m_Plan_addEnd [vR 3 0 a2, vI ((up M2 a0 1 (w32 ((M2 a0 1) - 1))) b3 ((up M2 a0 1 (w32 ((M2 a0 1) - 1))) a0 1).toNat)] S2 (up M2 a0 1 (w32 ((M2 a0 1) - 1)))) fun S4 M4 =>
        some (some (vI 1), S4, M4)
      else none := (Run_EE K tb_VoyageText_takesEnd [] 500 0 _ _ S M).trans rfl
set_option maxRecDepth 100000 in
theorem b_Plan_addEnd_0 (K : Cal) (a0 : Nat) (x1 : Int) (S : Sp) (M : Mm) : Run K tb_Plan_addEnd 0 [vR 3 0 a0, vI x1] [] S M =
  bR (refOf S a0 0) fun b1 =>
  if 0 ≤ M a0 5 ∧ M a0 5 < 60 then
      bR (refOf S a0 4) fun b2 =>
      if 0 ≤ (up M b1 (M a0 5).toNat 13) a0 5 ∧ (up M b1 (M a0 5).toNat 13) a0 5 < 60 then
          bR (refOf S a0 4) fun b3 =>
          if 0 ≤ x1 ∧ x1 < 60 then
              some (none, S, up (up (up (up M b1 (M a0 5).toNat 13) b2 ((up M b1 (M a0 5).toNat 13) a0 5).toNat x1) b3 x1.toNat ((up (up M b1 (M a0 5).toNat 13) b2 ((up M b1 (M a0 5).toNat 13) a0 5).toNat x1) a0 5)) a0 5 (w32 (((up (up (up M b1 (M a0 5).toNat 13) b2 ((up M b1 (M a0 5).toNat 13) a0 5).toNat x1) b3 x1.toNat ((up (up M b1 (M a0 5).toNat 13) b2 ((up M b1 (M a0 5).toNat 13) a0 5).toNat x1) a0 5)) a0 5) + 1)))
            else none
        else none
    else none := (Run_EE K tb_Plan_addEnd [] 500 0 _ _ S M).trans rfl
set_option maxRecDepth 100000 in
theorem b_VoyageText_mayBegin_0 (K : Cal) (a0 : Nat) (a1 : Nat) (a2 : Nat) (S : Sp) (M : Mm) : Run K tb_VoyageText_mayBegin 0 [vR 9 0 a0, vR 6 0 a1, vR 3 0 a2] [] S M =
  bndI (K m_Ca_within [vI (M a1 12), vI 19, vI 25] S M) fun r1 S1 M1 =>
  if r1 = 0 then
    if M1 a1 12 = 28 then
      if M1 a2 6 < 30 then
        bndI (K m_VoyageText_isBlock [vI (M1 a1 12)] S1 M1) fun r2 S2 M2 =>
        if r2 = 0 then
          some (some (vI 1), S2, M2)
        else
          if M2 a0 1 < 3 then
            some (some (vI 1), S2, M2)
          else
            bndI (K m_Tape_fails [vR 6 0 a1, vI 7] S2 M2) fun r3 S3 M3 =>
            if r3 = 0 then
              some (some (vI 0), S3, M3)
            else
              some (some (vI 1), S3, M3)
      else
        bndI (K m_Tape_fails [vR 6 0 a1, vI 6] S1 M1) fun r4 S4 M4 =>
        some (some (vI (r4 % 2)), S4, M4)
    else
      if M1 a1 12 = 30 then
        if M1 a2 6 < 30 then
          bndI (K m_VoyageText_isBlock [vI (M1 a1 12)] S1 M1) fun r5 S5 M5 =>
          if r5 = 0 then
            some (some (vI 1), S5, M5)
          else
            if M5 a0 1 < 3 then
              some (some (vI 1), S5, M5)
            else
              bndI (K m_Tape_fails [vR 6 0 a1, vI 7] S5 M5) fun r6 S6 M6 =>
              if r6 = 0 then
                some (some (vI 0), S6, M6)
              else
                some (some (vI 1), S6, M6)
        else
          bndI (K m_Tape_fails [vR 6 0 a1, vI 6] S1 M1) fun r7 S7 M7 =>
          some (some (vI (r7 % 2)), S7, M7)
      else
        bndI (K m_Tape_misfits [vR 6 0 a1] S1 M1) fun r8 S8 M8 =>
        some (some (vI (r8 % 2)), S8, M8)
  else
    if M1 a2 6 < 30 then
      bndI (K m_VoyageText_isBlock [vI (M1 a1 12)] S1 M1) fun r9 S9 M9 =>
      if r9 = 0 then
        some (some (vI 1), S9, M9)
      else
        if M9 a0 1 < 3 then
          some (some (vI 1), S9, M9)
        else
          bndI (K m_Tape_fails [vR 6 0 a1, vI 7] S9 M9) fun r10 S10 M10 =>
          if r10 = 0 then
            some (some (vI 0), S10, M10)
          else
            some (some (vI 1), S10, M10)
    else
      bndI (K m_Tape_fails [vR 6 0 a1, vI 6] S1 M1) fun r11 S11 M11 =>
      some (some (vI (r11 % 2)), S11, M11) := (Run_EE K tb_VoyageText_mayBegin [] 500 0 _ _ S M).trans rfl
set_option maxRecDepth 100000 in
theorem b_VoyageText_isBlock_0 (K : Cal) (x0 : Int) (S : Sp) (M : Mm) : Run K tb_VoyageText_isBlock 0 [vI x0] [] S M =
  if x0 = 25 then
    some (some (vI 1), S, M)
  else
    if x0 = 28 then
      some (some (vI 1), S, M)
    else
      some (some (vI 0), S, M) := (Run_EE K tb_VoyageText_isBlock [] 500 0 _ _ S M).trans rfl
set_option maxRecDepth 100000 in
theorem b_VoyageText_takesStep_0 (K : Cal) (a0 : Nat) (a1 : Nat) (a2 : Nat) (x3 : Int) (S : Sp) (M : Mm) : Run K tb_VoyageText_takesStep 0 [vR 6 0 a0, vR 0 0 a1, vR 3 0 a2, vI x3] [] S M =
  bndV (K m_Tape_advance [vR 6 0 a0] S M) fun S1 M1 =>
  if x3 = 19 then
    bndI (K m_VoyageText_takesCount [vR 6 0 a0, vR 3 0 a2, vI 0, vI 20] S1 M1) fun r2 S2 M2 =>
    some (some (vI (r2 % 2)), S2, M2)
  else if x3 = 20 then
    bndI (K m_VoyageText_takesLading [vR 6 0 a0, vR 0 0 a1, vR 3 0 a2, vI 1] S1 M1) fun r3 S3 M3 =>
    some (some (vI (r3 % 2)), S3, M3)
  else if x3 = 21 then
    bndI (K m_VoyageText_takesLading [vR 6 0 a0, vR 0 0 a1, vR 3 0 a2, vI 2] S1 M1) fun r4 S4 M4 =>
    some (some (vI (r4 % 2)), S4, M4)
  else if x3 = 22 then
    bndI (K m_VoyageText_takesLading [vR 6 0 a0, vR 0 0 a1, vR 3 0 a2, vI 3] S1 M1) fun r5 S5 M5 =>
    some (some (vI (r5 % 2)), S5, M5)
  else if x3 = 23 then
    bndI (K m_VoyageText_takesPair [vR 6 0 a0, vR 0 0 a1, vR 3 0 a2, vI 4, vI 2] S1 M1) fun r6 S6 M6 =>
    some (some (vI (r6 % 2)), S6, M6)
  else if x3 = 24 then
    bndI (K m_VoyageText_takesAny [vR 6 0 a0, vR 0 0 a1, vR 3 0 a2] S1 M1) fun r7 S7 M7 =>
    some (some (vI (r7 % 2)), S7, M7)
  else if x3 = 25 then
    bndI (K m_VoyageText_takesTest [vR 6 0 a0, vR 0 0 a1, vR 3 0 a2] S1 M1) fun r8 S8 M8 =>
    some (some (vI (r8 % 2)), S8, M8)
  else if x3 = 26 then
    bndI (K m_VoyageText_takesNothing [vR 3 0 a2] S1 M1) fun r9 S9 M9 =>
    some (some (vI (r9 % 2)), S9, M9)
  else if x3 = 27 then
    bndI (K m_VoyageText_takesNothing [vR 3 0 a2] S1 M1) fun r10 S10 M10 =>
    some (some (vI (r10 % 2)), S10, M10)
  else if x3 = 28 then
    bndI (K m_VoyageText_takesCount [vR 6 0 a0, vR 3 0 a2, vI 11, vI 99] S1 M1) fun r11 S11 M11 =>
    some (some (vI (r11 % 2)), S11, M11)
  else bndI (K m_VoyageText_takesNothing [vR 3 0 a2] S1 M1) fun r12 S12 M12 =>
    some (some (vI (r12 % 2)), S12, M12) := (Run_EE K tb_VoyageText_takesStep [] 500 0 _ _ S M).trans rfl
set_option maxRecDepth 100000 in
theorem b_VoyageText_takesCount_0 (K : Cal) (a0 : Nat) (a1 : Nat) (x2 : Int) (x3 : Int) (S : Sp) (M : Mm) : Run K tb_VoyageText_takesCount 0 [vR 6 0 a0, vR 3 0 a1, vI x2, vI x3, vU] [] S M =
  bndI (K m_Tape_takeNumber [vR 6 0 a0, vI 1, vI x3] S M) fun r1 S1 M1 =>
  if r1 = (-1) then
    some (some (vI 0), S1, M1)
  else
    bndI (K m_Plan_addStep [vR 3 0 a1, vI x2, vI 0, vI 0, vI r1] S1 M1) fun r2 S2 M2 =>
    some (some (vI 1), S2, M2) := (Run_EE K tb_VoyageText_takesCount [] 500 0 _ _ S M).trans rfl
set_option maxRecDepth 100000 in
theorem b_Plan_addStep_0 (K : Cal) (a0 : Nat) (x1 : Int) (x2 : Int) (x3 : Int) (x4 : Int) (S : Sp) (M : Mm) : Run K tb_Plan_addStep 0 [vR 3 0 a0, vI x1, vI x2, vI x3, vI x4, vU] [] S M =
  bR (refOf S a0 0) fun b1 =>
  if 0 ≤ M a0 5 ∧ M a0 5 < 60 then
      bR (refOf S a0 1) fun b2 =>
      if 0 ≤ M a0 5 ∧ M a0 5 < 60 then
          bR (refOf S a0 2) fun b3 =>
          if 0 ≤ M a0 5 ∧ M a0 5 < 60 then
              bR (refOf S a0 3) fun b4 =>
              if 0 ≤ M a0 5 ∧ M a0 5 < 60 then
                  bR (refOf S a0 4) fun b5 =>
                  if 0 ≤ M a0 5 ∧ M a0 5 < 60 then
                      some (some (vI (M a0 5)), S, up (up (up (up (up (up (up M b1 (M a0 5).toNat x1) b2 (M a0 5).toNat x2) b3 (M a0 5).toNat x3) b4 (M a0 5).toNat x4) b5 (M a0 5).toNat (M a0 5)) a0 5 (w32 (((up (up (up (up (up M b1 (M a0 5).toNat x1) b2 (M a0 5).toNat x2) b3 (M a0 5).toNat x3) b4 (M a0 5).toNat x4) b5 (M a0 5).toNat (M a0 5)) a0 5) + 1))) a0 6 (w32 (((up (up (up (up (up (up M b1 (M a0 5).toNat x1) b2 (M a0 5).toNat x2) b3 (M a0 5).toNat x3) b4 (M a0 5).toNat x4) b5 (M a0 5).toNat (M a0 5)) a0 5 (w32 (((up (up (up (up (up M b1 (M a0 5).toNat x1) b2 (M a0 5).toNat x2) b3 (M a0 5).toNat x3) b4 (M a0 5).toNat x4) b5 (M a0 5).toNat (M a0 5)) a0 5) + 1))) a0 6) + 1)))
                    else none
                else none
            else none
        else none
    else none := (Run_EE K tb_Plan_addStep [] 500 0 _ _ S M).trans rfl
set_option maxRecDepth 100000 in
theorem b_VoyageText_takesLading_0 (K : Cal) (a0 : Nat) (a1 : Nat) (a2 : Nat) (x3 : Int) (S : Sp) (M : Mm) : Run K tb_VoyageText_takesLading 0 [vR 6 0 a0, vR 0 0 a1, vR 3 0 a2, vI x3, vU, vU, vU] [] S M =
  bndI (K m_Tape_takeThing [vR 6 0 a0, vR 0 0 a1, vI 3, vI (-1)] S M) fun r1 S1 M1 =>
  if r1 = (-1) then
    some (some (vI 0), S1, M1)
  else
    bndI (K m_Tape_takeThing [vR 6 0 a0, vR 0 0 a1, vI 1, vI (-1)] S1 M1) fun r2 S2 M2 =>
    if r2 = (-1) then
      some (some (vI 0), S2, M2)
    else
      bndI (K m_Tape_takeNumber [vR 6 0 a0, vI 1, vI 60] S2 M2) fun r3 S3 M3 =>
      if r3 = (-1) then
        some (some (vI 0), S3, M3)
      else
        bndI (K m_Plan_addStep [vR 3 0 a2, vI x3, vI r1, vI r2, vI r3] S3 M3) fun r4 S4 M4 =>
        some (some (vI 1), S4, M4) := (Run_EE K tb_VoyageText_takesLading [] 500 0 _ _ S M).trans rfl
set_option maxRecDepth 100000 in
theorem b_VoyageText_takesPair_0 (K : Cal) (a0 : Nat) (a1 : Nat) (a2 : Nat) (x3 : Int) (x4 : Int) (S : Sp) (M : Mm) : Run K tb_VoyageText_takesPair 0 [vR 6 0 a0, vR 0 0 a1, vR 3 0 a2, vI x3, vI x4, vU, vU] [] S M =
  bndI (K m_Tape_takeThing [vR 6 0 a0, vR 0 0 a1, vI 3, vI (-1)] S M) fun r1 S1 M1 =>
  if r1 = (-1) then
    some (some (vI 0), S1, M1)
  else
    bndI (K m_Tape_takeThing [vR 6 0 a0, vR 0 0 a1, vI x4, vI (-1)] S1 M1) fun r2 S2 M2 =>
    if r2 = (-1) then
      some (some (vI 0), S2, M2)
    else
      bndI (K m_Plan_addStep [vR 3 0 a2, vI x3, vI r1, vI r2, vI 0] S2 M2) fun r3 S3 M3 =>
      some (some (vI 1), S3, M3) := (Run_EE K tb_VoyageText_takesPair [] 500 0 _ _ S M).trans rfl
set_option maxRecDepth 100000 in
theorem b_VoyageText_takesAny_0 (K : Cal) (a0 : Nat) (a1 : Nat) (a2 : Nat) (S : Sp) (M : Mm) : Run K tb_VoyageText_takesAny 0 [vR 6 0 a0, vR 0 0 a1, vR 3 0 a2, vU] [] S M =
  bndI (K m_Tape_takeThing [vR 6 0 a0, vR 0 0 a1, vI 3, vI (-1)] S M) fun r1 S1 M1 =>
  if r1 = (-1) then
    some (some (vI 0), S1, M1)
  else
    bndI (K m_Plan_addStep [vR 3 0 a2, vI 5, vI r1, vI 0, vI 0] S1 M1) fun r2 S2 M2 =>
    some (some (vI 1), S2, M2) := (Run_EE K tb_VoyageText_takesAny [] 500 0 _ _ S M).trans rfl
set_option maxRecDepth 100000 in
theorem b_VoyageText_takesTest_0 (K : Cal) (a0 : Nat) (a1 : Nat) (a2 : Nat) (S : Sp) (M : Mm) : Run K tb_VoyageText_takesTest 0 [vR 6 0 a0, vR 0 0 a1, vR 3 0 a2, vU] [] S M =
  if M a0 12 = 26 then
    bndV (K m_Tape_advance [vR 6 0 a0] S M) fun S1 M1 =>
    if M a0 12 = 26 then
      bndI (K m_VoyageText_takesPair [vR 6 0 a0, vR 0 0 a1, vR 3 0 a2, vI 6, vI 0] S1 M1) fun r2 S2 M2 =>
      some (some (vI (r2 % 2)), S2, M2)
    else
      if M a0 12 = 27 then
        bndI (K m_VoyageText_takesPair [vR 6 0 a0, vR 0 0 a1, vR 3 0 a2, vI 7, vI 2] S1 M1) fun r3 S3 M3 =>
        some (some (vI (r3 % 2)), S3, M3)
      else
        bndI (K m_VoyageText_takesCoins [vR 6 0 a0, vR 0 0 a1, vR 3 0 a2] S1 M1) fun r4 S4 M4 =>
        some (some (vI (r4 % 2)), S4, M4)
  else
    if M a0 12 = 27 then
      bndV (K m_Tape_advance [vR 6 0 a0] S M) fun S5 M5 =>
      if M a0 12 = 26 then
        bndI (K m_VoyageText_takesPair [vR 6 0 a0, vR 0 0 a1, vR 3 0 a2, vI 6, vI 0] S5 M5) fun r6 S6 M6 =>
        some (some (vI (r6 % 2)), S6, M6)
      else
        if M a0 12 = 27 then
          bndI (K m_VoyageText_takesPair [vR 6 0 a0, vR 0 0 a1, vR 3 0 a2, vI 7, vI 2] S5 M5) fun r7 S7 M7 =>
          some (some (vI (r7 % 2)), S7, M7)
        else
          bndI (K m_VoyageText_takesCoins [vR 6 0 a0, vR 0 0 a1, vR 3 0 a2] S5 M5) fun r8 S8 M8 =>
          some (some (vI (r8 % 2)), S8, M8)
    else
      if M a0 12 = 16 then
        bndV (K m_Tape_advance [vR 6 0 a0] S M) fun S9 M9 =>
        if M a0 12 = 26 then
          bndI (K m_VoyageText_takesPair [vR 6 0 a0, vR 0 0 a1, vR 3 0 a2, vI 6, vI 0] S9 M9) fun r10 S10 M10 =>
          some (some (vI (r10 % 2)), S10, M10)
        else
          if M a0 12 = 27 then
            bndI (K m_VoyageText_takesPair [vR 6 0 a0, vR 0 0 a1, vR 3 0 a2, vI 7, vI 2] S9 M9) fun r11 S11 M11 =>
            some (some (vI (r11 % 2)), S11, M11)
          else
            bndI (K m_VoyageText_takesCoins [vR 6 0 a0, vR 0 0 a1, vR 3 0 a2] S9 M9) fun r12 S12 M12 =>
            some (some (vI (r12 % 2)), S12, M12)
      else
        bndI (K m_Tape_misfits [vR 6 0 a0] S M) fun r13 S13 M13 =>
        some (some (vI (r13 % 2)), S13, M13) := (Run_EE K tb_VoyageText_takesTest [] 500 0 _ _ S M).trans rfl
set_option maxRecDepth 100000 in
theorem b_VoyageText_takesCoins_0 (K : Cal) (a0 : Nat) (a1 : Nat) (a2 : Nat) (S : Sp) (M : Mm) : Run K tb_VoyageText_takesCoins 0 [vR 6 0 a0, vR 0 0 a1, vR 3 0 a2, vU, vU, vU] [] S M =
  bndI (K m_Tape_takeThing [vR 6 0 a0, vR 0 0 a1, vI 3, vI (-1)] S M) fun r1 S1 M1 =>
  if r1 = (-1) then
    some (some (vI 0), S1, M1)
  else
    bndI (K m_Tape_isSign [vR 6 0 a0, vI 60] S1 M1) fun r2 S2 M2 =>
    if r2 = 0 then
      bndI (K m_Tape_isSign [vR 6 0 a0, vI 62] S2 M2) fun r3 S3 M3 =>
      if r3 = 0 then
        bndI (K m_Tape_isSign [vR 6 0 a0, vI 61] S3 M3) fun r4 S4 M4 =>
        if r4 = 0 then
          bndI (K m_Tape_misfits [vR 6 0 a0] S4 M4) fun r5 S5 M5 =>
          some (some (vI (r5 % 2)), S5, M5)
        else
          bndV (K m_Tape_advance [vR 6 0 a0] S4 M4) fun S6 M6 =>
          bndI (K m_Tape_takeNumber [vR 6 0 a0, vI 0, vI 9999] S6 M6) fun r7 S7 M7 =>
          if r7 = (-1) then
            some (some (vI 0), S7, M7)
          else
            bndI (K m_Plan_addStep [vR 3 0 a2, vI 10, vI r1, vI 0, vI r7] S7 M7) fun r8 S8 M8 =>
            some (some (vI 1), S8, M8)
      else
        bndV (K m_Tape_advance [vR 6 0 a0] S3 M3) fun S9 M9 =>
        bndI (K m_Tape_takeNumber [vR 6 0 a0, vI 0, vI 9999] S9 M9) fun r10 S10 M10 =>
        if r10 = (-1) then
          some (some (vI 0), S10, M10)
        else
          bndI (K m_Plan_addStep [vR 3 0 a2, vI 9, vI r1, vI 0, vI r10] S10 M10) fun r11 S11 M11 =>
          some (some (vI 1), S11, M11)
    else
      bndV (K m_Tape_advance [vR 6 0 a0] S2 M2) fun S12 M12 =>
      bndI (K m_Tape_takeNumber [vR 6 0 a0, vI 0, vI 9999] S12 M12) fun r13 S13 M13 =>
      if r13 = (-1) then
        some (some (vI 0), S13, M13)
      else
        bndI (K m_Plan_addStep [vR 3 0 a2, vI 8, vI r1, vI 0, vI r13] S13 M13) fun r14 S14 M14 =>
        some (some (vI 1), S14, M14) := (Run_EE K tb_VoyageText_takesCoins [] 500 0 _ _ S M).trans rfl
set_option maxRecDepth 100000 in
theorem b_VoyageText_takesNothing_0 (K : Cal) (a0 : Nat) (S : Sp) (M : Mm) : Run K tb_VoyageText_takesNothing 0 [vR 3 0 a0] [] S M =
  bndI (K m_Plan_addStep [vR 3 0 a0, vI 12, vI 0, vI 0, vI 0] S M) fun r1 S1 M1 =>
  some (some (vI 1), S1, M1) := (Run_EE K tb_VoyageText_takesNothing [] 500 0 _ _ S M).trans rfl
set_option maxRecDepth 100000 in
theorem b_Ca_fault_0 (K : Cal) (a0 : Nat) (x1 : Int) (S : Sp) (M : Mm) : Run K tb_Ca_fault 0 [vR 11 0 a0, vI x1] [] S M =
  if x1 = 0 then
    some (some (vI (M a0 13)), S, M)
  else
    if x1 = 1 then
      some (some (vI (M a0 14)), S, M)
    else
      some (some (vI (-1)), S, M) := (Run_EE K tb_Ca_fault [] 500 0 _ _ S M).trans rfl
set_option maxRecDepth 100000 in
theorem b_Ca_told_0 (K : Cal) (a0 : Nat) (x1 : Int) (S : Sp) (M : Mm) : Run K tb_Ca_told 0 [vR 11 0 a0, vI x1] [] S M =
  bndI (K m_Ca_within [vI x1, vI 0, vI 3] S M) fun r1 S1 M1 =>
  if r1 = 0 then
    if x1 = 4 then
      bR (refOf S1 a0 4) fun b2 =>
      bR (refOf S1 b2 0) fun b3 =>
        bndI (K m_Ca_answer [vR 11 0 a0, vI (M1 b3 12)] S1 M1) fun r4 S4 M4 =>
          some (some (vI r4), S4, M4)
    else if x1 = 5 then
      bR (refOf S1 a0 4) fun b5 =>
      bndI (K m_Ca_answer [vR 11 0 a0, vI (M1 b5 3)] S1 M1) fun r6 S6 M6 =>
        some (some (vI r6), S6, M6)
    else if x1 = 6 then
      bR (refOf S1 a0 4) fun b7 =>
      bndI (K m_State_atSea [vR 5 0 b7] S1 M1) fun r8 S8 M8 =>
        bndI (K m_Ca_answer [vR 11 0 a0, vI r8] S8 M8) fun r9 S9 M9 =>
        some (some (vI r9), S9, M9)
    else if x1 = 7 then
      bR (refOf S1 a0 4) fun b10 =>
      bndI (K m_State_lawless [vR 5 0 b10] S1 M1) fun r11 S11 M11 =>
        bndI (K m_Ca_answer [vR 11 0 a0, vI r11] S11 M11) fun r12 S12 M12 =>
        some (some (vI r12), S12, M12)
    else if x1 = 8 then
      bR (refOf S1 a0 4) fun b13 =>
      bndI (K m_State_allTons [vR 5 0 b13] S1 M1) fun r14 S14 M14 =>
        bndI (K m_Ca_answer [vR 11 0 a0, vI r14] S14 M14) fun r15 S15 M15 =>
        some (some (vI r15), S15, M15)
    else if x1 = 9 then
      bR (refOf S1 a0 4) fun b16 =>
      bndI (K m_State_allCoins [vR 5 0 b16] S1 M1) fun r17 S17 M17 =>
        bndI (K m_Ca_answer [vR 11 0 a0, vI r17] S17 M17) fun r18 S18 M18 =>
        some (some (vI r18), S18, M18)
    else bndI (K m_Ca_refuse [vR 11 0 a0, vI 1] S1 M1) fun r19 S19 M19 =>
      some (some (vI r19), S19, M19)
  else
    bR (refOf S1 a0 4) fun b20 =>
    bR (refOf S1 b20 0) fun b21 =>
      bR (refOf S1 b21 0) fun b22 =>
        if 0 ≤ x1 ∧ x1 < 4 then
            bndI (K m_Ca_answer [vR 11 0 a0, vI (M1 b22 x1.toNat)] S1 M1) fun r23 S23 M23 =>
            some (some (vI r23), S23, M23)
          else none := (Run_EE K tb_Ca_told [] 500 0 _ _ S M).trans rfl
set_option maxRecDepth 100000 in
theorem b_State_atSea_0 (K : Cal) (a0 : Nat) (S : Sp) (M : Mm) : Run K tb_State_atSea 0 [vR 5 0 a0, vU, vU] [] S M =
  Run K tb_State_atSea 4 [vR 5 0 a0, vI 0, vI 0] [] S M := (Run_EE K tb_State_atSea [4] 500 0 _ _ S M).trans rfl
set_option maxRecDepth 100000 in
theorem b_State_atSea_4 (K : Cal) (a0 : Nat) (x1 : Int) (x2 : Int) (S : Sp) (M : Mm) : Run K tb_State_atSea 4 [vR 5 0 a0, vI x1, vI x2] [] S M =
  bR (refOf S a0 0) fun b1 =>
  bR (refOf S b1 0) fun b2 =>
    if x2 < M b2 3 then
        bR (refOf S a0 1) fun b3 =>
        if 0 ≤ x2 ∧ x2 < 4 then
            bR (refOf S b3 x2.toNat) fun b4 =>
            if M b4 0 = (-1) then
                Run K tb_State_atSea 4 [vR 5 0 a0, vI (or32 x1 (shl32 1 x2)), vI (w32 (x2 + 1))] [] S M
              else
                Run K tb_State_atSea 4 [vR 5 0 a0, vI x1, vI (w32 (x2 + 1))] [] S M
          else none
      else
        some (some (vI x1), S, M) := (Run_EE K tb_State_atSea [4] 500 4 _ _ S M).trans rfl
set_option maxRecDepth 100000 in
theorem b_State_lawless_0 (K : Cal) (a0 : Nat) (S : Sp) (M : Mm) : Run K tb_State_lawless 0 [vR 5 0 a0, vU, vU] [] S M =
  Run K tb_State_lawless 4 [vR 5 0 a0, vI 0, vI 0] [] S M := (Run_EE K tb_State_lawless [4] 500 0 _ _ S M).trans rfl
set_option maxRecDepth 100000 in
theorem b_State_lawless_4 (K : Cal) (a0 : Nat) (x1 : Int) (x2 : Int) (S : Sp) (M : Mm) : Run K tb_State_lawless 4 [vR 5 0 a0, vI x1, vI x2] [] S M =
  bR (refOf S a0 0) fun b1 =>
  bR (refOf S b1 0) fun b2 =>
    if x2 < M b2 3 then
        bR (refOf S a0 0) fun b3 =>
        bR (refOf S a0 1) fun b4 =>
          if 0 ≤ x2 ∧ x2 < 4 then
              bR (refOf S b4 x2.toNat) fun b5 =>
              bR (refOf S b5 7) fun b6 =>
                bR (refOf S a0 0) fun b7 =>
                  bndI (K m_Chart_ruler [vR 0 0 b3, vR 20 8 b6, vI (M b7 12)] S M) fun r8 S8 M8 =>
                    if r8 = (-1) then
                      Run K tb_State_lawless 4 [vR 5 0 a0, vI (or32 x1 (shl32 1 x2)), vI (w32 (x2 + 1))] [] S8 M8
                    else
                      Run K tb_State_lawless 4 [vR 5 0 a0, vI x1, vI (w32 (x2 + 1))] [] S8 M8
            else none
      else
        some (some (vI x1), S, M) := (Run_EE K tb_State_lawless [4] 500 4 _ _ S M).trans rfl
set_option maxRecDepth 100000 in
theorem b_Chart_ruler_0 (K : Cal) (a0 : Nat) (a1 : Nat) (x2 : Int) (S : Sp) (M : Mm) : Run K tb_Chart_ruler 0 [vR 0 0 a0, vR 20 8 a1, vI x2, vU, vU, vU] [] S M =
  bndV (K m_Chart_weigh [vR 0 0 a0, vR 20 8 a1, vI x2] S M) fun S1 M1 =>
  Run K tb_Chart_ruler 14 [vR 0 0 a0, vR 20 8 a1, vI x2, vI 0, vI (-1), vI 0] [] S1 M1 := (Run_EE K tb_Chart_ruler [14] 500 0 _ _ S M).trans rfl
set_option maxRecDepth 100000 in
theorem b_Chart_ruler_14 (K : Cal) (a0 : Nat) (a1 : Nat) (x2 : Int) (x3 : Int) (x4 : Int) (x5 : Int) (S : Sp) (M : Mm) : Run K tb_Chart_ruler 14 [vR 0 0 a0, vR 20 8 a1, vI x2, vI x3, vI x4, vI x5] [] S M =
  bR (refOf S a0 0) fun b1 =>
  if x5 < M b1 0 then
      bR (refOf S a0 13) fun b2 =>
      if 0 ≤ x5 ∧ x5 < 6 then
          if x3 < M b2 x5.toNat then
            bR (refOf S a0 13) fun b3 =>
            if 0 ≤ x5 ∧ x5 < 6 then
                Run K tb_Chart_ruler 14 [vR 0 0 a0, vR 20 8 a1, vI x2, vI (M b3 x5.toNat), vI x5, vI (w32 (x5 + 1))] [] S M
              else none
          else
            bR (refOf S a0 13) fun b4 =>
            if 0 ≤ x5 ∧ x5 < 6 then
                if M b4 x5.toNat = x3 then
                  Run K tb_Chart_ruler 14 [vR 0 0 a0, vR 20 8 a1, vI x2, vI x3, vI (-1), vI (w32 (x5 + 1))] [] S M
                else
                  Run K tb_Chart_ruler 14 [vR 0 0 a0, vR 20 8 a1, vI x2, vI x3, vI x4, vI (w32 (x5 + 1))] [] S M
              else none
        else none
    else
      some (some (vI x4), S, M) := (Run_EE K tb_Chart_ruler [14] 500 14 _ _ S M).trans rfl
set_option maxRecDepth 100000 in
theorem b_Chart_weigh_0 (K : Cal) (a0 : Nat) (a1 : Nat) (x2 : Int) (S : Sp) (M : Mm) : Run K tb_Chart_weigh 0 [vR 0 0 a0, vR 20 8 a1, vI x2, vU] [] S M =
  Run K tb_Chart_weigh 2 [vR 0 0 a0, vR 20 8 a1, vI x2, vI 0] [] S M := (Run_EE K tb_Chart_weigh [2, 27] 500 0 _ _ S M).trans rfl
set_option maxRecDepth 100000 in
theorem b_Chart_weigh_2 (K : Cal) (a0 : Nat) (a1 : Nat) (x2 : Int) (x3 : Int) (S : Sp) (M : Mm) : Run K tb_Chart_weigh 2 [vR 0 0 a0, vR 20 8 a1, vI x2, vI x3] [] S M =
  bR (refOf S a0 0) fun b1 =>
  if x3 < M b1 0 then
      bR (refOf S a0 13) fun b2 =>
      if 0 ≤ x3 ∧ x3 < 6 then
          Run K tb_Chart_weigh 2 [vR 0 0 a0, vR 20 8 a1, vI x2, vI (w32 (x3 + 1))] [] S (up M b2 x3.toNat 0)
        else none
    else
      Run K tb_Chart_weigh 27 [vR 0 0 a0, vR 20 8 a1, vI x2, vI 0] [] S M := (Run_EE K tb_Chart_weigh [2, 27] 500 2 _ _ S M).trans rfl
set_option maxRecDepth 100000 in
theorem b_Chart_weigh_27 (K : Cal) (a0 : Nat) (a1 : Nat) (x2 : Int) (x3 : Int) (S : Sp) (M : Mm) : Run K tb_Chart_weigh 27 [vR 0 0 a0, vR 20 8 a1, vI x2, vI x3] [] S M =
  bR (refOf S a0 0) fun b1 =>
  if x3 < M b1 1 then
      if 0 ≤ x3 ∧ x3 < 8 then
        if 0 < M a1 x3.toNat then
          bR (refOf S a0 13) fun b2 =>
          bR (refOf S a0 6) fun b3 =>
            if 0 ≤ x3 ∧ x3 < 8 then
                if 0 ≤ M b3 x3.toNat ∧ M b3 x3.toNat < 6 then
                  if x2 = 0 then
                    if 0 ≤ x3 ∧ x3 < 8 then
                      if 0 ≤ M b3 x3.toNat ∧ M b3 x3.toNat < 6 then
                        Run K tb_Chart_weigh 27 [vR 0 0 a0, vR 20 8 a1, vI x2, vI (w32 (x3 + 1))] [] S (up M b2 (M b3 x3.toNat).toNat (w32 ((M b2 (M b3 x3.toNat).toNat) + (M a1 x3.toNat))))
                      else none
                    else none
                  else
                    if x2 = 1 then
                      if 0 ≤ M b3 x3.toNat ∧ M b3 x3.toNat < 6 then
                        Run K tb_Chart_weigh 27 [vR 0 0 a0, vR 20 8 a1, vI x2, vI (w32 (x3 + 1))] [] S (up M b2 (M b3 x3.toNat).toNat (w32 ((M b2 (M b3 x3.toNat).toNat) + 1)))
                      else none
                    else
                      if 0 ≤ x3 ∧ x3 < 8 then
                        bR (refOf S a0 7) fun b4 =>
                        if 0 ≤ x3 ∧ x3 < 8 then
                            if 0 ≤ M b3 x3.toNat ∧ M b3 x3.toNat < 6 then
                              Run K tb_Chart_weigh 27 [vR 0 0 a0, vR 20 8 a1, vI x2, vI (w32 (x3 + 1))] [] S (up M b2 (M b3 x3.toNat).toNat (w32 ((M b2 (M b3 x3.toNat).toNat) + (w32 ((M a1 x3.toNat) * (M b4 x3.toNat))))))
                            else none
                          else none
                      else none
                else none
              else none
        else
          Run K tb_Chart_weigh 27 [vR 0 0 a0, vR 20 8 a1, vI x2, vI (w32 (x3 + 1))] [] S M
      else none
    else
      some (none, S, M) := (Run_EE K tb_Chart_weigh [2, 27] 500 27 _ _ S M).trans rfl
set_option maxRecDepth 100000 in
theorem b_State_allTons_0 (K : Cal) (a0 : Nat) (S : Sp) (M : Mm) : Run K tb_State_allTons 0 [vR 5 0 a0, vU, vU] [] S M =
  Run K tb_State_allTons 4 [vR 5 0 a0, vI 0, vI 0] [] S M := (Run_EE K tb_State_allTons [4] 500 0 _ _ S M).trans rfl
set_option maxRecDepth 100000 in
theorem b_State_allTons_4 (K : Cal) (a0 : Nat) (x1 : Int) (x2 : Int) (S : Sp) (M : Mm) : Run K tb_State_allTons 4 [vR 5 0 a0, vI x1, vI x2] [] S M =
  bR (refOf S a0 0) fun b1 =>
  bR (refOf S b1 0) fun b2 =>
    if x2 < M b2 3 then
        bR (refOf S a0 1) fun b3 =>
        if 0 ≤ x2 ∧ x2 < 4 then
            bR (refOf S b3 x2.toNat) fun b4 =>
            bndI (K m_Vessel_load [vR 8 0 b4] S M) fun r5 S5 M5 =>
              Run K tb_State_allTons 4 [vR 5 0 a0, vI (w32 (x1 + r5)), vI (w32 (x2 + 1))] [] S5 M5
          else none
      else
        some (some (vI x1), S, M) := (Run_EE K tb_State_allTons [4] 500 4 _ _ S M).trans rfl
set_option maxRecDepth 100000 in
theorem b_State_allCoins_0 (K : Cal) (a0 : Nat) (S : Sp) (M : Mm) : Run K tb_State_allCoins 0 [vR 5 0 a0, vU, vU] [] S M =
  Run K tb_State_allCoins 4 [vR 5 0 a0, vI 0, vI 0] [] S M := (Run_EE K tb_State_allCoins [4] 500 0 _ _ S M).trans rfl
set_option maxRecDepth 100000 in
theorem b_State_allCoins_4 (K : Cal) (a0 : Nat) (x1 : Int) (x2 : Int) (S : Sp) (M : Mm) : Run K tb_State_allCoins 4 [vR 5 0 a0, vI x1, vI x2] [] S M =
  bR (refOf S a0 0) fun b1 =>
  bR (refOf S b1 0) fun b2 =>
    if x2 < M b2 3 then
        bR (refOf S a0 1) fun b3 =>
        if 0 ≤ x2 ∧ x2 < 4 then
            bR (refOf S b3 x2.toNat) fun b4 =>
            Run K tb_State_allCoins 4 [vR 5 0 a0, vI (w32 (x1 + (M b4 4))), vI (w32 (x2 + 1))] [] S M
          else none
      else
        some (some (vI x1), S, M) := (Run_EE K tb_State_allCoins [4] 500 4 _ _ S M).trans rfl
set_option maxRecDepth 100000 in
theorem b_Ca_nation_0 (K : Cal) (a0 : Nat) (x1 : Int) (x2 : Int) (S : Sp) (M : Mm) : Run K tb_Ca_nation 0 [vR 11 0 a0, vI x1, vI x2] [] S M =
  bndI (K m_Ca_isNation [vR 11 0 a0, vI x1] S M) fun r1 S1 M1 =>
  if r1 = 0 then
    bndI (K m_Ca_refuse [vR 11 0 a0, vI 1] S1 M1) fun r2 S2 M2 =>
    some (some (vI r2), S2, M2)
  else
    if x2 = 0 then
      bR (refOf S1 a0 4) fun b3 =>
      bR (refOf S1 b3 0) fun b4 =>
        bR (refOf S1 b4 2) fun b5 =>
          if 0 ≤ x1 ∧ x1 < 6 then
              bndI (K m_Ca_answer [vR 11 0 a0, vI (M1 b5 x1.toNat)] S1 M1) fun r6 S6 M6 =>
              some (some (vI r6), S6, M6)
            else none
    else if x2 = 1 then
      bR (refOf S1 a0 4) fun b7 =>
      bR (refOf S1 b7 0) fun b8 =>
        bR (refOf S1 b8 3) fun b9 =>
          if 0 ≤ x1 ∧ x1 < 6 then
              bndI (K m_Ca_answer [vR 11 0 a0, vI (M1 b9 x1.toNat)] S1 M1) fun r10 S10 M10 =>
              some (some (vI r10), S10, M10)
            else none
    else if x2 = 2 then
      bR (refOf S1 a0 4) fun b11 =>
      bR (refOf S1 b11 0) fun b12 =>
        bR (refOf S1 b12 4) fun b13 =>
          if 0 ≤ x1 ∧ x1 < 6 then
              bndI (K m_Ca_answer [vR 11 0 a0, vI (M1 b13 x1.toNat)] S1 M1) fun r14 S14 M14 =>
              some (some (vI r14), S14, M14)
            else none
    else if x2 = 3 then
      bR (refOf S1 a0 4) fun b15 =>
      bR (refOf S1 b15 0) fun b16 =>
        bR (refOf S1 b16 5) fun b17 =>
          if 0 ≤ x1 ∧ x1 < 6 then
              bndI (K m_Ca_answer [vR 11 0 a0, vI (M1 b17 x1.toNat)] S1 M1) fun r18 S18 M18 =>
              some (some (vI r18), S18, M18)
            else none
    else bndI (K m_Ca_refuse [vR 11 0 a0, vI 1] S1 M1) fun r19 S19 M19 =>
      some (some (vI r19), S19, M19) := (Run_EE K tb_Ca_nation [] 500 0 _ _ S M).trans rfl
set_option maxRecDepth 100000 in
theorem b_Ca_isNation_0 (K : Cal) (a0 : Nat) (x1 : Int) (S : Sp) (M : Mm) : Run K tb_Ca_isNation 0 [vR 11 0 a0, vI x1] [] S M =
  bR (refOf S a0 4) fun b1 =>
  bR (refOf S b1 0) fun b2 =>
    bR (refOf S b2 0) fun b3 =>
      bndI (K m_Ca_within [vI x1, vI 0, vI (w32 ((M b3 0) - 1))] S M) fun r4 S4 M4 =>
        some (some (vI (r4 % 2)), S4, M4) := (Run_EE K tb_Ca_isNation [] 500 0 _ _ S M).trans rfl
set_option maxRecDepth 100000 in
theorem b_Ca_good_0 (K : Cal) (a0 : Nat) (x1 : Int) (x2 : Int) (S : Sp) (M : Mm) : Run K tb_Ca_good 0 [vR 11 0 a0, vI x1, vI x2] [] S M =
  bndI (K m_Ca_isGood [vR 11 0 a0, vI x1] S M) fun r1 S1 M1 =>
  if r1 = 0 then
    bndI (K m_Ca_refuse [vR 11 0 a0, vI 1] S1 M1) fun r2 S2 M2 =>
    some (some (vI r2), S2, M2)
  else
    if x2 = 0 then
      bR (refOf S1 a0 4) fun b3 =>
      bR (refOf S1 b3 0) fun b4 =>
        bR (refOf S1 b4 6) fun b5 =>
          if 0 ≤ x1 ∧ x1 < 8 then
              bndI (K m_Ca_answer [vR 11 0 a0, vI (M1 b5 x1.toNat)] S1 M1) fun r6 S6 M6 =>
              some (some (vI r6), S6, M6)
            else none
    else if x2 = 1 then
      bR (refOf S1 a0 4) fun b7 =>
      bR (refOf S1 b7 0) fun b8 =>
        bR (refOf S1 b8 7) fun b9 =>
          if 0 ≤ x1 ∧ x1 < 8 then
              bndI (K m_Ca_answer [vR 11 0 a0, vI (M1 b9 x1.toNat)] S1 M1) fun r10 S10 M10 =>
              some (some (vI r10), S10, M10)
            else none
    else if x2 = 2 then
      bR (refOf S1 a0 4) fun b11 =>
      bR (refOf S1 b11 0) fun b12 =>
        bR (refOf S1 b12 8) fun b13 =>
          if 0 ≤ x1 ∧ x1 < 8 then
              bndI (K m_Ca_answer [vR 11 0 a0, vI (M1 b13 x1.toNat)] S1 M1) fun r14 S14 M14 =>
              some (some (vI r14), S14, M14)
            else none
    else bndI (K m_Ca_refuse [vR 11 0 a0, vI 1] S1 M1) fun r15 S15 M15 =>
      some (some (vI r15), S15, M15) := (Run_EE K tb_Ca_good [] 500 0 _ _ S M).trans rfl
set_option maxRecDepth 100000 in
theorem b_Ca_isGood_0 (K : Cal) (a0 : Nat) (x1 : Int) (S : Sp) (M : Mm) : Run K tb_Ca_isGood 0 [vR 11 0 a0, vI x1] [] S M =
  bR (refOf S a0 4) fun b1 =>
  bR (refOf S b1 0) fun b2 =>
    bR (refOf S b2 0) fun b3 =>
      bndI (K m_Ca_within [vI x1, vI 0, vI (w32 ((M b3 1) - 1))] S M) fun r4 S4 M4 =>
        some (some (vI (r4 % 2)), S4, M4) := (Run_EE K tb_Ca_isGood [] 500 0 _ _ S M).trans rfl
set_option maxRecDepth 100000 in
theorem b_Ca_portOf_0 (K : Cal) (a0 : Nat) (x1 : Int) (S : Sp) (M : Mm) : Run K tb_Ca_portOf 0 [vR 11 0 a0, vI x1] [] S M =
  bndI (K m_Ca_isPort [vR 11 0 a0, vI x1] S M) fun r1 S1 M1 =>
  if r1 = 0 then
    bndI (K m_Ca_refuse [vR 11 0 a0, vI 1] S1 M1) fun r2 S2 M2 =>
    some (some (vI r2), S2, M2)
  else
    bR (refOf S1 a0 4) fun b3 =>
    bR (refOf S1 b3 0) fun b4 =>
      bR (refOf S1 b4 9) fun b5 =>
        if 0 ≤ x1 ∧ x1 < 6 then
            bndI (K m_Ca_answerOr [vR 11 0 a0, vI (M1 b5 x1.toNat), vI 6] S1 M1) fun r6 S6 M6 =>
            some (some (vI r6), S6, M6)
          else none := (Run_EE K tb_Ca_portOf [] 500 0 _ _ S M).trans rfl
set_option maxRecDepth 100000 in
theorem b_Ca_isPort_0 (K : Cal) (a0 : Nat) (x1 : Int) (S : Sp) (M : Mm) : Run K tb_Ca_isPort 0 [vR 11 0 a0, vI x1] [] S M =
  bR (refOf S a0 4) fun b1 =>
  bR (refOf S b1 0) fun b2 =>
    bR (refOf S b2 0) fun b3 =>
      bndI (K m_Ca_within [vI x1, vI 0, vI (w32 ((M b3 2) - 1))] S M) fun r4 S4 M4 =>
        some (some (vI (r4 % 2)), S4, M4) := (Run_EE K tb_Ca_isPort [] 500 0 _ _ S M).trans rfl
set_option maxRecDepth 100000 in
theorem b_Ca_answerOr_0 (K : Cal) (a0 : Nat) (x1 : Int) (x2 : Int) (S : Sp) (M : Mm) : Run K tb_Ca_answerOr 0 [vR 11 0 a0, vI x1, vI x2] [] S M =
  if x1 = (-1) then
    bndI (K m_Ca_refuse [vR 11 0 a0, vI x2] S M) fun r1 S1 M1 =>
    some (some (vI r1), S1, M1)
  else
    bndI (K m_Ca_answer [vR 11 0 a0, vI x1] S M) fun r2 S2 M2 =>
    some (some (vI r2), S2, M2) := (Run_EE K tb_Ca_answerOr [] 500 0 _ _ S M).trans rfl
set_option maxRecDepth 100000 in
theorem b_Ca_price_0 (K : Cal) (a0 : Nat) (x1 : Int) (x2 : Int) (S : Sp) (M : Mm) : Run K tb_Ca_price 0 [vR 11 0 a0, vI x1, vI x2, vU] [] S M =
  bndI (K m_Ca_isPort [vR 11 0 a0, vI x1] S M) fun r1 S1 M1 =>
  if r1 = 0 then
    bndI (K m_Ca_refuse [vR 11 0 a0, vI 1] S1 M1) fun r2 S2 M2 =>
    some (some (vI r2), S2, M2)
  else
    bndI (K m_Ca_isGood [vR 11 0 a0, vI x2] S1 M1) fun r3 S3 M3 =>
    if r3 = 0 then
      bndI (K m_Ca_refuse [vR 11 0 a0, vI 1] S3 M3) fun r4 S4 M4 =>
      some (some (vI r4), S4, M4)
    else
      bR (refOf S3 a0 4) fun b5 =>
      bR (refOf S3 b5 0) fun b6 =>
        bR (refOf S3 b6 10) fun b7 =>
          if 0 ≤ x1 ∧ x1 < 6 then
              bR (refOf S3 b7 x1.toNat) fun b8 =>
              if 0 ≤ x2 ∧ x2 < 8 then
                  if M3 b8 x2.toNat = 0 then
                    bndI (K m_Ca_refuse [vR 11 0 a0, vI 6] S3 M3) fun r9 S9 M9 =>
                    some (some (vI r9), S9, M9)
                  else
                    bndI (K m_Ca_answer [vR 11 0 a0, vI (M3 b8 x2.toNat)] S3 M3) fun r10 S10 M10 =>
                    some (some (vI r10), S10, M10)
                else none
            else none := (Run_EE K tb_Ca_price [] 500 0 _ _ S M).trans rfl
set_option maxRecDepth 100000 in
theorem b_Ca_way_0 (K : Cal) (a0 : Nat) (x1 : Int) (x2 : Int) (S : Sp) (M : Mm) : Run K tb_Ca_way 0 [vR 11 0 a0, vI x1, vI x2, vU] [] S M =
  bndI (K m_Ca_areTwo [vR 11 0 a0, vI x1, vI x2, vI 2] S M) fun r1 S1 M1 =>
  if r1 = 0 then
    bndI (K m_Ca_refuse [vR 11 0 a0, vI 1] S1 M1) fun r2 S2 M2 =>
    some (some (vI r2), S2, M2)
  else
    bR (refOf S1 a0 4) fun b3 =>
    bR (refOf S1 b3 0) fun b4 =>
      bR (refOf S1 b4 11) fun b5 =>
        if 0 ≤ x1 ∧ x1 < 6 then
            bR (refOf S1 b5 x1.toNat) fun b6 =>
            if 0 ≤ x2 ∧ x2 < 6 then
                if M1 b6 x2.toNat = 0 then
                  bndI (K m_Ca_refuse [vR 11 0 a0, vI 6] S1 M1) fun r7 S7 M7 =>
                  some (some (vI r7), S7, M7)
                else
                  bndI (K m_Ca_answer [vR 11 0 a0, vI (M1 b6 x2.toNat)] S1 M1) fun r8 S8 M8 =>
                  some (some (vI r8), S8, M8)
              else none
          else none := (Run_EE K tb_Ca_way [] 500 0 _ _ S M).trans rfl
set_option maxRecDepth 100000 in
theorem b_Ca_areTwo_0 (K : Cal) (a0 : Nat) (x1 : Int) (x2 : Int) (x3 : Int) (S : Sp) (M : Mm) : Run K tb_Ca_areTwo 0 [vR 11 0 a0, vI x1, vI x2, vI x3, vU] [] S M =
  bR (refOf S a0 4) fun b1 =>
  bR (refOf S b1 0) fun b2 =>
    bR (refOf S b2 0) fun b3 =>
      if 0 ≤ x3 ∧ x3 < 4 then
          bndI (K m_Ca_within [vI x1, vI 0, vI (w32 ((M b3 x3.toNat) - 1))] S M) fun r4 S4 M4 =>
          if r4 = 0 then
            some (some (vI 0), S4, M4)
          else
            bndI (K m_Ca_within [vI x2, vI 0, vI (w32 ((M b3 x3.toNat) - 1))] S4 M4) fun r5 S5 M5 =>
            if r5 = 0 then
              some (some (vI 0), S5, M5)
            else
              if x1 = x2 then
                some (some (vI 0), S5, M5)
              else
                some (some (vI 1), S5, M5)
        else none := (Run_EE K tb_Ca_areTwo [] 500 0 _ _ S M).trans rfl
set_option maxRecDepth 100000 in
theorem b_Ca_ship_0 (K : Cal) (a0 : Nat) (x1 : Int) (x2 : Int) (S : Sp) (M : Mm) : Run K tb_Ca_ship 0 [vR 11 0 a0, vI x1, vI x2, vU] [] S M =
  bndI (K m_Ca_isShip [vR 11 0 a0, vI x1] S M) fun r1 S1 M1 =>
  if r1 = 0 then
    bndI (K m_Ca_refuse [vR 11 0 a0, vI 1] S1 M1) fun r2 S2 M2 =>
    some (some (vI r2), S2, M2)
  else
    bR (refOf S1 a0 4) fun b3 =>
    bR (refOf S1 b3 1) fun b4 =>
      if 0 ≤ x1 ∧ x1 < 4 then
          bR (refOf S1 b4 x1.toNat) fun b5 =>
          if x2 = 0 then
              bndI (K m_Ca_answerOr [vR 11 0 a0, vI (M1 b5 0), vI 6] S1 M1) fun r6 S6 M6 =>
              some (some (vI r6), S6, M6)
            else if x2 = 1 then
              bndI (K m_Ca_answerOr [vR 11 0 a0, vI (M1 b5 1), vI 6] S1 M1) fun r7 S7 M7 =>
              some (some (vI r7), S7, M7)
            else if x2 = 2 then
              bndI (K m_Ca_answer [vR 11 0 a0, vI (M1 b5 2)] S1 M1) fun r8 S8 M8 =>
              some (some (vI r8), S8, M8)
            else if x2 = 3 then
              bndI (K m_Ca_answer [vR 11 0 a0, vI (M1 b5 3)] S1 M1) fun r9 S9 M9 =>
              some (some (vI r9), S9, M9)
            else if x2 = 4 then
              bndI (K m_Ca_answer [vR 11 0 a0, vI (M1 b5 4)] S1 M1) fun r10 S10 M10 =>
              some (some (vI r10), S10, M10)
            else if x2 = 5 then
              bndI (K m_Vessel_load [vR 8 0 b5] S1 M1) fun r11 S11 M11 =>
              bndI (K m_Ca_answer [vR 11 0 a0, vI r11] S11 M11) fun r12 S12 M12 =>
              some (some (vI r12), S12, M12)
            else if x2 = 6 then
              bndI (K m_Ca_answer [vR 11 0 a0, vI (M1 b5 5)] S1 M1) fun r13 S13 M13 =>
              some (some (vI r13), S13, M13)
            else if x2 = 7 then
              bndI (K m_Ca_answer [vR 11 0 a0, vI (M1 b5 6)] S1 M1) fun r14 S14 M14 =>
              some (some (vI r14), S14, M14)
            else bndI (K m_Ca_refuse [vR 11 0 a0, vI 1] S1 M1) fun r15 S15 M15 =>
              some (some (vI r15), S15, M15)
        else none := (Run_EE K tb_Ca_ship [] 500 0 _ _ S M).trans rfl
set_option maxRecDepth 100000 in
theorem b_Ca_isShip_0 (K : Cal) (a0 : Nat) (x1 : Int) (S : Sp) (M : Mm) : Run K tb_Ca_isShip 0 [vR 11 0 a0, vI x1] [] S M =
  bR (refOf S a0 4) fun b1 =>
  bR (refOf S b1 0) fun b2 =>
    bR (refOf S b2 0) fun b3 =>
      bndI (K m_Ca_within [vI x1, vI 0, vI (w32 ((M b3 3) - 1))] S M) fun r4 S4 M4 =>
        some (some (vI (r4 % 2)), S4, M4) := (Run_EE K tb_Ca_isShip [] 500 0 _ _ S M).trans rfl
set_option maxRecDepth 100000 in
theorem b_Ca_aboard_0 (K : Cal) (a0 : Nat) (x1 : Int) (x2 : Int) (S : Sp) (M : Mm) : Run K tb_Ca_aboard 0 [vR 11 0 a0, vI x1, vI x2] [] S M =
  bndI (K m_Ca_isShip [vR 11 0 a0, vI x1] S M) fun r1 S1 M1 =>
  if r1 = 0 then
    bndI (K m_Ca_refuse [vR 11 0 a0, vI 1] S1 M1) fun r2 S2 M2 =>
    some (some (vI r2), S2, M2)
  else
    bndI (K m_Ca_isGood [vR 11 0 a0, vI x2] S1 M1) fun r3 S3 M3 =>
    if r3 = 0 then
      bndI (K m_Ca_refuse [vR 11 0 a0, vI 1] S3 M3) fun r4 S4 M4 =>
      some (some (vI r4), S4, M4)
    else
      bR (refOf S3 a0 4) fun b5 =>
      bR (refOf S3 b5 1) fun b6 =>
        if 0 ≤ x1 ∧ x1 < 4 then
            bR (refOf S3 b6 x1.toNat) fun b7 =>
            bR (refOf S3 b7 7) fun b8 =>
              if 0 ≤ x2 ∧ x2 < 8 then
                  bndI (K m_Ca_answer [vR 11 0 a0, vI (M3 b8 x2.toNat)] S3 M3) fun r9 S9 M9 =>
                  some (some (vI r9), S9, M9)
                else none
          else none := (Run_EE K tb_Ca_aboard [] 500 0 _ _ S M).trans rfl
set_option maxRecDepth 100000 in
theorem b_Ca_weight_0 (K : Cal) (a0 : Nat) (x1 : Int) (x2 : Int) (S : Sp) (M : Mm) : Run K tb_Ca_weight 0 [vR 11 0 a0, vI x1, vI x2] [] S M =
  bR (refOf S a0 4) fun b1 =>
  bR (refOf S b1 0) fun b2 =>
    bndI (K m_Ca_weightBy [vR 11 0 a0, vI x1, vI x2, vI (M b2 12)] S M) fun r3 S3 M3 =>
      some (some (vI r3), S3, M3) := (Run_EE K tb_Ca_weight [] 500 0 _ _ S M).trans rfl
set_option maxRecDepth 100000 in
theorem b_Ca_weightBy_0 (K : Cal) (a0 : Nat) (x1 : Int) (x2 : Int) (x3 : Int) (S : Sp) (M : Mm) : Run K tb_Ca_weightBy 0 [vR 11 0 a0, vI x1, vI x2, vI x3] [] S M =
  bndI (K m_Ca_isShip [vR 11 0 a0, vI x1] S M) fun r1 S1 M1 =>
  if r1 = 0 then
    bndI (K m_Ca_refuse [vR 11 0 a0, vI 1] S1 M1) fun r2 S2 M2 =>
    some (some (vI r2), S2, M2)
  else
    bndI (K m_Ca_isNation [vR 11 0 a0, vI x2] S1 M1) fun r3 S3 M3 =>
    if r3 = 0 then
      bndI (K m_Ca_refuse [vR 11 0 a0, vI 1] S3 M3) fun r4 S4 M4 =>
      some (some (vI r4), S4, M4)
    else
      bndI (K m_Ca_within [vI x3, vI 0, vI 2] S3 M3) fun r5 S5 M5 =>
      if r5 = 0 then
        bndI (K m_Ca_refuse [vR 11 0 a0, vI 1] S5 M5) fun r6 S6 M6 =>
        some (some (vI r6), S6, M6)
      else
        bR (refOf S5 a0 4) fun b7 =>
        bR (refOf S5 b7 0) fun b8 =>
          bR (refOf S5 a0 4) fun b9 =>
            bR (refOf S5 b9 1) fun b10 =>
              if 0 ≤ x1 ∧ x1 < 4 then
                  bR (refOf S5 b10 x1.toNat) fun b11 =>
                  bR (refOf S5 b11 7) fun b12 =>
                    bndI (K m_Chart_heft [vR 0 0 b8, vR 20 8 b12, vI x2, vI x3] S5 M5) fun r13 S13 M13 =>
                      bndI (K m_Ca_answer [vR 11 0 a0, vI r13] S13 M13) fun r14 S14 M14 =>
                      some (some (vI r14), S14, M14)
                else none := (Run_EE K tb_Ca_weightBy [] 500 0 _ _ S M).trans rfl
set_option maxRecDepth 100000 in
theorem b_Chart_heft_0 (K : Cal) (a0 : Nat) (a1 : Nat) (x2 : Int) (x3 : Int) (S : Sp) (M : Mm) : Run K tb_Chart_heft 0 [vR 0 0 a0, vR 20 8 a1, vI x2, vI x3] [] S M =
  bndV (K m_Chart_weigh [vR 0 0 a0, vR 20 8 a1, vI x3] S M) fun S1 M1 =>
  bR (refOf S1 a0 13) fun b2 =>
  if 0 ≤ x2 ∧ x2 < 6 then
      some (some (vI (M1 b2 x2.toNat)), S1, M1)
    else none := (Run_EE K tb_Chart_heft [] 500 0 _ _ S M).trans rfl
set_option maxRecDepth 100000 in
theorem b_Ca_captains_0 (K : Cal) (a0 : Nat) (x1 : Int) (S : Sp) (M : Mm) : Run K tb_Ca_captains 0 [vR 11 0 a0, vI x1] [] S M =
  bndI (K m_Ca_isShip [vR 11 0 a0, vI x1] S M) fun r1 S1 M1 =>
  if r1 = 0 then
    bndI (K m_Ca_refuse [vR 11 0 a0, vI 1] S1 M1) fun r2 S2 M2 =>
    some (some (vI r2), S2, M2)
  else
    bndI (K m_Ca_captainsOf [vR 11 0 a0, vI x1] S1 M1) fun r3 S3 M3 =>
    bndI (K m_Ca_answer [vR 11 0 a0, vI r3] S3 M3) fun r4 S4 M4 =>
    some (some (vI r4), S4, M4) := (Run_EE K tb_Ca_captains [] 500 0 _ _ S M).trans rfl
set_option maxRecDepth 100000 in
theorem b_Ca_captainsOf_0 (K : Cal) (a0 : Nat) (x1 : Int) (S : Sp) (M : Mm) : Run K tb_Ca_captainsOf 0 [vR 11 0 a0, vI x1] [] S M =
  bR (refOf S a0 4) fun b1 =>
  bR (refOf S b1 0) fun b2 =>
    bR (refOf S a0 4) fun b3 =>
      bR (refOf S b3 1) fun b4 =>
        if 0 ≤ x1 ∧ x1 < 4 then
            bR (refOf S b4 x1.toNat) fun b5 =>
            bR (refOf S b5 7) fun b6 =>
              bR (refOf S a0 4) fun b7 =>
                bR (refOf S b7 0) fun b8 =>
                  bndI (K m_Chart_captainSet [vR 0 0 b2, vR 20 8 b6, vI (M b8 12)] S M) fun r9 S9 M9 =>
                    some (some (vI r9), S9, M9)
          else none := (Run_EE K tb_Ca_captainsOf [] 500 0 _ _ S M).trans rfl
set_option maxRecDepth 100000 in
theorem b_Chart_captainSet_0 (K : Cal) (a0 : Nat) (a1 : Nat) (x2 : Int) (S : Sp) (M : Mm) : Run K tb_Chart_captainSet 0 [vR 0 0 a0, vR 20 8 a1, vI x2, vU, vU, vU] [] S M =
  bndV (K m_Chart_weigh [vR 0 0 a0, vR 20 8 a1, vI x2] S M) fun S1 M1 =>
  Run K tb_Chart_captainSet 14 [vR 0 0 a0, vR 20 8 a1, vI x2, vI 1, vI 0, vI 0] [] S1 M1 := (Run_EE K tb_Chart_captainSet [14] 500 0 _ _ S M).trans rfl
set_option maxRecDepth 100000 in
theorem b_Chart_captainSet_14 (K : Cal) (a0 : Nat) (a1 : Nat) (x2 : Int) (x3 : Int) (x4 : Int) (x5 : Int) (S : Sp) (M : Mm) : Run K tb_Chart_captainSet 14 [vR 0 0 a0, vR 20 8 a1, vI x2, vI x3, vI x4, vI x5] [] S M =
  bR (refOf S a0 0) fun b1 =>
  if x5 < M b1 0 then
      bR (refOf S a0 13) fun b2 =>
      if 0 ≤ x5 ∧ x5 < 6 then
          if x3 < M b2 x5.toNat then
            bR (refOf S a0 13) fun b3 =>
            if 0 ≤ x5 ∧ x5 < 6 then
                bR (refOf S a0 13) fun b4 =>
                if 0 ≤ x5 ∧ x5 < 6 then
                    if M b4 x5.toNat = M b3 x5.toNat then
                      Run K tb_Chart_captainSet 14 [vR 0 0 a0, vR 20 8 a1, vI x2, vI (M b3 x5.toNat), vI (or32 0 (shl32 1 x5)), vI (w32 (x5 + 1))] [] S M
                    else
                      Run K tb_Chart_captainSet 14 [vR 0 0 a0, vR 20 8 a1, vI x2, vI (M b3 x5.toNat), vI 0, vI (w32 (x5 + 1))] [] S M
                  else none
              else none
          else
            bR (refOf S a0 13) fun b5 =>
            if 0 ≤ x5 ∧ x5 < 6 then
                if M b5 x5.toNat = x3 then
                  Run K tb_Chart_captainSet 14 [vR 0 0 a0, vR 20 8 a1, vI x2, vI x3, vI (or32 x4 (shl32 1 x5)), vI (w32 (x5 + 1))] [] S M
                else
                  Run K tb_Chart_captainSet 14 [vR 0 0 a0, vR 20 8 a1, vI x2, vI x3, vI x4, vI (w32 (x5 + 1))] [] S M
              else none
        else none
    else
      some (some (vI x4), S, M) := (Run_EE K tb_Chart_captainSet [14] 500 14 _ _ S M).trans rfl
set_option maxRecDepth 100000 in
theorem b_Ca_ruled_0 (K : Cal) (a0 : Nat) (x1 : Int) (S : Sp) (M : Mm) : Run K tb_Ca_ruled 0 [vR 11 0 a0, vI x1] [] S M =
  bR (refOf S a0 4) fun b1 =>
  bR (refOf S b1 0) fun b2 =>
    bndI (K m_Ca_ruledBy [vR 11 0 a0, vI x1, vI (M b2 12)] S M) fun r3 S3 M3 =>
      some (some (vI r3), S3, M3) := (Run_EE K tb_Ca_ruled [] 500 0 _ _ S M).trans rfl
set_option maxRecDepth 100000 in
theorem b_Ca_ruledBy_0 (K : Cal) (a0 : Nat) (x1 : Int) (x2 : Int) (S : Sp) (M : Mm) : Run K tb_Ca_ruledBy 0 [vR 11 0 a0, vI x1, vI x2] [] S M =
  bndI (K m_Ca_isShip [vR 11 0 a0, vI x1] S M) fun r1 S1 M1 =>
  if r1 = 0 then
    bndI (K m_Ca_refuse [vR 11 0 a0, vI 1] S1 M1) fun r2 S2 M2 =>
    some (some (vI r2), S2, M2)
  else
    bndI (K m_Ca_within [vI x2, vI 0, vI 2] S1 M1) fun r3 S3 M3 =>
    if r3 = 0 then
      bndI (K m_Ca_refuse [vR 11 0 a0, vI 1] S3 M3) fun r4 S4 M4 =>
      some (some (vI r4), S4, M4)
    else
      bR (refOf S3 a0 4) fun b5 =>
      bR (refOf S3 b5 0) fun b6 =>
        bR (refOf S3 a0 4) fun b7 =>
          bR (refOf S3 b7 1) fun b8 =>
            if 0 ≤ x1 ∧ x1 < 4 then
                bR (refOf S3 b8 x1.toNat) fun b9 =>
                bR (refOf S3 b9 7) fun b10 =>
                  bndI (K m_Chart_ruler [vR 0 0 b6, vR 20 8 b10, vI x2] S3 M3) fun r11 S11 M11 =>
                    bndI (K m_Ca_answerOr [vR 11 0 a0, vI r11, vI 6] S11 M11) fun r12 S12 M12 =>
                    some (some (vI r12), S12, M12)
              else none := (Run_EE K tb_Ca_ruledBy [] 500 0 _ _ S M).trans rfl
set_option maxRecDepth 100000 in
theorem b_Ca_share_0 (K : Cal) (a0 : Nat) (x1 : Int) (x2 : Int) (S : Sp) (M : Mm) : Run K tb_Ca_share 0 [vR 11 0 a0, vI x1, vI x2, vU, vU, vU] [] S M =
  bndI (K m_Ca_isShip [vR 11 0 a0, vI x1] S M) fun r1 S1 M1 =>
  if r1 = 0 then
    bndI (K m_Ca_deny [vR 11 0 a0, vI 1] S1 M1) fun r2 S2 M2 =>
    some (some (vI (r2 % 2)), S2, M2)
  else
    bndI (K m_Ca_isNation [vR 11 0 a0, vI x2] S1 M1) fun r3 S3 M3 =>
    if r3 = 0 then
      bndI (K m_Ca_deny [vR 11 0 a0, vI 1] S3 M3) fun r4 S4 M4 =>
      some (some (vI (r4 % 2)), S4, M4)
    else
      bR (refOf S3 a0 4) fun b5 =>
      bR (refOf S3 b5 0) fun b6 =>
        bR (refOf S3 a0 4) fun b7 =>
          bR (refOf S3 b7 1) fun b8 =>
            if 0 ≤ x1 ∧ x1 < 4 then
                bR (refOf S3 b8 x1.toNat) fun b9 =>
                bR (refOf S3 b9 7) fun b10 =>
                  bndV (K m_Chart_weigh [vR 0 0 b6, vR 20 8 b10, vI (M3 b6 12)] S3 M3) fun S11 M11 =>
                    Run K tb_Ca_share 56 [vR 11 0 a0, vI x1, vI x2, vR 0 0 b6, vI 0, vI 0] [] S11 M11
              else none := (Run_EE K tb_Ca_share [56] 500 0 _ _ S M).trans rfl
set_option maxRecDepth 100000 in
theorem b_Ca_share_56 (K : Cal) (a0 : Nat) (x1 : Int) (x2 : Int) (a3 : Nat) (x4 : Int) (x5 : Int) (S : Sp) (M : Mm) : Run K tb_Ca_share 56 [vR 11 0 a0, vI x1, vI x2, vR 0 0 a3, vI x4, vI x5] [] S M =
  bR (refOf S a3 0) fun b1 =>
  if x5 < M b1 0 then
      bR (refOf S a3 13) fun b2 =>
      if 0 ≤ x5 ∧ x5 < 6 then
          Run K tb_Ca_share 56 [vR 11 0 a0, vI x1, vI x2, vR 0 0 a3, vI (w32 (x4 + (M b2 x5.toNat))), vI (w32 (x5 + 1))] [] S M
        else none
    else
      if x4 = 0 then
        bndI (K m_Ca_deny [vR 11 0 a0, vI 6] S M) fun r3 S3 M3 =>
        some (some (vI (r3 % 2)), S3, M3)
      else
        bR (refOf S a3 13) fun b4 =>
        if 0 ≤ x2 ∧ x2 < 6 then
            bndV (K m_Ca_tellFraction [vR 11 0 a0, vL (M b4 x2.toNat), vL x4] S M) fun S5 M5 =>
            bndI (K m_Ca_agree [vR 11 0 a0] S5 M5) fun r6 S6 M6 =>
            some (some (vI (r6 % 2)), S6, M6)
          else none := (Run_EE K tb_Ca_share [56] 500 56 _ _ S M).trans rfl
set_option maxRecDepth 100000 in
theorem b_Ca_tellFraction_0 (K : Cal) (a0 : Nat) (x1 : Int) (x3 : Int) (S : Sp) (M : Mm) : Run K tb_Ca_tellFraction 0 [vR 11 0 a0, vL x1, vU, vL x3, vU, vU, vU, vU, vU, vU, vU, vU] [] S M =
  Run K tb_Ca_tellFraction 9 [vR 11 0 a0, vL x1, vU, vL x3, vU, vL x1, vU, vL x3, vU, vI 0, vU, vU] [] S M := (Run_EE K tb_Ca_tellFraction [9] 500 0 _ _ S M).trans rfl
set_option maxRecDepth 100000 in
theorem b_Ca_tellFraction_9 (K : Cal) (a0 : Nat) (x1 : Int) (d2 : AV) (x3 : Int) (d4 : AV) (x5 : Int) (d6 : AV) (x7 : Int) (d8 : AV) (x9 : Int) (d10 : AV) (d11 : AV) (S : Sp) (M : Mm) : Run K tb_Ca_tellFraction 9 [vR 11 0 a0, vL x1, d2, vL x3, d4, vL x5, d6, vL x7, d8, vI x9, d10, d11] [] S M =
  if x9 < 100 then
    if cmp3 x7 0 = 0 then
      if cmp3 x5 0 = 0 then
        if cmp3 x5 0 = 0 then
          some (none, S, up (up M a0 16 0) a0 17 1)
        else
          if x5 = 0 then none else
            some (none, S, up (up M a0 16 0) a0 17 (w64 (Int.tdiv x3 x5)))
      else
        if x5 = 0 then none else
          if cmp3 x5 0 = 0 then
            some (none, S, up (up M a0 16 (w64 (Int.tdiv x1 x5))) a0 17 1)
          else
            if x5 = 0 then none else
              some (none, S, up (up M a0 16 (w64 (Int.tdiv x1 x5))) a0 17 (w64 (Int.tdiv x3 x5)))
    else
      if x7 = 0 then none else
        Run K tb_Ca_tellFraction 9 [vR 11 0 a0, vL x1, d2, vL x3, d4, vL x7, vU, vL (Int.tmod x5 x7), vU, vI (w32 (x9 + 1)), vL (Int.tmod x5 x7), vU] [] S M
  else
    if cmp3 x5 0 = 0 then
      if cmp3 x5 0 = 0 then
        some (none, S, up (up M a0 16 0) a0 17 1)
      else
        if x5 = 0 then none else
          some (none, S, up (up M a0 16 0) a0 17 (w64 (Int.tdiv x3 x5)))
    else
      if x5 = 0 then none else
        if cmp3 x5 0 = 0 then
          some (none, S, up (up M a0 16 (w64 (Int.tdiv x1 x5))) a0 17 1)
        else
          if x5 = 0 then none else
            some (none, S, up (up M a0 16 (w64 (Int.tdiv x1 x5))) a0 17 (w64 (Int.tdiv x3 x5))) := (Run_EE K tb_Ca_tellFraction [9] 500 9 _ _ S M).trans rfl
set_option maxRecDepth 100000 in
theorem b_Ca_lawful_0 (K : Cal) (a0 : Nat) (x1 : Int) (x2 : Int) (S : Sp) (M : Mm) : Run K tb_Ca_lawful 0 [vR 11 0 a0, vI x1, vI x2] [] S M =
  bndI (K m_Ca_isShip [vR 11 0 a0, vI x1] S M) fun r1 S1 M1 =>
  if r1 = 0 then
    bndI (K m_Ca_refuse [vR 11 0 a0, vI 1] S1 M1) fun r2 S2 M2 =>
    some (some (vI r2), S2, M2)
  else
    bndI (K m_Ca_within [vI x2, vI 0, vI 7] S1 M1) fun r3 S3 M3 =>
    if r3 = 0 then
      bndI (K m_Ca_refuse [vR 11 0 a0, vI 1] S3 M3) fun r4 S4 M4 =>
      some (some (vI r4), S4, M4)
    else
      bndI (K m_Ca_lawfulDeeds [vR 11 0 a0, vI x1] S3 M3) fun r5 S5 M5 =>
      bndI (K m_Ca_answer [vR 11 0 a0, vI (and32 (shr32 r5 x2) 1)] S5 M5) fun r6 S6 M6 =>
      some (some (vI r6), S6, M6) := (Run_EE K tb_Ca_lawful [] 500 0 _ _ S M).trans rfl
set_option maxRecDepth 100000 in
theorem b_Ca_lawfulDeeds_0 (K : Cal) (a0 : Nat) (x1 : Int) (S : Sp) (M : Mm) : Run K tb_Ca_lawfulDeeds 0 [vR 11 0 a0, vI x1, vU, vU, vU, vU] [] S M =
  bndI (K m_Ca_captainsOf [vR 11 0 a0, vI x1] S M) fun r1 S1 M1 =>
  if r1 = 0 then
    some (some (vI 255), S1, M1)
  else
    Run K tb_Ca_lawfulDeeds 24 [vR 11 0 a0, vI x1, vI r1, vI 0, vI 255, vI 0] [] S1 M1 := (Run_EE K tb_Ca_lawfulDeeds [24] 500 0 _ _ S M).trans rfl
set_option maxRecDepth 100000 in
theorem b_Ca_lawfulDeeds_24 (K : Cal) (a0 : Nat) (x1 : Int) (x2 : Int) (x3 : Int) (x4 : Int) (x5 : Int) (S : Sp) (M : Mm) : Run K tb_Ca_lawfulDeeds 24 [vR 11 0 a0, vI x1, vI x2, vI x3, vI x4, vI x5] [] S M =
  bR (refOf S a0 4) fun b1 =>
  bR (refOf S b1 0) fun b2 =>
    bR (refOf S b2 0) fun b3 =>
      if x5 < M b3 0 then
          if and32 (shr32 x2 x5) 1 = 0 then
            Run K tb_Ca_lawfulDeeds 24 [vR 11 0 a0, vI x1, vI x2, vI x3, vI x4, vI (w32 (x5 + 1))] [] S M
          else
            bR (refOf S a0 4) fun b4 =>
            bR (refOf S b4 0) fun b5 =>
              bR (refOf S b5 4) fun b6 =>
                if 0 ≤ x5 ∧ x5 < 6 then
                    bR (refOf S a0 4) fun b7 =>
                    bR (refOf S b7 0) fun b8 =>
                      bR (refOf S b8 4) fun b9 =>
                        if 0 ≤ x5 ∧ x5 < 6 then
                            Run K tb_Ca_lawfulDeeds 24 [vR 11 0 a0, vI x1, vI x2, vI (or32 x3 (M b6 x5.toNat)), vI (and32 x4 (M b9 x5.toNat)), vI (w32 (x5 + 1))] [] S M
                          else none
                  else none
        else
          bndI (K m_Integer_bitCount [vI x2] S M) fun r10 S10 M10 =>
          if r10 = 1 then
            some (some (vI x4), S10, M10)
          else
            some (some (vI (or32 x4 (and32 255 (xor32 x3 (-1))))), S10, M10) := (Run_EE K tb_Ca_lawfulDeeds [24] 500 24 _ _ S M).trans rfl
set_option maxRecDepth 100000 in
theorem b_Integer_bitCount_0 (K : Cal) (x0 : Int) (S : Sp) (M : Mm) : Run K tb_Integer_bitCount 0 [vI x0] [] S M =
  some (some (vI (and32 (w32 ((w32 ((and32 (w32 ((w32 ((and32 (w32 (x0 - (and32 (ushr32 x0 1) 1431655765))) 858993459) + (and32 (ushr32 (w32 (x0 - (and32 (ushr32 x0 1) 1431655765))) 2) 858993459))) + (ushr32 (w32 ((and32 (w32 (x0 - (and32 (ushr32 x0 1) 1431655765))) 858993459) + (and32 (ushr32 (w32 (x0 - (and32 (ushr32 x0 1) 1431655765))) 2) 858993459))) 4))) 252645135) + (ushr32 (and32 (w32 ((w32 ((and32 (w32 (x0 - (and32 (ushr32 x0 1) 1431655765))) 858993459) + (and32 (ushr32 (w32 (x0 - (and32 (ushr32 x0 1) 1431655765))) 2) 858993459))) + (ushr32 (w32 ((and32 (w32 (x0 - (and32 (ushr32 x0 1) 1431655765))) 858993459) + (and32 (ushr32 (w32 (x0 - (and32 (ushr32 x0 1) 1431655765))) 2) 858993459))) 4))) 252645135) 8))) + (ushr32 (w32 ((and32 (w32 ((w32 ((and32 (w32 (x0 - (and32 (ushr32 x0 1) 1431655765))) 858993459) + (and32 (ushr32 (w32 (x0 - (and32 (ushr32 x0 1) 1431655765))) 2) 858993459))) + (ushr32 (w32 ((and32 (w32 (x0 - (and32 (ushr32 x0 1) 1431655765))) 858993459) + (and32 (ushr32 (w32 (x0 - (and32 (ushr32 x0 1) 1431655765))) 2) 858993459))) 4))) 252645135) + (ushr32 (and32 (w32 ((w32 ((and32 (w32 (x0 - (and32 (ushr32 x0 1) 1431655765))) 858993459) + (and32 (ushr32 (w32 (x0 - (and32 (ushr32 x0 1) 1431655765))) 2) 858993459))) + (ushr32 (w32 ((and32 (w32 (x0 - (and32 (ushr32 x0 1) 1431655765))) 858993459) + (and32 (ushr32 (w32 (x0 - (and32 (ushr32 x0 1) 1431655765))) 2) 858993459))) 4))) 252645135) 8))) 16))) 63)), S, M) := (Run_EE K tb_Integer_bitCount [] 500 0 _ _ S M).trans rfl
set_option maxRecDepth 100000 in
theorem b_Ca_deeds_0 (K : Cal) (a0 : Nat) (x1 : Int) (S : Sp) (M : Mm) : Run K tb_Ca_deeds 0 [vR 11 0 a0, vI x1] [] S M =
  bndI (K m_Ca_isShip [vR 11 0 a0, vI x1] S M) fun r1 S1 M1 =>
  if r1 = 0 then
    bndI (K m_Ca_refuse [vR 11 0 a0, vI 1] S1 M1) fun r2 S2 M2 =>
    some (some (vI r2), S2, M2)
  else
    bndI (K m_Ca_lawfulDeeds [vR 11 0 a0, vI x1] S1 M1) fun r3 S3 M3 =>
    bndI (K m_Ca_answer [vR 11 0 a0, vI r3] S3 M3) fun r4 S4 M4 =>
    some (some (vI r4), S4, M4) := (Run_EE K tb_Ca_deeds [] 500 0 _ _ S M).trans rfl
set_option maxRecDepth 100000 in
theorem b_Ca_board_0 (K : Cal) (a0 : Nat) (x1 : Int) (x2 : Int) (S : Sp) (M : Mm) : Run K tb_Ca_board 0 [vR 11 0 a0, vI x1, vI x2] [] S M =
  bndI (K m_Ca_areTwo [vR 11 0 a0, vI x1, vI x2, vI 3] S M) fun r1 S1 M1 =>
  if r1 = 0 then
    bndI (K m_Ca_refuse [vR 11 0 a0, vI 1] S1 M1) fun r2 S2 M2 =>
    some (some (vI r2), S2, M2)
  else
    bndI (K m_Ca_mayBoard [vR 11 0 a0, vI x1, vI x2] S1 M1) fun r3 S3 M3 =>
    if r3 = 0 then
      bndI (K m_Ca_answer [vR 11 0 a0, vI 0] S3 M3) fun r4 S4 M4 =>
      some (some (vI r4), S4, M4)
    else
      bndI (K m_Ca_answer [vR 11 0 a0, vI 1] S3 M3) fun r5 S5 M5 =>
      some (some (vI r5), S5, M5) := (Run_EE K tb_Ca_board [] 500 0 _ _ S M).trans rfl
set_option maxRecDepth 100000 in
theorem b_Ca_mayBoard_0 (K : Cal) (a0 : Nat) (x1 : Int) (x2 : Int) (S : Sp) (M : Mm) : Run K tb_Ca_mayBoard 0 [vR 11 0 a0, vI x1, vI x2, vU, vU] [] S M =
  bndI (K m_Ca_rulerOf [vR 11 0 a0, vI x1] S M) fun r1 S1 M1 =>
  bndI (K m_Ca_rulerOf [vR 11 0 a0, vI x2] S1 M1) fun r2 S2 M2 =>
  if r1 = (-1) then
    some (some (vI 0), S2, M2)
  else
    if r2 = (-1) then
      some (some (vI 0), S2, M2)
    else
      bR (refOf S2 a0 4) fun b3 =>
      bR (refOf S2 b3 0) fun b4 =>
        bndI (K m_Chart_atWar [vR 0 0 b4, vI r1, vI r2] S2 M2) fun r5 S5 M5 =>
          if r5 = 0 then
            some (some (vI 0), S5, M5)
          else
            some (some (vI 1), S5, M5) := (Run_EE K tb_Ca_mayBoard [] 500 0 _ _ S M).trans rfl
set_option maxRecDepth 100000 in
theorem b_Ca_rulerOf_0 (K : Cal) (a0 : Nat) (x1 : Int) (S : Sp) (M : Mm) : Run K tb_Ca_rulerOf 0 [vR 11 0 a0, vI x1] [] S M =
  bR (refOf S a0 4) fun b1 =>
  bR (refOf S b1 0) fun b2 =>
    bR (refOf S a0 4) fun b3 =>
      bR (refOf S b3 1) fun b4 =>
        if 0 ≤ x1 ∧ x1 < 4 then
            bR (refOf S b4 x1.toNat) fun b5 =>
            bR (refOf S b5 7) fun b6 =>
              bR (refOf S a0 4) fun b7 =>
                bR (refOf S b7 0) fun b8 =>
                  bndI (K m_Chart_ruler [vR 0 0 b2, vR 20 8 b6, vI (M b8 12)] S M) fun r9 S9 M9 =>
                    some (some (vI r9), S9, M9)
          else none := (Run_EE K tb_Ca_rulerOf [] 500 0 _ _ S M).trans rfl
set_option maxRecDepth 100000 in
theorem b_Chart_atWar_0 (K : Cal) (a0 : Nat) (x1 : Int) (x2 : Int) (S : Sp) (M : Mm) : Run K tb_Chart_atWar 0 [vR 0 0 a0, vI x1, vI x2] [] S M =
  bR (refOf S a0 5) fun b1 =>
  if 0 ≤ x1 ∧ x1 < 6 then
      if and32 (shr32 (M b1 x1.toNat) x2) 1 = 0 then
        some (some (vI 0), S, M)
      else
        some (some (vI 1), S, M)
    else none := (Run_EE K tb_Chart_atWar [] 500 0 _ _ S M).trans rfl
set_option maxRecDepth 100000 in
theorem b_Ca_boarders_0 (K : Cal) (a0 : Nat) (x1 : Int) (S : Sp) (M : Mm) : Run K tb_Ca_boarders 0 [vR 11 0 a0, vI x1, vU, vU] [] S M =
  bndI (K m_Ca_isShip [vR 11 0 a0, vI x1] S M) fun r1 S1 M1 =>
  if r1 = 0 then
    bndI (K m_Ca_refuse [vR 11 0 a0, vI 1] S1 M1) fun r2 S2 M2 =>
    some (some (vI r2), S2, M2)
  else
    Run K tb_Ca_boarders 18 [vR 11 0 a0, vI x1, vI 0, vI 0] [] S1 M1 := (Run_EE K tb_Ca_boarders [18] 500 0 _ _ S M).trans rfl
set_option maxRecDepth 100000 in
theorem b_Ca_boarders_18 (K : Cal) (a0 : Nat) (x1 : Int) (x2 : Int) (x3 : Int) (S : Sp) (M : Mm) : Run K tb_Ca_boarders 18 [vR 11 0 a0, vI x1, vI x2, vI x3] [] S M =
  bR (refOf S a0 4) fun b1 =>
  bR (refOf S b1 0) fun b2 =>
    bR (refOf S b2 0) fun b3 =>
      if x3 < M b3 3 then
          if x3 = x1 then
            Run K tb_Ca_boarders 18 [vR 11 0 a0, vI x1, vI x2, vI (w32 (x3 + 1))] [] S M
          else
            bndI (K m_Ca_mayBoard [vR 11 0 a0, vI x3, vI x1] S M) fun r4 S4 M4 =>
            if r4 = 0 then
              Run K tb_Ca_boarders 18 [vR 11 0 a0, vI x1, vI x2, vI (w32 (x3 + 1))] [] S4 M4
            else
              Run K tb_Ca_boarders 18 [vR 11 0 a0, vI x1, vI (or32 x2 (shl32 1 x3)), vI (w32 (x3 + 1))] [] S4 M4
        else
          bndI (K m_Ca_answer [vR 11 0 a0, vI x2] S M) fun r5 S5 M5 =>
          some (some (vI r5), S5, M5) := (Run_EE K tb_Ca_boarders [18] 500 18 _ _ S M).trans rfl
set_option maxRecDepth 100000 in
theorem b_Ca_greatest_0 (K : Cal) (a0 : Nat) (x1 : Int) (S : Sp) (M : Mm) : Run K tb_Ca_greatest 0 [vR 11 0 a0, vI x1, vU, vU, vU, vU] [] S M =
  bndI (K m_Ca_isNation [vR 11 0 a0, vI x1] S M) fun r1 S1 M1 =>
  if r1 = 0 then
    bndI (K m_Ca_refuse [vR 11 0 a0, vI 1] S1 M1) fun r2 S2 M2 =>
    some (some (vI r2), S2, M2)
  else
    Run K tb_Ca_greatest 21 [vR 11 0 a0, vI x1, vI 0, vI (-1), vI 0, vU] [] S1 M1 := (Run_EE K tb_Ca_greatest [21] 500 0 _ _ S M).trans rfl
set_option maxRecDepth 100000 in
theorem b_Ca_greatest_21 (K : Cal) (a0 : Nat) (x1 : Int) (x2 : Int) (x3 : Int) (x4 : Int) (d5 : AV) (S : Sp) (M : Mm) : Run K tb_Ca_greatest 21 [vR 11 0 a0, vI x1, vI x2, vI x3, vI x4, d5] [] S M =
  bR (refOf S a0 4) fun b1 =>
  bR (refOf S b1 0) fun b2 =>
    bR (refOf S b2 0) fun b3 =>
      if x4 < M b3 3 then
          bR (refOf S a0 4) fun b4 =>
          bR (refOf S b4 0) fun b5 =>
            bR (refOf S a0 4) fun b6 =>
              bR (refOf S b6 1) fun b7 =>
                if 0 ≤ x4 ∧ x4 < 4 then
                    bR (refOf S b7 x4.toNat) fun b8 =>
                    bR (refOf S b8 7) fun b9 =>
                      bndI (K m_Chart_heft [vR 0 0 b5, vR 20 8 b9, vI x1, vI 0] S M) fun r10 S10 M10 =>
                        if x2 < r10 then
                          Run K tb_Ca_greatest 21 [vR 11 0 a0, vI x1, vI r10, vI x4, vI (w32 (x4 + 1)), vI r10] [] S10 M10
                        else
                          Run K tb_Ca_greatest 21 [vR 11 0 a0, vI x1, vI x2, vI x3, vI (w32 (x4 + 1)), vI r10] [] S10 M10
                  else none
        else
          bndI (K m_Ca_answerOr [vR 11 0 a0, vI x3, vI 6] S M) fun r11 S11 M11 =>
          some (some (vI r11), S11, M11) := (Run_EE K tb_Ca_greatest [21] 500 21 _ _ S M).trans rfl
set_option maxRecDepth 100000 in
theorem b_Ca_buy_0 (K : Cal) (a0 : Nat) (x1 : Int) (x2 : Int) (x3 : Int) (S : Sp) (M : Mm) : Run K tb_Ca_buy 0 [vR 11 0 a0, vI x1, vI x2, vI x3, vU] [] S M =
  bndI (K m_Ca_isLading [vR 11 0 a0, vI x1, vI x2, vI x3] S M) fun r1 S1 M1 =>
  if r1 = 0 then
    bndI (K m_Ca_refuse [vR 11 0 a0, vI 1] S1 M1) fun r2 S2 M2 =>
    some (some (vI r2), S2, M2)
  else
    bR (refOf S1 a0 4) fun b3 =>
    bR (refOf S1 b3 1) fun b4 =>
      if 0 ≤ x1 ∧ x1 < 4 then
          bR (refOf S1 b4 x1.toNat) fun b5 =>
          bR (refOf S1 a0 4) fun b6 =>
            bR (refOf S1 b6 0) fun b7 =>
              bndI (K m_Vessel_buys [vR 8 0 b5, vR 0 0 b7, vI x2, vI x3] S1 M1) fun r8 S8 M8 =>
                if r8 = 0 then
                  bndI (K m_Ca_refuse [vR 11 0 a0, vI 7] S8 M8) fun r9 S9 M9 =>
                  some (some (vI r9), S9, M9)
                else
                  bR (refOf S8 b5 7) fun b10 =>
                  if 0 ≤ x2 ∧ x2 < 8 then
                      bndI (K m_Ca_answer [vR 11 0 a0, vI (M8 b10 x2.toNat)] S8 M8) fun r11 S11 M11 =>
                      some (some (vI r11), S11, M11)
                    else none
        else none := (Run_EE K tb_Ca_buy [] 500 0 _ _ S M).trans rfl
set_option maxRecDepth 100000 in
theorem b_Ca_isLading_0 (K : Cal) (a0 : Nat) (x1 : Int) (x2 : Int) (x3 : Int) (S : Sp) (M : Mm) : Run K tb_Ca_isLading 0 [vR 11 0 a0, vI x1, vI x2, vI x3] [] S M =
  bndI (K m_Ca_isShip [vR 11 0 a0, vI x1] S M) fun r1 S1 M1 =>
  if r1 = 0 then
    some (some (vI 0), S1, M1)
  else
    bndI (K m_Ca_isGood [vR 11 0 a0, vI x2] S1 M1) fun r2 S2 M2 =>
    if r2 = 0 then
      some (some (vI 0), S2, M2)
    else
      bndI (K m_Ca_within [vI x3, vI 1, vI 60] S2 M2) fun r3 S3 M3 =>
      if r3 = 0 then
        some (some (vI 0), S3, M3)
      else
        some (some (vI 1), S3, M3) := (Run_EE K tb_Ca_isLading [] 500 0 _ _ S M).trans rfl
set_option maxRecDepth 100000 in
theorem b_Vessel_buys_0 (K : Cal) (a0 : Nat) (a1 : Nat) (x2 : Int) (x3 : Int) (S : Sp) (M : Mm) : Run K tb_Vessel_buys 0 [vR 8 0 a0, vR 0 0 a1, vI x2, vI x3, vU] [] S M =
  if M a0 0 = (-1) then
    some (some (vI 0), S, M)
  else
    bR (refOf S a1 10) fun b1 =>
    if 0 ≤ M a0 0 ∧ M a0 0 < 6 then
        bR (refOf S b1 (M a0 0).toNat) fun b2 =>
        if 0 ≤ x2 ∧ x2 < 8 then
            if w32 ((M b2 x2.toNat) * x3) = 0 then
              some (some (vI 0), S, M)
            else
              if M a0 4 < w32 ((M b2 x2.toNat) * x3) then
                some (some (vI 0), S, M)
              else
                bndI (K m_Vessel_room [vR 8 0 a0] S M) fun r3 S3 M3 =>
                if r3 < x3 then
                  some (some (vI 0), S3, M3)
                else
                  bR (refOf S3 a0 7) fun b4 =>
                  if 0 ≤ x2 ∧ x2 < 8 then
                      if 0 ≤ x2 ∧ x2 < 8 then
                        some (some (vI 1), S3, up (up M3 a0 4 (w32 ((M3 a0 4) - (w32 ((M b2 x2.toNat) * x3))))) b4 x2.toNat (w32 (((up M3 a0 4 (w32 ((M3 a0 4) - (w32 ((M b2 x2.toNat) * x3))))) b4 x2.toNat) + x3)))
                      else none
                    else none
          else none
      else none := (Run_EE K tb_Vessel_buys [] 500 0 _ _ S M).trans rfl
set_option maxRecDepth 100000 in
theorem b_Ca_sell_0 (K : Cal) (a0 : Nat) (x1 : Int) (x2 : Int) (x3 : Int) (S : Sp) (M : Mm) : Run K tb_Ca_sell 0 [vR 11 0 a0, vI x1, vI x2, vI x3, vU] [] S M =
  bndI (K m_Ca_isLading [vR 11 0 a0, vI x1, vI x2, vI x3] S M) fun r1 S1 M1 =>
  if r1 = 0 then
    bndI (K m_Ca_refuse [vR 11 0 a0, vI 1] S1 M1) fun r2 S2 M2 =>
    some (some (vI r2), S2, M2)
  else
    bR (refOf S1 a0 4) fun b3 =>
    bR (refOf S1 b3 1) fun b4 =>
      if 0 ≤ x1 ∧ x1 < 4 then
          bR (refOf S1 b4 x1.toNat) fun b5 =>
          bR (refOf S1 a0 4) fun b6 =>
            bR (refOf S1 b6 0) fun b7 =>
              bndI (K m_Vessel_sells [vR 8 0 b5, vR 0 0 b7, vI x2, vI x3] S1 M1) fun r8 S8 M8 =>
                if r8 = 0 then
                  bndI (K m_Ca_refuse [vR 11 0 a0, vI 7] S8 M8) fun r9 S9 M9 =>
                  some (some (vI r9), S9, M9)
                else
                  bR (refOf S8 b5 7) fun b10 =>
                  if 0 ≤ x2 ∧ x2 < 8 then
                      bndI (K m_Ca_answer [vR 11 0 a0, vI (M8 b10 x2.toNat)] S8 M8) fun r11 S11 M11 =>
                      some (some (vI r11), S11, M11)
                    else none
        else none := (Run_EE K tb_Ca_sell [] 500 0 _ _ S M).trans rfl
set_option maxRecDepth 100000 in
theorem b_Vessel_sells_0 (K : Cal) (a0 : Nat) (a1 : Nat) (x2 : Int) (x3 : Int) (S : Sp) (M : Mm) : Run K tb_Vessel_sells 0 [vR 8 0 a0, vR 0 0 a1, vI x2, vI x3] [] S M =
  if M a0 0 = (-1) then
    some (some (vI 0), S, M)
  else
    bR (refOf S a1 10) fun b1 =>
    if 0 ≤ M a0 0 ∧ M a0 0 < 6 then
        bR (refOf S b1 (M a0 0).toNat) fun b2 =>
        if 0 ≤ x2 ∧ x2 < 8 then
            if M b2 x2.toNat = 0 then
              some (some (vI 0), S, M)
            else
              bR (refOf S a0 7) fun b3 =>
              if 0 ≤ x2 ∧ x2 < 8 then
                  if M b3 x2.toNat < x3 then
                    some (some (vI 0), S, M)
                  else
                    bR (refOf S a1 10) fun b4 =>
                    if 0 ≤ M a0 0 ∧ M a0 0 < 6 then
                        bR (refOf S b4 (M a0 0).toNat) fun b5 =>
                        if 0 ≤ x2 ∧ x2 < 8 then
                            bR (refOf S a0 7) fun b6 =>
                            if 0 ≤ x2 ∧ x2 < 8 then
                                if 0 ≤ x2 ∧ x2 < 8 then
                                  some (some (vI 1), S, up (up M a0 4 (min 9999 (w32 ((M a0 4) + (w32 ((M b5 x2.toNat) * x3)))))) b6 x2.toNat (w32 (((up M a0 4 (min 9999 (w32 ((M a0 4) + (w32 ((M b5 x2.toNat) * x3)))))) b6 x2.toNat) - x3)))
                                else none
                              else none
                          else none
                      else none
                else none
          else none
      else none := (Run_EE K tb_Vessel_sells [] 500 0 _ _ S M).trans rfl
set_option maxRecDepth 100000 in
theorem b_Ca_dump_0 (K : Cal) (a0 : Nat) (x1 : Int) (x2 : Int) (x3 : Int) (S : Sp) (M : Mm) : Run K tb_Ca_dump 0 [vR 11 0 a0, vI x1, vI x2, vI x3, vU] [] S M =
  bndI (K m_Ca_isLading [vR 11 0 a0, vI x1, vI x2, vI x3] S M) fun r1 S1 M1 =>
  if r1 = 0 then
    bndI (K m_Ca_refuse [vR 11 0 a0, vI 1] S1 M1) fun r2 S2 M2 =>
    some (some (vI r2), S2, M2)
  else
    bR (refOf S1 a0 4) fun b3 =>
    bR (refOf S1 b3 1) fun b4 =>
      if 0 ≤ x1 ∧ x1 < 4 then
          bR (refOf S1 b4 x1.toNat) fun b5 =>
          bndI (K m_Vessel_dumps [vR 8 0 b5, vI x2, vI x3] S1 M1) fun r6 S6 M6 =>
            if r6 = 0 then
              bndI (K m_Ca_refuse [vR 11 0 a0, vI 7] S6 M6) fun r7 S7 M7 =>
              some (some (vI r7), S7, M7)
            else
              bR (refOf S6 b5 7) fun b8 =>
              if 0 ≤ x2 ∧ x2 < 8 then
                  bndI (K m_Ca_answer [vR 11 0 a0, vI (M6 b8 x2.toNat)] S6 M6) fun r9 S9 M9 =>
                  some (some (vI r9), S9, M9)
                else none
        else none := (Run_EE K tb_Ca_dump [] 500 0 _ _ S M).trans rfl
set_option maxRecDepth 100000 in
theorem b_Vessel_dumps_0 (K : Cal) (a0 : Nat) (x1 : Int) (x2 : Int) (S : Sp) (M : Mm) : Run K tb_Vessel_dumps 0 [vR 8 0 a0, vI x1, vI x2] [] S M =
  bR (refOf S a0 7) fun b1 =>
  if 0 ≤ x1 ∧ x1 < 8 then
      if M b1 x1.toNat < x2 then
        some (some (vI 0), S, M)
      else
        bR (refOf S a0 7) fun b2 =>
        if 0 ≤ x1 ∧ x1 < 8 then
            if 0 ≤ x1 ∧ x1 < 8 then
              some (some (vI 1), S, up M b2 x1.toNat (w32 ((M b2 x1.toNat) - x2)))
            else none
          else none
    else none := (Run_EE K tb_Vessel_dumps [] 500 0 _ _ S M).trans rfl
set_option maxRecDepth 100000 in
theorem b_Ca_sail_0 (K : Cal) (a0 : Nat) (x1 : Int) (x2 : Int) (S : Sp) (M : Mm) : Run K tb_Ca_sail 0 [vR 11 0 a0, vI x1, vI x2, vU] [] S M =
  bndI (K m_Ca_isShip [vR 11 0 a0, vI x1] S M) fun r1 S1 M1 =>
  if r1 = 0 then
    bndI (K m_Ca_refuse [vR 11 0 a0, vI 1] S1 M1) fun r2 S2 M2 =>
    some (some (vI r2), S2, M2)
  else
    bndI (K m_Ca_isPort [vR 11 0 a0, vI x2] S1 M1) fun r3 S3 M3 =>
    if r3 = 0 then
      bndI (K m_Ca_refuse [vR 11 0 a0, vI 1] S3 M3) fun r4 S4 M4 =>
      some (some (vI r4), S4, M4)
    else
      bR (refOf S3 a0 4) fun b5 =>
      bR (refOf S3 b5 1) fun b6 =>
        if 0 ≤ x1 ∧ x1 < 4 then
            bR (refOf S3 b6 x1.toNat) fun b7 =>
            bR (refOf S3 a0 4) fun b8 =>
              bR (refOf S3 b8 0) fun b9 =>
                bndI (K m_Vessel_sails [vR 8 0 b7, vR 0 0 b9, vI x2] S3 M3) fun r10 S10 M10 =>
                  if r10 = 0 then
                    bndI (K m_Ca_refuse [vR 11 0 a0, vI 7] S10 M10) fun r11 S11 M11 =>
                    some (some (vI r11), S11, M11)
                  else
                    bndI (K m_Ca_answer [vR 11 0 a0, vI (M10 b7 2)] S10 M10) fun r12 S12 M12 =>
                    some (some (vI r12), S12, M12)
          else none := (Run_EE K tb_Ca_sail [] 500 0 _ _ S M).trans rfl
set_option maxRecDepth 100000 in
theorem b_Vessel_sails_0 (K : Cal) (a0 : Nat) (a1 : Nat) (x2 : Int) (S : Sp) (M : Mm) : Run K tb_Vessel_sails 0 [vR 8 0 a0, vR 0 0 a1, vI x2] [] S M =
  if M a0 0 = (-1) then
    some (some (vI 0), S, M)
  else
    bR (refOf S a1 11) fun b1 =>
    if 0 ≤ M a0 0 ∧ M a0 0 < 6 then
        bR (refOf S b1 (M a0 0).toNat) fun b2 =>
        if 0 ≤ x2 ∧ x2 < 6 then
            if M b2 x2.toNat = 0 then
              some (some (vI 0), S, M)
            else
              bR (refOf S a1 11) fun b3 =>
              if 0 ≤ M a0 0 ∧ M a0 0 < 6 then
                  bR (refOf S b3 (M a0 0).toNat) fun b4 =>
                  if 0 ≤ x2 ∧ x2 < 6 then
                      some (some (vI 1), S, up (up (up M a0 2 (M b4 x2.toNat)) a0 1 x2) a0 0 (-1))
                    else none
                else none
          else none
      else none := (Run_EE K tb_Vessel_sails [] 500 0 _ _ S M).trans rfl
set_option maxRecDepth 100000 in
theorem b_Ca_day_0 (K : Cal) (a0 : Nat) (x1 : Int) (S : Sp) (M : Mm) : Run K tb_Ca_day 0 [vR 11 0 a0, vI x1, vU, vU] [] S M =
  bndI (K m_Ca_within [vI x1, vI 1, vI 99] S M) fun r1 S1 M1 =>
  if r1 = 0 then
    bndI (K m_Ca_refuse [vR 11 0 a0, vI 1] S1 M1) fun r2 S2 M2 =>
    some (some (vI r2), S2, M2)
  else
    bR (refOf S1 a0 4) fun b3 =>
    if 9999 < w32 ((M1 b3 3) + x1) then
        bndI (K m_Ca_refuse [vR 11 0 a0, vI 4] S1 M1) fun r4 S4 M4 =>
        some (some (vI r4), S4, M4)
      else
        Run K tb_Ca_day 41 [vR 11 0 a0, vI x1, vI 0, vI 0] [] S1 M1 := (Run_EE K tb_Ca_day [41] 500 0 _ _ S M).trans rfl
set_option maxRecDepth 100000 in
theorem b_Ca_day_41 (K : Cal) (a0 : Nat) (x1 : Int) (x2 : Int) (x3 : Int) (S : Sp) (M : Mm) : Run K tb_Ca_day 41 [vR 11 0 a0, vI x1, vI x2, vI x3] [] S M =
  if x3 < x1 then
    bR (refOf S a0 4) fun b1 =>
    bndI (K m_State_passDay [vR 5 0 b1] S M) fun r2 S2 M2 =>
      Run K tb_Ca_day 41 [vR 11 0 a0, vI x1, vI (or32 x2 r2), vI (w32 (x3 + 1))] [] S2 M2
  else
    bndI (K m_Ca_answer [vR 11 0 a0, vI x2] S M) fun r3 S3 M3 =>
    some (some (vI r3), S3, M3) := (Run_EE K tb_Ca_day [41] 500 41 _ _ S M).trans rfl
set_option maxRecDepth 100000 in
theorem b_State_passDay_0 (K : Cal) (a0 : Nat) (S : Sp) (M : Mm) : Run K tb_State_passDay 0 [vR 5 0 a0, vU, vU] [] S M =
  Run K tb_State_passDay 4 [vR 5 0 a0, vI 0, vI 0] [] S M := (Run_EE K tb_State_passDay [4] 500 0 _ _ S M).trans rfl
set_option maxRecDepth 100000 in
theorem b_State_passDay_4 (K : Cal) (a0 : Nat) (x1 : Int) (x2 : Int) (S : Sp) (M : Mm) : Run K tb_State_passDay 4 [vR 5 0 a0, vI x1, vI x2] [] S M =
  bR (refOf S a0 0) fun b1 =>
  bR (refOf S b1 0) fun b2 =>
    if x2 < M b2 3 then
        bR (refOf S a0 1) fun b3 =>
        if 0 ≤ x2 ∧ x2 < 4 then
            bR (refOf S b3 x2.toNat) fun b4 =>
            if M b4 0 = (-1) then
                bR (refOf S a0 1) fun b5 =>
                if 0 ≤ x2 ∧ x2 < 4 then
                    bR (refOf S b5 x2.toNat) fun b6 =>
                    bR (refOf S a0 0) fun b7 =>
                      bndI (K m_Vessel_sailsOn [vR 8 0 b6, vR 0 0 b7, vI 1] S M) fun r8 S8 M8 =>
                        if r8 = 0 then
                          Run K tb_State_passDay 4 [vR 5 0 a0, vI x1, vI (w32 (x2 + 1))] [] S8 M8
                        else
                          Run K tb_State_passDay 4 [vR 5 0 a0, vI (or32 x1 (shl32 1 x2)), vI (w32 (x2 + 1))] [] S8 M8
                  else none
              else
                bR (refOf S a0 1) fun b9 =>
                if 0 ≤ x2 ∧ x2 < 4 then
                    bR (refOf S b9 x2.toNat) fun b10 =>
                    bR (refOf S a0 0) fun b11 =>
                      bndI (K m_Vessel_leaks [vR 8 0 b10, vR 0 0 b11] S M) fun r12 S12 M12 =>
                        Run K tb_State_passDay 4 [vR 5 0 a0, vI x1, vI (w32 (x2 + 1))] [] S12 M12
                  else none
          else none
      else
        some (some (vI x1), S, up M a0 3 (w32 ((M a0 3) + 1))) := (Run_EE K tb_State_passDay [4] 500 4 _ _ S M).trans rfl
set_option maxRecDepth 100000 in
theorem b_Vessel_leaks_0 (K : Cal) (a0 : Nat) (a1 : Nat) (S : Sp) (M : Mm) : Run K tb_Vessel_leaks 0 [vR 8 0 a0, vR 0 0 a1, vU, vU] [] S M =
  Run K tb_Vessel_leaks 4 [vR 8 0 a0, vR 0 0 a1, vI 0, vI 0] [] S M := (Run_EE K tb_Vessel_leaks [4] 500 0 _ _ S M).trans rfl
set_option maxRecDepth 100000 in
theorem b_Vessel_leaks_4 (K : Cal) (a0 : Nat) (a1 : Nat) (x2 : Int) (x3 : Int) (S : Sp) (M : Mm) : Run K tb_Vessel_leaks 4 [vR 8 0 a0, vR 0 0 a1, vI x2, vI x3] [] S M =
  bR (refOf S a1 0) fun b1 =>
  if x3 < M b1 1 then
      bR (refOf S a0 7) fun b2 =>
      if 0 ≤ x3 ∧ x3 < 8 then
          if 0 < M b2 x3.toNat then
            bR (refOf S a1 8) fun b3 =>
            if 0 ≤ x3 ∧ x3 < 8 then
                if 0 < M b3 x3.toNat then
                  bR (refOf S a0 7) fun b4 =>
                  bR (refOf S a0 7) fun b5 =>
                    if 0 ≤ x3 ∧ x3 < 8 then
                        bR (refOf S a1 8) fun b6 =>
                        if 0 ≤ x3 ∧ x3 < 8 then
                            if 0 ≤ x3 ∧ x3 < 8 then
                              Run K tb_Vessel_leaks 4 [vR 8 0 a0, vR 0 0 a1, vI 1, vI (w32 (x3 + 1))] [] S (up M b4 x3.toNat (max 0 (w32 ((M b5 x3.toNat) - (M b6 x3.toNat)))))
                            else none
                          else none
                      else none
                else
                  Run K tb_Vessel_leaks 4 [vR 8 0 a0, vR 0 0 a1, vI x2, vI (w32 (x3 + 1))] [] S M
              else none
          else
            Run K tb_Vessel_leaks 4 [vR 8 0 a0, vR 0 0 a1, vI x2, vI (w32 (x3 + 1))] [] S M
        else none
    else
      some (some (vI (x2 % 2)), S, M) := (Run_EE K tb_Vessel_leaks [4] 500 4 _ _ S M).trans rfl
set_option maxRecDepth 100000 in
theorem b_Vessel_sailsOn_0 (K : Cal) (a0 : Nat) (a1 : Nat) (x2 : Int) (S : Sp) (M : Mm) : Run K tb_Vessel_sailsOn 0 [vR 8 0 a0, vR 0 0 a1, vI x2, vU, vU, vU] [] S M =
  bR (refOf S a0 7) fun b1 =>
  bndI (K m_Chart_ruler [vR 0 0 a1, vR 20 8 b1, vI (M a1 12)] S M) fun r2 S2 M2 =>
    Run K tb_Vessel_sailsOn 26 [vR 8 0 a0, vR 0 0 a1, vI x2, vI r2, vI (min x2 (M2 a0 2)), vI 0] [] S2 M2 := (Run_EE K tb_Vessel_sailsOn [26] 500 0 _ _ S M).trans rfl
set_option maxRecDepth 100000 in
theorem b_Vessel_sailsOn_26 (K : Cal) (a0 : Nat) (a1 : Nat) (x2 : Int) (x3 : Int) (x4 : Int) (x5 : Int) (S : Sp) (M : Mm) : Run K tb_Vessel_sailsOn 26 [vR 8 0 a0, vR 0 0 a1, vI x2, vI x3, vI x4, vI x5] [] S M =
  if x5 < x4 then
    bndV (K m_Vessel_paysWage [vR 8 0 a0, vR 0 0 a1, vI x3] S M) fun S1 M1 =>
    bndI (K m_Vessel_leaks [vR 8 0 a0, vR 0 0 a1] S1 M1) fun r2 S2 M2 =>
    if r2 = 0 then
      Run K tb_Vessel_sailsOn 26 [vR 8 0 a0, vR 0 0 a1, vI x2, vI x3, vI x4, vI (w32 (x5 + 1))] [] S2 M2
    else
      bR (refOf S2 a0 7) fun b3 =>
      bndI (K m_Chart_ruler [vR 0 0 a1, vR 20 8 b3, vI (M2 a1 12)] S2 M2) fun r4 S4 M4 =>
        Run K tb_Vessel_sailsOn 26 [vR 8 0 a0, vR 0 0 a1, vI x2, vI r4, vI x4, vI (w32 (x5 + 1))] [] S4 M4
  else
    if 0 < (up M a0 2 (w32 ((M a0 2) - x4))) a0 2 then
      some (some (vI 0), S, up M a0 2 (w32 ((M a0 2) - x4)))
    else
      bndV (K m_Vessel_paysDuty [vR 8 0 a0, vR 0 0 a1, vI x3] S (up (up (up M a0 2 (w32 ((M a0 2) - x4))) a0 0 ((up M a0 2 (w32 ((M a0 2) - x4))) a0 1)) a0 1 (-1))) fun S5 M5 =>
      some (some (vI 1), S5, M5) := (Run_EE K tb_Vessel_sailsOn [26] 500 26 _ _ S M).trans rfl
set_option maxRecDepth 100000 in
theorem b_Vessel_paysWage_0 (K : Cal) (a0 : Nat) (a1 : Nat) (x2 : Int) (S : Sp) (M : Mm) : Run K tb_Vessel_paysWage 0 [vR 8 0 a0, vR 0 0 a1, vI x2] [] S M =
  if x2 = (-1) then
    some (none, S, M)
  else
    bR (refOf S a1 2) fun b1 =>
    if 0 ≤ x2 ∧ x2 < 6 then
        if M a0 4 < M b1 x2.toNat then
          some (none, S, up M a0 5 (w32 ((M a0 5) + 1)))
        else
          bR (refOf S a1 2) fun b2 =>
          if 0 ≤ x2 ∧ x2 < 6 then
              some (none, S, up M a0 4 (w32 ((M a0 4) - (M b2 x2.toNat))))
            else none
      else none := (Run_EE K tb_Vessel_paysWage [] 500 0 _ _ S M).trans rfl
set_option maxRecDepth 100000 in
theorem b_Vessel_paysDuty_0 (K : Cal) (a0 : Nat) (a1 : Nat) (x2 : Int) (S : Sp) (M : Mm) : Run K tb_Vessel_paysDuty 0 [vR 8 0 a0, vR 0 0 a1, vI x2, vU, vU] [] S M =
  bR (refOf S a1 9) fun b1 =>
  if 0 ≤ M a0 0 ∧ M a0 0 < 6 then
      if M b1 (M a0 0).toNat = (-1) then
        some (none, S, M)
      else
        if M b1 (M a0 0).toNat = x2 then
          some (none, S, M)
        else
          bR (refOf S a1 3) fun b2 =>
          if 0 ≤ M b1 (M a0 0).toNat ∧ M b1 (M a0 0).toNat < 6 then
              bndI (K m_Vessel_load [vR 8 0 a0] S M) fun r3 S3 M3 =>
              some (none, S3, up (up M3 a0 4 (w32 ((M3 a0 4) - (min (M a0 4) (w32 ((M b2 (M b1 (M a0 0).toNat).toNat) * r3)))))) a0 6 (w32 (((up M3 a0 4 (w32 ((M3 a0 4) - (min (M a0 4) (w32 ((M b2 (M b1 (M a0 0).toNat).toNat) * r3)))))) a0 6) + (min (M a0 4) (w32 ((M b2 (M b1 (M a0 0).toNat).toNat) * r3))))))
            else none
    else none := (Run_EE K tb_Vessel_paysDuty [] 500 0 _ _ S M).trans rfl
set_option maxRecDepth 100000 in
theorem b_Ca_pass_0 (K : Cal) (a0 : Nat) (x1 : Int) (x2 : Int) (x3 : Int) (x4 : Int) (S : Sp) (M : Mm) : Run K tb_Ca_pass 0 [vR 11 0 a0, vI x1, vI x2, vI x3, vI x4, vU, vU] [] S M =
  bndI (K m_Ca_areTwo [vR 11 0 a0, vI x1, vI x2, vI 3] S M) fun r1 S1 M1 =>
  if r1 = 0 then
    bndI (K m_Ca_deny [vR 11 0 a0, vI 1] S1 M1) fun r2 S2 M2 =>
    some (some (vI (r2 % 2)), S2, M2)
  else
    bndI (K m_Ca_isGood [vR 11 0 a0, vI x3] S1 M1) fun r3 S3 M3 =>
    if r3 = 0 then
      bndI (K m_Ca_deny [vR 11 0 a0, vI 1] S3 M3) fun r4 S4 M4 =>
      some (some (vI (r4 % 2)), S4, M4)
    else
      bndI (K m_Ca_within [vI x4, vI 1, vI 60] S3 M3) fun r5 S5 M5 =>
      if r5 = 0 then
        bndI (K m_Ca_deny [vR 11 0 a0, vI 1] S5 M5) fun r6 S6 M6 =>
        some (some (vI (r6 % 2)), S6, M6)
      else
        bR (refOf S5 a0 4) fun b7 =>
        bR (refOf S5 b7 1) fun b8 =>
          if 0 ≤ x1 ∧ x1 < 4 then
              bR (refOf S5 b8 x1.toNat) fun b9 =>
              bR (refOf S5 a0 4) fun b10 =>
                bR (refOf S5 b10 1) fun b11 =>
                  if 0 ≤ x2 ∧ x2 < 4 then
                      bR (refOf S5 b11 x2.toNat) fun b12 =>
                      if M5 b9 0 = (-1) then
                          bndI (K m_Ca_deny [vR 11 0 a0, vI 7] S5 M5) fun r13 S13 M13 =>
                          some (some (vI (r13 % 2)), S13, M13)
                        else
                          if M5 b9 0 = M5 b12 0 then
                            bR (refOf S5 b9 7) fun b14 =>
                            if 0 ≤ x3 ∧ x3 < 8 then
                                if M5 b14 x3.toNat < x4 then
                                  bndI (K m_Ca_deny [vR 11 0 a0, vI 7] S5 M5) fun r15 S15 M15 =>
                                  some (some (vI (r15 % 2)), S15, M15)
                                else
                                  bndI (K m_Vessel_room [vR 8 0 b12] S5 M5) fun r16 S16 M16 =>
                                  if r16 < x4 then
                                    bndI (K m_Ca_deny [vR 11 0 a0, vI 7] S16 M16) fun r17 S17 M17 =>
                                    some (some (vI (r17 % 2)), S17, M17)
                                  else
                                    bR (refOf S16 b9 7) fun b18 =>
                                    if 0 ≤ x3 ∧ x3 < 8 then
                                        if 0 ≤ x3 ∧ x3 < 8 then
                                          bR (refOf S16 b12 7) fun b19 =>
                                          if 0 ≤ x3 ∧ x3 < 8 then
                                              if 0 ≤ x3 ∧ x3 < 8 then
                                                bndI (K m_Ca_agree [vR 11 0 a0] S16 (up (up M16 b18 x3.toNat (w32 ((M16 b18 x3.toNat) - x4))) b19 x3.toNat (w32 (((up M16 b18 x3.toNat (w32 ((M16 b18 x3.toNat) - x4))) b19 x3.toNat) + x4)))) fun r20 S20 M20 =>
                                                some (some (vI (r20 % 2)), S20, M20)
                                              else none
                                            else none
                                        else none
                                      else none
                              else none
                          else
                            bndI (K m_Ca_deny [vR 11 0 a0, vI 7] S5 M5) fun r21 S21 M21 =>
                            some (some (vI (r21 % 2)), S21, M21)
                    else none
            else none := (Run_EE K tb_Ca_pass [] 500 0 _ _ S M).trans rfl
set_option maxRecDepth 100000 in
theorem b_Ca_rule_0 (K : Cal) (a0 : Nat) (x1 : Int) (S : Sp) (M : Mm) : Run K tb_Ca_rule 0 [vR 11 0 a0, vI x1] [] S M =
  bndI (K m_Ca_within [vI x1, vI 0, vI 2] S M) fun r1 S1 M1 =>
  if r1 = 0 then
    bndI (K m_Ca_deny [vR 11 0 a0, vI 1] S1 M1) fun r2 S2 M2 =>
    some (some (vI (r2 % 2)), S2, M2)
  else
    bR (refOf S1 a0 4) fun b3 =>
    bR (refOf S1 b3 0) fun b4 =>
      bndI (K m_Ca_agree [vR 11 0 a0] S1 (up M1 b4 12 x1)) fun r5 S5 M5 =>
        some (some (vI (r5 % 2)), S5, M5) := (Run_EE K tb_Ca_rule [] 500 0 _ _ S M).trans rfl
set_option maxRecDepth 100000 in
theorem b_Ca_war_0 (K : Cal) (a0 : Nat) (x1 : Int) (x2 : Int) (x3 : Int) (S : Sp) (M : Mm) : Run K tb_Ca_war 0 [vR 11 0 a0, vI x1, vI x2, vI x3] [] S M =
  bndI (K m_Ca_areTwo [vR 11 0 a0, vI x1, vI x2, vI 0] S M) fun r1 S1 M1 =>
  if r1 = 0 then
    bndI (K m_Ca_deny [vR 11 0 a0, vI 1] S1 M1) fun r2 S2 M2 =>
    some (some (vI (r2 % 2)), S2, M2)
  else
    bR (refOf S1 a0 4) fun b3 =>
    bR (refOf S1 b3 0) fun b4 =>
      bndI (K m_Chart_atWar [vR 0 0 b4, vI x1, vI x2] S1 M1) fun r5 S5 M5 =>
        if r5 = x3 then
          bndI (K m_Ca_deny [vR 11 0 a0, vI 7] S5 M5) fun r6 S6 M6 =>
          some (some (vI (r6 % 2)), S6, M6)
        else
          bR (refOf S5 a0 4) fun b7 =>
          bR (refOf S5 b7 0) fun b8 =>
            bndV (K m_Chart_setWar [vR 0 0 b8, vI x1, vI x2, vI x3] S5 M5) fun S9 M9 =>
              bndI (K m_Ca_agree [vR 11 0 a0] S9 M9) fun r10 S10 M10 =>
              some (some (vI (r10 % 2)), S10, M10) := (Run_EE K tb_Ca_war [] 500 0 _ _ S M).trans rfl
set_option maxRecDepth 100000 in
theorem b_Ca_trade_0 (K : Cal) (a0 : Nat) (x1 : Int) (x2 : Int) (x3 : Int) (S : Sp) (M : Mm) : Run K tb_Ca_trade 0 [vR 11 0 a0, vI x1, vI x2, vI x3] [] S M =
  bndI (K m_Ca_isPort [vR 11 0 a0, vI x1] S M) fun r1 S1 M1 =>
  if r1 = 0 then
    bndI (K m_Ca_deny [vR 11 0 a0, vI 1] S1 M1) fun r2 S2 M2 =>
    some (some (vI (r2 % 2)), S2, M2)
  else
    bndI (K m_Ca_isGood [vR 11 0 a0, vI x2] S1 M1) fun r3 S3 M3 =>
    if r3 = 0 then
      bndI (K m_Ca_deny [vR 11 0 a0, vI 1] S3 M3) fun r4 S4 M4 =>
      some (some (vI (r4 % 2)), S4, M4)
    else
      bndI (K m_Ca_within [vI x3, vI 0, vI 99] S3 M3) fun r5 S5 M5 =>
      if r5 = 0 then
        bndI (K m_Ca_deny [vR 11 0 a0, vI 1] S5 M5) fun r6 S6 M6 =>
        some (some (vI (r6 % 2)), S6, M6)
      else
        bR (refOf S5 a0 4) fun b7 =>
        bR (refOf S5 b7 0) fun b8 =>
          bR (refOf S5 b8 10) fun b9 =>
            if 0 ≤ x1 ∧ x1 < 6 then
                bR (refOf S5 b9 x1.toNat) fun b10 =>
                if 0 ≤ x2 ∧ x2 < 8 then
                    bndI (K m_Ca_agree [vR 11 0 a0] S5 (up M5 b10 x2.toNat x3)) fun r11 S11 M11 =>
                    some (some (vI (r11 % 2)), S11, M11)
                  else none
              else none := (Run_EE K tb_Ca_trade [] 500 0 _ _ S M).trans rfl
set_option maxRecDepth 100000 in
theorem b_Ca_pay_0 (K : Cal) (a0 : Nat) (x1 : Int) (x2 : Int) (S : Sp) (M : Mm) : Run K tb_Ca_pay 0 [vR 11 0 a0, vI x1, vI x2, vU] [] S M =
  bndI (K m_Ca_isShip [vR 11 0 a0, vI x1] S M) fun r1 S1 M1 =>
  if r1 = 0 then
    bndI (K m_Ca_refuse [vR 11 0 a0, vI 1] S1 M1) fun r2 S2 M2 =>
    some (some (vI r2), S2, M2)
  else
    bndI (K m_Ca_within [vI x2, vI (-9999), vI 9999] S1 M1) fun r3 S3 M3 =>
    if r3 = 0 then
      bndI (K m_Ca_refuse [vR 11 0 a0, vI 1] S3 M3) fun r4 S4 M4 =>
      some (some (vI r4), S4, M4)
    else
      bR (refOf S3 a0 4) fun b5 =>
      bR (refOf S3 b5 1) fun b6 =>
        if 0 ≤ x1 ∧ x1 < 4 then
            bR (refOf S3 b6 x1.toNat) fun b7 =>
            bndI (K m_Ca_within [vI (w32 ((M3 b7 4) + x2)), vI 0, vI 9999] S3 M3) fun r8 S8 M8 =>
              if r8 = 0 then
                bndI (K m_Ca_refuse [vR 11 0 a0, vI 7] S8 M8) fun r9 S9 M9 =>
                some (some (vI r9), S9, M9)
              else
                bndI (K m_Ca_answer [vR 11 0 a0, vI ((up M8 b7 4 (w32 ((M8 b7 4) + x2))) b7 4)] S8 (up M8 b7 4 (w32 ((M8 b7 4) + x2)))) fun r10 S10 M10 =>
                some (some (vI r10), S10, M10)
          else none := (Run_EE K tb_Ca_pay [] 500 0 _ _ S M).trans rfl
set_option maxRecDepth 100000 in
theorem b_Ca_flagIn_0 (K : Cal) (a0 : Nat) (x1 : Int) (x2 : Int) (S : Sp) (M : Mm) : Run K tb_Ca_flagIn 0 [vR 11 0 a0, vI x1, vI x2] [] S M =
  bndI (K m_Ca_isOutlook [vR 11 0 a0, vI x1, vI x2] S M) fun r1 S1 M1 =>
  if r1 = 0 then
    bndI (K m_Ca_refuse [vR 11 0 a0, vI 1] S1 M1) fun r2 S2 M2 =>
    some (some (vI r2), S2, M2)
  else
    bR (refOf S1 a0 7) fun b3 =>
    bR (refOf S1 a0 4) fun b4 =>
      bR (refOf S1 b4 0) fun b5 =>
        bR (refOf S1 a0 4) fun b6 =>
          bR (refOf S1 b6 1) fun b7 =>
            if 0 ≤ x1 ∧ x1 < 4 then
                bR (refOf S1 b7 x1.toNat) fun b8 =>
                bndI (K m_Outlook_flagAfter [vR 2 0 b3, vR 0 0 b5, vR 8 0 b8, vI x2] S1 M1) fun r9 S9 M9 =>
                  bndI (K m_Ca_answerOr [vR 11 0 a0, vI r9, vI 6] S9 M9) fun r10 S10 M10 =>
                  some (some (vI r10), S10, M10)
              else none := (Run_EE K tb_Ca_flagIn [] 500 0 _ _ S M).trans rfl
set_option maxRecDepth 100000 in
theorem b_Ca_isOutlook_0 (K : Cal) (a0 : Nat) (x1 : Int) (x2 : Int) (S : Sp) (M : Mm) : Run K tb_Ca_isOutlook 0 [vR 11 0 a0, vI x1, vI x2] [] S M =
  bndI (K m_Ca_isShip [vR 11 0 a0, vI x1] S M) fun r1 S1 M1 =>
  if r1 = 0 then
    some (some (vI 0), S1, M1)
  else
    bndI (K m_Ca_within [vI x2, vI 0, vI 99] S1 M1) fun r2 S2 M2 =>
    if r2 = 0 then
      some (some (vI 0), S2, M2)
    else
      some (some (vI 1), S2, M2) := (Run_EE K tb_Ca_isOutlook [] 500 0 _ _ S M).trans rfl
set_option maxRecDepth 100000 in
theorem b_Outlook_flagAfter_0 (K : Cal) (a0 : Nat) (a1 : Nat) (a2 : Nat) (x3 : Int) (S : Sp) (M : Mm) : Run K tb_Outlook_flagAfter 0 [vR 2 0 a0, vR 0 0 a1, vR 8 0 a2, vI x3] [] S M =
  bndV (K m_Outlook_leakFor [vR 2 0 a0, vR 0 0 a1, vR 8 0 a2, vI x3] S M) fun S1 M1 =>
  bR (refOf S1 a0 0) fun b2 =>
  bndI (K m_Chart_ruler [vR 0 0 a1, vR 20 8 b2, vI (M1 a1 12)] S1 M1) fun r3 S3 M3 =>
    some (some (vI r3), S3, M3) := (Run_EE K tb_Outlook_flagAfter [] 500 0 _ _ S M).trans rfl
set_option maxRecDepth 100000 in
theorem b_Outlook_leakFor_0 (K : Cal) (a0 : Nat) (a1 : Nat) (a2 : Nat) (x3 : Int) (S : Sp) (M : Mm) : Run K tb_Outlook_leakFor 0 [vR 2 0 a0, vR 0 0 a1, vR 8 0 a2, vI x3, vU] [] S M =
  Run K tb_Outlook_leakFor 3 [vR 2 0 a0, vR 0 0 a1, vR 8 0 a2, vI x3, vI 0] [] S M := (Run_EE K tb_Outlook_leakFor [3] 500 0 _ _ S M).trans rfl
set_option maxRecDepth 100000 in
theorem b_Outlook_leakFor_3 (K : Cal) (a0 : Nat) (a1 : Nat) (a2 : Nat) (x3 : Int) (x4 : Int) (S : Sp) (M : Mm) : Run K tb_Outlook_leakFor 3 [vR 2 0 a0, vR 0 0 a1, vR 8 0 a2, vI x3, vI x4] [] S M =
  bR (refOf S a1 0) fun b1 =>
  if x4 < M b1 1 then
      bR (refOf S a0 0) fun b2 =>
      bR (refOf S a2 7) fun b3 =>
        if 0 ≤ x4 ∧ x4 < 8 then
            bndI (K m_Outlook_leaked [vR 0 0 a1, vI x4, vI (M b3 x4.toNat), vI x3] S M) fun r4 S4 M4 =>
            if 0 ≤ x4 ∧ x4 < 8 then
              Run K tb_Outlook_leakFor 3 [vR 2 0 a0, vR 0 0 a1, vR 8 0 a2, vI x3, vI (w32 (x4 + 1))] [] S4 (up M4 b2 x4.toNat r4)
            else none
          else none
    else
      some (none, S, M) := (Run_EE K tb_Outlook_leakFor [3] 500 3 _ _ S M).trans rfl
set_option maxRecDepth 100000 in
theorem b_Outlook_leaked_0 (K : Cal) (a0 : Nat) (x1 : Int) (x2 : Int) (x3 : Int) (S : Sp) (M : Mm) : Run K tb_Outlook_leaked 0 [vR 0 0 a0, vI x1, vI x2, vI x3] [] S M =
  bR (refOf S a0 8) fun b1 =>
  if 0 ≤ x1 ∧ x1 < 8 then
      some (some (vI (max 0 (w32 (x2 - (w32 (x3 * (M b1 x1.toNat))))))), S, M)
    else none := (Run_EE K tb_Outlook_leaked [] 500 0 _ _ S M).trans rfl
set_option maxRecDepth 100000 in
theorem b_Ca_tonsIn_0 (K : Cal) (a0 : Nat) (x1 : Int) (x2 : Int) (S : Sp) (M : Mm) : Run K tb_Ca_tonsIn 0 [vR 11 0 a0, vI x1, vI x2] [] S M =
  bndI (K m_Ca_isOutlook [vR 11 0 a0, vI x1, vI x2] S M) fun r1 S1 M1 =>
  if r1 = 0 then
    bndI (K m_Ca_refuse [vR 11 0 a0, vI 1] S1 M1) fun r2 S2 M2 =>
    some (some (vI r2), S2, M2)
  else
    bR (refOf S1 a0 7) fun b3 =>
    bR (refOf S1 a0 4) fun b4 =>
      bR (refOf S1 b4 0) fun b5 =>
        bR (refOf S1 a0 4) fun b6 =>
          bR (refOf S1 b6 1) fun b7 =>
            if 0 ≤ x1 ∧ x1 < 4 then
                bR (refOf S1 b7 x1.toNat) fun b8 =>
                bndI (K m_Outlook_tonsAfter [vR 2 0 b3, vR 0 0 b5, vR 8 0 b8, vI x2] S1 M1) fun r9 S9 M9 =>
                  bndI (K m_Ca_answer [vR 11 0 a0, vI r9] S9 M9) fun r10 S10 M10 =>
                  some (some (vI r10), S10, M10)
              else none := (Run_EE K tb_Ca_tonsIn [] 500 0 _ _ S M).trans rfl
set_option maxRecDepth 100000 in
theorem b_Outlook_tonsAfter_0 (K : Cal) (a0 : Nat) (a1 : Nat) (a2 : Nat) (x3 : Int) (S : Sp) (M : Mm) : Run K tb_Outlook_tonsAfter 0 [vR 2 0 a0, vR 0 0 a1, vR 8 0 a2, vI x3, vU, vU] [] S M =
  Run K tb_Outlook_tonsAfter 6 [vR 2 0 a0, vR 0 0 a1, vR 8 0 a2, vI x3, vI 0, vI 0] [] S M := (Run_EE K tb_Outlook_tonsAfter [6] 500 0 _ _ S M).trans rfl
set_option maxRecDepth 100000 in
theorem b_Outlook_tonsAfter_6 (K : Cal) (a0 : Nat) (a1 : Nat) (a2 : Nat) (x3 : Int) (x4 : Int) (x5 : Int) (S : Sp) (M : Mm) : Run K tb_Outlook_tonsAfter 6 [vR 2 0 a0, vR 0 0 a1, vR 8 0 a2, vI x3, vI x4, vI x5] [] S M =
  bR (refOf S a1 0) fun b1 =>
  if x5 < M b1 1 then
      bR (refOf S a2 7) fun b2 =>
      if 0 ≤ x5 ∧ x5 < 8 then
          bndI (K m_Outlook_leaked [vR 0 0 a1, vI x5, vI (M b2 x5.toNat), vI x3] S M) fun r3 S3 M3 =>
          Run K tb_Outlook_tonsAfter 6 [vR 2 0 a0, vR 0 0 a1, vR 8 0 a2, vI x3, vI (w32 (x4 + r3)), vI (w32 (x5 + 1))] [] S3 M3
        else none
    else
      some (some (vI x4), S, M) := (Run_EE K tb_Outlook_tonsAfter [6] 500 6 _ _ S M).trans rfl
set_option maxRecDepth 100000 in
theorem b_Ca_turns_0 (K : Cal) (a0 : Nat) (x1 : Int) (S : Sp) (M : Mm) : Run K tb_Ca_turns 0 [vR 11 0 a0, vI x1] [] S M =
  bndI (K m_Ca_isShip [vR 11 0 a0, vI x1] S M) fun r1 S1 M1 =>
  if r1 = 0 then
    bndI (K m_Ca_refuse [vR 11 0 a0, vI 1] S1 M1) fun r2 S2 M2 =>
    some (some (vI r2), S2, M2)
  else
    bR (refOf S1 a0 7) fun b3 =>
    bR (refOf S1 a0 4) fun b4 =>
      bR (refOf S1 b4 0) fun b5 =>
        bR (refOf S1 a0 4) fun b6 =>
          bR (refOf S1 b6 1) fun b7 =>
            if 0 ≤ x1 ∧ x1 < 4 then
                bR (refOf S1 b7 x1.toNat) fun b8 =>
                bndI (K m_Outlook_daysToTurn [vR 2 0 b3, vR 0 0 b5, vR 8 0 b8] S1 M1) fun r9 S9 M9 =>
                  bndI (K m_Ca_answerOr [vR 11 0 a0, vI r9, vI 6] S9 M9) fun r10 S10 M10 =>
                  some (some (vI r10), S10, M10)
              else none := (Run_EE K tb_Ca_turns [] 500 0 _ _ S M).trans rfl
set_option maxRecDepth 100000 in
theorem b_Outlook_daysToTurn_0 (K : Cal) (a0 : Nat) (a1 : Nat) (a2 : Nat) (S : Sp) (M : Mm) : Run K tb_Outlook_daysToTurn 0 [vR 2 0 a0, vR 0 0 a1, vR 8 0 a2, vU, vU] [] S M =
  bR (refOf S a2 7) fun b1 =>
  bndI (K m_Chart_captainSet [vR 0 0 a1, vR 20 8 b1, vI (M a1 12)] S M) fun r2 S2 M2 =>
    Run K tb_Outlook_daysToTurn 16 [vR 2 0 a0, vR 0 0 a1, vR 8 0 a2, vI r2, vI 1] [] S2 M2 := (Run_EE K tb_Outlook_daysToTurn [16] 500 0 _ _ S M).trans rfl
set_option maxRecDepth 100000 in
theorem b_Outlook_daysToTurn_16 (K : Cal) (a0 : Nat) (a1 : Nat) (a2 : Nat) (x3 : Int) (x4 : Int) (S : Sp) (M : Mm) : Run K tb_Outlook_daysToTurn 16 [vR 2 0 a0, vR 0 0 a1, vR 8 0 a2, vI x3, vI x4] [] S M =
  if 99 < x4 then
    some (some (vI (-1)), S, M)
  else
    bndV (K m_Outlook_leakFor [vR 2 0 a0, vR 0 0 a1, vR 8 0 a2, vI x4] S M) fun S1 M1 =>
    bR (refOf S1 a0 0) fun b2 =>
    bndI (K m_Chart_captainSet [vR 0 0 a1, vR 20 8 b2, vI (M1 a1 12)] S1 M1) fun r3 S3 M3 =>
      if r3 = x3 then
        Run K tb_Outlook_daysToTurn 16 [vR 2 0 a0, vR 0 0 a1, vR 8 0 a2, vI x3, vI (w32 (x4 + 1))] [] S3 M3
      else
        some (some (vI x4), S3, M3) := (Run_EE K tb_Outlook_daysToTurn [16] 500 16 _ _ S M).trans rfl
set_option maxRecDepth 100000 in
theorem b_Ca_flags_0 (K : Cal) (a0 : Nat) (x1 : Int) (x2 : Int) (S : Sp) (M : Mm) : Run K tb_Ca_flags 0 [vR 11 0 a0, vI x1, vI x2] [] S M =
  bndI (K m_Ca_isOutlook [vR 11 0 a0, vI x1, vI x2] S M) fun r1 S1 M1 =>
  if r1 = 0 then
    bndI (K m_Ca_refuse [vR 11 0 a0, vI 1] S1 M1) fun r2 S2 M2 =>
    some (some (vI r2), S2, M2)
  else
    bR (refOf S1 a0 7) fun b3 =>
    bR (refOf S1 a0 4) fun b4 =>
      bR (refOf S1 b4 0) fun b5 =>
        bR (refOf S1 a0 4) fun b6 =>
          bR (refOf S1 b6 1) fun b7 =>
            if 0 ≤ x1 ∧ x1 < 4 then
                bR (refOf S1 b7 x1.toNat) fun b8 =>
                bndI (K m_Outlook_flagsBegun [vR 2 0 b3, vR 0 0 b5, vR 8 0 b8, vI x2] S1 M1) fun r9 S9 M9 =>
                  bndI (K m_Ca_answer [vR 11 0 a0, vI r9] S9 M9) fun r10 S10 M10 =>
                  some (some (vI r10), S10, M10)
              else none := (Run_EE K tb_Ca_flags [] 500 0 _ _ S M).trans rfl
set_option maxRecDepth 100000 in
theorem b_Outlook_flagsBegun_0 (K : Cal) (a0 : Nat) (a1 : Nat) (a2 : Nat) (x3 : Int) (S : Sp) (M : Mm) : Run K tb_Outlook_flagsBegun 0 [vR 2 0 a0, vR 0 0 a1, vR 8 0 a2, vI x3, vU, vU, vU, vU] [] S M =
  Run K tb_Outlook_flagsBegun 9 [vR 2 0 a0, vR 0 0 a1, vR 8 0 a2, vI x3, vI 0, vI (-1), vI 0, vU] [] S M := (Run_EE K tb_Outlook_flagsBegun [9] 500 0 _ _ S M).trans rfl
set_option maxRecDepth 100000 in
theorem b_Outlook_flagsBegun_9 (K : Cal) (a0 : Nat) (a1 : Nat) (a2 : Nat) (x3 : Int) (x4 : Int) (x5 : Int) (x6 : Int) (d7 : AV) (S : Sp) (M : Mm) : Run K tb_Outlook_flagsBegun 9 [vR 2 0 a0, vR 0 0 a1, vR 8 0 a2, vI x3, vI x4, vI x5, vI x6, d7] [] S M =
  if x3 < x6 then
    some (some (vI x4), S, M)
  else
    bndI (K m_Outlook_flagAfter [vR 2 0 a0, vR 0 0 a1, vR 8 0 a2, vI x6] S M) fun r1 S1 M1 =>
    if r1 = (-1) then
      Run K tb_Outlook_flagsBegun 9 [vR 2 0 a0, vR 0 0 a1, vR 8 0 a2, vI x3, vI x4, vI r1, vI (w32 (x6 + 1)), vI r1] [] S1 M1
    else
      if r1 = x5 then
        Run K tb_Outlook_flagsBegun 9 [vR 2 0 a0, vR 0 0 a1, vR 8 0 a2, vI x3, vI x4, vI r1, vI (w32 (x6 + 1)), vI r1] [] S1 M1
      else
        Run K tb_Outlook_flagsBegun 9 [vR 2 0 a0, vR 0 0 a1, vR 8 0 a2, vI x3, vI (w32 (x4 + 1)), vI r1, vI (w32 (x6 + 1)), vI r1] [] S1 M1 := (Run_EE K tb_Outlook_flagsBegun [9] 500 9 _ _ S M).trans rfl
set_option maxRecDepth 100000 in
theorem b_Ca_wages_0 (K : Cal) (a0 : Nat) (x1 : Int) (x2 : Int) (S : Sp) (M : Mm) : Run K tb_Ca_wages 0 [vR 11 0 a0, vI x1, vI x2] [] S M =
  bndI (K m_Ca_isOutlook [vR 11 0 a0, vI x1, vI x2] S M) fun r1 S1 M1 =>
  if r1 = 0 then
    bndI (K m_Ca_refuse [vR 11 0 a0, vI 1] S1 M1) fun r2 S2 M2 =>
    some (some (vI r2), S2, M2)
  else
    bR (refOf S1 a0 7) fun b3 =>
    bR (refOf S1 a0 4) fun b4 =>
      bR (refOf S1 b4 0) fun b5 =>
        bR (refOf S1 a0 4) fun b6 =>
          bR (refOf S1 b6 1) fun b7 =>
            if 0 ≤ x1 ∧ x1 < 4 then
                bR (refOf S1 b7 x1.toNat) fun b8 =>
                bndI (K m_Outlook_wagesDue [vR 2 0 b3, vR 0 0 b5, vR 8 0 b8, vI x2] S1 M1) fun r9 S9 M9 =>
                  bndI (K m_Ca_answer [vR 11 0 a0, vI r9] S9 M9) fun r10 S10 M10 =>
                  some (some (vI r10), S10, M10)
              else none := (Run_EE K tb_Ca_wages [] 500 0 _ _ S M).trans rfl
set_option maxRecDepth 100000 in
theorem b_Outlook_wagesDue_0 (K : Cal) (a0 : Nat) (a1 : Nat) (a2 : Nat) (x3 : Int) (S : Sp) (M : Mm) : Run K tb_Outlook_wagesDue 0 [vR 2 0 a0, vR 0 0 a1, vR 8 0 a2, vI x3, vU, vU, vU] [] S M =
  Run K tb_Outlook_wagesDue 6 [vR 2 0 a0, vR 0 0 a1, vR 8 0 a2, vI x3, vI 0, vI 0, vU] [] S M := (Run_EE K tb_Outlook_wagesDue [6] 500 0 _ _ S M).trans rfl
set_option maxRecDepth 100000 in
theorem b_Outlook_wagesDue_6 (K : Cal) (a0 : Nat) (a1 : Nat) (a2 : Nat) (x3 : Int) (x4 : Int) (x5 : Int) (d6 : AV) (S : Sp) (M : Mm) : Run K tb_Outlook_wagesDue 6 [vR 2 0 a0, vR 0 0 a1, vR 8 0 a2, vI x3, vI x4, vI x5, d6] [] S M =
  if x5 < x3 then
    bndI (K m_Outlook_flagAfter [vR 2 0 a0, vR 0 0 a1, vR 8 0 a2, vI x5] S M) fun r1 S1 M1 =>
    if r1 = (-1) then
      Run K tb_Outlook_wagesDue 6 [vR 2 0 a0, vR 0 0 a1, vR 8 0 a2, vI x3, vI x4, vI (w32 (x5 + 1)), vI r1] [] S1 M1
    else
      bR (refOf S1 a1 2) fun b2 =>
      if 0 ≤ r1 ∧ r1 < 6 then
          Run K tb_Outlook_wagesDue 6 [vR 2 0 a0, vR 0 0 a1, vR 8 0 a2, vI x3, vI (w32 (x4 + (M1 b2 r1.toNat))), vI (w32 (x5 + 1)), vI r1] [] S1 M1
        else none
  else
    some (some (vI x4), S, M) := (Run_EE K tb_Outlook_wagesDue [6] 500 6 _ _ S M).trans rfl
set_option maxRecDepth 100000 in
theorem b_Ca_stowaway_0 (K : Cal) (a0 : Nat) (x1 : Int) (S : Sp) (M : Mm) : Run K tb_Ca_stowaway 0 [vR 11 0 a0, vI x1] [] S M =
  bndI (K m_Ca_stowawayAt [vR 11 0 a0, vI x1, vI 0] S M) fun r1 S1 M1 =>
  some (some (vI r1), S1, M1) := (Run_EE K tb_Ca_stowaway [] 500 0 _ _ S M).trans rfl
set_option maxRecDepth 100000 in
theorem b_Ca_stowawayAt_0 (K : Cal) (a0 : Nat) (x1 : Int) (x2 : Int) (S : Sp) (M : Mm) : Run K tb_Ca_stowawayAt 0 [vR 11 0 a0, vI x1, vI x2] [] S M =
  bndI (K m_Ca_isShip [vR 11 0 a0, vI x1] S M) fun r1 S1 M1 =>
  if r1 = 0 then
    bndI (K m_Ca_refuse [vR 11 0 a0, vI 1] S1 M1) fun r2 S2 M2 =>
    some (some (vI r2), S2, M2)
  else
    bR (refOf S1 a0 7) fun b3 =>
    bR (refOf S1 a0 4) fun b4 =>
      bR (refOf S1 b4 0) fun b5 =>
        bR (refOf S1 a0 4) fun b6 =>
          bR (refOf S1 b6 1) fun b7 =>
            if 0 ≤ x1 ∧ x1 < 4 then
                bR (refOf S1 b7 x1.toNat) fun b8 =>
                bndI (K m_Outlook_findStowaway [vR 2 0 b3, vR 0 0 b5, vR 8 0 b8] S1 M1) fun r9 S9 M9 =>
                  if r9 = 0 then
                    bndI (K m_Ca_refuse [vR 11 0 a0, vI 6] S9 M9) fun r10 S10 M10 =>
                    some (some (vI r10), S10, M10)
                  else
                    if x2 = 0 then
                      bR (refOf S9 a0 7) fun b11 =>
                      bndI (K m_Ca_answer [vR 11 0 a0, vI (M9 b11 2)] S9 M9) fun r12 S12 M12 =>
                        some (some (vI r12), S12, M12)
                    else
                      bR (refOf S9 a0 7) fun b13 =>
                      bndI (K m_Ca_answer [vR 11 0 a0, vI (M9 b13 1)] S9 M9) fun r14 S14 M14 =>
                        some (some (vI r14), S14, M14)
              else none := (Run_EE K tb_Ca_stowawayAt [] 500 0 _ _ S M).trans rfl
set_option maxRecDepth 100000 in
theorem b_Outlook_findStowaway_0 (K : Cal) (a0 : Nat) (a1 : Nat) (a2 : Nat) (S : Sp) (M : Mm) : Run K tb_Outlook_findStowaway 0 [vR 2 0 a0, vR 0 0 a1, vR 8 0 a2, vU, vU, vU] [] S M =
  bR (refOf S a2 7) fun b1 =>
  bndI (K m_Chart_captainSet [vR 0 0 a1, vR 20 8 b1, vI (M a1 12)] S M) fun r2 S2 M2 =>
    Run K tb_Outlook_findStowaway 16 [vR 2 0 a0, vR 0 0 a1, vR 8 0 a2, vI r2, vI 1, vU] [] S2 M2 := (Run_EE K tb_Outlook_findStowaway [16, 26] 500 0 _ _ S M).trans rfl
set_option maxRecDepth 100000 in
theorem b_Outlook_findStowaway_16 (K : Cal) (a0 : Nat) (a1 : Nat) (a2 : Nat) (x3 : Int) (x4 : Int) (d5 : AV) (S : Sp) (M : Mm) : Run K tb_Outlook_findStowaway 16 [vR 2 0 a0, vR 0 0 a1, vR 8 0 a2, vI x3, vI x4, d5] [] S M =
  if 60 < x4 then
    some (some (vI 0), S, M)
  else
    Run K tb_Outlook_findStowaway 26 [vR 2 0 a0, vR 0 0 a1, vR 8 0 a2, vI x3, vI x4, vI 0] [] S M := (Run_EE K tb_Outlook_findStowaway [16, 26] 500 16 _ _ S M).trans rfl
set_option maxRecDepth 100000 in
theorem b_Outlook_findStowaway_26 (K : Cal) (a0 : Nat) (a1 : Nat) (a2 : Nat) (x3 : Int) (x4 : Int) (x5 : Int) (S : Sp) (M : Mm) : Run K tb_Outlook_findStowaway 26 [vR 2 0 a0, vR 0 0 a1, vR 8 0 a2, vI x3, vI x4, vI x5] [] S M =
  bR (refOf S a1 0) fun b1 =>
  if x5 < M b1 1 then
      bndI (K m_Outlook_turnsBy [vR 2 0 a0, vR 0 0 a1, vR 8 0 a2, vI x5, vI x4, vI x3] S M) fun r2 S2 M2 =>
      if r2 = 0 then
        Run K tb_Outlook_findStowaway 26 [vR 2 0 a0, vR 0 0 a1, vR 8 0 a2, vI x3, vI x4, vI (w32 (x5 + 1))] [] S2 M2
      else
        bndI (K m_Outlook_found [vR 2 0 a0, vI x5, vI x4] S2 M2) fun r3 S3 M3 =>
        some (some (vI (r3 % 2)), S3, M3)
    else
      Run K tb_Outlook_findStowaway 16 [vR 2 0 a0, vR 0 0 a1, vR 8 0 a2, vI x3, vI (w32 (x4 + 1)), vI x5] [] S M := (Run_EE K tb_Outlook_findStowaway [16, 26] 500 26 _ _ S M).trans rfl
set_option maxRecDepth 100000 in
theorem b_Outlook_turnsBy_0 (K : Cal) (a0 : Nat) (a1 : Nat) (a2 : Nat) (x3 : Int) (x4 : Int) (x5 : Int) (S : Sp) (M : Mm) : Run K tb_Outlook_turnsBy 0 [vR 2 0 a0, vR 0 0 a1, vR 8 0 a2, vI x3, vI x4, vI x5] [] S M =
  bndV (K m_Outlook_change [vR 2 0 a0, vR 8 0 a2, vI x3, vI x4] S M) fun S1 M1 =>
  bR (refOf S1 a0 0) fun b2 =>
  bndI (K m_Chart_captainSet [vR 0 0 a1, vR 20 8 b2, vI (M1 a1 12)] S1 M1) fun r3 S3 M3 =>
    if r3 = x5 then
      some (some (vI 0), S3, M3)
    else
      some (some (vI 1), S3, M3) := (Run_EE K tb_Outlook_turnsBy [] 500 0 _ _ S M).trans rfl
set_option maxRecDepth 100000 in
theorem b_Outlook_change_0 (K : Cal) (a0 : Nat) (a1 : Nat) (x2 : Int) (x3 : Int) (S : Sp) (M : Mm) : Run K tb_Outlook_change 0 [vR 2 0 a0, vR 8 0 a1, vI x2, vI x3] [] S M =
  bR (refOf S a1 7) fun b1 =>
  bR (refOf S a0 0) fun b2 =>
    bR (refOf S a0 0) fun b3 =>
      bR (refOf S a0 0) fun b4 =>
        if 0 ≤ x2 ∧ x2 < 8 then
            if 0 ≤ x2 ∧ x2 < 8 then
              some (none, S, up (cpy M b1 0 b2 0 8) b3 x2.toNat (max 0 (w32 (((cpy M b1 0 b2 0 8) b4 x2.toNat) + x3))))
            else none
          else none := (Run_EE K tb_Outlook_change [] 500 0 _ _ S M).trans rfl
set_option maxRecDepth 100000 in
theorem b_Outlook_found_0 (K : Cal) (a0 : Nat) (x1 : Int) (x2 : Int) (S : Sp) (M : Mm) : Run K tb_Outlook_found 0 [vR 2 0 a0, vI x1, vI x2] [] S M =
  some (some (vI 1), S, up (up M a0 1 x1) a0 2 x2) := (Run_EE K tb_Outlook_found [] 500 0 _ _ S M).trans rfl
set_option maxRecDepth 100000 in
theorem b_Ca_stowawayGood_0 (K : Cal) (a0 : Nat) (x1 : Int) (S : Sp) (M : Mm) : Run K tb_Ca_stowawayGood 0 [vR 11 0 a0, vI x1] [] S M =
  bndI (K m_Ca_stowawayAt [vR 11 0 a0, vI x1, vI 1] S M) fun r1 S1 M1 =>
  some (some (vI r1), S1, M1) := (Run_EE K tb_Ca_stowawayGood [] 500 0 _ _ S M).trans rfl
set_option maxRecDepth 100000 in
theorem b_Ca_guard_0 (K : Cal) (a0 : Nat) (x1 : Int) (x2 : Int) (S : Sp) (M : Mm) : Run K tb_Ca_guard 0 [vR 11 0 a0, vI x1, vI x2] [] S M =
  bndI (K m_Ca_isShip [vR 11 0 a0, vI x1] S M) fun r1 S1 M1 =>
  if r1 = 0 then
    bndI (K m_Ca_refuse [vR 11 0 a0, vI 1] S1 M1) fun r2 S2 M2 =>
    some (some (vI r2), S2, M2)
  else
    bndI (K m_Ca_within [vI x2, vI 1, vI 60] S1 M1) fun r3 S3 M3 =>
    if r3 = 0 then
      bndI (K m_Ca_refuse [vR 11 0 a0, vI 1] S3 M3) fun r4 S4 M4 =>
      some (some (vI r4), S4, M4)
    else
      bR (refOf S3 a0 7) fun b5 =>
      bR (refOf S3 a0 4) fun b6 =>
        bR (refOf S3 b6 0) fun b7 =>
          bR (refOf S3 a0 4) fun b8 =>
            bR (refOf S3 b8 1) fun b9 =>
              if 0 ≤ x1 ∧ x1 < 4 then
                  bR (refOf S3 b9 x1.toNat) fun b10 =>
                  bndI (K m_Outlook_isGuarded [vR 2 0 b5, vR 0 0 b7, vR 8 0 b10, vI x2] S3 M3) fun r11 S11 M11 =>
                    if r11 = 0 then
                      bndI (K m_Ca_answer [vR 11 0 a0, vI 0] S11 M11) fun r12 S12 M12 =>
                      some (some (vI r12), S12, M12)
                    else
                      bndI (K m_Ca_answer [vR 11 0 a0, vI 1] S11 M11) fun r13 S13 M13 =>
                      some (some (vI r13), S13, M13)
                else none := (Run_EE K tb_Ca_guard [] 500 0 _ _ S M).trans rfl
set_option maxRecDepth 100000 in
theorem b_Outlook_isGuarded_0 (K : Cal) (a0 : Nat) (a1 : Nat) (a2 : Nat) (x3 : Int) (S : Sp) (M : Mm) : Run K tb_Outlook_isGuarded 0 [vR 2 0 a0, vR 0 0 a1, vR 8 0 a2, vI x3, vU, vU] [] S M =
  bR (refOf S a2 7) fun b1 =>
  bndI (K m_Chart_captainSet [vR 0 0 a1, vR 20 8 b1, vI (M a1 12)] S M) fun r2 S2 M2 =>
    Run K tb_Outlook_isGuarded 17 [vR 2 0 a0, vR 0 0 a1, vR 8 0 a2, vI x3, vI r2, vI 0] [] S2 M2 := (Run_EE K tb_Outlook_isGuarded [17] 500 0 _ _ S M).trans rfl
set_option maxRecDepth 100000 in
theorem b_Outlook_isGuarded_17 (K : Cal) (a0 : Nat) (a1 : Nat) (a2 : Nat) (x3 : Int) (x4 : Int) (x5 : Int) (S : Sp) (M : Mm) : Run K tb_Outlook_isGuarded 17 [vR 2 0 a0, vR 0 0 a1, vR 8 0 a2, vI x3, vI x4, vI x5] [] S M =
  bR (refOf S a1 0) fun b1 =>
  if x5 < M b1 1 then
      bndI (K m_Outlook_turnsBy [vR 2 0 a0, vR 0 0 a1, vR 8 0 a2, vI x5, vI x3, vI x4] S M) fun r2 S2 M2 =>
      if r2 = 0 then
        bndI (K m_Outlook_turnsBy [vR 2 0 a0, vR 0 0 a1, vR 8 0 a2, vI x5, vI (w32 (-x3)), vI x4] S2 M2) fun r3 S3 M3 =>
        if r3 = 0 then
          Run K tb_Outlook_isGuarded 17 [vR 2 0 a0, vR 0 0 a1, vR 8 0 a2, vI x3, vI x4, vI (w32 (x5 + 1))] [] S3 M3
        else
          some (some (vI 0), S3, M3)
      else
        some (some (vI 0), S2, M2)
    else
      some (some (vI 1), S, M) := (Run_EE K tb_Outlook_isGuarded [17] 500 17 _ _ S M).trans rfl
set_option maxRecDepth 100000 in
theorem b_Ca_passFor_0 (K : Cal) (a0 : Nat) (x1 : Int) (x2 : Int) (S : Sp) (M : Mm) : Run K tb_Ca_passFor 0 [vR 11 0 a0, vI x1, vI x2] [] S M =
  bndI (K m_Ca_passAt [vR 11 0 a0, vI x1, vI x2, vI 0] S M) fun r1 S1 M1 =>
  some (some (vI r1), S1, M1) := (Run_EE K tb_Ca_passFor [] 500 0 _ _ S M).trans rfl
set_option maxRecDepth 100000 in
theorem b_Ca_passAt_0 (K : Cal) (a0 : Nat) (x1 : Int) (x2 : Int) (x3 : Int) (S : Sp) (M : Mm) : Run K tb_Ca_passAt 0 [vR 11 0 a0, vI x1, vI x2, vI x3] [] S M =
  bndI (K m_Ca_isShip [vR 11 0 a0, vI x1] S M) fun r1 S1 M1 =>
  if r1 = 0 then
    bndI (K m_Ca_refuse [vR 11 0 a0, vI 1] S1 M1) fun r2 S2 M2 =>
    some (some (vI r2), S2, M2)
  else
    bndI (K m_Ca_isNation [vR 11 0 a0, vI x2] S1 M1) fun r3 S3 M3 =>
    if r3 = 0 then
      bndI (K m_Ca_refuse [vR 11 0 a0, vI 1] S3 M3) fun r4 S4 M4 =>
      some (some (vI r4), S4, M4)
    else
      bR (refOf S3 a0 7) fun b5 =>
      bR (refOf S3 a0 4) fun b6 =>
        bR (refOf S3 b6 0) fun b7 =>
          bR (refOf S3 a0 4) fun b8 =>
            bR (refOf S3 b8 1) fun b9 =>
              if 0 ≤ x1 ∧ x1 < 4 then
                  bR (refOf S3 b9 x1.toNat) fun b10 =>
                  bndI (K m_Outlook_findPass [vR 2 0 b5, vR 0 0 b7, vR 8 0 b10, vI x2] S3 M3) fun r11 S11 M11 =>
                    if r11 = 0 then
                      bndI (K m_Ca_refuse [vR 11 0 a0, vI 6] S11 M11) fun r12 S12 M12 =>
                      some (some (vI r12), S12, M12)
                    else
                      if x3 = 0 then
                        bR (refOf S11 a0 7) fun b13 =>
                        bndI (K m_Ca_answer [vR 11 0 a0, vI (M11 b13 2)] S11 M11) fun r14 S14 M14 =>
                          some (some (vI r14), S14, M14)
                      else
                        bR (refOf S11 a0 7) fun b15 =>
                        bndI (K m_Ca_answerOr [vR 11 0 a0, vI (M11 b15 1), vI 6] S11 M11) fun r16 S16 M16 =>
                          some (some (vI r16), S16, M16)
                else none := (Run_EE K tb_Ca_passAt [] 500 0 _ _ S M).trans rfl
set_option maxRecDepth 100000 in
theorem b_Outlook_findPass_0 (K : Cal) (a0 : Nat) (a1 : Nat) (a2 : Nat) (x3 : Int) (S : Sp) (M : Mm) : Run K tb_Outlook_findPass 0 [vR 2 0 a0, vR 0 0 a1, vR 8 0 a2, vI x3, vU, vU, vU] [] S M =
  bR (refOf S a2 7) fun b1 =>
  bndI (K m_Chart_ruler [vR 0 0 a1, vR 20 8 b1, vI (M a1 12)] S M) fun r2 S2 M2 =>
    if r2 = x3 then
      bndI (K m_Outlook_found [vR 2 0 a0, vI (-1), vI 0] S2 M2) fun r3 S3 M3 =>
      some (some (vI (r3 % 2)), S3, M3)
    else
      bndI (K m_Vessel_room [vR 8 0 a2] S2 M2) fun r4 S4 M4 =>
      Run K tb_Outlook_findPass 32 [vR 2 0 a0, vR 0 0 a1, vR 8 0 a2, vI x3, vI r4, vI 1, vU] [] S4 M4 := (Run_EE K tb_Outlook_findPass [32, 42] 500 0 _ _ S M).trans rfl
set_option maxRecDepth 100000 in
theorem b_Outlook_findPass_32 (K : Cal) (a0 : Nat) (a1 : Nat) (a2 : Nat) (x3 : Int) (x4 : Int) (x5 : Int) (d6 : AV) (S : Sp) (M : Mm) : Run K tb_Outlook_findPass 32 [vR 2 0 a0, vR 0 0 a1, vR 8 0 a2, vI x3, vI x4, vI x5, d6] [] S M =
  if x4 < x5 then
    some (some (vI 0), S, M)
  else
    Run K tb_Outlook_findPass 42 [vR 2 0 a0, vR 0 0 a1, vR 8 0 a2, vI x3, vI x4, vI x5, vI 0] [] S M := (Run_EE K tb_Outlook_findPass [32, 42] 500 32 _ _ S M).trans rfl
set_option maxRecDepth 100000 in
theorem b_Outlook_findPass_42 (K : Cal) (a0 : Nat) (a1 : Nat) (a2 : Nat) (x3 : Int) (x4 : Int) (x5 : Int) (x6 : Int) (S : Sp) (M : Mm) : Run K tb_Outlook_findPass 42 [vR 2 0 a0, vR 0 0 a1, vR 8 0 a2, vI x3, vI x4, vI x5, vI x6] [] S M =
  bR (refOf S a1 0) fun b1 =>
  if x6 < M b1 1 then
      bndV (K m_Outlook_change [vR 2 0 a0, vR 8 0 a2, vI x6, vI x5] S M) fun S2 M2 =>
      bR (refOf S2 a0 0) fun b3 =>
      bndI (K m_Chart_ruler [vR 0 0 a1, vR 20 8 b3, vI (M2 a1 12)] S2 M2) fun r4 S4 M4 =>
        if r4 = x3 then
          bndI (K m_Outlook_found [vR 2 0 a0, vI x6, vI x5] S4 M4) fun r5 S5 M5 =>
          some (some (vI (r5 % 2)), S5, M5)
        else
          Run K tb_Outlook_findPass 42 [vR 2 0 a0, vR 0 0 a1, vR 8 0 a2, vI x3, vI x4, vI x5, vI (w32 (x6 + 1))] [] S4 M4
    else
      Run K tb_Outlook_findPass 32 [vR 2 0 a0, vR 0 0 a1, vR 8 0 a2, vI x3, vI x4, vI (w32 (x5 + 1)), vI x6] [] S M := (Run_EE K tb_Outlook_findPass [32, 42] 500 42 _ _ S M).trans rfl
set_option maxRecDepth 100000 in
theorem b_Ca_passGood_0 (K : Cal) (a0 : Nat) (x1 : Int) (x2 : Int) (S : Sp) (M : Mm) : Run K tb_Ca_passGood 0 [vR 11 0 a0, vI x1, vI x2] [] S M =
  bndI (K m_Ca_passAt [vR 11 0 a0, vI x1, vI x2, vI 1] S M) fun r1 S1 M1 =>
  some (some (vI r1), S1, M1) := (Run_EE K tb_Ca_passGood [] 500 0 _ _ S M).trans rfl
set_option maxRecDepth 100000 in
theorem b_Ca_peace_0 (K : Cal) (a0 : Nat) (x1 : Int) (S : Sp) (M : Mm) : Run K tb_Ca_peace 0 [vR 11 0 a0, vI x1] [] S M =
  bndI (K m_Ca_peaceAt [vR 11 0 a0, vI x1, vI 1] S M) fun r1 S1 M1 =>
  some (some (vI r1), S1, M1) := (Run_EE K tb_Ca_peace [] 500 0 _ _ S M).trans rfl
set_option maxRecDepth 100000 in
theorem b_Ca_peaceAt_0 (K : Cal) (a0 : Nat) (x1 : Int) (x2 : Int) (S : Sp) (M : Mm) : Run K tb_Ca_peaceAt 0 [vR 11 0 a0, vI x1, vI x2] [] S M =
  bndI (K m_Ca_isShip [vR 11 0 a0, vI x1] S M) fun r1 S1 M1 =>
  if r1 = 0 then
    bndI (K m_Ca_refuse [vR 11 0 a0, vI 1] S1 M1) fun r2 S2 M2 =>
    some (some (vI r2), S2, M2)
  else
    bR (refOf S1 a0 4) fun b3 =>
    bR (refOf S1 b3 1) fun b4 =>
      if 0 ≤ x1 ∧ x1 < 4 then
          bR (refOf S1 b4 x1.toNat) fun b5 =>
          if M1 b5 0 = (-1) then
              bndI (K m_Ca_refuse [vR 11 0 a0, vI 7] S1 M1) fun r6 S6 M6 =>
              some (some (vI r6), S6, M6)
            else
              bR (refOf S1 a0 7) fun b7 =>
              bR (refOf S1 a0 4) fun b8 =>
                bR (refOf S1 b8 0) fun b9 =>
                  bR (refOf S1 a0 4) fun b10 =>
                    bR (refOf S1 b10 1) fun b11 =>
                      if 0 ≤ x1 ∧ x1 < 4 then
                          bR (refOf S1 b11 x1.toNat) fun b12 =>
                          bndI (K m_Outlook_findPeace [vR 2 0 b7, vR 0 0 b9, vR 8 0 b12] S1 M1) fun r13 S13 M13 =>
                            if r13 = 0 then
                              bndI (K m_Ca_refuse [vR 11 0 a0, vI 6] S13 M13) fun r14 S14 M14 =>
                              some (some (vI r14), S14, M14)
                            else
                              if x2 = 0 then
                                bR (refOf S13 a0 7) fun b15 =>
                                bndI (K m_Ca_answer [vR 11 0 a0, vI (M13 b15 2)] S13 M13) fun r16 S16 M16 =>
                                  some (some (vI r16), S16, M16)
                              else
                                bR (refOf S13 a0 7) fun b17 =>
                                bndI (K m_Ca_answer [vR 11 0 a0, vI (M13 b17 1)] S13 M13) fun r18 S18 M18 =>
                                  some (some (vI r18), S18, M18)
                        else none
        else none := (Run_EE K tb_Ca_peaceAt [] 500 0 _ _ S M).trans rfl
set_option maxRecDepth 100000 in
theorem b_Outlook_findPeace_0 (K : Cal) (a0 : Nat) (a1 : Nat) (a2 : Nat) (S : Sp) (M : Mm) : Run K tb_Outlook_findPeace 0 [vR 2 0 a0, vR 0 0 a1, vR 8 0 a2, vU, vU, vU, vU, vU] [] S M =
  bndI (K m_Vessel_room [vR 8 0 a2] S M) fun r1 S1 M1 =>
  Run K tb_Outlook_findPeace 11 [vR 2 0 a0, vR 0 0 a1, vR 8 0 a2, vI r1, vI 0, vI 0, vU, vU] [] S1 M1 := (Run_EE K tb_Outlook_findPeace [11] 500 0 _ _ S M).trans rfl
set_option maxRecDepth 100000 in
theorem b_Outlook_findPeace_11 (K : Cal) (a0 : Nat) (a1 : Nat) (a2 : Nat) (x3 : Int) (x4 : Int) (x5 : Int) (d6 : AV) (d7 : AV) (S : Sp) (M : Mm) : Run K tb_Outlook_findPeace 11 [vR 2 0 a0, vR 0 0 a1, vR 8 0 a2, vI x3, vI x4, vI x5, d6, d7] [] S M =
  bR (refOf S a1 0) fun b1 =>
  if x5 < M b1 1 then
      bR (refOf S a1 10) fun b2 =>
      if 0 ≤ M a2 0 ∧ M a2 0 < 6 then
          bR (refOf S b2 (M a2 0).toNat) fun b3 =>
          if 0 ≤ x5 ∧ x5 < 8 then
              if M b3 x5.toNat = 0 then
                Run K tb_Outlook_findPeace 11 [vR 2 0 a0, vR 0 0 a1, vR 8 0 a2, vI x3, vI x4, vI (w32 (x5 + 1)), vI (M b3 x5.toNat), d7] [] S M
              else
                if x4 = 0 then
                  bndV (K m_Outlook_change [vR 2 0 a0, vR 8 0 a2, vI x5, vI x3] S M) fun S4 M4 =>
                  bR (refOf S4 a0 0) fun b5 =>
                  bndI (K m_Chart_ruler [vR 0 0 a1, vR 20 8 b5, vI (M4 a1 12)] S4 M4) fun r6 S6 M6 =>
                    if r6 = (-1) then
                      bndI (K m_Outlook_found [vR 2 0 a0, vI x5, vI (w32 ((M b3 x5.toNat) * x3))] S6 M6) fun r7 S7 M7 =>
                      Run K tb_Outlook_findPeace 11 [vR 2 0 a0, vR 0 0 a1, vR 8 0 a2, vI x3, vI r7, vI (w32 (x5 + 1)), vI (M b3 x5.toNat), vI r6] [] S7 M7
                    else
                      bR (refOf S6 a1 5) fun b8 =>
                      if 0 ≤ r6 ∧ r6 < 6 then
                          if M6 b8 r6.toNat = 0 then
                            bndI (K m_Outlook_found [vR 2 0 a0, vI x5, vI (w32 ((M b3 x5.toNat) * x3))] S6 M6) fun r9 S9 M9 =>
                            Run K tb_Outlook_findPeace 11 [vR 2 0 a0, vR 0 0 a1, vR 8 0 a2, vI x3, vI r9, vI (w32 (x5 + 1)), vI (M b3 x5.toNat), vI r6] [] S9 M9
                          else
                            Run K tb_Outlook_findPeace 11 [vR 2 0 a0, vR 0 0 a1, vR 8 0 a2, vI x3, vI x4, vI (w32 (x5 + 1)), vI (M b3 x5.toNat), vI r6] [] S6 M6
                        else none
                else
                  if w32 ((M b3 x5.toNat) * x3) < M a0 2 then
                    bndV (K m_Outlook_change [vR 2 0 a0, vR 8 0 a2, vI x5, vI x3] S M) fun S10 M10 =>
                    bR (refOf S10 a0 0) fun b11 =>
                    bndI (K m_Chart_ruler [vR 0 0 a1, vR 20 8 b11, vI (M10 a1 12)] S10 M10) fun r12 S12 M12 =>
                      if r12 = (-1) then
                        bndI (K m_Outlook_found [vR 2 0 a0, vI x5, vI (w32 ((M b3 x5.toNat) * x3))] S12 M12) fun r13 S13 M13 =>
                        Run K tb_Outlook_findPeace 11 [vR 2 0 a0, vR 0 0 a1, vR 8 0 a2, vI x3, vI r13, vI (w32 (x5 + 1)), vI (M b3 x5.toNat), vI r12] [] S13 M13
                      else
                        bR (refOf S12 a1 5) fun b14 =>
                        if 0 ≤ r12 ∧ r12 < 6 then
                            if M12 b14 r12.toNat = 0 then
                              bndI (K m_Outlook_found [vR 2 0 a0, vI x5, vI (w32 ((M b3 x5.toNat) * x3))] S12 M12) fun r15 S15 M15 =>
                              Run K tb_Outlook_findPeace 11 [vR 2 0 a0, vR 0 0 a1, vR 8 0 a2, vI x3, vI r15, vI (w32 (x5 + 1)), vI (M b3 x5.toNat), vI r12] [] S15 M15
                            else
                              Run K tb_Outlook_findPeace 11 [vR 2 0 a0, vR 0 0 a1, vR 8 0 a2, vI x3, vI x4, vI (w32 (x5 + 1)), vI (M b3 x5.toNat), vI r12] [] S12 M12
                          else none
                  else
                    Run K tb_Outlook_findPeace 11 [vR 2 0 a0, vR 0 0 a1, vR 8 0 a2, vI x3, vI x4, vI (w32 (x5 + 1)), vI (M b3 x5.toNat), d7] [] S M
            else none
        else none
    else
      some (some (vI (x4 % 2)), S, M) := (Run_EE K tb_Outlook_findPeace [11] 500 11 _ _ S M).trans rfl
set_option maxRecDepth 100000 in
theorem b_Ca_peaceCost_0 (K : Cal) (a0 : Nat) (x1 : Int) (S : Sp) (M : Mm) : Run K tb_Ca_peaceCost 0 [vR 11 0 a0, vI x1] [] S M =
  bndI (K m_Ca_peaceAt [vR 11 0 a0, vI x1, vI 0] S M) fun r1 S1 M1 =>
  some (some (vI r1), S1, M1) := (Run_EE K tb_Ca_peaceCost [] 500 0 _ _ S M).trans rfl
set_option maxRecDepth 100000 in
theorem b_Ca_voyage_0 (K : Cal) (a0 : Nat) (x1 : Int) (x2 : Int) (S : Sp) (M : Mm) : Run K tb_Ca_voyage 0 [vR 11 0 a0, vI x1, vI x2] [] S M =
  bndI (K m_Ca_seekVoyage [vR 11 0 a0, vI x1, vI x2] S M) fun r1 S1 M1 =>
  if r1 = 0 then
    some (some (vI (-1)), S1, M1)
  else
    bR (refOf S1 a0 8) fun b2 =>
    bndI (K m_Ca_answer [vR 11 0 a0, vI (M1 b2 1)] S1 M1) fun r3 S3 M3 =>
      some (some (vI r3), S3, M3) := (Run_EE K tb_Ca_voyage [] 500 0 _ _ S M).trans rfl
set_option maxRecDepth 100000 in
theorem b_Ca_seekVoyage_0 (K : Cal) (a0 : Nat) (x1 : Int) (x2 : Int) (S : Sp) (M : Mm) : Run K tb_Ca_seekVoyage 0 [vR 11 0 a0, vI x1, vI x2] [] S M =
  bndI (K m_Ca_isShip [vR 11 0 a0, vI x1] S M) fun r1 S1 M1 =>
  if r1 = 0 then
    bndI (K m_Ca_deny [vR 11 0 a0, vI 1] S1 M1) fun r2 S2 M2 =>
    some (some (vI (r2 % 2)), S2, M2)
  else
    bndI (K m_Ca_within [vI x2, vI 1, vI 3] S1 M1) fun r3 S3 M3 =>
    if r3 = 0 then
      bndI (K m_Ca_deny [vR 11 0 a0, vI 1] S3 M3) fun r4 S4 M4 =>
      some (some (vI (r4 % 2)), S4, M4)
    else
      bR (refOf S3 a0 4) fun b5 =>
      bR (refOf S3 b5 1) fun b6 =>
        if 0 ≤ x1 ∧ x1 < 4 then
            bR (refOf S3 b6 x1.toNat) fun b7 =>
            if M3 b7 0 = (-1) then
                bndI (K m_Ca_deny [vR 11 0 a0, vI 7] S3 M3) fun r8 S8 M8 =>
                some (some (vI (r8 % 2)), S8, M8)
              else
                bR (refOf S3 a0 8) fun b9 =>
                bR (refOf S3 a0 4) fun b10 =>
                  bR (refOf S3 b10 0) fun b11 =>
                    bR (refOf S3 a0 4) fun b12 =>
                      bR (refOf S3 b12 1) fun b13 =>
                        if 0 ≤ x1 ∧ x1 < 4 then
                            bR (refOf S3 b13 x1.toNat) fun b14 =>
                            bndI (K m_Search_finds [vR 4 0 b9, vR 0 0 b11, vR 8 0 b14, vI x2] S3 M3) fun r15 S15 M15 =>
                              if r15 = 0 then
                                bndI (K m_Ca_deny [vR 11 0 a0, vI 6] S15 M15) fun r16 S16 M16 =>
                                some (some (vI (r16 % 2)), S16, M16)
                              else
                                bndI (K m_Ca_agree [vR 11 0 a0] S15 M15) fun r17 S17 M17 =>
                                some (some (vI (r17 % 2)), S17, M17)
                          else none
          else none := (Run_EE K tb_Ca_seekVoyage [] 500 0 _ _ S M).trans rfl
set_option maxRecDepth 100000 in
theorem b_Search_finds_0 (K : Cal) (a0 : Nat) (a1 : Nat) (a2 : Nat) (x3 : Int) (S : Sp) (M : Mm) : Run K tb_Search_finds 0 [vR 4 0 a0, vR 0 0 a1, vR 8 0 a2, vI x3] [] S M =
  bR (refOf S a0 0) fun b1 =>
  bR (refOf S b1 0) fun b2 =>
      bndV (K m_Vessel_copyFrom [vR 8 0 b2, vR 8 0 a2] S M) fun S3 M3 =>
      bndI (K m_Search_mostCoins [vR 4 0 a0, vR 0 0 a1, vI 0, vI x3] S3 M3) fun r4 S4 M4 =>
      if (up M4 a0 1 r4) a0 1 = (-1) then
        some (some (vI 0), S4, up M4 a0 1 r4)
      else
        some (some (vI 1), S4, up M4 a0 1 r4) := (Run_EE K tb_Search_finds [] 500 0 _ _ S M).trans rfl
set_option maxRecDepth 100000 in
theorem b_Search_mostCoins_0 (K : Cal) (a0 : Nat) (a1 : Nat) (x2 : Int) (x3 : Int) (S : Sp) (M : Mm) : Run K tb_Search_mostCoins 0 [vR 4 0 a0, vR 0 0 a1, vI x2, vI x3, vU, vU, vU, vU, vU, vU] [] S M =
  bR (refOf S a0 0) fun b1 =>
  if 0 ≤ x2 ∧ x2 < 4 then
      bR (refOf S b1 x2.toNat) fun b2 =>
      bndV (K m_Vessel_sellsAll [vR 8 0 b2, vR 0 0 a1] S M) fun S3 M3 =>
        if x2 < x3 then
          if x2 < 3 then
            Run K tb_Search_mostCoins 36 [vR 4 0 a0, vR 0 0 a1, vI x2, vI x3, vR 8 0 b2, vI (-1), vI 0, vU, vU, vU] [] S3 M3
          else
            some (some (vI (M3 b2 4)), S3, M3)
        else
          some (some (vI (M3 b2 4)), S3, M3)
    else none := (Run_EE K tb_Search_mostCoins [36, 69] 500 0 _ _ S M).trans rfl
set_option maxRecDepth 100000 in
theorem b_Search_mostCoins_36 (K : Cal) (a0 : Nat) (a1 : Nat) (x2 : Int) (x3 : Int) (a4 : Nat) (x5 : Int) (x6 : Int) (d7 : AV) (d8 : AV) (d9 : AV) (S : Sp) (M : Mm) : Run K tb_Search_mostCoins 36 [vR 4 0 a0, vR 0 0 a1, vI x2, vI x3, vR 8 0 a4, vI x5, vI x6, d7, d8, d9] [] S M =
  bR (refOf S a1 0) fun b1 =>
  if x6 < M b1 2 then
      bR (refOf S a1 11) fun b2 =>
      if 0 ≤ M a4 0 ∧ M a4 0 < 6 then
          bR (refOf S b2 (M a4 0).toNat) fun b3 =>
          if 0 ≤ x6 ∧ x6 < 6 then
              if M b3 x6.toNat = 0 then
                Run K tb_Search_mostCoins 36 [vR 4 0 a0, vR 0 0 a1, vI x2, vI x3, vR 8 0 a4, vI x5, vI (w32 (x6 + 1)), d7, d8, d9] [] S M
              else
                Run K tb_Search_mostCoins 69 [vR 4 0 a0, vR 0 0 a1, vI x2, vI x3, vR 8 0 a4, vI x5, vI x6, vI 0, d8, d9] [] S M
            else none
        else none
    else
      some (some (vI x5), S, M) := (Run_EE K tb_Search_mostCoins [36, 69] 500 36 _ _ S M).trans rfl
set_option maxRecDepth 100000 in
theorem b_Search_mostCoins_69 (K : Cal) (a0 : Nat) (a1 : Nat) (x2 : Int) (x3 : Int) (a4 : Nat) (x5 : Int) (x6 : Int) (x7 : Int) (d8 : AV) (d9 : AV) (S : Sp) (M : Mm) : Run K tb_Search_mostCoins 69 [vR 4 0 a0, vR 0 0 a1, vI x2, vI x3, vR 8 0 a4, vI x5, vI x6, vI x7, d8, d9] [] S M =
  bR (refOf S a1 0) fun b1 =>
  if M b1 1 < x7 then
      Run K tb_Search_mostCoins 36 [vR 4 0 a0, vR 0 0 a1, vI x2, vI x3, vR 8 0 a4, vI x5, vI (w32 (x6 + 1)), vI x7, d8, d9] [] S M
    else
      bR (refOf S a1 0) fun b2 =>
      if x7 < M b2 1 then
          bndI (K m_Search_goes [vR 4 0 a0, vR 0 0 a1, vI x2, vI x6, vI x7] S M) fun r3 S3 M3 =>
          if r3 = 0 then
            Run K tb_Search_mostCoins 69 [vR 4 0 a0, vR 0 0 a1, vI x2, vI x3, vR 8 0 a4, vI x5, vI x6, vI (w32 (x7 + 1)), vI x7, d9] [] S3 M3
          else
            bndI (K m_Search_mostCoins [vR 4 0 a0, vR 0 0 a1, vI (w32 (x2 + 1)), vI x3] S3 M3) fun r4 S4 M4 =>
            if x5 < r4 then
              bndV (K m_Search_noteFirstLeg [vR 4 0 a0, vI x2, vI x6, vI x7] S4 M4) fun S5 M5 =>
              Run K tb_Search_mostCoins 69 [vR 4 0 a0, vR 0 0 a1, vI x2, vI x3, vR 8 0 a4, vI r4, vI x6, vI (w32 (x7 + 1)), vI x7, vI r4] [] S5 M5
            else
              Run K tb_Search_mostCoins 69 [vR 4 0 a0, vR 0 0 a1, vI x2, vI x3, vR 8 0 a4, vI x5, vI x6, vI (w32 (x7 + 1)), vI x7, vI r4] [] S4 M4
        else
          bndI (K m_Search_goes [vR 4 0 a0, vR 0 0 a1, vI x2, vI x6, vI (-1)] S M) fun r6 S6 M6 =>
          if r6 = 0 then
            Run K tb_Search_mostCoins 69 [vR 4 0 a0, vR 0 0 a1, vI x2, vI x3, vR 8 0 a4, vI x5, vI x6, vI (w32 (x7 + 1)), vI (-1), d9] [] S6 M6
          else
            bndI (K m_Search_mostCoins [vR 4 0 a0, vR 0 0 a1, vI (w32 (x2 + 1)), vI x3] S6 M6) fun r7 S7 M7 =>
            if x5 < r7 then
              bndV (K m_Search_noteFirstLeg [vR 4 0 a0, vI x2, vI x6, vI (-1)] S7 M7) fun S8 M8 =>
              Run K tb_Search_mostCoins 69 [vR 4 0 a0, vR 0 0 a1, vI x2, vI x3, vR 8 0 a4, vI r7, vI x6, vI (w32 (x7 + 1)), vI (-1), vI r7] [] S8 M8
            else
              Run K tb_Search_mostCoins 69 [vR 4 0 a0, vR 0 0 a1, vI x2, vI x3, vR 8 0 a4, vI x5, vI x6, vI (w32 (x7 + 1)), vI (-1), vI r7] [] S7 M7 := (Run_EE K tb_Search_mostCoins [36, 69] 500 69 _ _ S M).trans rfl
set_option maxRecDepth 100000 in
theorem b_Vessel_sellsAll_0 (K : Cal) (a0 : Nat) (a1 : Nat) (S : Sp) (M : Mm) : Run K tb_Vessel_sellsAll 0 [vR 8 0 a0, vR 0 0 a1, vU] [] S M =
  Run K tb_Vessel_sellsAll 2 [vR 8 0 a0, vR 0 0 a1, vI 0] [] S M := (Run_EE K tb_Vessel_sellsAll [2] 500 0 _ _ S M).trans rfl
set_option maxRecDepth 100000 in
theorem b_Vessel_sellsAll_2 (K : Cal) (a0 : Nat) (a1 : Nat) (x2 : Int) (S : Sp) (M : Mm) : Run K tb_Vessel_sellsAll 2 [vR 8 0 a0, vR 0 0 a1, vI x2] [] S M =
  bR (refOf S a1 0) fun b1 =>
  if x2 < M b1 1 then
      bR (refOf S a0 7) fun b2 =>
      if 0 ≤ x2 ∧ x2 < 8 then
          if 0 < M b2 x2.toNat then
            bR (refOf S a0 7) fun b3 =>
            if 0 ≤ x2 ∧ x2 < 8 then
                bndI (K m_Vessel_sells [vR 8 0 a0, vR 0 0 a1, vI x2, vI (M b3 x2.toNat)] S M) fun r4 S4 M4 =>
                Run K tb_Vessel_sellsAll 2 [vR 8 0 a0, vR 0 0 a1, vI (w32 (x2 + 1))] [] S4 M4
              else none
          else
            Run K tb_Vessel_sellsAll 2 [vR 8 0 a0, vR 0 0 a1, vI (w32 (x2 + 1))] [] S M
        else none
    else
      some (none, S, M) := (Run_EE K tb_Vessel_sellsAll [2] 500 2 _ _ S M).trans rfl
set_option maxRecDepth 100000 in
theorem b_Search_goes_0 (K : Cal) (a0 : Nat) (a1 : Nat) (x2 : Int) (x3 : Int) (x4 : Int) (S : Sp) (M : Mm) : Run K tb_Search_goes 0 [vR 4 0 a0, vR 0 0 a1, vI x2, vI x3, vI x4, vU] [] S M =
  bR (refOf S a0 0) fun b1 =>
  if 0 ≤ w32 (x2 + 1) ∧ w32 (x2 + 1) < 4 then
      bR (refOf S b1 (w32 (x2 + 1)).toNat) fun b2 =>
      bR (refOf S a0 0) fun b3 =>
        if 0 ≤ x2 ∧ x2 < 4 then
            bR (refOf S b3 x2.toNat) fun b4 =>
            bndV (K m_Vessel_copyFrom [vR 8 0 b2, vR 8 0 b4] S M) fun S5 M5 =>
              if x4 = (-1) then
                bndI (K m_Vessel_sails [vR 8 0 b2, vR 0 0 a1, vI x3] S5 M5) fun r6 S6 M6 =>
                if r6 = 0 then
                  some (some (vI 0), S6, M6)
                else
                  bndI (K m_Vessel_sailsOn [vR 8 0 b2, vR 0 0 a1, vI (M6 b2 2)] S6 M6) fun r7 S7 M7 =>
                  if r7 = 0 then
                    some (some (vI 0), S7, M7)
                  else
                    some (some (vI 1), S7, M7)
              else
                bndI (K m_Vessel_buysMost [vR 8 0 b2, vR 0 0 a1, vI x4] S5 M5) fun r8 S8 M8 =>
                if r8 = 0 then
                  some (some (vI 0), S8, M8)
                else
                  bndI (K m_Vessel_sails [vR 8 0 b2, vR 0 0 a1, vI x3] S8 M8) fun r9 S9 M9 =>
                  if r9 = 0 then
                    some (some (vI 0), S9, M9)
                  else
                    bndI (K m_Vessel_sailsOn [vR 8 0 b2, vR 0 0 a1, vI (M9 b2 2)] S9 M9) fun r10 S10 M10 =>
                    if r10 = 0 then
                      some (some (vI 0), S10, M10)
                    else
                      some (some (vI 1), S10, M10)
          else none
    else none := (Run_EE K tb_Search_goes [] 500 0 _ _ S M).trans rfl
set_option maxRecDepth 100000 in
theorem b_Vessel_buysMost_0 (K : Cal) (a0 : Nat) (a1 : Nat) (x2 : Int) (S : Sp) (M : Mm) : Run K tb_Vessel_buysMost 0 [vR 8 0 a0, vR 0 0 a1, vI x2, vU, vU] [] S M =
  if M a0 0 = (-1) then
    some (some (vI 0), S, M)
  else
    bR (refOf S a1 10) fun b1 =>
    if 0 ≤ M a0 0 ∧ M a0 0 < 6 then
        bR (refOf S b1 (M a0 0).toNat) fun b2 =>
        if 0 ≤ x2 ∧ x2 < 8 then
            if M b2 x2.toNat = 0 then
              some (some (vI 0), S, M)
            else
              bR (refOf S a1 10) fun b3 =>
              if 0 ≤ M a0 0 ∧ M a0 0 < 6 then
                  bR (refOf S b3 (M a0 0).toNat) fun b4 =>
                  if 0 ≤ x2 ∧ x2 < 8 then
                      if M b4 x2.toNat = 0 then none else
                        bndI (K m_Vessel_room [vR 8 0 a0] S M) fun r5 S5 M5 =>
                        bR (refOf S5 a0 7) fun b6 =>
                        if 0 ≤ x2 ∧ x2 < 8 then
                            if 0 ≤ x2 ∧ x2 < 8 then
                              if 0 < min (w32 (Int.tdiv (M a0 4) (M b4 x2.toNat))) r5 then
                                some (some (vI 1), S5, up (up M5 a0 4 (w32 ((M5 a0 4) - (w32 ((M b4 x2.toNat) * (min (w32 (Int.tdiv (M a0 4) (M b4 x2.toNat))) r5)))))) b6 x2.toNat (w32 (((up M5 a0 4 (w32 ((M5 a0 4) - (w32 ((M b4 x2.toNat) * (min (w32 (Int.tdiv (M a0 4) (M b4 x2.toNat))) r5)))))) b6 x2.toNat) + (min (w32 (Int.tdiv (M a0 4) (M b4 x2.toNat))) r5))))
                              else
                                some (some (vI 0), S5, up (up M5 a0 4 (w32 ((M5 a0 4) - (w32 ((M b4 x2.toNat) * (min (w32 (Int.tdiv (M a0 4) (M b4 x2.toNat))) r5)))))) b6 x2.toNat (w32 (((up M5 a0 4 (w32 ((M5 a0 4) - (w32 ((M b4 x2.toNat) * (min (w32 (Int.tdiv (M a0 4) (M b4 x2.toNat))) r5)))))) b6 x2.toNat) + (min (w32 (Int.tdiv (M a0 4) (M b4 x2.toNat))) r5))))
                            else none
                          else none
                    else none
                else none
          else none
      else none := (Run_EE K tb_Vessel_buysMost [] 500 0 _ _ S M).trans rfl
set_option maxRecDepth 100000 in
theorem b_Search_noteFirstLeg_0 (K : Cal) (a0 : Nat) (x1 : Int) (x2 : Int) (x3 : Int) (S : Sp) (M : Mm) : Run K tb_Search_noteFirstLeg 0 [vR 4 0 a0, vI x1, vI x2, vI x3] [] S M =
  if x1 = 0 then
    some (none, S, up (up M a0 2 x2) a0 3 x3)
  else
    some (none, S, M) := (Run_EE K tb_Search_noteFirstLeg [] 500 0 _ _ S M).trans rfl
set_option maxRecDepth 100000 in
theorem b_Ca_voyageAt_0 (K : Cal) (a0 : Nat) (x1 : Int) (x2 : Int) (x3 : Int) (S : Sp) (M : Mm) : Run K tb_Ca_voyageAt 0 [vR 11 0 a0, vI x1, vI x2, vI x3] [] S M =
  bndI (K m_Ca_within [vI x3, vI 0, vI 1] S M) fun r1 S1 M1 =>
  if r1 = 0 then
    bndI (K m_Ca_refuse [vR 11 0 a0, vI 1] S1 M1) fun r2 S2 M2 =>
    some (some (vI r2), S2, M2)
  else
    bndI (K m_Ca_seekVoyage [vR 11 0 a0, vI x1, vI x2] S1 M1) fun r3 S3 M3 =>
    if r3 = 0 then
      some (some (vI (-1)), S3, M3)
    else
      if x3 = 0 then
        bR (refOf S3 a0 8) fun b4 =>
        bndI (K m_Ca_answer [vR 11 0 a0, vI (M3 b4 2)] S3 M3) fun r5 S5 M5 =>
          some (some (vI r5), S5, M5)
      else
        bR (refOf S3 a0 8) fun b6 =>
        bndI (K m_Ca_answer [vR 11 0 a0, vI (M3 b6 3)] S3 M3) fun r7 S7 M7 =>
          some (some (vI r7), S7, M7) := (Run_EE K tb_Ca_voyageAt [] 500 0 _ _ S M).trans rfl
set_option maxRecDepth 100000 in
theorem b_Ca_soonest_0 (K : Cal) (a0 : Nat) (x1 : Int) (x2 : Int) (S : Sp) (M : Mm) : Run K tb_Ca_soonest 0 [vR 11 0 a0, vI x1, vI x2] [] S M =
  bndI (K m_Ca_isPort [vR 11 0 a0, vI x1] S M) fun r1 S1 M1 =>
  if r1 = 0 then
    bndI (K m_Ca_refuse [vR 11 0 a0, vI 1] S1 M1) fun r2 S2 M2 =>
    some (some (vI r2), S2, M2)
  else
    bndI (K m_Ca_isPort [vR 11 0 a0, vI x2] S1 M1) fun r3 S3 M3 =>
    if r3 = 0 then
      bndI (K m_Ca_refuse [vR 11 0 a0, vI 1] S3 M3) fun r4 S4 M4 =>
      some (some (vI r4), S4, M4)
    else
      bR (refOf S3 a0 4) fun b5 =>
      bR (refOf S3 b5 0) fun b6 =>
        bndV (K m_Chart_measureFrom [vR 0 0 b6, vI x1] S3 M3) fun S7 M7 =>
          bR (refOf S7 a0 4) fun b8 =>
          bR (refOf S7 b8 0) fun b9 =>
            bR (refOf S7 b9 14) fun b10 =>
              if 0 ≤ x2 ∧ x2 < 6 then
                  bndI (K m_Ca_answerOr [vR 11 0 a0, vI (M7 b10 x2.toNat), vI 6] S7 M7) fun r11 S11 M11 =>
                  some (some (vI r11), S11, M11)
                else none := (Run_EE K tb_Ca_soonest [] 500 0 _ _ S M).trans rfl
set_option maxRecDepth 100000 in
theorem b_Chart_measureFrom_0 (K : Cal) (a0 : Nat) (x1 : Int) (S : Sp) (M : Mm) : Run K tb_Chart_measureFrom 0 [vR 0 0 a0, vI x1, vU, vU] [] S M =
  bR (refOf S a0 14) fun b1 =>
  bndV (K m_Arrays_fill0 [vR 20 6 b1, vI (-1)] S M) fun S2 M2 =>
    bR (refOf S2 a0 14) fun b3 =>
    if 0 ≤ x1 ∧ x1 < 6 then
        Run K tb_Chart_measureFrom 17 [vR 0 0 a0, vI x1, vI 0, vU] [] S2 (up M2 b3 x1.toNat 0)
      else none := (Run_EE K tb_Chart_measureFrom [17, 29] 500 0 _ _ S M).trans rfl
set_option maxRecDepth 100000 in
theorem b_Chart_measureFrom_17 (K : Cal) (a0 : Nat) (x1 : Int) (x2 : Int) (d3 : AV) (S : Sp) (M : Mm) : Run K tb_Chart_measureFrom 17 [vR 0 0 a0, vI x1, vI x2, d3] [] S M =
  bR (refOf S a0 0) fun b1 =>
  if x2 < M b1 2 then
      Run K tb_Chart_measureFrom 29 [vR 0 0 a0, vI x1, vI x2, vI 0] [] S M
    else
      some (none, S, M) := (Run_EE K tb_Chart_measureFrom [17, 29] 500 17 _ _ S M).trans rfl
set_option maxRecDepth 100000 in
theorem b_Chart_measureFrom_29 (K : Cal) (a0 : Nat) (x1 : Int) (x2 : Int) (x3 : Int) (S : Sp) (M : Mm) : Run K tb_Chart_measureFrom 29 [vR 0 0 a0, vI x1, vI x2, vI x3] [] S M =
  bR (refOf S a0 0) fun b1 =>
  if x3 < M b1 2 then
      bR (refOf S a0 14) fun b2 =>
      if 0 ≤ x3 ∧ x3 < 6 then
          if M b2 x3.toNat = (-1) then
            Run K tb_Chart_measureFrom 29 [vR 0 0 a0, vI x1, vI x2, vI (w32 (x3 + 1))] [] S M
          else
            bndV (K m_Chart_shortenFrom [vR 0 0 a0, vI x3] S M) fun S3 M3 =>
            Run K tb_Chart_measureFrom 29 [vR 0 0 a0, vI x1, vI x2, vI (w32 (x3 + 1))] [] S3 M3
        else none
    else
      Run K tb_Chart_measureFrom 17 [vR 0 0 a0, vI x1, vI (w32 (x2 + 1)), vI x3] [] S M := (Run_EE K tb_Chart_measureFrom [17, 29] 500 29 _ _ S M).trans rfl
set_option maxRecDepth 100000 in
theorem b_Chart_shortenFrom_0 (K : Cal) (a0 : Nat) (x1 : Int) (S : Sp) (M : Mm) : Run K tb_Chart_shortenFrom 0 [vR 0 0 a0, vI x1, vU, vU] [] S M =
  Run K tb_Chart_shortenFrom 2 [vR 0 0 a0, vI x1, vI 0, vU] [] S M := (Run_EE K tb_Chart_shortenFrom [2] 500 0 _ _ S M).trans rfl
set_option maxRecDepth 100000 in
theorem b_Chart_shortenFrom_2 (K : Cal) (a0 : Nat) (x1 : Int) (x2 : Int) (d3 : AV) (S : Sp) (M : Mm) : Run K tb_Chart_shortenFrom 2 [vR 0 0 a0, vI x1, vI x2, d3] [] S M =
  bR (refOf S a0 0) fun b1 =>
  if x2 < M b1 2 then
      bR (refOf S a0 14) fun b2 =>
      if 0 ≤ x1 ∧ x1 < 6 then
          bR (refOf S a0 11) fun b3 =>
          if 0 ≤ x1 ∧ x1 < 6 then
              bR (refOf S b3 x1.toNat) fun b4 =>
              if 0 ≤ x2 ∧ x2 < 6 then
                  bR (refOf S a0 11) fun b5 =>
                  if 0 ≤ x1 ∧ x1 < 6 then
                      bR (refOf S b5 x1.toNat) fun b6 =>
                      if 0 ≤ x2 ∧ x2 < 6 then
                          if 0 < M b6 x2.toNat then
                            bR (refOf S a0 14) fun b7 =>
                            if 0 ≤ x2 ∧ x2 < 6 then
                                if M b7 x2.toNat = (-1) then
                                  bR (refOf S a0 14) fun b8 =>
                                  if 0 ≤ x2 ∧ x2 < 6 then
                                      Run K tb_Chart_shortenFrom 2 [vR 0 0 a0, vI x1, vI (w32 (x2 + 1)), vI (w32 ((M b2 x1.toNat) + (M b4 x2.toNat)))] [] S (up M b8 x2.toNat (w32 ((M b2 x1.toNat) + (M b4 x2.toNat))))
                                    else none
                                else
                                  bR (refOf S a0 14) fun b9 =>
                                  if 0 ≤ x2 ∧ x2 < 6 then
                                      if w32 ((M b2 x1.toNat) + (M b4 x2.toNat)) < M b9 x2.toNat then
                                        bR (refOf S a0 14) fun b10 =>
                                        if 0 ≤ x2 ∧ x2 < 6 then
                                            Run K tb_Chart_shortenFrom 2 [vR 0 0 a0, vI x1, vI (w32 (x2 + 1)), vI (w32 ((M b2 x1.toNat) + (M b4 x2.toNat)))] [] S (up M b10 x2.toNat (w32 ((M b2 x1.toNat) + (M b4 x2.toNat))))
                                          else none
                                      else
                                        Run K tb_Chart_shortenFrom 2 [vR 0 0 a0, vI x1, vI (w32 (x2 + 1)), vI (w32 ((M b2 x1.toNat) + (M b4 x2.toNat)))] [] S M
                                    else none
                              else none
                          else
                            Run K tb_Chart_shortenFrom 2 [vR 0 0 a0, vI x1, vI (w32 (x2 + 1)), vI (w32 ((M b2 x1.toNat) + (M b4 x2.toNat)))] [] S M
                        else none
                    else none
                else none
            else none
        else none
    else
      some (none, S, M) := (Run_EE K tb_Chart_shortenFrom [2] 500 2 _ _ S M).trans rfl
set_option maxRecDepth 100000 in
theorem b_Ca_next_0 (K : Cal) (a0 : Nat) (x1 : Int) (x2 : Int) (S : Sp) (M : Mm) : Run K tb_Ca_next 0 [vR 11 0 a0, vI x1, vI x2] [] S M =
  bndI (K m_Ca_areTwo [vR 11 0 a0, vI x1, vI x2, vI 2] S M) fun r1 S1 M1 =>
  if r1 = 0 then
    bndI (K m_Ca_refuse [vR 11 0 a0, vI 1] S1 M1) fun r2 S2 M2 =>
    some (some (vI r2), S2, M2)
  else
    bR (refOf S1 a0 4) fun b3 =>
    bR (refOf S1 b3 0) fun b4 =>
      bndI (K m_Chart_firstTowards [vR 0 0 b4, vI x1, vI x2] S1 M1) fun r5 S5 M5 =>
        bndI (K m_Ca_answerOr [vR 11 0 a0, vI r5, vI 6] S5 M5) fun r6 S6 M6 =>
        some (some (vI r6), S6, M6) := (Run_EE K tb_Ca_next [] 500 0 _ _ S M).trans rfl
set_option maxRecDepth 100000 in
theorem b_Chart_firstTowards_0 (K : Cal) (a0 : Nat) (x1 : Int) (x2 : Int) (S : Sp) (M : Mm) : Run K tb_Chart_firstTowards 0 [vR 0 0 a0, vI x1, vI x2, vU] [] S M =
  bndV (K m_Chart_measureFrom [vR 0 0 a0, vI x2] S M) fun S1 M1 =>
  Run K tb_Chart_firstTowards 7 [vR 0 0 a0, vI x1, vI x2, vI 0] [] S1 M1 := (Run_EE K tb_Chart_firstTowards [7] 500 0 _ _ S M).trans rfl
set_option maxRecDepth 100000 in
theorem b_Chart_firstTowards_7 (K : Cal) (a0 : Nat) (x1 : Int) (x2 : Int) (x3 : Int) (S : Sp) (M : Mm) : Run K tb_Chart_firstTowards 7 [vR 0 0 a0, vI x1, vI x2, vI x3] [] S M =
  bR (refOf S a0 0) fun b1 =>
  if x3 < M b1 2 then
      bR (refOf S a0 11) fun b2 =>
      if 0 ≤ x1 ∧ x1 < 6 then
          bR (refOf S b2 x1.toNat) fun b3 =>
          if 0 ≤ x3 ∧ x3 < 6 then
              if 0 < M b3 x3.toNat then
                bR (refOf S a0 14) fun b4 =>
                if 0 ≤ x3 ∧ x3 < 6 then
                    if M b4 x3.toNat = (-1) then
                      Run K tb_Chart_firstTowards 7 [vR 0 0 a0, vI x1, vI x2, vI (w32 (x3 + 1))] [] S M
                    else
                      bR (refOf S a0 11) fun b5 =>
                      if 0 ≤ x1 ∧ x1 < 6 then
                          bR (refOf S b5 x1.toNat) fun b6 =>
                          if 0 ≤ x3 ∧ x3 < 6 then
                              bR (refOf S a0 14) fun b7 =>
                              if 0 ≤ x3 ∧ x3 < 6 then
                                  bR (refOf S a0 14) fun b8 =>
                                  if 0 ≤ x1 ∧ x1 < 6 then
                                      if w32 ((M b6 x3.toNat) + (M b7 x3.toNat)) = M b8 x1.toNat then
                                        some (some (vI x3), S, M)
                                      else
                                        Run K tb_Chart_firstTowards 7 [vR 0 0 a0, vI x1, vI x2, vI (w32 (x3 + 1))] [] S M
                                    else none
                                else none
                            else none
                        else none
                  else none
              else
                Run K tb_Chart_firstTowards 7 [vR 0 0 a0, vI x1, vI x2, vI (w32 (x3 + 1))] [] S M
            else none
        else none
    else
      some (some (vI (-1)), S, M) := (Run_EE K tb_Chart_firstTowards [7] 500 7 _ _ S M).trans rfl
set_option maxRecDepth 100000 in
theorem b_Ca_reach_0 (K : Cal) (a0 : Nat) (x1 : Int) (S : Sp) (M : Mm) : Run K tb_Ca_reach 0 [vR 11 0 a0, vI x1, vU, vU] [] S M =
  bndI (K m_Ca_isPort [vR 11 0 a0, vI x1] S M) fun r1 S1 M1 =>
  if r1 = 0 then
    bndI (K m_Ca_refuse [vR 11 0 a0, vI 1] S1 M1) fun r2 S2 M2 =>
    some (some (vI r2), S2, M2)
  else
    bR (refOf S1 a0 4) fun b3 =>
    bR (refOf S1 b3 0) fun b4 =>
      bndV (K m_Chart_measureFrom [vR 0 0 b4, vI x1] S1 M1) fun S5 M5 =>
        Run K tb_Ca_reach 29 [vR 11 0 a0, vI x1, vI 0, vI 0] [] S5 M5 := (Run_EE K tb_Ca_reach [29] 500 0 _ _ S M).trans rfl
set_option maxRecDepth 100000 in
theorem b_Ca_reach_29 (K : Cal) (a0 : Nat) (x1 : Int) (x2 : Int) (x3 : Int) (S : Sp) (M : Mm) : Run K tb_Ca_reach 29 [vR 11 0 a0, vI x1, vI x2, vI x3] [] S M =
  bR (refOf S a0 4) fun b1 =>
  bR (refOf S b1 0) fun b2 =>
    bR (refOf S b2 0) fun b3 =>
      if x3 < M b3 2 then
          bR (refOf S a0 4) fun b4 =>
          bR (refOf S b4 0) fun b5 =>
            bR (refOf S b5 14) fun b6 =>
              if 0 ≤ x3 ∧ x3 < 6 then
                  if M b6 x3.toNat = (-1) then
                    Run K tb_Ca_reach 29 [vR 11 0 a0, vI x1, vI x2, vI (w32 (x3 + 1))] [] S M
                  else
                    Run K tb_Ca_reach 29 [vR 11 0 a0, vI x1, vI (or32 x2 (shl32 1 x3)), vI (w32 (x3 + 1))] [] S M
                else none
        else
          bndI (K m_Ca_answer [vR 11 0 a0, vI x2] S M) fun r7 S7 M7 =>
          some (some (vI r7), S7, M7) := (Run_EE K tb_Ca_reach [29] 500 29 _ _ S M).trans rfl
set_option maxRecDepth 100000 in
theorem b_Ca_best_0 (K : Cal) (a0 : Nat) (x1 : Int) (x2 : Int) (S : Sp) (M : Mm) : Run K tb_Ca_best 0 [vR 11 0 a0, vI x1, vI x2, vU, vU, vU, vU, vU] [] S M =
  bndI (K m_Ca_areTwo [vR 11 0 a0, vI x1, vI x2, vI 2] S M) fun r1 S1 M1 =>
  if r1 = 0 then
    bndI (K m_Ca_refuse [vR 11 0 a0, vI 1] S1 M1) fun r2 S2 M2 =>
    some (some (vI r2), S2, M2)
  else
    Run K tb_Ca_best 24 [vR 11 0 a0, vI x1, vI x2, vI 0, vI (-1), vI 0, vU, vU] [] S1 M1 := (Run_EE K tb_Ca_best [24] 500 0 _ _ S M).trans rfl
set_option maxRecDepth 100000 in
theorem b_Ca_best_24 (K : Cal) (a0 : Nat) (x1 : Int) (x2 : Int) (x3 : Int) (x4 : Int) (x5 : Int) (d6 : AV) (d7 : AV) (S : Sp) (M : Mm) : Run K tb_Ca_best 24 [vR 11 0 a0, vI x1, vI x2, vI x3, vI x4, vI x5, d6, d7] [] S M =
  bR (refOf S a0 4) fun b1 =>
  bR (refOf S b1 0) fun b2 =>
    bR (refOf S b2 0) fun b3 =>
      if x5 < M b3 1 then
          bR (refOf S a0 4) fun b4 =>
          bR (refOf S b4 0) fun b5 =>
            bR (refOf S b5 10) fun b6 =>
              if 0 ≤ x1 ∧ x1 < 6 then
                  bR (refOf S b6 x1.toNat) fun b7 =>
                  if 0 ≤ x5 ∧ x5 < 8 then
                      bR (refOf S a0 4) fun b8 =>
                      bR (refOf S b8 0) fun b9 =>
                        bR (refOf S b9 10) fun b10 =>
                          if 0 ≤ x2 ∧ x2 < 6 then
                              bR (refOf S b10 x2.toNat) fun b11 =>
                              if 0 ≤ x5 ∧ x5 < 8 then
                                  if 0 < M b7 x5.toNat then
                                    if 0 < M b11 x5.toNat then
                                      if x3 < w32 ((M b11 x5.toNat) - (M b7 x5.toNat)) then
                                        Run K tb_Ca_best 24 [vR 11 0 a0, vI x1, vI x2, vI (w32 ((M b11 x5.toNat) - (M b7 x5.toNat))), vI x5, vI (w32 (x5 + 1)), vI (M b7 x5.toNat), vI (M b11 x5.toNat)] [] S M
                                      else
                                        Run K tb_Ca_best 24 [vR 11 0 a0, vI x1, vI x2, vI x3, vI x4, vI (w32 (x5 + 1)), vI (M b7 x5.toNat), vI (M b11 x5.toNat)] [] S M
                                    else
                                      Run K tb_Ca_best 24 [vR 11 0 a0, vI x1, vI x2, vI x3, vI x4, vI (w32 (x5 + 1)), vI (M b7 x5.toNat), vI (M b11 x5.toNat)] [] S M
                                  else
                                    Run K tb_Ca_best 24 [vR 11 0 a0, vI x1, vI x2, vI x3, vI x4, vI (w32 (x5 + 1)), vI (M b7 x5.toNat), vI (M b11 x5.toNat)] [] S M
                                else none
                            else none
                    else none
                else none
        else
          bndI (K m_Ca_answerOr [vR 11 0 a0, vI x4, vI 6] S M) fun r12 S12 M12 =>
          some (some (vI r12), S12, M12) := (Run_EE K tb_Ca_best [24] 500 24 _ _ S M).trans rfl
set_option maxRecDepth 100000 in
theorem b_Ca_log_0 (K : Cal) (a0 : Nat) (x1 : Int) (x2 : Int) (x3 : Int) (S : Sp) (M : Mm) : Run K tb_Ca_log 0 [vR 11 0 a0, vI x1, vI x2, vI x3] [] S M =
  bndI (K m_Ca_seekLog [vR 11 0 a0, vI x1, vI x2, vI x3] S M) fun r1 S1 M1 =>
  if r1 = 0 then
    some (some (vI (-1)), S1, M1)
  else
    bR (refOf S1 a0 7) fun b2 =>
    bndI (K m_Ca_answer [vR 11 0 a0, vI (M1 b2 4)] S1 M1) fun r3 S3 M3 =>
      some (some (vI r3), S3, M3) := (Run_EE K tb_Ca_log [] 500 0 _ _ S M).trans rfl
set_option maxRecDepth 100000 in
theorem b_Ca_seekLog_0 (K : Cal) (a0 : Nat) (x1 : Int) (x2 : Int) (x3 : Int) (S : Sp) (M : Mm) : Run K tb_Ca_seekLog 0 [vR 11 0 a0, vI x1, vI x2, vI x3, vU, vU, vU, vU] [] S M =
  bndI (K m_Trays_isTray [vI x1] S M) fun r1 S1 M1 =>
  if r1 = 0 then
    bndI (K m_Ca_deny [vR 11 0 a0, vI 1] S1 M1) fun r2 S2 M2 =>
    some (some (vI (r2 % 2)), S2, M2)
  else
    bndI (K m_Ca_within [vI x2, vI 1, vI 20] S1 M1) fun r3 S3 M3 =>
    if r3 = 0 then
      bndI (K m_Ca_deny [vR 11 0 a0, vI 1] S3 M3) fun r4 S4 M4 =>
      some (some (vI (r4 % 2)), S4, M4)
    else
      bndI (K m_Ca_within [vI x3, vI 2, vI 60] S3 M3) fun r5 S5 M5 =>
      if r5 = 0 then
        bndI (K m_Ca_deny [vR 11 0 a0, vI 1] S5 M5) fun r6 S6 M6 =>
        some (some (vI (r6 % 2)), S6, M6)
      else
        bR (refOf S5 a0 0) fun b7 =>
        bndI (K m_Trays_troubleFirst [vR 7 0 b7, vI x1, vI x2] S5 M5) fun r8 S8 M8 =>
          if r8 = 0 then
            Run K tb_Ca_seekLog 59 [vR 11 0 a0, vI x1, vI x2, vI x3, vI r8, vI 0, vU, vU] [] S8 M8
          else
            bndI (K m_Ca_deny [vR 11 0 a0, vI r8] S8 M8) fun r9 S9 M9 =>
            some (some (vI (r9 % 2)), S9, M9) := (Run_EE K tb_Ca_seekLog [59] 500 0 _ _ S M).trans rfl
set_option maxRecDepth 100000 in
theorem b_Ca_seekLog_59 (K : Cal) (a0 : Nat) (x1 : Int) (x2 : Int) (x3 : Int) (x4 : Int) (x5 : Int) (d6 : AV) (d7 : AV) (S : Sp) (M : Mm) : Run K tb_Ca_seekLog 59 [vR 11 0 a0, vI x1, vI x2, vI x3, vI x4, vI x5, d6, d7] [] S M =
  if x5 < x2 then
    bR (refOf S a0 0) fun b1 =>
    bR (refOf S b1 0) fun b2 =>
      if 0 ≤ x1 ∧ x1 < 4 then
          bR (refOf S b2 x1.toNat) fun b3 =>
          if 0 ≤ x5 ∧ x5 < 60 then
              if cmp3 (M b3 x5.toNat) (-1) < 0 then
                bndI (K m_Ca_deny [vR 11 0 a0, vI 5] S M) fun r4 S4 M4 =>
                some (some (vI (r4 % 2)), S4, M4)
              else
                bR (refOf S a0 4) fun b5 =>
                bR (refOf S b5 0) fun b6 =>
                  bR (refOf S b6 0) fun b7 =>
                    if cmp3 (M b3 x5.toNat) (M b7 0) < 0 then
                        bR (refOf S a0 7) fun b8 =>
                        bR (refOf S b8 3) fun b9 =>
                          if 0 ≤ x5 ∧ x5 < 20 then
                              Run K tb_Ca_seekLog 59 [vR 11 0 a0, vI x1, vI x2, vI x3, vI x4, vI (w32 (x5 + 1)), vL (M b3 x5.toNat), vU] [] S (up M b9 x5.toNat (w32 (M b3 x5.toNat)))
                            else none
                      else
                        bndI (K m_Ca_deny [vR 11 0 a0, vI 5] S M) fun r10 S10 M10 =>
                        some (some (vI (r10 % 2)), S10, M10)
            else none
        else none
  else
    bR (refOf S a0 7) fun b11 =>
    bR (refOf S a0 4) fun b12 =>
      bR (refOf S b12 0) fun b13 =>
        bndV (K m_Outlook_countWays [vR 2 0 b11, vR 0 0 b13, vI x2, vI x3] S M) fun S14 M14 =>
          bndI (K m_Ca_agree [vR 11 0 a0] S14 M14) fun r15 S15 M15 =>
          some (some (vI (r15 % 2)), S15, M15) := (Run_EE K tb_Ca_seekLog [59] 500 59 _ _ S M).trans rfl
set_option maxRecDepth 100000 in
theorem b_Trays_troubleFirst_0 (K : Cal) (a0 : Nat) (x1 : Int) (x2 : Int) (S : Sp) (M : Mm) : Run K tb_Trays_troubleFirst 0 [vR 7 0 a0, vI x1, vI x2] [] S M =
  bndI (K m_Trays_troubleAt [vR 7 0 a0, vI x1, vI (w32 (x2 - 1))] S M) fun r1 S1 M1 =>
  some (some (vI r1), S1, M1) := (Run_EE K tb_Trays_troubleFirst [] 500 0 _ _ S M).trans rfl
set_option maxRecDepth 100000 in
theorem b_Outlook_countWays_0 (K : Cal) (a0 : Nat) (a1 : Nat) (x2 : Int) (x3 : Int) (S : Sp) (M : Mm) : Run K tb_Outlook_countWays 0 [vR 2 0 a0, vR 0 0 a1, vI x2, vI x3, vU, vU, vU] [] S M =
  bR (refOf S a1 0) fun b1 =>
  Run K tb_Outlook_countWays 22 [vR 2 0 a0, vR 0 0 a1, vI x2, vI x3, vI 0, vU, vU] [] S (up (up M a0 4 0) a0 5 (w32 ((shl32 1 ((up M a0 4 0) b1 1)) - 1))) := (Run_EE K tb_Outlook_countWays [22, 39] 500 0 _ _ S M).trans rfl
set_option maxRecDepth 100000 in
theorem b_Outlook_countWays_22 (K : Cal) (a0 : Nat) (a1 : Nat) (x2 : Int) (x3 : Int) (x4 : Int) (d5 : AV) (d6 : AV) (S : Sp) (M : Mm) : Run K tb_Outlook_countWays 22 [vR 2 0 a0, vR 0 0 a1, vI x2, vI x3, vI x4, d5, d6] [] S M =
  bR (refOf S a1 0) fun b1 =>
  if x4 < M b1 1 then
      Run K tb_Outlook_countWays 39 [vR 2 0 a0, vR 0 0 a1, vI x2, vI x3, vI x4, vI (w32 (x4 + 1)), d6] [] S M
    else
      some (none, S, M) := (Run_EE K tb_Outlook_countWays [22, 39] 500 22 _ _ S M).trans rfl
set_option maxRecDepth 100000 in
theorem b_Outlook_countWays_39 (K : Cal) (a0 : Nat) (a1 : Nat) (x2 : Int) (x3 : Int) (x4 : Int) (x5 : Int) (d6 : AV) (S : Sp) (M : Mm) : Run K tb_Outlook_countWays 39 [vR 2 0 a0, vR 0 0 a1, vI x2, vI x3, vI x4, vI x5, d6] [] S M =
  bR (refOf S a1 0) fun b1 =>
  if x5 < M b1 1 then
      bndV (K m_Outlook_countLoads [vR 2 0 a0, vR 0 0 a1, vI x4, vI x5, vI x2, vI x3] S M) fun S2 M2 =>
      if M a0 4 < M2 a0 4 then
        Run K tb_Outlook_countWays 39 [vR 2 0 a0, vR 0 0 a1, vI x2, vI x3, vI x4, vI (w32 (x5 + 1)), vI (M a0 4)] [] S2 (up M2 a0 5 (and32 (M2 a0 5) (or32 (shl32 1 x4) (shl32 1 x5))))
      else
        Run K tb_Outlook_countWays 39 [vR 2 0 a0, vR 0 0 a1, vI x2, vI x3, vI x4, vI (w32 (x5 + 1)), vI (M a0 4)] [] S2 M2
    else
      Run K tb_Outlook_countWays 22 [vR 2 0 a0, vR 0 0 a1, vI x2, vI x3, vI (w32 (x4 + 1)), vI x5, d6] [] S M := (Run_EE K tb_Outlook_countWays [22, 39] 500 39 _ _ S M).trans rfl
set_option maxRecDepth 100000 in
theorem b_Outlook_countLoads_0 (K : Cal) (a0 : Nat) (a1 : Nat) (x2 : Int) (x3 : Int) (x4 : Int) (x5 : Int) (S : Sp) (M : Mm) : Run K tb_Outlook_countLoads 0 [vR 2 0 a0, vR 0 0 a1, vI x2, vI x3, vI x4, vI x5, vU, vU] [] S M =
  Run K tb_Outlook_countLoads 3 [vR 2 0 a0, vR 0 0 a1, vI x2, vI x3, vI x4, vI x5, vI 1, vU] [] S M := (Run_EE K tb_Outlook_countLoads [3, 13] 500 0 _ _ S M).trans rfl
set_option maxRecDepth 100000 in
theorem b_Outlook_countLoads_3 (K : Cal) (a0 : Nat) (a1 : Nat) (x2 : Int) (x3 : Int) (x4 : Int) (x5 : Int) (x6 : Int) (d7 : AV) (S : Sp) (M : Mm) : Run K tb_Outlook_countLoads 3 [vR 2 0 a0, vR 0 0 a1, vI x2, vI x3, vI x4, vI x5, vI x6, d7] [] S M =
  if x6 < x5 then
    Run K tb_Outlook_countLoads 13 [vR 2 0 a0, vR 0 0 a1, vI x2, vI x3, vI x4, vI x5, vI x6, vI 1] [] S M
  else
    some (none, S, M) := (Run_EE K tb_Outlook_countLoads [3, 13] 500 3 _ _ S M).trans rfl
set_option maxRecDepth 100000 in
theorem b_Outlook_countLoads_13 (K : Cal) (a0 : Nat) (a1 : Nat) (x2 : Int) (x3 : Int) (x4 : Int) (x5 : Int) (x6 : Int) (x7 : Int) (S : Sp) (M : Mm) : Run K tb_Outlook_countLoads 13 [vR 2 0 a0, vR 0 0 a1, vI x2, vI x3, vI x4, vI x5, vI x6, vI x7] [] S M =
  if x5 < w32 (x6 + x7) then
    Run K tb_Outlook_countLoads 3 [vR 2 0 a0, vR 0 0 a1, vI x2, vI x3, vI x4, vI x5, vI (w32 (x6 + 1)), vI x7] [] S M
  else
    bndI (K m_Outlook_fits [vR 2 0 a0, vR 0 0 a1, vI x2, vI x6, vI x3, vI x7, vI x4] S M) fun r1 S1 M1 =>
    if r1 = 0 then
      Run K tb_Outlook_countLoads 13 [vR 2 0 a0, vR 0 0 a1, vI x2, vI x3, vI x4, vI x5, vI x6, vI (w32 (x7 + 1))] [] S1 M1
    else
      Run K tb_Outlook_countLoads 13 [vR 2 0 a0, vR 0 0 a1, vI x2, vI x3, vI x4, vI x5, vI x6, vI (w32 (x7 + 1))] [] S1 (up M1 a0 4 (w32 ((M1 a0 4) + 1))) := (Run_EE K tb_Outlook_countLoads [3, 13] 500 13 _ _ S M).trans rfl
set_option maxRecDepth 100000 in
theorem b_Outlook_fits_0 (K : Cal) (a0 : Nat) (a1 : Nat) (x2 : Int) (x3 : Int) (x4 : Int) (x5 : Int) (x6 : Int) (S : Sp) (M : Mm) : Run K tb_Outlook_fits 0 [vR 2 0 a0, vR 0 0 a1, vI x2, vI x3, vI x4, vI x5, vI x6, vU, vU, vU] [] S M =
  Run K tb_Outlook_fits 10 [vR 2 0 a0, vR 0 0 a1, vI x2, vI x3, vI x4, vI x5, vI x6, vI x3, vI x5, vI 0] [] S M := (Run_EE K tb_Outlook_fits [10] 500 0 _ _ S M).trans rfl
set_option maxRecDepth 100000 in
theorem b_Outlook_fits_10 (K : Cal) (a0 : Nat) (a1 : Nat) (x2 : Int) (x3 : Int) (x4 : Int) (x5 : Int) (x6 : Int) (x7 : Int) (x8 : Int) (x9 : Int) (S : Sp) (M : Mm) : Run K tb_Outlook_fits 10 [vR 2 0 a0, vR 0 0 a1, vI x2, vI x3, vI x4, vI x5, vI x6, vI x7, vI x8, vI x9] [] S M =
  if x9 < x6 then
    bndI (K m_Outlook_flagOfTwo [vR 0 0 a1, vI x2, vI x7, vI x4, vI x8] S M) fun r1 S1 M1 =>
    bR (refOf S1 a0 3) fun b2 =>
    if 0 ≤ x9 ∧ x9 < 20 then
        if r1 = M1 b2 x9.toNat then
          bR (refOf S1 a1 8) fun b3 =>
          if 0 ≤ x2 ∧ x2 < 8 then
              bR (refOf S1 a1 8) fun b4 =>
              if 0 ≤ x4 ∧ x4 < 8 then
                  Run K tb_Outlook_fits 10 [vR 2 0 a0, vR 0 0 a1, vI x2, vI x3, vI x4, vI x5, vI x6, vI (max 0 (w32 (x7 - (M1 b3 x2.toNat)))), vI (max 0 (w32 (x8 - (M1 b4 x4.toNat)))), vI (w32 (x9 + 1))] [] S1 M1
                else none
            else none
        else
          some (some (vI 0), S1, M1)
      else none
  else
    some (some (vI 1), S, M) := (Run_EE K tb_Outlook_fits [10] 500 10 _ _ S M).trans rfl
set_option maxRecDepth 100000 in
theorem b_Outlook_flagOfTwo_0 (K : Cal) (a0 : Nat) (x1 : Int) (x2 : Int) (x3 : Int) (x4 : Int) (S : Sp) (M : Mm) : Run K tb_Outlook_flagOfTwo 0 [vR 0 0 a0, vI x1, vI x2, vI x3, vI x4, vU] [] S M =
  if x2 = 0 then
    if x4 = 0 then
      some (some (vI (-1)), S, M)
    else
      bR (refOf S a0 6) fun b1 =>
      if 0 ≤ x3 ∧ x3 < 8 then
          some (some (vI (M b1 x3.toNat)), S, M)
        else none
  else
    if x4 = 0 then
      bR (refOf S a0 6) fun b2 =>
      if 0 ≤ x1 ∧ x1 < 8 then
          some (some (vI (M b2 x1.toNat)), S, M)
        else none
    else
      bR (refOf S a0 6) fun b3 =>
      if 0 ≤ x1 ∧ x1 < 8 then
          bR (refOf S a0 6) fun b4 =>
          if 0 ≤ x3 ∧ x3 < 8 then
              if M b3 x1.toNat = M b4 x3.toNat then
                bR (refOf S a0 6) fun b5 =>
                if 0 ≤ x1 ∧ x1 < 8 then
                    some (some (vI (M b5 x1.toNat)), S, M)
                  else none
              else
                if M a0 12 = 0 then
                  if w32 (x2 - x4) = 0 then
                    some (some (vI (-1)), S, M)
                  else
                    if 0 < w32 (x2 - x4) then
                      bR (refOf S a0 6) fun b6 =>
                      if 0 ≤ x1 ∧ x1 < 8 then
                          some (some (vI (M b6 x1.toNat)), S, M)
                        else none
                    else
                      bR (refOf S a0 6) fun b7 =>
                      if 0 ≤ x3 ∧ x3 < 8 then
                          some (some (vI (M b7 x3.toNat)), S, M)
                        else none
                else
                  if M a0 12 = 1 then
                    some (some (vI (-1)), S, M)
                  else
                    bR (refOf S a0 7) fun b8 =>
                    if 0 ≤ x1 ∧ x1 < 8 then
                        bR (refOf S a0 7) fun b9 =>
                        if 0 ≤ x3 ∧ x3 < 8 then
                            if w32 ((w32 (x2 * (M b8 x1.toNat))) - (w32 (x4 * (M b9 x3.toNat)))) = 0 then
                              some (some (vI (-1)), S, M)
                            else
                              if 0 < w32 ((w32 (x2 * (M b8 x1.toNat))) - (w32 (x4 * (M b9 x3.toNat)))) then
                                bR (refOf S a0 6) fun b10 =>
                                if 0 ≤ x1 ∧ x1 < 8 then
                                    some (some (vI (M b10 x1.toNat)), S, M)
                                  else none
                              else
                                bR (refOf S a0 6) fun b11 =>
                                if 0 ≤ x3 ∧ x3 < 8 then
                                    some (some (vI (M b11 x3.toNat)), S, M)
                                  else none
                          else none
                      else none
            else none
        else none := (Run_EE K tb_Outlook_flagOfTwo [] 500 0 _ _ S M).trans rfl
set_option maxRecDepth 100000 in
theorem b_Ca_sure_0 (K : Cal) (a0 : Nat) (x1 : Int) (x2 : Int) (x3 : Int) (S : Sp) (M : Mm) : Run K tb_Ca_sure 0 [vR 11 0 a0, vI x1, vI x2, vI x3] [] S M =
  bndI (K m_Ca_seekLog [vR 11 0 a0, vI x1, vI x2, vI x3] S M) fun r1 S1 M1 =>
  if r1 = 0 then
    some (some (vI (-1)), S1, M1)
  else
    bR (refOf S1 a0 7) fun b2 =>
    if M1 b2 4 = 0 then
        bndI (K m_Ca_refuse [vR 11 0 a0, vI 6] S1 M1) fun r3 S3 M3 =>
        some (some (vI r3), S3, M3)
      else
        bR (refOf S1 a0 7) fun b4 =>
        bndI (K m_Ca_answer [vR 11 0 a0, vI (M1 b4 5)] S1 M1) fun r5 S5 M5 =>
          some (some (vI r5), S5, M5) := (Run_EE K tb_Ca_sure [] 500 0 _ _ S M).trans rfl
set_option maxRecDepth 100000 in
theorem b_Ca_copyLog_0 (K : Cal) (a0 : Nat) (x1 : Int) (x2 : Int) (x3 : Int) (S : Sp) (M : Mm) : Run K tb_Ca_copyLog 0 [vR 11 0 a0, vI x1, vI x2, vI x3, vU, vU] [] S M =
  bndI (K m_Ca_isShip [vR 11 0 a0, vI x1] S M) fun r1 S1 M1 =>
  if r1 = 0 then
    bndI (K m_Ca_refuse [vR 11 0 a0, vI 1] S1 M1) fun r2 S2 M2 =>
    some (some (vI r2), S2, M2)
  else
    bndI (K m_Trays_isTray [vI x2] S1 M1) fun r3 S3 M3 =>
    if r3 = 0 then
      bndI (K m_Ca_refuse [vR 11 0 a0, vI 1] S3 M3) fun r4 S4 M4 =>
      some (some (vI r4), S4, M4)
    else
      bndI (K m_Ca_within [vI x3, vI 1, vI 20] S3 M3) fun r5 S5 M5 =>
      if r5 = 0 then
        bndI (K m_Ca_refuse [vR 11 0 a0, vI 1] S5 M5) fun r6 S6 M6 =>
        some (some (vI r6), S6, M6)
      else
        bR (refOf S5 a0 0) fun b7 =>
        bndI (K m_Trays_troubleFirst [vR 7 0 b7, vI x2, vI x3] S5 M5) fun r8 S8 M8 =>
          if r8 = 0 then
            Run K tb_Ca_copyLog 57 [vR 11 0 a0, vI x1, vI x2, vI x3, vI r8, vI 0] [] S8 M8
          else
            bndI (K m_Ca_refuse [vR 11 0 a0, vI r8] S8 M8) fun r9 S9 M9 =>
            some (some (vI r9), S9, M9) := (Run_EE K tb_Ca_copyLog [57] 500 0 _ _ S M).trans rfl
set_option maxRecDepth 100000 in
theorem b_Ca_copyLog_57 (K : Cal) (a0 : Nat) (x1 : Int) (x2 : Int) (x3 : Int) (x4 : Int) (x5 : Int) (S : Sp) (M : Mm) : Run K tb_Ca_copyLog 57 [vR 11 0 a0, vI x1, vI x2, vI x3, vI x4, vI x5] [] S M =
  if x5 < x3 then
    bR (refOf S a0 0) fun b1 =>
    bR (refOf S a0 7) fun b2 =>
      bR (refOf S a0 4) fun b3 =>
        bR (refOf S b3 0) fun b4 =>
          bR (refOf S a0 4) fun b5 =>
            bR (refOf S b5 1) fun b6 =>
              if 0 ≤ x1 ∧ x1 < 4 then
                  bR (refOf S b6 x1.toNat) fun b7 =>
                  bndI (K m_Outlook_flagAfter [vR 2 0 b2, vR 0 0 b4, vR 8 0 b7, vI x5] S M) fun r8 S8 M8 =>
                    bndV (K m_Trays_put [vR 7 0 b1, vI x2, vI x5, vL r8] S8 M8) fun S9 M9 =>
                    Run K tb_Ca_copyLog 57 [vR 11 0 a0, vI x1, vI x2, vI x3, vI x4, vI (w32 (x5 + 1))] [] S9 M9
                else none
  else
    bndI (K m_Ca_answer [vR 11 0 a0, vI x3] S M) fun r10 S10 M10 =>
    some (some (vI r10), S10, M10) := (Run_EE K tb_Ca_copyLog [57] 500 57 _ _ S M).trans rfl
set_option maxRecDepth 100000 in
theorem b_Ca_live_0 (K : Cal) (a0 : Nat) (x1 : Int) (S : Sp) (M : Mm) : Run K tb_Ca_live 0 [vR 11 0 a0, vI x1, vU] [] S M =
  bndI (K m_Ca_within [vI x1, vI 0, vI 9999] S M) fun r1 S1 M1 =>
  if r1 = 0 then
    bndI (K m_Ca_refuse [vR 11 0 a0, vI 1] S1 M1) fun r2 S2 M2 =>
    some (some (vI r2), S2, M2)
  else
    bR (refOf S1 a0 4) fun b3 =>
    bR (refOf S1 b3 2) fun b4 =>
      if M1 b4 7 = 0 then
          bndI (K m_Ca_refuse [vR 11 0 a0, vI 6] S1 M1) fun r5 S5 M5 =>
          some (some (vI r5), S5, M5)
        else
          bR (refOf S1 a0 9) fun b6 =>
          bR (refOf S1 a0 4) fun b7 =>
            bndI (K m_Life_runs [vR 1 0 b6, vR 5 0 b7, vI x1] S1 M1) fun r8 S8 M8 =>
              bR (refOf S8 a0 9) fun b9 =>
              bR (refOf S8 b9 0) fun b10 =>
                bR (refOf S8 a0 10) fun b11 =>
                  bndI (K m_Ca_answer [vR 11 0 a0, vI r8] S8 (up (cpy M8 b10 0 b11 0 5) a0 11 1)) fun r12 S12 M12 =>
                    some (some (vI r12), S12, M12) := (Run_EE K tb_Ca_live [] 500 0 _ _ S M).trans rfl
set_option maxRecDepth 100000 in
theorem b_Life_runs_0 (K : Cal) (a0 : Nat) (a1 : Nat) (x2 : Int) (S : Sp) (M : Mm) : Run K tb_Life_runs 0 [vR 1 0 a0, vR 5 0 a1, vI x2, vU, vU, vU] [] S M =
  bR (refOf S a0 0) fun b1 =>
  bndV (K m_Arrays_fill0 [vR 20 5 b1, vI 0] S M) fun S2 M2 =>
    Run K tb_Life_runs 23 [vR 1 0 a0, vR 5 0 a1, vI x2, vI 0, vI 0, vU] [] S2 (up (up M2 a0 2 x2) a0 3 0) := (Run_EE K tb_Life_runs [23] 500 0 _ _ S M).trans rfl
set_option maxRecDepth 100000 in
theorem b_Life_runs_23 (K : Cal) (a0 : Nat) (a1 : Nat) (x2 : Int) (x3 : Int) (x4 : Int) (d5 : AV) (S : Sp) (M : Mm) : Run K tb_Life_runs 23 [vR 1 0 a0, vR 5 0 a1, vI x2, vI x3, vI x4, d5] [] S M =
  if x4 < 1000000 then
    bR (refOf S a1 2) fun b1 =>
    if M a0 3 < M b1 5 then
        bR (refOf S a1 2) fun b2 =>
        bR (refOf S b2 0) fun b3 =>
          if 0 ≤ M a0 3 ∧ M a0 3 < 60 then
              if M b3 (M a0 3).toNat = 13 then
                bR (refOf S a1 2) fun b4 =>
                bndV (K m_Life_passEnd [vR 1 0 a0, vR 3 0 b4] S M) fun S5 M5 =>
                  Run K tb_Life_runs 23 [vR 1 0 a0, vR 5 0 a1, vI x2, vI x3, vI (w32 (x4 + 1)), vI (M b3 (M a0 3).toNat)] [] S5 M5
              else
                if x3 = 300 then
                  bR (refOf S a0 0) fun b6 =>
                  some (some (vI x3), S, up M b6 4 1)
                else
                  if M b3 (M a0 3).toNat < 6 then
                    bR (refOf S a0 0) fun b7 =>
                    bndI (K m_Life_does [vR 1 0 a0, vR 5 0 a1, vI (M b3 (M a0 3).toNat)] S M) fun r8 S8 M8 =>
                      if r8 = 0 then
                        Run K tb_Life_runs 23 [vR 1 0 a0, vR 5 0 a1, vI x2, vI (w32 (x3 + 1)), vI (w32 (x4 + 1)), vI (M b3 (M a0 3).toNat)] [] S8 (up (up M8 b7 0 (w32 ((M b7 0) + 1))) a0 3 (w32 (((up M8 b7 0 (w32 ((M b7 0) + 1))) a0 3) + 1)))
                      else
                        Run K tb_Life_runs 23 [vR 1 0 a0, vR 5 0 a1, vI x2, vI (w32 (x3 + 1)), vI (w32 (x4 + 1)), vI (M b3 (M a0 3).toNat)] [] S8 (up (up M8 b7 0 (w32 ((M b7 0) + 0))) a0 3 (w32 (((up M8 b7 0 (w32 ((M b7 0) + 0))) a0 3) + 1)))
                  else
                    bndV (K m_Life_turn [vR 1 0 a0, vR 5 0 a1, vI (M b3 (M a0 3).toNat)] S M) fun S9 M9 =>
                    Run K tb_Life_runs 23 [vR 1 0 a0, vR 5 0 a1, vI x2, vI (w32 (x3 + 1)), vI (w32 (x4 + 1)), vI (M b3 (M a0 3).toNat)] [] S9 M9
            else none
      else
        some (some (vI x3), S, M)
  else
    some (some (vI x3), S, M) := (Run_EE K tb_Life_runs [23] 500 23 _ _ S M).trans rfl
set_option maxRecDepth 100000 in
theorem b_Life_passEnd_0 (K : Cal) (a0 : Nat) (a1 : Nat) (S : Sp) (M : Mm) : Run K tb_Life_passEnd 0 [vR 1 0 a0, vR 3 0 a1, vU] [] S M =
  bR (refOf S a1 4) fun b1 =>
  if 0 ≤ M a0 3 ∧ M a0 3 < 60 then
      bR (refOf S a1 0) fun b2 =>
      if 0 ≤ M b1 (M a0 3).toNat ∧ M b1 (M a0 3).toNat < 60 then
          if M b2 (M b1 (M a0 3).toNat).toNat = 11 then
            bR (refOf S a0 1) fun b3 =>
            if 0 ≤ M b1 (M a0 3).toNat ∧ M b1 (M a0 3).toNat < 60 then
                if 1 < M b3 (M b1 (M a0 3).toNat).toNat then
                  bR (refOf S a0 1) fun b4 =>
                  if 0 ≤ M b1 (M a0 3).toNat ∧ M b1 (M a0 3).toNat < 60 then
                      if 0 ≤ M b1 (M a0 3).toNat ∧ M b1 (M a0 3).toNat < 60 then
                        some (none, S, up (up M b4 (M b1 (M a0 3).toNat).toNat (w32 ((M b4 (M b1 (M a0 3).toNat).toNat) - 1))) a0 3 (w32 ((M b1 (M a0 3).toNat) + 1)))
                      else none
                    else none
                else
                  some (none, S, up M a0 3 (w32 ((M a0 3) + 1)))
              else none
          else
            some (none, S, up M a0 3 (w32 ((M a0 3) + 1)))
        else none
    else none := (Run_EE K tb_Life_passEnd [] 500 0 _ _ S M).trans rfl
set_option maxRecDepth 100000 in
theorem b_Life_turn_0 (K : Cal) (a0 : Nat) (a1 : Nat) (x2 : Int) (S : Sp) (M : Mm) : Run K tb_Life_turn 0 [vR 1 0 a0, vR 5 0 a1, vI x2] [] S M =
  if x2 = 11 then
    bR (refOf S a0 1) fun b1 =>
    bR (refOf S a1 2) fun b2 =>
      bR (refOf S b2 3) fun b3 =>
        if 0 ≤ M a0 3 ∧ M a0 3 < 60 then
            if 0 ≤ M a0 3 ∧ M a0 3 < 60 then
              some (none, S, up (up M b1 (M a0 3).toNat (M b3 (M a0 3).toNat)) a0 3 (w32 (((up M b1 (M a0 3).toNat (M b3 (M a0 3).toNat)) a0 3) + 1)))
            else none
          else none
  else
    if x2 = 12 then
      bR (refOf S a1 2) fun b4 =>
      some (none, S, up M a0 3 (M b4 5))
    else
      bndI (K m_Life_holds [vR 1 0 a0, vR 5 0 a1, vI x2] S M) fun r5 S5 M5 =>
      if r5 = 0 then
        bR (refOf S5 a1 2) fun b6 =>
        bR (refOf S5 b6 4) fun b7 =>
          if 0 ≤ M5 a0 3 ∧ M5 a0 3 < 60 then
              some (none, S5, up M5 a0 3 (w32 ((M5 b7 (M5 a0 3).toNat) + 1)))
            else none
      else
        some (none, S5, up M5 a0 3 (w32 ((M5 a0 3) + 1))) := (Run_EE K tb_Life_turn [] 500 0 _ _ S M).trans rfl
set_option maxRecDepth 100000 in
theorem b_Life_holds_0 (K : Cal) (a0 : Nat) (a1 : Nat) (x2 : Int) (S : Sp) (M : Mm) : Run K tb_Life_holds 0 [vR 1 0 a0, vR 5 0 a1, vI x2, vU, vU, vU] [] S M =
  bR (refOf S a1 1) fun b1 =>
  bR (refOf S a1 2) fun b2 =>
    bR (refOf S b2 1) fun b3 =>
      if 0 ≤ M a0 3 ∧ M a0 3 < 60 then
          if 0 ≤ M b3 (M a0 3).toNat ∧ M b3 (M a0 3).toNat < 4 then
            bR (refOf S b1 (M b3 (M a0 3).toNat).toNat) fun b4 =>
            bR (refOf S a1 2) fun b5 =>
              bR (refOf S b5 2) fun b6 =>
                if 0 ≤ M a0 3 ∧ M a0 3 < 60 then
                    bR (refOf S a1 2) fun b7 =>
                    bR (refOf S b7 3) fun b8 =>
                      if 0 ≤ M a0 3 ∧ M a0 3 < 60 then
                          if x2 = 6 then
                            bR (refOf S a1 0) fun b9 =>
                            bR (refOf S b4 7) fun b10 =>
                              bR (refOf S a1 0) fun b11 =>
                                bndI (K m_Chart_ruler [vR 0 0 b9, vR 20 8 b10, vI (M b11 12)] S M) fun r12 S12 M12 =>
                                  if r12 = M b6 (M a0 3).toNat then
                                    some (some (vI 1), S12, M12)
                                  else
                                    some (some (vI 0), S12, M12)
                          else if x2 = 7 then
                            if M b4 0 = M b6 (M a0 3).toNat then
                              some (some (vI 1), S, M)
                            else
                              some (some (vI 0), S, M)
                          else if x2 = 8 then
                            if M b4 4 < M b8 (M a0 3).toNat then
                              some (some (vI 1), S, M)
                            else
                              some (some (vI 0), S, M)
                          else if x2 = 9 then
                            if M b8 (M a0 3).toNat < M b4 4 then
                              some (some (vI 1), S, M)
                            else
                              some (some (vI 0), S, M)
                          else if M b4 4 = M b8 (M a0 3).toNat then
                              some (some (vI 1), S, M)
                            else
                              some (some (vI 0), S, M)
                        else none
                  else none
          else none
        else none := (Run_EE K tb_Life_holds [] 500 0 _ _ S M).trans rfl
set_option maxRecDepth 100000 in
theorem b_Life_does_0 (K : Cal) (a0 : Nat) (a1 : Nat) (x2 : Int) (S : Sp) (M : Mm) : Run K tb_Life_does 0 [vR 1 0 a0, vR 5 0 a1, vI x2, vU, vU, vU] [] S M =
  bR (refOf S a1 1) fun b1 =>
  bR (refOf S a1 2) fun b2 =>
    bR (refOf S b2 1) fun b3 =>
      if 0 ≤ M a0 3 ∧ M a0 3 < 60 then
          if 0 ≤ M b3 (M a0 3).toNat ∧ M b3 (M a0 3).toNat < 4 then
            bR (refOf S b1 (M b3 (M a0 3).toNat).toNat) fun b4 =>
            bR (refOf S a1 2) fun b5 =>
              bR (refOf S b5 2) fun b6 =>
                if 0 ≤ M a0 3 ∧ M a0 3 < 60 then
                    bR (refOf S a1 2) fun b7 =>
                    bR (refOf S b7 3) fun b8 =>
                      if 0 ≤ M a0 3 ∧ M a0 3 < 60 then
                          if x2 = 0 then
                            bndI (K m_Life_passesDays [vR 1 0 a0, vR 5 0 a1, vI (M b8 (M a0 3).toNat)] S M) fun r9 S9 M9 =>
                            some (some (vI (r9 % 2)), S9, M9)
                          else if x2 = 1 then
                            bR (refOf S a1 0) fun b10 =>
                            bndI (K m_Life_buysTons [vR 1 0 a0, vR 0 0 b10, vR 8 0 b4, vI (M b6 (M a0 3).toNat), vI (M b8 (M a0 3).toNat)] S M) fun r11 S11 M11 =>
                              some (some (vI (r11 % 2)), S11, M11)
                          else if x2 = 2 then
                            bR (refOf S a1 0) fun b12 =>
                            bndI (K m_Vessel_sells [vR 8 0 b4, vR 0 0 b12, vI (M b6 (M a0 3).toNat), vI (M b8 (M a0 3).toNat)] S M) fun r13 S13 M13 =>
                              some (some (vI (r13 % 2)), S13, M13)
                          else if x2 = 3 then
                            bndI (K m_Vessel_dumps [vR 8 0 b4, vI (M b6 (M a0 3).toNat), vI (M b8 (M a0 3).toNat)] S M) fun r14 S14 M14 =>
                            some (some (vI (r14 % 2)), S14, M14)
                          else if x2 = 4 then
                            bR (refOf S a1 0) fun b15 =>
                            bndI (K m_Vessel_sails [vR 8 0 b4, vR 0 0 b15, vI (M b6 (M a0 3).toNat)] S M) fun r16 S16 M16 =>
                              some (some (vI (r16 % 2)), S16, M16)
                          else bR (refOf S a1 0) fun b17 =>
                            bR (refOf S a1 0) fun b18 =>
                              bR (refOf S b18 0) fun b19 =>
                                bndI (K m_Life_draw [vR 1 0 a0, vI (M b19 2)] S M) fun r20 S20 M20 =>
                                  bndI (K m_Vessel_sails [vR 8 0 b4, vR 0 0 b17, vI r20] S20 M20) fun r21 S21 M21 =>
                                  some (some (vI (r21 % 2)), S21, M21)
                        else none
                  else none
          else none
        else none := (Run_EE K tb_Life_does [] 500 0 _ _ S M).trans rfl
set_option maxRecDepth 100000 in
theorem b_Life_passesDays_0 (K : Cal) (a0 : Nat) (a1 : Nat) (x2 : Int) (S : Sp) (M : Mm) : Run K tb_Life_passesDays 0 [vR 1 0 a0, vR 5 0 a1, vI x2, vU] [] S M =
  if 9999 < w32 ((M a1 3) + x2) then
    some (some (vI 0), S, M)
  else
    Run K tb_Life_passesDays 16 [vR 1 0 a0, vR 5 0 a1, vI x2, vI 0] [] S M := (Run_EE K tb_Life_passesDays [16] 500 0 _ _ S M).trans rfl
set_option maxRecDepth 100000 in
theorem b_Life_passesDays_16 (K : Cal) (a0 : Nat) (a1 : Nat) (x2 : Int) (x3 : Int) (S : Sp) (M : Mm) : Run K tb_Life_passesDays 16 [vR 1 0 a0, vR 5 0 a1, vI x2, vI x3] [] S M =
  if x3 < x2 then
    bR (refOf S a0 0) fun b1 =>
    bndI (K m_State_passDay [vR 5 0 a1] S M) fun r2 S2 M2 =>
      bndI (K m_Integer_bitCount [vI r2] S2 M2) fun r3 S3 M3 =>
      Run K tb_Life_passesDays 16 [vR 1 0 a0, vR 5 0 a1, vI x2, vI (w32 (x3 + 1))] [] S3 (up M3 b1 3 (w32 ((M b1 3) + r3)))
  else
    bR (refOf S a0 0) fun b4 =>
    some (some (vI 1), S, up M b4 1 (w32 ((M b4 1) + x2))) := (Run_EE K tb_Life_passesDays [16] 500 16 _ _ S M).trans rfl
set_option maxRecDepth 100000 in
theorem b_Life_buysTons_0 (K : Cal) (a0 : Nat) (a1 : Nat) (a2 : Nat) (x3 : Int) (x4 : Int) (S : Sp) (M : Mm) : Run K tb_Life_buysTons 0 [vR 1 0 a0, vR 0 0 a1, vR 8 0 a2, vI x3, vI x4] [] S M =
  bndI (K m_Vessel_buys [vR 8 0 a2, vR 0 0 a1, vI x3, vI x4] S M) fun r1 S1 M1 =>
  if r1 = 0 then
    some (some (vI 0), S1, M1)
  else
    bR (refOf S1 a0 0) fun b2 =>
    some (some (vI 1), S1, up M1 b2 2 (w32 ((M1 b2 2) + x4))) := (Run_EE K tb_Life_buysTons [] 500 0 _ _ S M).trans rfl
set_option maxRecDepth 100000 in
theorem b_Life_draw_0 (K : Cal) (a0 : Nat) (x1 : Int) (S : Sp) (M : Mm) : Run K tb_Life_draw 0 [vR 1 0 a0, vI x1] [] S M =
  if 0 < x1 then
    if x1 = 0 then none else
      some (some (vI (Int.tmod (w32 (Int.tdiv ((up M a0 2 (Int.tmod (w32 ((w32 ((M a0 2) * 3023)) + 11251)) 65536)) a0 2) 8)) x1)), S, up M a0 2 (Int.tmod (w32 ((w32 ((M a0 2) * 3023)) + 11251)) 65536))
  else
    some (some (vI 0), S, up M a0 2 (Int.tmod (w32 ((w32 ((M a0 2) * 3023)) + 11251)) 65536)) := (Run_EE K tb_Life_draw [] 500 0 _ _ S M).trans rfl
set_option maxRecDepth 100000 in
theorem b_Ca_lived_0 (K : Cal) (a0 : Nat) (x1 : Int) (S : Sp) (M : Mm) : Run K tb_Ca_lived 0 [vR 11 0 a0, vI x1] [] S M =
  bndI (K m_Ca_within [vI x1, vI 0, vI 4] S M) fun r1 S1 M1 =>
  if r1 = 0 then
    bndI (K m_Ca_refuse [vR 11 0 a0, vI 1] S1 M1) fun r2 S2 M2 =>
    some (some (vI r2), S2, M2)
  else
    if M1 a0 11 = 0 then
      bndI (K m_Ca_refuse [vR 11 0 a0, vI 6] S1 M1) fun r3 S3 M3 =>
      some (some (vI r3), S3, M3)
    else
      bR (refOf S1 a0 10) fun b4 =>
      if 0 ≤ x1 ∧ x1 < 5 then
          bndI (K m_Ca_answer [vR 11 0 a0, vI (M1 b4 x1.toNat)] S1 M1) fun r5 S5 M5 =>
          some (some (vI r5), S5, M5)
        else none := (Run_EE K tb_Ca_lived [] 500 0 _ _ S M).trans rfl
set_option maxRecDepth 100000 in
theorem b_Ca_mean_0 (K : Cal) (a0 : Nat) (x1 : Int) (x2 : Int) (S : Sp) (M : Mm) : Run K tb_Ca_mean 0 [vR 11 0 a0, vI x1, vI x2, vU, vU, vU] [] S M =
  bndI (K m_Ca_within [vI x1, vI 0, vI 9999] S M) fun r1 S1 M1 =>
  if r1 = 0 then
    bndI (K m_Ca_deny [vR 11 0 a0, vI 1] S1 M1) fun r2 S2 M2 =>
    some (some (vI (r2 % 2)), S2, M2)
  else
    bndI (K m_Ca_within [vI x2, vI 1, vI 20] S1 M1) fun r3 S3 M3 =>
    if r3 = 0 then
      bndI (K m_Ca_deny [vR 11 0 a0, vI 1] S3 M3) fun r4 S4 M4 =>
      some (some (vI (r4 % 2)), S4, M4)
    else
      if 9999 < w32 ((w32 (x1 + x2)) - 1) then
        bndI (K m_Ca_deny [vR 11 0 a0, vI 1] S3 M3) fun r5 S5 M5 =>
        some (some (vI (r5 % 2)), S5, M5)
      else
        bR (refOf S3 a0 4) fun b6 =>
        bR (refOf S3 b6 2) fun b7 =>
          if M3 b7 7 = 0 then
              bndI (K m_Ca_deny [vR 11 0 a0, vI 6] S3 M3) fun r8 S8 M8 =>
              some (some (vI (r8 % 2)), S8, M8)
            else
              bR (refOf S3 a0 5) fun b9 =>
              bR (refOf S3 a0 4) fun b10 =>
                bndV (K m_State_copyFrom [vR 5 0 b9, vR 5 0 b10] S3 M3) fun S11 M11 =>
                  Run K tb_Ca_mean 74 [vR 11 0 a0, vI x1, vI x2, vL 0, vU, vI 0] [] S11 M11 := (Run_EE K tb_Ca_mean [74] 500 0 _ _ S M).trans rfl
set_option maxRecDepth 100000 in
theorem b_Ca_mean_74 (K : Cal) (a0 : Nat) (x1 : Int) (x2 : Int) (x3 : Int) (d4 : AV) (x5 : Int) (S : Sp) (M : Mm) : Run K tb_Ca_mean 74 [vR 11 0 a0, vI x1, vI x2, vL x3, d4, vI x5] [] S M =
  if x5 < x2 then
    bR (refOf S a0 9) fun b1 =>
    bR (refOf S a0 4) fun b2 =>
      bndI (K m_Life_runs [vR 1 0 b1, vR 5 0 b2, vI (w32 (x1 + x5))] S M) fun r3 S3 M3 =>
        bR (refOf S3 a0 4) fun b4 =>
        bndI (K m_State_allCoins [vR 5 0 b4] S3 M3) fun r5 S5 M5 =>
          bR (refOf S5 a0 4) fun b6 =>
          bR (refOf S5 a0 5) fun b7 =>
            bndV (K m_State_copyFleet [vR 5 0 b6, vR 5 0 b7] S5 M5) fun S8 M8 =>
              Run K tb_Ca_mean 74 [vR 11 0 a0, vI x1, vI x2, vL (w64 (x3 + r5)), vU, vI (w32 (x5 + 1))] [] S8 M8
  else
    bndV (K m_Ca_tellFraction [vR 11 0 a0, vL x3, vL x2] S M) fun S9 M9 =>
    bndI (K m_Ca_agree [vR 11 0 a0] S9 M9) fun r10 S10 M10 =>
    some (some (vI (r10 % 2)), S10, M10) := (Run_EE K tb_Ca_mean [74] 500 74 _ _ S M).trans rfl
set_option maxRecDepth 100000 in
theorem b_Ca_mark_0 (K : Cal) (a0 : Nat) (S : Sp) (M : Mm) : Run K tb_Ca_mark 0 [vR 11 0 a0] [] S M =
  bndI (K m_Ca_within [vI (M a0 12), vI 0, vI 2] S M) fun r1 S1 M1 =>
  if r1 = 0 then
    bndI (K m_Ca_refuse [vR 11 0 a0, vI 4] S1 M1) fun r2 S2 M2 =>
    some (some (vI r2), S2, M2)
  else
    bR (refOf S1 a0 6) fun b3 =>
    if 0 ≤ M1 a0 12 ∧ M1 a0 12 < 3 then
        bR (refOf S1 b3 (M1 a0 12).toNat) fun b4 =>
        bR (refOf S1 a0 4) fun b5 =>
          bndV (K m_State_copyFrom [vR 5 0 b4, vR 5 0 b5] S1 M1) fun S6 M6 =>
            bndI (K m_Ca_answer [vR 11 0 a0, vI ((up M6 a0 12 (w32 ((M6 a0 12) + 1))) a0 12)] S6 (up M6 a0 12 (w32 ((M6 a0 12) + 1)))) fun r7 S7 M7 =>
            some (some (vI r7), S7, M7)
      else none := (Run_EE K tb_Ca_mark [] 500 0 _ _ S M).trans rfl
set_option maxRecDepth 100000 in
theorem b_Ca_undo_0 (K : Cal) (a0 : Nat) (S : Sp) (M : Mm) : Run K tb_Ca_undo 0 [vR 11 0 a0] [] S M =
  bndI (K m_Ca_within [vI (M a0 12), vI 1, vI 3] S M) fun r1 S1 M1 =>
  if r1 = 0 then
    bndI (K m_Ca_refuse [vR 11 0 a0, vI 6] S1 M1) fun r2 S2 M2 =>
    some (some (vI r2), S2, M2)
  else
    bR (refOf S1 a0 4) fun b3 =>
    bR (refOf S1 a0 6) fun b4 =>
      if 0 ≤ (up M1 a0 12 (w32 ((M1 a0 12) - 1))) a0 12 ∧ (up M1 a0 12 (w32 ((M1 a0 12) - 1))) a0 12 < 3 then
          bR (refOf S1 b4 ((up M1 a0 12 (w32 ((M1 a0 12) - 1))) a0 12).toNat) fun b5 =>
          bndV (K m_State_copyFrom [vR 5 0 b3, vR 5 0 b5] S1 (up M1 a0 12 (w32 ((M1 a0 12) - 1)))) fun S6 M6 =>
            bndI (K m_Ca_answer [vR 11 0 a0, vI (M6 a0 12)] S6 M6) fun r7 S7 M7 =>
            some (some (vI r7), S7, M7)
        else none := (Run_EE K tb_Ca_undo [] 500 0 _ _ S M).trans rfl
